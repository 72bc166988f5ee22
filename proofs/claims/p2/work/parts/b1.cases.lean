/-! ===== the cases of the law ===== -/
theorem ll_jn (z : Int32) : j_n z ≤ 60 := by
  unfold j_n
  split <;> omega
set_option maxRecDepth 100000 in
theorem ll_k1 {u : Nat → Nat} {l : Nat} {kn : List (Nat × Int32)} {N : Nat} (hN : N < 512) {zi : Int32} {x : Nat → Int32} (ha : ll_a l kn zi x) {o5 o6 : Option Value} {h : am_H} {k q : Nat} (hI : ll_I u N h k q) {Q : am_R → Prop} (hn : ∀ o5 o6 h k q, ll_I u (N + 1) h k q → ll_R (ll_x l kn) (811, ll_lo u zi o5 o6, [], h, k, q) Q) : ll_R (ll_x l kn) (204, ll_lo u zi o5 o6, [], h, k, q) Q := by
  obtain ⟨hii, τ, mc, T, hmc, hU, hut, hT, hJ, hk, hq⟩ := hI
  refine ll_st ll_i204 (S' := (205, ll_lo u zi (o5) (o6), [.ref (u 1)], h, k, q)) rfl ?_
  refine ll_arg (c := 1) (zi := zi) (x := x 1) rfl rfl ll_i205 ll_i206 ll_i208 ll_i209 ll_i210 (ha 1 (by decide)).1 (ha 1 (by decide)).2 ?_
  refine ll_arg (c := 2) (zi := zi) (x := x 2) rfl rfl ll_i211 ll_i212 ll_i214 ll_i215 ll_i216 (ha 2 (by decide)).1 (ha 2 (by decide)).2 ?_
  refine ll_ca ll_i217 (j := 138) (as := [.ref (u 1), .int (x 1), .int (x 2)]) (pc' := 217) (lo' := ll_lo u zi (o5) (o6)) (st' := []) (h' := h) (k1 := k) (q1 := q) rfl (mj := am_m138) rfl ⟨by decide, by decide, Nat.le_of_ble_eq_true rfl⟩ ?_
  refine Rn_mono (ii_c (j := 138) rfl rfl (j_apic (xs := [.ref (u 1), .int (x 1), .int (x 2)]) hmc hU hut (j_k138 mc hmc) rfl hJ ⟨Or.inr (ll_g1 hut), ⟨Or.inr (ll_gt), ⟨Or.inr (ll_gt), trivial⟩⟩⟩)) (fun r hr => ?_)
  obtain ⟨hr, hf1⟩ := hr
  obtain ⟨v1, h1, k1, q1, rfl, hv, hJ1, hk1, hq1, -⟩ := hr
  rcases hv with ⟨e, -⟩ | ⟨-, z1, rfl⟩
  · cases e
  · refine ⟨some (.int z1), h1, k1, q1, rfl, ?_⟩
    show ll_R (ll_x l kn) (220, ll_lo u zi (o5) (o6), [.int z1], h1, k + k1, q + q1) Q
    refine ll_st ll_i220 (S' := (222, ll_lo u zi (some (.int z1)) (o6), [], h1, k + k1, q + q1)) rfl ?_
    refine ll_st ll_i222 (S' := (223, ll_lo u zi (some (.int z1)) (o6), [.ref (u 40)], h1, k + k1, q + q1)) rfl ?_
    refine ll_arg (c := 1) (zi := zi) (x := x 1) rfl rfl ll_i223 ll_i224 ll_i226 ll_i227 ll_i228 (ha 1 (by decide)).1 (ha 1 (by decide)).2 ?_
    refine ll_arg (c := 2) (zi := zi) (x := x 2) rfl rfl ll_i229 ll_i230 ll_i232 ll_i233 ll_i234 (ha 2 (by decide)).1 (ha 2 (by decide)).2 ?_
    obtain ⟨vs2, hv2⟩ := ll_c40 hut hJ1
    refine ll_iv (as := [.int (x 1), .int (x 2)]) (r := []) ll_i235 (j := 110) (b := 2) (d := 9) (by decide +kernel) hv2 rfl rfl rfl (Nat.le_of_ble_eq_true rfl) (mj := am_m110) rfl ⟨by decide, by decide, Nat.le_of_ble_eq_true rfl⟩ ?_
    refine Rn_mono (ii_c (j := 110) rfl rfl (jm_move hmc hU hut hJ1 (x 1) (x 2))) (fun r hr => ?_)
    obtain ⟨hr, hf2⟩ := hr
    obtain ⟨h2, rfl, hJ2, -⟩ := hr
    refine ⟨none, h2, 0, 0, rfl, ?_⟩
    show ll_R (ll_x l kn) (238, ll_lo u zi (some (.int z1)) (o6), [], h2, k + k1 + 0, q + q1 + 0) Q
    refine ll_st ll_i238 (S' := (811, ll_lo u zi (some (.int z1)) (o6), [], h2, k + k1 + 0, q + q1 + 0)) rfl ?_
    exact hn _ _ _ _ _ ⟨(ii_k hut hJ (fz_trans hf1 hf2) hii), τ, mc, T, hmc, hU, hut, ⟨hT.1, by omega⟩, hJ2, by omega, by omega⟩
set_option maxRecDepth 100000 in
theorem ll_k2 {u : Nat → Nat} {l : Nat} {kn : List (Nat × Int32)} {N : Nat} (hN : N < 512) {zi : Int32} {x : Nat → Int32} (ha : ll_a l kn zi x) {o5 o6 : Option Value} {h : am_H} {k q : Nat} (hI : ll_I u N h k q) {Q : am_R → Prop} (hn : ∀ o5 o6 h k q, ll_I u (N + 1) h k q → ll_R (ll_x l kn) (811, ll_lo u zi o5 o6, [], h, k, q) Q) : ll_R (ll_x l kn) (241, ll_lo u zi o5 o6, [], h, k, q) Q := by
  obtain ⟨hii, τ, mc, T, hmc, hU, hut, hT, hJ, hk, hq⟩ := hI
  refine ll_st ll_i241 (S' := (242, ll_lo u zi (o5) (o6), [.ref (u 1)], h, k, q)) rfl ?_
  refine ll_arg (c := 1) (zi := zi) (x := x 1) rfl rfl ll_i242 ll_i243 ll_i245 ll_i246 ll_i247 (ha 1 (by decide)).1 (ha 1 (by decide)).2 ?_
  refine ll_arg (c := 2) (zi := zi) (x := x 2) rfl rfl ll_i248 ll_i249 ll_i251 ll_i252 ll_i253 (ha 2 (by decide)).1 (ha 2 (by decide)).2 ?_
  refine ll_arg (c := 3) (zi := zi) (x := x 3) rfl rfl ll_i254 ll_i255 ll_i257 ll_i258 ll_i259 (ha 3 (by decide)).1 (ha 3 (by decide)).2 ?_
  refine ll_ca ll_i260 (j := 142) (as := [.ref (u 1), .int (x 1), .int (x 2), .int (x 3)]) (pc' := 260) (lo' := ll_lo u zi (o5) (o6)) (st' := []) (h' := h) (k1 := k) (q1 := q) rfl (mj := am_m142) rfl ⟨by decide, by decide, Nat.le_of_ble_eq_true rfl⟩ ?_
  refine Rn_mono (ii_c (j := 142) rfl rfl (j_apic (xs := [.ref (u 1), .int (x 1), .int (x 2), .int (x 3)]) hmc hU hut (j_k142 mc hmc) rfl hJ ⟨Or.inr (ll_g1 hut), ⟨Or.inr (ll_gt), ⟨Or.inr (ll_gt), ⟨Or.inr (ll_gt), trivial⟩⟩⟩⟩)) (fun r hr => ?_)
  obtain ⟨hr, hf1⟩ := hr
  obtain ⟨v1, h1, k1, q1, rfl, hv, hJ1, hk1, hq1, -⟩ := hr
  rcases hv with ⟨e, -⟩ | ⟨-, z1, rfl⟩
  · cases e
  · refine ⟨some (.int z1), h1, k1, q1, rfl, ?_⟩
    show ll_R (ll_x l kn) (263, ll_lo u zi (o5) (o6), [.int z1], h1, k + k1, q + q1) Q
    refine ll_st ll_i263 (S' := (265, ll_lo u zi (some (.int z1)) (o6), [], h1, k + k1, q + q1)) rfl ?_
    refine ll_st ll_i265 (S' := (266, ll_lo u zi (some (.int z1)) (o6), [.ref (u 40)], h1, k + k1, q + q1)) rfl ?_
    refine ll_arg (c := 1) (zi := zi) (x := x 1) rfl rfl ll_i266 ll_i267 ll_i269 ll_i270 ll_i271 (ha 1 (by decide)).1 (ha 1 (by decide)).2 ?_
    refine ll_arg (c := 2) (zi := zi) (x := x 2) rfl rfl ll_i272 ll_i273 ll_i275 ll_i276 ll_i277 (ha 2 (by decide)).1 (ha 2 (by decide)).2 ?_
    refine ll_arg (c := 3) (zi := zi) (x := x 3) rfl rfl ll_i278 ll_i279 ll_i281 ll_i282 ll_i283 (ha 3 (by decide)).1 (ha 3 (by decide)).2 ?_
    obtain ⟨vs2, hv2⟩ := ll_c40 hut hJ1
    refine ll_iv (as := [.int (x 1), .int (x 2), .int (x 3)]) (r := []) ll_i284 (j := 121) (b := 3) (d := 9) (by decide +kernel) hv2 rfl rfl rfl (Nat.le_of_ble_eq_true rfl) (mj := am_m121) rfl ⟨by decide, by decide, Nat.le_of_ble_eq_true rfl⟩ ?_
    refine Rn_mono (ii_c (j := 121) rfl rfl (j_api (xs := [.ref (u 40), .int (x 1), .int (x 2), .int (x 3)]) hmc hU hut (j_k121 mc hmc) rfl hJ1 ⟨Or.inr (ll_g40 hut), ⟨Or.inr (ll_gt), ⟨Or.inr (ll_gt), ⟨Or.inr (ll_gt), trivial⟩⟩⟩⟩)) (fun r hr => ?_)
    obtain ⟨hr, hf2⟩ := hr
    obtain ⟨v2, h2, k2, q2, rfl, hv, hJ2, hk2, hq2, -⟩ := hr
    rcases hv with ⟨-, rfl⟩ | ⟨e, -⟩
    · refine ⟨none, h2, k2, q2, rfl, ?_⟩
      show ll_R (ll_x l kn) (287, ll_lo u zi (some (.int z1)) (o6), [], h2, k + k1 + k2, q + q1 + q2) Q
      refine ll_st ll_i287 (S' := (811, ll_lo u zi (some (.int z1)) (o6), [], h2, k + k1 + k2, q + q1 + q2)) rfl ?_
      exact hn _ _ _ _ _ ⟨(ii_k hut hJ (fz_trans hf1 hf2) hii), τ, mc, T, hmc, hU, hut, ⟨hT.1, by omega⟩, hJ2, by omega, by omega⟩
    · cases e
set_option maxRecDepth 100000 in
theorem ll_k3 {u : Nat → Nat} {l : Nat} {kn : List (Nat × Int32)} {N : Nat} (hN : N < 512) {zi : Int32} {x : Nat → Int32} (ha : ll_a l kn zi x) {o5 o6 : Option Value} {h : am_H} {k q : Nat} (hI : ll_I u N h k q) {Q : am_R → Prop} (hn : ∀ o5 o6 h k q, ll_I u (N + 1) h k q → ll_R (ll_x l kn) (811, ll_lo u zi o5 o6, [], h, k, q) Q) : ll_R (ll_x l kn) (290, ll_lo u zi o5 o6, [], h, k, q) Q := by
  obtain ⟨hii, τ, mc, T, hmc, hU, hut, hT, hJ, hk, hq⟩ := hI
  refine ll_st ll_i290 (S' := (291, ll_lo u zi (o5) (o6), [.ref (u 1)], h, k, q)) rfl ?_
  refine ll_arg (c := 1) (zi := zi) (x := x 1) rfl rfl ll_i291 ll_i292 ll_i294 ll_i295 ll_i296 (ha 1 (by decide)).1 (ha 1 (by decide)).2 ?_
  refine ll_arg (c := 2) (zi := zi) (x := x 2) rfl rfl ll_i297 ll_i298 ll_i300 ll_i301 ll_i302 (ha 2 (by decide)).1 (ha 2 (by decide)).2 ?_
  refine ll_bool ll_i303 ll_i306 ll_i307 ll_i310 (fun b1 hb1 hx1 => ?_)
  refine ll_ca ll_i311 (j := 135) (as := [.ref (u 1), .int (x 1), .int b1]) (pc' := 311) (lo' := ll_lo u zi (o5) (o6)) (st' := []) (h' := h) (k1 := k) (q1 := q) rfl (mj := am_m135) rfl ⟨by decide, by decide, Nat.le_of_ble_eq_true rfl⟩ ?_
  refine Rn_mono (ii_c (j := 135) rfl rfl (j_apic (xs := [.ref (u 1), .int (x 1), .int b1]) hmc hU hut (j_k135 mc hmc) rfl hJ ⟨Or.inr (ll_g1 hut), ⟨Or.inr (ll_gt), ⟨Or.inr (ll_gb hb1), trivial⟩⟩⟩)) (fun r hr => ?_)
  obtain ⟨hr, hf1⟩ := hr
  obtain ⟨v1, h1, k1, q1, rfl, hv, hJ1, hk1, hq1, -⟩ := hr
  rcases hv with ⟨e, -⟩ | ⟨-, z1, rfl⟩
  · cases e
  · refine ⟨some (.int z1), h1, k1, q1, rfl, ?_⟩
    show ll_R (ll_x l kn) (314, ll_lo u zi (o5) (o6), [.int z1], h1, k + k1, q + q1) Q
    refine ll_st ll_i314 (S' := (316, ll_lo u zi (some (.int z1)) (o6), [], h1, k + k1, q + q1)) rfl ?_
    refine ll_st ll_i316 (S' := (317, ll_lo u zi (some (.int z1)) (o6), [.ref (u 40)], h1, k + k1, q + q1)) rfl ?_
    refine ll_arg (c := 1) (zi := zi) (x := x 1) rfl rfl ll_i317 ll_i318 ll_i320 ll_i321 ll_i322 (ha 1 (by decide)).1 (ha 1 (by decide)).2 ?_
    refine ll_arg (c := 2) (zi := zi) (x := x 2) rfl rfl ll_i323 ll_i324 ll_i326 ll_i327 ll_i328 (ha 2 (by decide)).1 (ha 2 (by decide)).2 ?_
    refine ll_bool ll_i329 ll_i332 ll_i333 ll_i336 (fun b2 hb2 hx2 => ?_)
    obtain ⟨vs2, hv2⟩ := ll_c40 hut hJ1
    refine ll_iv (as := [.int (x 1), .int b2]) (r := []) ll_i337 (j := 106) (b := 2) (d := 9) (by decide +kernel) hv2 rfl rfl rfl (Nat.le_of_ble_eq_true rfl) (mj := am_m106) rfl ⟨by decide, by decide, Nat.le_of_ble_eq_true rfl⟩ ?_
    refine Rn_mono (ii_c (j := 106) rfl rfl (j_api (xs := [.ref (u 40), .int (x 1), .int b2]) hmc hU hut (j_k106 mc hmc) rfl hJ1 ⟨Or.inr (ll_g40 hut), ⟨Or.inr (ll_gt), ⟨Or.inr (ll_gb hb2), trivial⟩⟩⟩)) (fun r hr => ?_)
    obtain ⟨hr, hf2⟩ := hr
    obtain ⟨v2, h2, k2, q2, rfl, hv, hJ2, hk2, hq2, -⟩ := hr
    rcases hv with ⟨-, rfl⟩ | ⟨e, -⟩
    · refine ⟨none, h2, k2, q2, rfl, ?_⟩
      show ll_R (ll_x l kn) (340, ll_lo u zi (some (.int z1)) (o6), [], h2, k + k1 + k2, q + q1 + q2) Q
      refine ll_st ll_i340 (S' := (811, ll_lo u zi (some (.int z1)) (o6), [], h2, k + k1 + k2, q + q1 + q2)) rfl ?_
      exact hn _ _ _ _ _ ⟨(ii_k hut hJ (fz_trans hf1 hf2) hii), τ, mc, T, hmc, hU, hut, ⟨hT.1, by omega⟩, hJ2, by omega, by omega⟩
    · cases e
set_option maxRecDepth 100000 in
theorem ll_k4 {u : Nat → Nat} {l : Nat} {kn : List (Nat × Int32)} {N : Nat} (hN : N < 512) {zi : Int32} {x : Nat → Int32} (ha : ll_a l kn zi x) {o5 o6 : Option Value} {h : am_H} {k q : Nat} (hI : ll_I u N h k q) {Q : am_R → Prop} (hn : ∀ o5 o6 h k q, ll_I u (N + 1) h k q → ll_R (ll_x l kn) (811, ll_lo u zi o5 o6, [], h, k, q) Q) : ll_R (ll_x l kn) (343, ll_lo u zi o5 o6, [], h, k, q) Q := by
  obtain ⟨hii, τ, mc, T, hmc, hU, hut, hT, hJ, hk, hq⟩ := hI
  refine ll_st ll_i343 (S' := (344, ll_lo u zi (o5) (o6), [.ref (u 1)], h, k, q)) rfl ?_
  refine ll_arg (c := 1) (zi := zi) (x := x 1) rfl rfl ll_i344 ll_i345 ll_i347 ll_i348 ll_i349 (ha 1 (by decide)).1 (ha 1 (by decide)).2 ?_
  refine ll_bool ll_i350 ll_i353 ll_i354 ll_i357 (fun b1 hb1 hx1 => ?_)
  obtain ⟨vs1, hv1⟩ := ll_c1 hut hJ
  refine ll_iv (as := [.int b1]) (r := []) ll_i358 (j := 2) (b := 1) (d := 0) (by decide +kernel) hv1 rfl rfl rfl (Nat.le_of_ble_eq_true rfl) (mj := am_m2) rfl ⟨by decide, by decide, Nat.le_of_ble_eq_true rfl⟩ ?_
  refine Rn_mono (ii_c (j := 2) rfl rfl (j_apic (xs := [.ref (u 1), .int b1]) hmc hU hut (j_k2 mc hmc) rfl hJ ⟨Or.inr (ll_g1 hut), ⟨Or.inr (ll_gb hb1), trivial⟩⟩)) (fun r hr => ?_)
  obtain ⟨hr, hf1⟩ := hr
  obtain ⟨v1, h1, k1, q1, rfl, hv, hJ1, hk1, hq1, -⟩ := hr
  rcases hv with ⟨e, -⟩ | ⟨-, z1, rfl⟩
  · cases e
  · refine ⟨some (.int z1), h1, k1, q1, rfl, ?_⟩
    show ll_R (ll_x l kn) (361, ll_lo u zi (o5) (o6), [.int z1], h1, k + k1, q + q1) Q
    refine ll_st ll_i361 (S' := (362, ll_lo u zi (o5) (o6), [], h1, k + k1, q + q1)) rfl ?_
    refine ll_st ll_i362 (S' := (363, ll_lo u zi (o5) (o6), [.ref (u 40)], h1, k + k1, q + q1)) rfl ?_
    refine ll_arg (c := 1) (zi := zi) (x := x 1) rfl rfl ll_i363 ll_i364 ll_i366 ll_i367 ll_i368 (ha 1 (by decide)).1 (ha 1 (by decide)).2 ?_
    refine ll_bool ll_i369 ll_i372 ll_i373 ll_i376 (fun b2 hb2 hx2 => ?_)
    obtain ⟨vs2, hv2⟩ := ll_c40 hut hJ1
    refine ll_iv (as := [.int b2]) (r := []) ll_i377 (j := 87) (b := 1) (d := 9) (by decide +kernel) hv2 rfl rfl rfl (Nat.le_of_ble_eq_true rfl) (mj := am_m87) rfl ⟨by decide, by decide, Nat.le_of_ble_eq_true rfl⟩ ?_
    refine Rn_mono (ii_c (j := 87) rfl rfl (j_api (xs := [.ref (u 40), .int b2]) hmc hU hut (j_k87 mc hmc) rfl hJ1 ⟨Or.inr (ll_g40 hut), ⟨Or.inr (ll_gb hb2), trivial⟩⟩)) (fun r hr => ?_)
    obtain ⟨hr, hf2⟩ := hr
    obtain ⟨v2, h2, k2, q2, rfl, hv, hJ2, hk2, hq2, -⟩ := hr
    rcases hv with ⟨e, -⟩ | ⟨-, z2, rfl⟩
    · cases e
    · refine ⟨some (.int z2), h2, k2, q2, rfl, ?_⟩
      show ll_R (ll_x l kn) (380, ll_lo u zi (o5) (o6), [.int z2], h2, k + k1 + k2, q + q1 + q2) Q
      refine ll_st ll_i380 (S' := (381, ll_lo u zi (o5) (o6), [], h2, k + k1 + k2, q + q1 + q2)) rfl ?_
      refine ll_st ll_i381 (S' := (811, ll_lo u zi (o5) (o6), [], h2, k + k1 + k2, q + q1 + q2)) rfl ?_
      exact hn _ _ _ _ _ ⟨(ii_k hut hJ (fz_trans hf1 hf2) hii), τ, mc, T, hmc, hU, hut, ⟨hT.1, by omega⟩, hJ2, by omega, by omega⟩
set_option maxRecDepth 100000 in
theorem ll_k5 {u : Nat → Nat} {l : Nat} {kn : List (Nat × Int32)} {N : Nat} (hN : N < 512) {zi : Int32} {x : Nat → Int32} (ha : ll_a l kn zi x) {o5 o6 : Option Value} {h : am_H} {k q : Nat} (hI : ll_I u N h k q) {Q : am_R → Prop} (hn : ∀ o5 o6 h k q, ll_I u (N + 1) h k q → ll_R (ll_x l kn) (811, ll_lo u zi o5 o6, [], h, k, q) Q) : ll_R (ll_x l kn) (384, ll_lo u zi o5 o6, [], h, k, q) Q := by
  obtain ⟨hii, τ, mc, T, hmc, hU, hut, hT, hJ, hk, hq⟩ := hI
  refine ll_st ll_i384 (S' := (385, ll_lo u zi (o5) (o6), [.ref (u 1)], h, k, q)) rfl ?_
  refine ll_arg (c := 1) (zi := zi) (x := x 1) rfl rfl ll_i385 ll_i386 ll_i388 ll_i389 ll_i390 (ha 1 (by decide)).1 (ha 1 (by decide)).2 ?_
  refine ll_st ll_i391 (S' := (392, ll_lo u zi (o5) (o6), [.ref (u 39), .int (x 1), .ref (u 1)], h, k, q)) rfl ?_
  refine ll_ca ll_i392 (j := 136) (as := [.ref (u 1), .int (x 1), .ref (u 39)]) (pc' := 392) (lo' := ll_lo u zi (o5) (o6)) (st' := []) (h' := h) (k1 := k) (q1 := q) rfl (mj := am_m136) rfl ⟨by decide, by decide, Nat.le_of_ble_eq_true rfl⟩ ?_
  refine Rn_mono (ii_c (j := 136) rfl rfl (j_apic (xs := [.ref (u 1), .int (x 1), .ref (u 39)]) hmc hU hut (j_k136 mc hmc) rfl hJ ⟨Or.inr (ll_g1 hut), ⟨Or.inr (ll_gt), ⟨Or.inr (ll_g39 hut), trivial⟩⟩⟩)) (fun r hr => ?_)
  obtain ⟨hr, hf1⟩ := hr
  obtain ⟨v1, h1, k1, q1, rfl, hv, hJ1, hk1, hq1, -⟩ := hr
  rcases hv with ⟨e, -⟩ | ⟨-, z1, rfl⟩
  · cases e
  · refine ⟨some (.int z1), h1, k1, q1, rfl, ?_⟩
    show ll_R (ll_x l kn) (395, ll_lo u zi (o5) (o6), [.int z1], h1, k + k1, q + q1) Q
    refine ll_st ll_i395 (S' := (397, ll_lo u zi (some (.int z1)) (o6), [], h1, k + k1, q + q1)) rfl ?_
    refine ll_st ll_i397 (S' := (398, ll_lo u zi (some (.int z1)) (o6), [.ref (u 40)], h1, k + k1, q + q1)) rfl ?_
    refine ll_arg (c := 1) (zi := zi) (x := x 1) rfl rfl ll_i398 ll_i399 ll_i401 ll_i402 ll_i403 (ha 1 (by decide)).1 (ha 1 (by decide)).2 ?_
    obtain ⟨vs2, hv2⟩ := ll_c40 hut hJ1
    refine ll_iv (as := [.int (x 1)]) (r := []) ll_i404 (j := 108) (b := 1) (d := 9) (by decide +kernel) hv2 rfl rfl rfl (Nat.le_of_ble_eq_true rfl) (mj := am_m108) rfl ⟨by decide, by decide, Nat.le_of_ble_eq_true rfl⟩ ?_
    refine Rn_mono (ii_c (j := 108) rfl rfl (j_api (xs := [.ref (u 40), .int (x 1)]) hmc hU hut (j_k108 mc hmc) rfl hJ1 ⟨Or.inr (ll_g40 hut), ⟨Or.inr (ll_gt), trivial⟩⟩)) (fun r hr => ?_)
    obtain ⟨hr, hf2⟩ := hr
    obtain ⟨v2, h2, k2, q2, rfl, hv, hJ2, hk2, hq2, -⟩ := hr
    rcases hv with ⟨e, -⟩ | ⟨-, z2, rfl⟩
    · cases e
    · refine ⟨some (.int z2), h2, k2, q2, rfl, ?_⟩
      show ll_R (ll_x l kn) (407, ll_lo u zi (some (.int z1)) (o6), [.int z2], h2, k + k1 + k2, q + q1 + q2) Q
      refine ll_st ll_i407 (S' := (409, ll_lo u zi (some (.int z1)) (some (.int z2)), [], h2, k + k1 + k2, q + q1 + q2)) rfl ?_
      refine ll_st ll_i409 (S' := (811, ll_lo u zi (some (.int z1)) (some (.int z2)), [], h2, k + k1 + k2, q + q1 + q2)) rfl ?_
      exact hn _ _ _ _ _ ⟨(ii_k hut hJ (fz_trans hf1 hf2) hii), τ, mc, T, hmc, hU, hut, ⟨hT.1, by omega⟩, hJ2, by omega, by omega⟩
set_option maxRecDepth 100000 in
theorem ll_k6 {u : Nat → Nat} {l : Nat} {kn : List (Nat × Int32)} {N : Nat} (hN : N < 512) {zi : Int32} {x : Nat → Int32} (ha : ll_a l kn zi x) {o5 o6 : Option Value} {h : am_H} {k q : Nat} (hI : ll_I u N h k q) {Q : am_R → Prop} (hn : ∀ o5 o6 h k q, ll_I u (N + 1) h k q → ll_R (ll_x l kn) (811, ll_lo u zi o5 o6, [], h, k, q) Q) : ll_R (ll_x l kn) (412, ll_lo u zi o5 o6, [], h, k, q) Q := by
  obtain ⟨hii, τ, mc, T, hmc, hU, hut, hT, hJ, hk, hq⟩ := hI
  refine ll_st ll_i412 (S' := (413, ll_lo u zi (o5) (o6), [.ref (u 1)], h, k, q)) rfl ?_
  refine ll_arg (c := 1) (zi := zi) (x := x 1) rfl rfl ll_i413 ll_i414 ll_i416 ll_i417 ll_i418 (ha 1 (by decide)).1 (ha 1 (by decide)).2 ?_
  refine ll_st ll_i419 (S' := (420, ll_lo u zi (o5) (o6), [.ref (u 39), .int (x 1), .ref (u 1)], h, k, q)) rfl ?_
  refine ll_ca ll_i420 (j := 141) (as := [.ref (u 1), .int (x 1), .ref (u 39)]) (pc' := 420) (lo' := ll_lo u zi (o5) (o6)) (st' := []) (h' := h) (k1 := k) (q1 := q) rfl (mj := am_m141) rfl ⟨by decide, by decide, Nat.le_of_ble_eq_true rfl⟩ ?_
  have hjn := ll_jn (x 1)
  refine Rn_mono (ii_c (j := 141) rfl rfl (jl_run hmc hU hut ⟨hT.1, by omega⟩ hJ (x 1))) (fun r hr => ?_)
  obtain ⟨hr, hf1⟩ := hr
  obtain ⟨z1, h1, k1, q1, rfl, hJ1, hk1, hq1, -⟩ := hr
  refine ⟨some (.int z1), h1, k1, q1, rfl, ?_⟩
  show ll_R (ll_x l kn) (423, ll_lo u zi (o5) (o6), [.int z1], h1, k + k1, q + q1) Q
  refine ll_st ll_i423 (S' := (425, ll_lo u zi (some (.int z1)) (o6), [], h1, k + k1, q + q1)) rfl ?_
  refine ll_st ll_i425 (S' := (426, ll_lo u zi (some (.int z1)) (o6), [.ref (u 40)], h1, k + k1, q + q1)) rfl ?_
  refine ll_arg (c := 1) (zi := zi) (x := x 1) rfl rfl ll_i426 ll_i427 ll_i429 ll_i430 ll_i431 (ha 1 (by decide)).1 (ha 1 (by decide)).2 ?_
  obtain ⟨vs2, hv2⟩ := ll_c40 hut hJ1
  refine ll_iv (as := [.int (x 1)]) (r := []) ll_i432 (j := 119) (b := 1) (d := 9) (by decide +kernel) hv2 rfl rfl rfl (Nat.le_of_ble_eq_true rfl) (mj := am_m119) rfl ⟨by decide, by decide, Nat.le_of_ble_eq_true rfl⟩ ?_
  refine Rn_mono (ii_c (j := 119) rfl rfl (jm_run hmc hU hut ⟨hT.1, by omega⟩ hJ1 (x 1))) (fun r hr => ?_)
  obtain ⟨hr, hf2⟩ := hr
  obtain ⟨z2, h2, rfl, hJ2, -⟩ := hr
  refine ⟨some (.int z2), h2, 0, 0, rfl, ?_⟩
  show ll_R (ll_x l kn) (435, ll_lo u zi (some (.int z1)) (o6), [.int z2], h2, k + k1 + 0, q + q1 + 0) Q
  refine ll_st ll_i435 (S' := (437, ll_lo u zi (some (.int z1)) (some (.int z2)), [], h2, k + k1 + 0, q + q1 + 0)) rfl ?_
  refine ll_st ll_i437 (S' := (811, ll_lo u zi (some (.int z1)) (some (.int z2)), [], h2, k + k1 + 0, q + q1 + 0)) rfl ?_
  exact hn _ _ _ _ _ ⟨(ii_k hut hJ (fz_trans hf1 hf2) hii), τ, mc, T + j_n (x 1), hmc, hU, hut, ⟨by omega, by omega⟩, hJ2, by omega, by omega⟩
set_option maxRecDepth 100000 in
theorem ll_k7 {u : Nat → Nat} {l : Nat} {kn : List (Nat × Int32)} {N : Nat} (hN : N < 512) {zi : Int32} {x : Nat → Int32} (ha : ll_a l kn zi x) {o5 o6 : Option Value} {h : am_H} {k q : Nat} (hI : ll_I u N h k q) {Q : am_R → Prop} (hn : ∀ o5 o6 h k q, ll_I u (N + 1) h k q → ll_R (ll_x l kn) (811, ll_lo u zi o5 o6, [], h, k, q) Q) : ll_R (ll_x l kn) (440, ll_lo u zi o5 o6, [], h, k, q) Q := by
  obtain ⟨hii, τ, mc, T, hmc, hU, hut, hT, hJ, hk, hq⟩ := hI
  refine ll_st ll_i440 (S' := (441, ll_lo u zi (o5) (o6), [.ref (u 1)], h, k, q)) rfl ?_
  obtain ⟨vs1, hv1⟩ := ll_c1 hut hJ
  refine ll_iv (as := []) (r := []) ll_i441 (j := 23) (b := 0) (d := 0) (by decide +kernel) hv1 rfl rfl rfl (Nat.le_of_ble_eq_true rfl) (mj := am_m23) rfl ⟨by decide, by decide, Nat.le_of_ble_eq_true rfl⟩ ?_
  refine Rn_mono (ii_c (j := 23) rfl rfl (jc_now (Q := fun r => ∃ z : Int32, ab_b z = T ∧ r = (.inl (some (.int z)), h, 0, 0)) hmc hU hut hJ (fun z hz => ⟨z, hz, rfl⟩))) (fun r hr => ?_)
  obtain ⟨⟨z1, hz1, rfl⟩, hf1⟩ := hr
  refine ⟨some (.int z1), h, 0, 0, rfl, ?_⟩
  show ll_R (ll_x l kn) (444, ll_lo u zi (o5) (o6), [.int z1], h, k + 0, q + 0) Q
  refine ll_st ll_i444 (S' := (445, ll_lo u zi (o5) (o6), [], h, k + 0, q + 0)) rfl ?_
  refine ll_st ll_i445 (S' := (446, ll_lo u zi (o5) (o6), [.ref (u 40)], h, k + 0, q + 0)) rfl ?_
  obtain ⟨vs2, hv2⟩ := ll_c40 hut hJ
  refine ll_iv (as := []) (r := []) ll_i446 (j := 112) (b := 0) (d := 9) (by decide +kernel) hv2 rfl rfl rfl (Nat.le_of_ble_eq_true rfl) (mj := am_m112) rfl ⟨by decide, by decide, Nat.le_of_ble_eq_true rfl⟩ ?_
  refine Rn_mono (ii_c (j := 112) rfl rfl (jm_now (Q := fun r => ∃ (z : Int32) (h2 : am_H), ab_b z = T ∧ j_J τ u mc T T h2 ∧ r = (.inl (some (.int z)), h2, 0, 0)) hmc hU hut hJ (fun z h2 hz hJ2 _ => ⟨z, h2, hz, hJ2, rfl⟩))) (fun r hr => ?_)
  obtain ⟨⟨z2, h2, hz2, hJ2, rfl⟩, hf2⟩ := hr
  refine ⟨some (.int z2), h2, 0, 0, rfl, ?_⟩
  show ll_R (ll_x l kn) (449, ll_lo u zi (o5) (o6), [.int z2], h2, k + 0 + 0, q + 0 + 0) Q
  refine ll_st ll_i449 (S' := (450, ll_lo u zi (o5) (o6), [], h2, k + 0 + 0, q + 0 + 0)) rfl ?_
  refine ll_st ll_i450 (S' := (811, ll_lo u zi (o5) (o6), [], h2, k + 0 + 0, q + 0 + 0)) rfl ?_
  exact hn _ _ _ _ _ ⟨(ii_k hut hJ (fz_trans hf1 hf2) hii), τ, mc, T, hmc, hU, hut, ⟨hT.1, by omega⟩, hJ2, by omega, by omega⟩
set_option maxRecDepth 100000 in
theorem ll_k8 {u : Nat → Nat} {l : Nat} {kn : List (Nat × Int32)} {N : Nat} (hN : N < 512) {zi : Int32} {x : Nat → Int32} (ha : ll_a l kn zi x) {o5 o6 : Option Value} {h : am_H} {k q : Nat} (hI : ll_I u N h k q) {Q : am_R → Prop} (hn : ∀ o5 o6 h k q, ll_I u (N + 1) h k q → ll_R (ll_x l kn) (811, ll_lo u zi o5 o6, [], h, k, q) Q) : ll_R (ll_x l kn) (453, ll_lo u zi o5 o6, [], h, k, q) Q := by
  obtain ⟨hii, τ, mc, T, hmc, hU, hut, hT, hJ, hk, hq⟩ := hI
  refine ll_st ll_i453 (S' := (454, ll_lo u zi (o5) (o6), [.ref (u 1)], h, k, q)) rfl ?_
  refine ll_arg (c := 1) (zi := zi) (x := x 1) rfl rfl ll_i454 ll_i455 ll_i457 ll_i458 ll_i459 (ha 1 (by decide)).1 (ha 1 (by decide)).2 ?_
  refine ll_arg (c := 2) (zi := zi) (x := x 2) rfl rfl ll_i460 ll_i461 ll_i463 ll_i464 ll_i465 (ha 2 (by decide)).1 (ha 2 (by decide)).2 ?_
  refine ll_st ll_i466 (S' := (467, ll_lo u zi (o5) (o6), [.ref (u 39), .int (x 2), .int (x 1), .ref (u 1)], h, k, q)) rfl ?_
  refine ll_ca ll_i467 (j := 130) (as := [.ref (u 1), .int (x 1), .int (x 2), .ref (u 39)]) (pc' := 467) (lo' := ll_lo u zi (o5) (o6)) (st' := []) (h' := h) (k1 := k) (q1 := q) rfl (mj := am_m130) rfl ⟨by decide, by decide, Nat.le_of_ble_eq_true rfl⟩ ?_
  refine Rn_mono (ii_c (j := 130) rfl rfl (j_apic (xs := [.ref (u 1), .int (x 1), .int (x 2), .ref (u 39)]) hmc hU hut (j_k130 mc hmc) rfl hJ ⟨Or.inr (ll_g1 hut), ⟨Or.inr (ll_gt), ⟨Or.inr (ll_gt), ⟨Or.inr (ll_g39 hut), trivial⟩⟩⟩⟩)) (fun r hr => ?_)
  obtain ⟨hr, hf1⟩ := hr
  obtain ⟨v1, h1, k1, q1, rfl, hv, hJ1, hk1, hq1, -⟩ := hr
  rcases hv with ⟨e, -⟩ | ⟨-, z1, rfl⟩
  · cases e
  · refine ⟨some (.int z1), h1, k1, q1, rfl, ?_⟩
    show ll_R (ll_x l kn) (470, ll_lo u zi (o5) (o6), [.int z1], h1, k + k1, q + q1) Q
    refine ll_st ll_i470 (S' := (472, ll_lo u zi (some (.int z1)) (o6), [], h1, k + k1, q + q1)) rfl ?_
    refine ll_st ll_i472 (S' := (473, ll_lo u zi (some (.int z1)) (o6), [.ref (u 40)], h1, k + k1, q + q1)) rfl ?_
    refine ll_arg (c := 1) (zi := zi) (x := x 1) rfl rfl ll_i473 ll_i474 ll_i476 ll_i477 ll_i478 (ha 1 (by decide)).1 (ha 1 (by decide)).2 ?_
    refine ll_arg (c := 2) (zi := zi) (x := x 2) rfl rfl ll_i479 ll_i480 ll_i482 ll_i483 ll_i484 (ha 2 (by decide)).1 (ha 2 (by decide)).2 ?_
    obtain ⟨vs2, hv2⟩ := ll_c40 hut hJ1
    refine ll_iv (as := [.int (x 1), .int (x 2)]) (r := []) ll_i485 (j := 88) (b := 2) (d := 9) (by decide +kernel) hv2 rfl rfl rfl (Nat.le_of_ble_eq_true rfl) (mj := am_m88) rfl ⟨by decide, by decide, Nat.le_of_ble_eq_true rfl⟩ ?_
    refine Rn_mono (ii_c (j := 88) rfl rfl (j_api (xs := [.ref (u 40), .int (x 1), .int (x 2)]) hmc hU hut (j_k88 mc hmc) rfl hJ1 ⟨Or.inr (ll_g40 hut), ⟨Or.inr (ll_gt), ⟨Or.inr (ll_gt), trivial⟩⟩⟩)) (fun r hr => ?_)
    obtain ⟨hr, hf2⟩ := hr
    obtain ⟨v2, h2, k2, q2, rfl, hv, hJ2, hk2, hq2, -⟩ := hr
    rcases hv with ⟨e, -⟩ | ⟨-, z2, rfl⟩
    · cases e
    · refine ⟨some (.int z2), h2, k2, q2, rfl, ?_⟩
      show ll_R (ll_x l kn) (488, ll_lo u zi (some (.int z1)) (o6), [.int z2], h2, k + k1 + k2, q + q1 + q2) Q
      refine ll_st ll_i488 (S' := (490, ll_lo u zi (some (.int z1)) (some (.int z2)), [], h2, k + k1 + k2, q + q1 + q2)) rfl ?_
      refine ll_st ll_i490 (S' := (811, ll_lo u zi (some (.int z1)) (some (.int z2)), [], h2, k + k1 + k2, q + q1 + q2)) rfl ?_
      exact hn _ _ _ _ _ ⟨(ii_k hut hJ (fz_trans hf1 hf2) hii), τ, mc, T, hmc, hU, hut, ⟨hT.1, by omega⟩, hJ2, by omega, by omega⟩
set_option maxRecDepth 100000 in
theorem ll_k9 {u : Nat → Nat} {l : Nat} {kn : List (Nat × Int32)} {N : Nat} (hN : N < 512) {zi : Int32} {x : Nat → Int32} (ha : ll_a l kn zi x) {o5 o6 : Option Value} {h : am_H} {k q : Nat} (hI : ll_I u N h k q) {Q : am_R → Prop} (hn : ∀ o5 o6 h k q, ll_I u (N + 1) h k q → ll_R (ll_x l kn) (811, ll_lo u zi o5 o6, [], h, k, q) Q) : ll_R (ll_x l kn) (493, ll_lo u zi o5 o6, [], h, k, q) Q := by
  obtain ⟨hii, τ, mc, T, hmc, hU, hut, hT, hJ, hk, hq⟩ := hI
  refine ll_st ll_i493 (S' := (494, ll_lo u zi (o5) (o6), [.ref (u 1)], h, k, q)) rfl ?_
  refine ll_arg (c := 1) (zi := zi) (x := x 1) rfl rfl ll_i494 ll_i495 ll_i497 ll_i498 ll_i499 (ha 1 (by decide)).1 (ha 1 (by decide)).2 ?_
  refine ll_arg (c := 2) (zi := zi) (x := x 2) rfl rfl ll_i500 ll_i501 ll_i503 ll_i504 ll_i505 (ha 2 (by decide)).1 (ha 2 (by decide)).2 ?_
  refine ll_arg (c := 3) (zi := zi) (x := x 3) rfl rfl ll_i506 ll_i507 ll_i509 ll_i510 ll_i511 (ha 3 (by decide)).1 (ha 3 (by decide)).2 ?_
  refine ll_st ll_i512 (S' := (513, ll_lo u zi (o5) (o6), [.ref (u 39), .int (x 3), .int (x 2), .int (x 1), .ref (u 1)], h, k, q)) rfl ?_
  refine ll_ca ll_i513 (j := 133) (as := [.ref (u 1), .int (x 1), .int (x 2), .int (x 3), .ref (u 39)]) (pc' := 513) (lo' := ll_lo u zi (o5) (o6)) (st' := []) (h' := h) (k1 := k) (q1 := q) rfl (mj := am_m133) rfl ⟨by decide, by decide, Nat.le_of_ble_eq_true rfl⟩ ?_
  refine Rn_mono (ii_c (j := 133) rfl rfl (j_apic (xs := [.ref (u 1), .int (x 1), .int (x 2), .int (x 3), .ref (u 39)]) hmc hU hut (j_k133 mc hmc) rfl hJ ⟨Or.inr (ll_g1 hut), ⟨Or.inr (ll_gt), ⟨Or.inr (ll_gt), ⟨Or.inr (ll_gt), ⟨Or.inr (ll_g39 hut), trivial⟩⟩⟩⟩⟩)) (fun r hr => ?_)
  obtain ⟨hr, hf1⟩ := hr
  obtain ⟨v1, h1, k1, q1, rfl, hv, hJ1, hk1, hq1, -⟩ := hr
  rcases hv with ⟨e, -⟩ | ⟨-, z1, rfl⟩
  · cases e
  · refine ⟨some (.int z1), h1, k1, q1, rfl, ?_⟩
    show ll_R (ll_x l kn) (516, ll_lo u zi (o5) (o6), [.int z1], h1, k + k1, q + q1) Q
    refine ll_st ll_i516 (S' := (518, ll_lo u zi (some (.int z1)) (o6), [], h1, k + k1, q + q1)) rfl ?_
    refine ll_st ll_i518 (S' := (519, ll_lo u zi (some (.int z1)) (o6), [.ref (u 40)], h1, k + k1, q + q1)) rfl ?_
    refine ll_arg (c := 1) (zi := zi) (x := x 1) rfl rfl ll_i519 ll_i520 ll_i522 ll_i523 ll_i524 (ha 1 (by decide)).1 (ha 1 (by decide)).2 ?_
    refine ll_arg (c := 2) (zi := zi) (x := x 2) rfl rfl ll_i525 ll_i526 ll_i528 ll_i529 ll_i530 (ha 2 (by decide)).1 (ha 2 (by decide)).2 ?_
    refine ll_arg (c := 3) (zi := zi) (x := x 3) rfl rfl ll_i531 ll_i532 ll_i534 ll_i535 ll_i536 (ha 3 (by decide)).1 (ha 3 (by decide)).2 ?_
    obtain ⟨vs2, hv2⟩ := ll_c40 hut hJ1
    refine ll_iv (as := [.int (x 1), .int (x 2), .int (x 3)]) (r := []) ll_i537 (j := 99) (b := 3) (d := 9) (by decide +kernel) hv2 rfl rfl rfl (Nat.le_of_ble_eq_true rfl) (mj := am_m99) rfl ⟨by decide, by decide, Nat.le_of_ble_eq_true rfl⟩ ?_
    refine Rn_mono (ii_c (j := 99) rfl rfl (j_api (xs := [.ref (u 40), .int (x 1), .int (x 2), .int (x 3)]) hmc hU hut (j_k99 mc hmc) rfl hJ1 ⟨Or.inr (ll_g40 hut), ⟨Or.inr (ll_gt), ⟨Or.inr (ll_gt), ⟨Or.inr (ll_gt), trivial⟩⟩⟩⟩)) (fun r hr => ?_)
    obtain ⟨hr, hf2⟩ := hr
    obtain ⟨v2, h2, k2, q2, rfl, hv, hJ2, hk2, hq2, -⟩ := hr
    rcases hv with ⟨e, -⟩ | ⟨-, z2, rfl⟩
    · cases e
    · refine ⟨some (.int z2), h2, k2, q2, rfl, ?_⟩
      show ll_R (ll_x l kn) (540, ll_lo u zi (some (.int z1)) (o6), [.int z2], h2, k + k1 + k2, q + q1 + q2) Q
      refine ll_st ll_i540 (S' := (542, ll_lo u zi (some (.int z1)) (some (.int z2)), [], h2, k + k1 + k2, q + q1 + q2)) rfl ?_
      refine ll_st ll_i542 (S' := (811, ll_lo u zi (some (.int z1)) (some (.int z2)), [], h2, k + k1 + k2, q + q1 + q2)) rfl ?_
      exact hn _ _ _ _ _ ⟨(ii_k hut hJ (fz_trans hf1 hf2) hii), τ, mc, T, hmc, hU, hut, ⟨hT.1, by omega⟩, hJ2, by omega, by omega⟩
set_option maxRecDepth 100000 in
theorem ll_k10 {u : Nat → Nat} {l : Nat} {kn : List (Nat × Int32)} {N : Nat} (hN : N < 512) {zi : Int32} {x : Nat → Int32} (ha : ll_a l kn zi x) {o5 o6 : Option Value} {h : am_H} {k q : Nat} (hI : ll_I u N h k q) {Q : am_R → Prop} (hn : ∀ o5 o6 h k q, ll_I u (N + 1) h k q → ll_R (ll_x l kn) (811, ll_lo u zi o5 o6, [], h, k, q) Q) : ll_R (ll_x l kn) (545, ll_lo u zi o5 o6, [], h, k, q) Q := by
  obtain ⟨hii, τ, mc, T, hmc, hU, hut, hT, hJ, hk, hq⟩ := hI
  refine ll_st ll_i545 (S' := (546, ll_lo u zi (o5) (o6), [.ref (u 1)], h, k, q)) rfl ?_
  obtain ⟨vs1, hv1⟩ := ll_c1 hut hJ
  refine ll_iv (as := []) (r := []) ll_i546 (j := 25) (b := 0) (d := 0) (by decide +kernel) hv1 rfl rfl rfl (Nat.le_of_ble_eq_true rfl) (mj := am_m25) rfl ⟨by decide, by decide, Nat.le_of_ble_eq_true rfl⟩ ?_
  refine Rn_mono (ii_c (j := 25) rfl rfl (j_apic (xs := [.ref (u 1)]) hmc hU hut (j_k25 mc hmc) rfl hJ ⟨Or.inr (ll_g1 hut), trivial⟩)) (fun r hr => ?_)
  obtain ⟨hr, hf1⟩ := hr
  obtain ⟨v1, h1, k1, q1, rfl, hv, hJ1, hk1, hq1, -⟩ := hr
  rcases hv with ⟨e, -⟩ | ⟨-, z1, rfl⟩
  · cases e
  · refine ⟨some (.int z1), h1, k1, q1, rfl, ?_⟩
    show ll_R (ll_x l kn) (549, ll_lo u zi (o5) (o6), [.int z1], h1, k + k1, q + q1) Q
    refine ll_st ll_i549 (S' := (550, ll_lo u zi (o5) (o6), [], h1, k + k1, q + q1)) rfl ?_
    refine ll_st ll_i550 (S' := (551, ll_lo u zi (o5) (o6), [.ref (u 40)], h1, k + k1, q + q1)) rfl ?_
    obtain ⟨vs2, hv2⟩ := ll_c40 hut hJ1
    refine ll_iv (as := []) (r := []) ll_i551 (j := 115) (b := 0) (d := 9) (by decide +kernel) hv2 rfl rfl rfl (Nat.le_of_ble_eq_true rfl) (mj := am_m115) rfl ⟨by decide, by decide, Nat.le_of_ble_eq_true rfl⟩ ?_
    refine Rn_mono (ii_c (j := 115) rfl rfl (j_api (xs := [.ref (u 40)]) hmc hU hut (j_k115 mc hmc) rfl hJ1 ⟨Or.inr (ll_g40 hut), trivial⟩)) (fun r hr => ?_)
    obtain ⟨hr, hf2⟩ := hr
    obtain ⟨v2, h2, k2, q2, rfl, hv, hJ2, hk2, hq2, -⟩ := hr
    rcases hv with ⟨e, -⟩ | ⟨-, z2, rfl⟩
    · cases e
    · refine ⟨some (.int z2), h2, k2, q2, rfl, ?_⟩
      show ll_R (ll_x l kn) (554, ll_lo u zi (o5) (o6), [.int z2], h2, k + k1 + k2, q + q1 + q2) Q
      refine ll_st ll_i554 (S' := (555, ll_lo u zi (o5) (o6), [], h2, k + k1 + k2, q + q1 + q2)) rfl ?_
      refine ll_st ll_i555 (S' := (811, ll_lo u zi (o5) (o6), [], h2, k + k1 + k2, q + q1 + q2)) rfl ?_
      exact hn _ _ _ _ _ ⟨(ii_k hut hJ (fz_trans hf1 hf2) hii), τ, mc, T, hmc, hU, hut, ⟨hT.1, by omega⟩, hJ2, by omega, by omega⟩
set_option maxRecDepth 100000 in
theorem ll_k11 {u : Nat → Nat} {l : Nat} {kn : List (Nat × Int32)} {N : Nat} (hN : N < 512) {zi : Int32} {x : Nat → Int32} (ha : ll_a l kn zi x) {o5 o6 : Option Value} {h : am_H} {k q : Nat} (hI : ll_I u N h k q) {Q : am_R → Prop} (hn : ∀ o5 o6 h k q, ll_I u (N + 1) h k q → ll_R (ll_x l kn) (811, ll_lo u zi o5 o6, [], h, k, q) Q) : ll_R (ll_x l kn) (558, ll_lo u zi o5 o6, [], h, k, q) Q := by
  obtain ⟨hii, τ, mc, T, hmc, hU, hut, hT, hJ, hk, hq⟩ := hI
  refine ll_st ll_i558 (S' := (559, ll_lo u zi (o5) (o6), [.ref (u 1)], h, k, q)) rfl ?_
  obtain ⟨vs1, hv1⟩ := ll_c1 hut hJ
  refine ll_iv (as := []) (r := []) ll_i559 (j := 4) (b := 0) (d := 0) (by decide +kernel) hv1 rfl rfl rfl (Nat.le_of_ble_eq_true rfl) (mj := am_m4) rfl ⟨by decide, by decide, Nat.le_of_ble_eq_true rfl⟩ ?_
  refine Rn_mono (ii_c (j := 4) rfl rfl (j_apic (xs := [.ref (u 1)]) hmc hU hut (j_k4 mc hmc) rfl hJ ⟨Or.inr (ll_g1 hut), trivial⟩)) (fun r hr => ?_)
  obtain ⟨hr, hf1⟩ := hr
  obtain ⟨v1, h1, k1, q1, rfl, hv, hJ1, hk1, hq1, -⟩ := hr
  rcases hv with ⟨e, -⟩ | ⟨-, z1, rfl⟩
  · cases e
  · refine ⟨some (.int z1), h1, k1, q1, rfl, ?_⟩
    show ll_R (ll_x l kn) (562, ll_lo u zi (o5) (o6), [.int z1], h1, k + k1, q + q1) Q
    refine ll_st ll_i562 (S' := (563, ll_lo u zi (o5) (o6), [], h1, k + k1, q + q1)) rfl ?_
    refine ll_st ll_i563 (S' := (564, ll_lo u zi (o5) (o6), [.ref (u 40)], h1, k + k1, q + q1)) rfl ?_
    obtain ⟨vs2, hv2⟩ := ll_c40 hut hJ1
    refine ll_iv (as := []) (r := []) ll_i564 (j := 90) (b := 0) (d := 9) (by decide +kernel) hv2 rfl rfl rfl (Nat.le_of_ble_eq_true rfl) (mj := am_m90) rfl ⟨by decide, by decide, Nat.le_of_ble_eq_true rfl⟩ ?_
    refine Rn_mono (ii_c (j := 90) rfl rfl (j_api (xs := [.ref (u 40)]) hmc hU hut (j_k90 mc hmc) rfl hJ1 ⟨Or.inr (ll_g40 hut), trivial⟩)) (fun r hr => ?_)
    obtain ⟨hr, hf2⟩ := hr
    obtain ⟨v2, h2, k2, q2, rfl, hv, hJ2, hk2, hq2, -⟩ := hr
    rcases hv with ⟨e, -⟩ | ⟨-, z2, rfl⟩
    · cases e
    · refine ⟨some (.int z2), h2, k2, q2, rfl, ?_⟩
      show ll_R (ll_x l kn) (567, ll_lo u zi (o5) (o6), [.int z2], h2, k + k1 + k2, q + q1 + q2) Q
      refine ll_st ll_i567 (S' := (568, ll_lo u zi (o5) (o6), [], h2, k + k1 + k2, q + q1 + q2)) rfl ?_
      refine ll_st ll_i568 (S' := (811, ll_lo u zi (o5) (o6), [], h2, k + k1 + k2, q + q1 + q2)) rfl ?_
      exact hn _ _ _ _ _ ⟨(ii_k hut hJ (fz_trans hf1 hf2) hii), τ, mc, T, hmc, hU, hut, ⟨hT.1, by omega⟩, hJ2, by omega, by omega⟩
set_option maxRecDepth 100000 in
theorem ll_k12 {u : Nat → Nat} {l : Nat} {kn : List (Nat × Int32)} {N : Nat} (hN : N < 512) {zi : Int32} {x : Nat → Int32} (ha : ll_a l kn zi x) {o5 o6 : Option Value} {h : am_H} {k q : Nat} (hI : ll_I u N h k q) {Q : am_R → Prop} (hn : ∀ o5 o6 h k q, ll_I u (N + 1) h k q → ll_R (ll_x l kn) (811, ll_lo u zi o5 o6, [], h, k, q) Q) : ll_R (ll_x l kn) (571, ll_lo u zi o5 o6, [], h, k, q) Q := by
  obtain ⟨hii, τ, mc, T, hmc, hU, hut, hT, hJ, hk, hq⟩ := hI
  refine ll_st ll_i571 (S' := (572, ll_lo u zi (o5) (o6), [.ref (u 1)], h, k, q)) rfl ?_
  refine ll_arg (c := 1) (zi := zi) (x := x 1) rfl rfl ll_i572 ll_i573 ll_i575 ll_i576 ll_i577 (ha 1 (by decide)).1 (ha 1 (by decide)).2 ?_
  refine ll_arg (c := 2) (zi := zi) (x := x 2) rfl rfl ll_i578 ll_i579 ll_i581 ll_i582 ll_i583 (ha 2 (by decide)).1 (ha 2 (by decide)).2 ?_
  refine ll_st ll_i584 (S' := (585, ll_lo u zi (o5) (o6), [.ref (u 39), .int (x 2), .int (x 1), .ref (u 1)], h, k, q)) rfl ?_
  refine ll_ca ll_i585 (j := 132) (as := [.ref (u 1), .int (x 1), .int (x 2), .ref (u 39)]) (pc' := 585) (lo' := ll_lo u zi (o5) (o6)) (st' := []) (h' := h) (k1 := k) (q1 := q) rfl (mj := am_m132) rfl ⟨by decide, by decide, Nat.le_of_ble_eq_true rfl⟩ ?_
  refine Rn_mono (ii_c (j := 132) rfl rfl (j_apic (xs := [.ref (u 1), .int (x 1), .int (x 2), .ref (u 39)]) hmc hU hut (j_k132 mc hmc) rfl hJ ⟨Or.inr (ll_g1 hut), ⟨Or.inr (ll_gt), ⟨Or.inr (ll_gt), ⟨Or.inr (ll_g39 hut), trivial⟩⟩⟩⟩)) (fun r hr => ?_)
  obtain ⟨hr, hf1⟩ := hr
  obtain ⟨v1, h1, k1, q1, rfl, hv, hJ1, hk1, hq1, -⟩ := hr
  rcases hv with ⟨e, -⟩ | ⟨-, z1, rfl⟩
  · cases e
  · refine ⟨some (.int z1), h1, k1, q1, rfl, ?_⟩
    show ll_R (ll_x l kn) (588, ll_lo u zi (o5) (o6), [.int z1], h1, k + k1, q + q1) Q
    refine ll_st ll_i588 (S' := (590, ll_lo u zi (some (.int z1)) (o6), [], h1, k + k1, q + q1)) rfl ?_
    refine ll_st ll_i590 (S' := (591, ll_lo u zi (some (.int z1)) (o6), [.ref (u 40)], h1, k + k1, q + q1)) rfl ?_
    refine ll_arg (c := 1) (zi := zi) (x := x 1) rfl rfl ll_i591 ll_i592 ll_i594 ll_i595 ll_i596 (ha 1 (by decide)).1 (ha 1 (by decide)).2 ?_
    refine ll_arg (c := 2) (zi := zi) (x := x 2) rfl rfl ll_i597 ll_i598 ll_i600 ll_i601 ll_i602 (ha 2 (by decide)).1 (ha 2 (by decide)).2 ?_
    obtain ⟨vs2, hv2⟩ := ll_c40 hut hJ1
    refine ll_iv (as := [.int (x 1), .int (x 2)]) (r := []) ll_i603 (j := 97) (b := 2) (d := 9) (by decide +kernel) hv2 rfl rfl rfl (Nat.le_of_ble_eq_true rfl) (mj := am_m97) rfl ⟨by decide, by decide, Nat.le_of_ble_eq_true rfl⟩ ?_
    refine Rn_mono (ii_c (j := 97) rfl rfl (j_api (xs := [.ref (u 40), .int (x 1), .int (x 2)]) hmc hU hut (j_k97 mc hmc) rfl hJ1 ⟨Or.inr (ll_g40 hut), ⟨Or.inr (ll_gt), ⟨Or.inr (ll_gt), trivial⟩⟩⟩)) (fun r hr => ?_)
    obtain ⟨hr, hf2⟩ := hr
    obtain ⟨v2, h2, k2, q2, rfl, hv, hJ2, hk2, hq2, -⟩ := hr
    rcases hv with ⟨e, -⟩ | ⟨-, z2, rfl⟩
    · cases e
    · refine ⟨some (.int z2), h2, k2, q2, rfl, ?_⟩
      show ll_R (ll_x l kn) (606, ll_lo u zi (some (.int z1)) (o6), [.int z2], h2, k + k1 + k2, q + q1 + q2) Q
      refine ll_st ll_i606 (S' := (608, ll_lo u zi (some (.int z1)) (some (.int z2)), [], h2, k + k1 + k2, q + q1 + q2)) rfl ?_
      refine ll_st ll_i608 (S' := (811, ll_lo u zi (some (.int z1)) (some (.int z2)), [], h2, k + k1 + k2, q + q1 + q2)) rfl ?_
      exact hn _ _ _ _ _ ⟨(ii_k hut hJ (fz_trans hf1 hf2) hii), τ, mc, T, hmc, hU, hut, ⟨hT.1, by omega⟩, hJ2, by omega, by omega⟩
set_option maxRecDepth 100000 in
theorem ll_k13 {u : Nat → Nat} {l : Nat} {kn : List (Nat × Int32)} {N : Nat} (hN : N < 512) {zi : Int32} {x : Nat → Int32} (ha : ll_a l kn zi x) {o5 o6 : Option Value} {h : am_H} {k q : Nat} (hI : ll_I u N h k q) {Q : am_R → Prop} (hn : ∀ o5 o6 h k q, ll_I u (N + 1) h k q → ll_R (ll_x l kn) (811, ll_lo u zi o5 o6, [], h, k, q) Q) : ll_R (ll_x l kn) (611, ll_lo u zi o5 o6, [], h, k, q) Q := by
  obtain ⟨hii, τ, mc, T, hmc, hU, hut, hT, hJ, hk, hq⟩ := hI
  refine ll_st ll_i611 (S' := (612, ll_lo u zi (o5) (o6), [.ref (u 1)], h, k, q)) rfl ?_
  refine ll_arg (c := 1) (zi := zi) (x := x 1) rfl rfl ll_i612 ll_i613 ll_i615 ll_i616 ll_i617 (ha 1 (by decide)).1 (ha 1 (by decide)).2 ?_
  refine ll_arg (c := 2) (zi := zi) (x := x 2) rfl rfl ll_i618 ll_i619 ll_i621 ll_i622 ll_i623 (ha 2 (by decide)).1 (ha 2 (by decide)).2 ?_
  refine ll_arg (c := 3) (zi := zi) (x := x 3) rfl rfl ll_i624 ll_i625 ll_i627 ll_i628 ll_i629 (ha 3 (by decide)).1 (ha 3 (by decide)).2 ?_
  refine ll_st ll_i630 (S' := (631, ll_lo u zi (o5) (o6), [.ref (u 39), .int (x 3), .int (x 2), .int (x 1), .ref (u 1)], h, k, q)) rfl ?_
  refine ll_ca ll_i631 (j := 131) (as := [.ref (u 1), .int (x 1), .int (x 2), .int (x 3), .ref (u 39)]) (pc' := 631) (lo' := ll_lo u zi (o5) (o6)) (st' := []) (h' := h) (k1 := k) (q1 := q) rfl (mj := am_m131) rfl ⟨by decide, by decide, Nat.le_of_ble_eq_true rfl⟩ ?_
  refine Rn_mono (ii_c (j := 131) rfl rfl (j_apic (xs := [.ref (u 1), .int (x 1), .int (x 2), .int (x 3), .ref (u 39)]) hmc hU hut (j_k131 mc hmc) rfl hJ ⟨Or.inr (ll_g1 hut), ⟨Or.inr (ll_gt), ⟨Or.inr (ll_gt), ⟨Or.inr (ll_gt), ⟨Or.inr (ll_g39 hut), trivial⟩⟩⟩⟩⟩)) (fun r hr => ?_)
  obtain ⟨hr, hf1⟩ := hr
  obtain ⟨v1, h1, k1, q1, rfl, hv, hJ1, hk1, hq1, -⟩ := hr
  rcases hv with ⟨e, -⟩ | ⟨-, z1, rfl⟩
  · cases e
  · refine ⟨some (.int z1), h1, k1, q1, rfl, ?_⟩
    show ll_R (ll_x l kn) (634, ll_lo u zi (o5) (o6), [.int z1], h1, k + k1, q + q1) Q
    refine ll_st ll_i634 (S' := (636, ll_lo u zi (some (.int z1)) (o6), [], h1, k + k1, q + q1)) rfl ?_
    refine ll_st ll_i636 (S' := (637, ll_lo u zi (some (.int z1)) (o6), [.ref (u 40)], h1, k + k1, q + q1)) rfl ?_
    refine ll_arg (c := 1) (zi := zi) (x := x 1) rfl rfl ll_i637 ll_i638 ll_i640 ll_i641 ll_i642 (ha 1 (by decide)).1 (ha 1 (by decide)).2 ?_
    refine ll_arg (c := 2) (zi := zi) (x := x 2) rfl rfl ll_i643 ll_i644 ll_i646 ll_i647 ll_i648 (ha 2 (by decide)).1 (ha 2 (by decide)).2 ?_
    refine ll_arg (c := 3) (zi := zi) (x := x 3) rfl rfl ll_i649 ll_i650 ll_i652 ll_i653 ll_i654 (ha 3 (by decide)).1 (ha 3 (by decide)).2 ?_
    obtain ⟨vs2, hv2⟩ := ll_c40 hut hJ1
    refine ll_iv (as := [.int (x 1), .int (x 2), .int (x 3)]) (r := []) ll_i655 (j := 91) (b := 3) (d := 9) (by decide +kernel) hv2 rfl rfl rfl (Nat.le_of_ble_eq_true rfl) (mj := am_m91) rfl ⟨by decide, by decide, Nat.le_of_ble_eq_true rfl⟩ ?_
    refine Rn_mono (ii_c (j := 91) rfl rfl (j_api (xs := [.ref (u 40), .int (x 1), .int (x 2), .int (x 3)]) hmc hU hut (j_k91 mc hmc) rfl hJ1 ⟨Or.inr (ll_g40 hut), ⟨Or.inr (ll_gt), ⟨Or.inr (ll_gt), ⟨Or.inr (ll_gt), trivial⟩⟩⟩⟩)) (fun r hr => ?_)
    obtain ⟨hr, hf2⟩ := hr
    obtain ⟨v2, h2, k2, q2, rfl, hv, hJ2, hk2, hq2, -⟩ := hr
    rcases hv with ⟨e, -⟩ | ⟨-, z2, rfl⟩
    · cases e
    · refine ⟨some (.int z2), h2, k2, q2, rfl, ?_⟩
      show ll_R (ll_x l kn) (658, ll_lo u zi (some (.int z1)) (o6), [.int z2], h2, k + k1 + k2, q + q1 + q2) Q
      refine ll_st ll_i658 (S' := (660, ll_lo u zi (some (.int z1)) (some (.int z2)), [], h2, k + k1 + k2, q + q1 + q2)) rfl ?_
      refine ll_st ll_i660 (S' := (811, ll_lo u zi (some (.int z1)) (some (.int z2)), [], h2, k + k1 + k2, q + q1 + q2)) rfl ?_
      exact hn _ _ _ _ _ ⟨(ii_k hut hJ (fz_trans hf1 hf2) hii), τ, mc, T, hmc, hU, hut, ⟨hT.1, by omega⟩, hJ2, by omega, by omega⟩
set_option maxRecDepth 100000 in
theorem ll_k14 {u : Nat → Nat} {l : Nat} {kn : List (Nat × Int32)} {N : Nat} (hN : N < 512) {zi : Int32} {x : Nat → Int32} (ha : ll_a l kn zi x) {o5 o6 : Option Value} {h : am_H} {k q : Nat} (hI : ll_I u N h k q) {Q : am_R → Prop} (hn : ∀ o5 o6 h k q, ll_I u (N + 1) h k q → ll_R (ll_x l kn) (811, ll_lo u zi o5 o6, [], h, k, q) Q) : ll_R (ll_x l kn) (663, ll_lo u zi o5 o6, [], h, k, q) Q := by
  obtain ⟨hii, τ, mc, T, hmc, hU, hut, hT, hJ, hk, hq⟩ := hI
  refine ll_st ll_i663 (S' := (664, ll_lo u zi (o5) (o6), [.ref (u 1)], h, k, q)) rfl ?_
  refine ll_arg (c := 1) (zi := zi) (x := x 1) rfl rfl ll_i664 ll_i665 ll_i667 ll_i668 ll_i669 (ha 1 (by decide)).1 (ha 1 (by decide)).2 ?_
  refine ll_arg (c := 2) (zi := zi) (x := x 2) rfl rfl ll_i670 ll_i671 ll_i673 ll_i674 ll_i675 (ha 2 (by decide)).1 (ha 2 (by decide)).2 ?_
  refine ll_st ll_i676 (S' := (677, ll_lo u zi (o5) (o6), [.ref (u 39), .int (x 2), .int (x 1), .ref (u 1)], h, k, q)) rfl ?_
  refine ll_ca ll_i677 (j := 134) (as := [.ref (u 1), .int (x 1), .int (x 2), .ref (u 39)]) (pc' := 677) (lo' := ll_lo u zi (o5) (o6)) (st' := []) (h' := h) (k1 := k) (q1 := q) rfl (mj := am_m134) rfl ⟨by decide, by decide, Nat.le_of_ble_eq_true rfl⟩ ?_
  refine Rn_mono (ii_c (j := 134) rfl rfl (j_apic (xs := [.ref (u 1), .int (x 1), .int (x 2), .ref (u 39)]) hmc hU hut (j_k134 mc hmc) rfl hJ ⟨Or.inr (ll_g1 hut), ⟨Or.inr (ll_gt), ⟨Or.inr (ll_gt), ⟨Or.inr (ll_g39 hut), trivial⟩⟩⟩⟩)) (fun r hr => ?_)
  obtain ⟨hr, hf1⟩ := hr
  obtain ⟨v1, h1, k1, q1, rfl, hv, hJ1, hk1, hq1, -⟩ := hr
  rcases hv with ⟨e, -⟩ | ⟨-, z1, rfl⟩
  · cases e
  · refine ⟨some (.int z1), h1, k1, q1, rfl, ?_⟩
    show ll_R (ll_x l kn) (680, ll_lo u zi (o5) (o6), [.int z1], h1, k + k1, q + q1) Q
    refine ll_st ll_i680 (S' := (682, ll_lo u zi (some (.int z1)) (o6), [], h1, k + k1, q + q1)) rfl ?_
    refine ll_st ll_i682 (S' := (683, ll_lo u zi (some (.int z1)) (o6), [.ref (u 40)], h1, k + k1, q + q1)) rfl ?_
    refine ll_arg (c := 1) (zi := zi) (x := x 1) rfl rfl ll_i683 ll_i684 ll_i686 ll_i687 ll_i688 (ha 1 (by decide)).1 (ha 1 (by decide)).2 ?_
    refine ll_arg (c := 2) (zi := zi) (x := x 2) rfl rfl ll_i689 ll_i690 ll_i692 ll_i693 ll_i694 (ha 2 (by decide)).1 (ha 2 (by decide)).2 ?_
    obtain ⟨vs2, hv2⟩ := ll_c40 hut hJ1
    refine ll_iv (as := [.int (x 1), .int (x 2)]) (r := []) ll_i695 (j := 103) (b := 2) (d := 9) (by decide +kernel) hv2 rfl rfl rfl (Nat.le_of_ble_eq_true rfl) (mj := am_m103) rfl ⟨by decide, by decide, Nat.le_of_ble_eq_true rfl⟩ ?_
    refine Rn_mono (ii_c (j := 103) rfl rfl (j_api (xs := [.ref (u 40), .int (x 1), .int (x 2)]) hmc hU hut (j_k103 mc hmc) rfl hJ1 ⟨Or.inr (ll_g40 hut), ⟨Or.inr (ll_gt), ⟨Or.inr (ll_gt), trivial⟩⟩⟩)) (fun r hr => ?_)
    obtain ⟨hr, hf2⟩ := hr
    obtain ⟨v2, h2, k2, q2, rfl, hv, hJ2, hk2, hq2, -⟩ := hr
    rcases hv with ⟨e, -⟩ | ⟨-, z2, rfl⟩
    · cases e
    · refine ⟨some (.int z2), h2, k2, q2, rfl, ?_⟩
      show ll_R (ll_x l kn) (698, ll_lo u zi (some (.int z1)) (o6), [.int z2], h2, k + k1 + k2, q + q1 + q2) Q
      refine ll_st ll_i698 (S' := (700, ll_lo u zi (some (.int z1)) (some (.int z2)), [], h2, k + k1 + k2, q + q1 + q2)) rfl ?_
      refine ll_st ll_i700 (S' := (811, ll_lo u zi (some (.int z1)) (some (.int z2)), [], h2, k + k1 + k2, q + q1 + q2)) rfl ?_
      exact hn _ _ _ _ _ ⟨(ii_k hut hJ (fz_trans hf1 hf2) hii), τ, mc, T, hmc, hU, hut, ⟨hT.1, by omega⟩, hJ2, by omega, by omega⟩
set_option maxRecDepth 100000 in
theorem ll_k15 {u : Nat → Nat} {l : Nat} {kn : List (Nat × Int32)} {N : Nat} (hN : N < 512) {zi : Int32} {x : Nat → Int32} (ha : ll_a l kn zi x) {o5 o6 : Option Value} {h : am_H} {k q : Nat} (hI : ll_I u N h k q) {Q : am_R → Prop} (hn : ∀ o5 o6 h k q, ll_I u (N + 1) h k q → ll_R (ll_x l kn) (811, ll_lo u zi o5 o6, [], h, k, q) Q) : ll_R (ll_x l kn) (703, ll_lo u zi o5 o6, [], h, k, q) Q := by
  obtain ⟨hii, τ, mc, T, hmc, hU, hut, hT, hJ, hk, hq⟩ := hI
  refine ll_st ll_i703 (S' := (704, ll_lo u zi (o5) (o6), [.ref (u 1)], h, k, q)) rfl ?_
  refine ll_arg (c := 1) (zi := zi) (x := x 1) rfl rfl ll_i704 ll_i705 ll_i707 ll_i708 ll_i709 (ha 1 (by decide)).1 (ha 1 (by decide)).2 ?_
  refine ll_st ll_i710 (S' := (711, ll_lo u zi (o5) (o6), [.ref (u 39), .int (x 1), .ref (u 1)], h, k, q)) rfl ?_
  refine ll_ca ll_i711 (j := 140) (as := [.ref (u 1), .int (x 1), .ref (u 39)]) (pc' := 711) (lo' := ll_lo u zi (o5) (o6)) (st' := []) (h' := h) (k1 := k) (q1 := q) rfl (mj := am_m140) rfl ⟨by decide, by decide, Nat.le_of_ble_eq_true rfl⟩ ?_
  refine Rn_mono (ii_c (j := 140) rfl rfl (j_apic (xs := [.ref (u 1), .int (x 1), .ref (u 39)]) hmc hU hut (j_k140 mc hmc) rfl hJ ⟨Or.inr (ll_g1 hut), ⟨Or.inr (ll_gt), ⟨Or.inr (ll_g39 hut), trivial⟩⟩⟩)) (fun r hr => ?_)
  obtain ⟨hr, hf1⟩ := hr
  obtain ⟨v1, h1, k1, q1, rfl, hv, hJ1, hk1, hq1, -⟩ := hr
  rcases hv with ⟨e, -⟩ | ⟨-, z1, rfl⟩
  · cases e
  · refine ⟨some (.int z1), h1, k1, q1, rfl, ?_⟩
    show ll_R (ll_x l kn) (714, ll_lo u zi (o5) (o6), [.int z1], h1, k + k1, q + q1) Q
    refine ll_st ll_i714 (S' := (716, ll_lo u zi (some (.int z1)) (o6), [], h1, k + k1, q + q1)) rfl ?_
    refine ll_st ll_i716 (S' := (717, ll_lo u zi (some (.int z1)) (o6), [.ref (u 40)], h1, k + k1, q + q1)) rfl ?_
    refine ll_arg (c := 1) (zi := zi) (x := x 1) rfl rfl ll_i717 ll_i718 ll_i720 ll_i721 ll_i722 (ha 1 (by decide)).1 (ha 1 (by decide)).2 ?_
    obtain ⟨vs2, hv2⟩ := ll_c40 hut hJ1
    refine ll_iv (as := [.int (x 1)]) (r := []) ll_i723 (j := 118) (b := 1) (d := 9) (by decide +kernel) hv2 rfl rfl rfl (Nat.le_of_ble_eq_true rfl) (mj := am_m118) rfl ⟨by decide, by decide, Nat.le_of_ble_eq_true rfl⟩ ?_
    refine Rn_mono (ii_c (j := 118) rfl rfl (j_api (xs := [.ref (u 40), .int (x 1)]) hmc hU hut (j_k118 mc hmc) rfl hJ1 ⟨Or.inr (ll_g40 hut), ⟨Or.inr (ll_gt), trivial⟩⟩)) (fun r hr => ?_)
    obtain ⟨hr, hf2⟩ := hr
    obtain ⟨v2, h2, k2, q2, rfl, hv, hJ2, hk2, hq2, -⟩ := hr
    rcases hv with ⟨e, -⟩ | ⟨-, z2, rfl⟩
    · cases e
    · refine ⟨some (.int z2), h2, k2, q2, rfl, ?_⟩
      show ll_R (ll_x l kn) (726, ll_lo u zi (some (.int z1)) (o6), [.int z2], h2, k + k1 + k2, q + q1 + q2) Q
      refine ll_st ll_i726 (S' := (728, ll_lo u zi (some (.int z1)) (some (.int z2)), [], h2, k + k1 + k2, q + q1 + q2)) rfl ?_
      refine ll_st ll_i728 (S' := (811, ll_lo u zi (some (.int z1)) (some (.int z2)), [], h2, k + k1 + k2, q + q1 + q2)) rfl ?_
      exact hn _ _ _ _ _ ⟨(ii_k hut hJ (fz_trans hf1 hf2) hii), τ, mc, T, hmc, hU, hut, ⟨hT.1, by omega⟩, hJ2, by omega, by omega⟩
set_option maxRecDepth 100000 in
theorem ll_k16 {u : Nat → Nat} {l : Nat} {kn : List (Nat × Int32)} {N : Nat} (hN : N < 512) {zi : Int32} {x : Nat → Int32} (ha : ll_a l kn zi x) {o5 o6 : Option Value} {h : am_H} {k q : Nat} (hI : ll_I u N h k q) {Q : am_R → Prop} (hn : ∀ o5 o6 h k q, ll_I u (N + 1) h k q → ll_R (ll_x l kn) (811, ll_lo u zi o5 o6, [], h, k, q) Q) : ll_R (ll_x l kn) (731, ll_lo u zi o5 o6, [], h, k, q) Q := by
  obtain ⟨hii, τ, mc, T, hmc, hU, hut, hT, hJ, hk, hq⟩ := hI
  refine ll_st ll_i731 (S' := (732, ll_lo u zi (o5) (o6), [.ref (u 1)], h, k, q)) rfl ?_
  refine ll_arg (c := 1) (zi := zi) (x := x 1) rfl rfl ll_i732 ll_i733 ll_i735 ll_i736 ll_i737 (ha 1 (by decide)).1 (ha 1 (by decide)).2 ?_
  refine ll_arg (c := 2) (zi := zi) (x := x 2) rfl rfl ll_i738 ll_i739 ll_i741 ll_i742 ll_i743 (ha 2 (by decide)).1 (ha 2 (by decide)).2 ?_
  refine ll_st ll_i744 (S' := (745, ll_lo u zi (o5) (o6), [.ref (u 39), .int (x 2), .int (x 1), .ref (u 1)], h, k, q)) rfl ?_
  refine ll_ca ll_i745 (j := 139) (as := [.ref (u 1), .int (x 1), .int (x 2), .ref (u 39)]) (pc' := 745) (lo' := ll_lo u zi (o5) (o6)) (st' := []) (h' := h) (k1 := k) (q1 := q) rfl (mj := am_m139) rfl ⟨by decide, by decide, Nat.le_of_ble_eq_true rfl⟩ ?_
  refine Rn_mono (ii_c (j := 139) rfl rfl (j_apic (xs := [.ref (u 1), .int (x 1), .int (x 2), .ref (u 39)]) hmc hU hut (j_k139 mc hmc) rfl hJ ⟨Or.inr (ll_g1 hut), ⟨Or.inr (ll_gt), ⟨Or.inr (ll_gt), ⟨Or.inr (ll_g39 hut), trivial⟩⟩⟩⟩)) (fun r hr => ?_)
  obtain ⟨hr, hf1⟩ := hr
  obtain ⟨v1, h1, k1, q1, rfl, hv, hJ1, hk1, hq1, -⟩ := hr
  rcases hv with ⟨e, -⟩ | ⟨-, z1, rfl⟩
  · cases e
  · refine ⟨some (.int z1), h1, k1, q1, rfl, ?_⟩
    show ll_R (ll_x l kn) (748, ll_lo u zi (o5) (o6), [.int z1], h1, k + k1, q + q1) Q
    refine ll_st ll_i748 (S' := (750, ll_lo u zi (some (.int z1)) (o6), [], h1, k + k1, q + q1)) rfl ?_
    refine ll_st ll_i750 (S' := (751, ll_lo u zi (some (.int z1)) (o6), [.ref (u 40)], h1, k + k1, q + q1)) rfl ?_
    refine ll_arg (c := 1) (zi := zi) (x := x 1) rfl rfl ll_i751 ll_i752 ll_i754 ll_i755 ll_i756 (ha 1 (by decide)).1 (ha 1 (by decide)).2 ?_
    refine ll_arg (c := 2) (zi := zi) (x := x 2) rfl rfl ll_i757 ll_i758 ll_i760 ll_i761 ll_i762 (ha 2 (by decide)).1 (ha 2 (by decide)).2 ?_
    obtain ⟨vs2, hv2⟩ := ll_c40 hut hJ1
    refine ll_iv (as := [.int (x 1), .int (x 2)]) (r := []) ll_i763 (j := 117) (b := 2) (d := 9) (by decide +kernel) hv2 rfl rfl rfl (Nat.le_of_ble_eq_true rfl) (mj := am_m117) rfl ⟨by decide, by decide, Nat.le_of_ble_eq_true rfl⟩ ?_
    refine Rn_mono (ii_c (j := 117) rfl rfl (j_api (xs := [.ref (u 40), .int (x 1), .int (x 2)]) hmc hU hut (j_k117 mc hmc) rfl hJ1 ⟨Or.inr (ll_g40 hut), ⟨Or.inr (ll_gt), ⟨Or.inr (ll_gt), trivial⟩⟩⟩)) (fun r hr => ?_)
    obtain ⟨hr, hf2⟩ := hr
    obtain ⟨v2, h2, k2, q2, rfl, hv, hJ2, hk2, hq2, -⟩ := hr
    rcases hv with ⟨e, -⟩ | ⟨-, z2, rfl⟩
    · cases e
    · refine ⟨some (.int z2), h2, k2, q2, rfl, ?_⟩
      show ll_R (ll_x l kn) (766, ll_lo u zi (some (.int z1)) (o6), [.int z2], h2, k + k1 + k2, q + q1 + q2) Q
      refine ll_st ll_i766 (S' := (768, ll_lo u zi (some (.int z1)) (some (.int z2)), [], h2, k + k1 + k2, q + q1 + q2)) rfl ?_
      refine ll_st ll_i768 (S' := (811, ll_lo u zi (some (.int z1)) (some (.int z2)), [], h2, k + k1 + k2, q + q1 + q2)) rfl ?_
      exact hn _ _ _ _ _ ⟨(ii_k hut hJ (fz_trans hf1 hf2) hii), τ, mc, T, hmc, hU, hut, ⟨hT.1, by omega⟩, hJ2, by omega, by omega⟩
set_option maxRecDepth 100000 in
theorem ll_k17 {u : Nat → Nat} {l : Nat} {kn : List (Nat × Int32)} {N : Nat} (hN : N < 512) {zi : Int32} {x : Nat → Int32} (ha : ll_a l kn zi x) {o5 o6 : Option Value} {h : am_H} {k q : Nat} (hI : ll_I u N h k q) {Q : am_R → Prop} (hn : ∀ o5 o6 h k q, ll_I u (N + 1) h k q → ll_R (ll_x l kn) (811, ll_lo u zi o5 o6, [], h, k, q) Q) : ll_R (ll_x l kn) (771, ll_lo u zi o5 o6, [], h, k, q) Q := by
  obtain ⟨hii, τ, mc, T, hmc, hU, hut, hT, hJ, hk, hq⟩ := hI
  refine ll_st ll_i771 (S' := (772, ll_lo u zi (o5) (o6), [.ref (u 1)], h, k, q)) rfl ?_
  refine ll_arg (c := 1) (zi := zi) (x := x 1) rfl rfl ll_i772 ll_i773 ll_i775 ll_i776 ll_i777 (ha 1 (by decide)).1 (ha 1 (by decide)).2 ?_
  refine ll_arg (c := 2) (zi := zi) (x := x 2) rfl rfl ll_i778 ll_i779 ll_i781 ll_i782 ll_i783 (ha 2 (by decide)).1 (ha 2 (by decide)).2 ?_
  refine ll_st ll_i784 (S' := (785, ll_lo u zi (o5) (o6), [.ref (u 39), .int (x 2), .int (x 1), .ref (u 1)], h, k, q)) rfl ?_
  refine ll_ca ll_i785 (j := 143) (as := [.ref (u 1), .int (x 1), .int (x 2), .ref (u 39)]) (pc' := 785) (lo' := ll_lo u zi (o5) (o6)) (st' := []) (h' := h) (k1 := k) (q1 := q) rfl (mj := am_m143) rfl ⟨by decide, by decide, Nat.le_of_ble_eq_true rfl⟩ ?_
  refine Rn_mono (ii_c (j := 143) rfl rfl (j_apic (xs := [.ref (u 1), .int (x 1), .int (x 2), .ref (u 39)]) hmc hU hut (j_k143 mc hmc) rfl hJ ⟨Or.inr (ll_g1 hut), ⟨Or.inr (ll_gt), ⟨Or.inr (ll_gt), ⟨Or.inr (ll_g39 hut), trivial⟩⟩⟩⟩)) (fun r hr => ?_)
  obtain ⟨hr, hf1⟩ := hr
  obtain ⟨v1, h1, k1, q1, rfl, hv, hJ1, hk1, hq1, -⟩ := hr
  rcases hv with ⟨e, -⟩ | ⟨-, z1, rfl⟩
  · cases e
  · refine ⟨some (.int z1), h1, k1, q1, rfl, ?_⟩
    show ll_R (ll_x l kn) (788, ll_lo u zi (o5) (o6), [.int z1], h1, k + k1, q + q1) Q
    refine ll_st ll_i788 (S' := (790, ll_lo u zi (some (.int z1)) (o6), [], h1, k + k1, q + q1)) rfl ?_
    refine ll_st ll_i790 (S' := (791, ll_lo u zi (some (.int z1)) (o6), [.ref (u 40)], h1, k + k1, q + q1)) rfl ?_
    refine ll_arg (c := 1) (zi := zi) (x := x 1) rfl rfl ll_i791 ll_i792 ll_i794 ll_i795 ll_i796 (ha 1 (by decide)).1 (ha 1 (by decide)).2 ?_
    refine ll_arg (c := 2) (zi := zi) (x := x 2) rfl rfl ll_i797 ll_i798 ll_i800 ll_i801 ll_i802 (ha 2 (by decide)).1 (ha 2 (by decide)).2 ?_
    obtain ⟨vs2, hv2⟩ := ll_c40 hut hJ1
    refine ll_iv (as := [.int (x 1), .int (x 2)]) (r := []) ll_i803 (j := 127) (b := 2) (d := 9) (by decide +kernel) hv2 rfl rfl rfl (Nat.le_of_ble_eq_true rfl) (mj := am_m127) rfl ⟨by decide, by decide, Nat.le_of_ble_eq_true rfl⟩ ?_
    refine Rn_mono (ii_c (j := 127) rfl rfl (j_api (xs := [.ref (u 40), .int (x 1), .int (x 2)]) hmc hU hut (j_k127 mc hmc) rfl hJ1 ⟨Or.inr (ll_g40 hut), ⟨Or.inr (ll_gt), ⟨Or.inr (ll_gt), trivial⟩⟩⟩)) (fun r hr => ?_)
    obtain ⟨hr, hf2⟩ := hr
    obtain ⟨v2, h2, k2, q2, rfl, hv, hJ2, hk2, hq2, -⟩ := hr
    rcases hv with ⟨e, -⟩ | ⟨-, z2, rfl⟩
    · cases e
    · refine ⟨some (.int z2), h2, k2, q2, rfl, ?_⟩
      show ll_R (ll_x l kn) (806, ll_lo u zi (some (.int z1)) (o6), [.int z2], h2, k + k1 + k2, q + q1 + q2) Q
      refine ll_st ll_i806 (S' := (808, ll_lo u zi (some (.int z1)) (some (.int z2)), [], h2, k + k1 + k2, q + q1 + q2)) rfl ?_
      refine ll_st ll_i808 (S' := (811, ll_lo u zi (some (.int z1)) (some (.int z2)), [], h2, k + k1 + k2, q + q1 + q2)) rfl ?_
      exact hn _ _ _ _ _ ⟨(ii_k hut hJ (fz_trans hf1 hf2) hii), τ, mc, T, hmc, hU, hut, ⟨hT.1, by omega⟩, hJ2, by omega, by omega⟩
set_option maxRecDepth 100000 in
theorem ll_k0 {u : Nat → Nat} {l : Nat} {kn : List (Nat × Int32)} {N : Nat} (hN : N < 512) {zi : Int32} {x : Nat → Int32} (ha : ll_a l kn zi x) {o5 o6 : Option Value} {h : am_H} {k q : Nat} (hI : ll_I u N h k q) {Q : am_R → Prop} (hn : ∀ o5 o6 h k q, ll_I u (N + 1) h k q → ll_R (ll_x l kn) (811, ll_lo u zi o5 o6, [], h, k, q) Q) : ll_R (ll_x l kn) (124, ll_lo u zi o5 o6, [], h, k, q) Q := by
  obtain ⟨hii, τ, mc, T, hmc, hU, hut, hT, hJ, hk, hq⟩ := hI
  refine ll_st ll_i124 (S' := (125, ll_lo u zi o5 o6, [.ref (u 1)], h, k, q)) rfl ?_
  refine ll_arg (c := 1) (zi := zi) (x := x 1) rfl rfl ll_i125 ll_i126 ll_i128 ll_i129 ll_i130 (ha 1 (by decide)).1 (ha 1 (by decide)).2 ?_
  refine ll_arg (c := 2) (zi := zi) (x := x 2) rfl rfl ll_i131 ll_i132 ll_i134 ll_i135 ll_i136 (ha 2 (by decide)).1 (ha 2 (by decide)).2 ?_
  refine ll_arg (c := 3) (zi := zi) (x := x 3) rfl rfl ll_i137 ll_i138 ll_i140 ll_i141 ll_i142 (ha 3 (by decide)).1 (ha 3 (by decide)).2 ?_
  refine ll_st ll_i143 (S' := (144, ll_lo u zi o5 o6, [.ref (u 39), .int (x 3), .int (x 2), .int (x 1), .ref (u 1)], h, k, q)) rfl ?_
  refine ll_ca ll_i144 (j := 137) (as := [.ref (u 1), .int (x 1), .int (x 2), .int (x 3), .ref (u 39)]) (pc' := 144) (lo' := ll_lo u zi o5 o6) (st' := []) (h' := h) (k1 := k) (q1 := q) rfl (mj := am_m137) rfl ⟨by decide, by decide, Nat.le_of_ble_eq_true rfl⟩ ?_
  refine Rn_mono (jl_mach hmc hU hut hJ (x 1) (x 2) (x 3)) (fun r hr => ?_)
  obtain ⟨z1, h1, k1, q1, rfl, hk1, hq1, -, hcase⟩ := hr
  refine ⟨some (.int z1), h1, k1, q1, rfl, ?_⟩
  show ll_R (ll_x l kn) (147, ll_lo u zi o5 o6, [.int z1], h1, k + k1, q + q1) Q
  refine ll_st ll_i147 (S' := (149, ll_lo u zi (some (.int z1)) o6, [], h1, k + k1, q + q1)) rfl ?_
  refine ll_st ll_i149 (S' := (150, ll_lo u zi (some (.int z1)) o6, [.ref (u 40)], h1, k + k1, q + q1)) rfl ?_
  refine ll_arg (c := 1) (zi := zi) (x := x 1) rfl rfl ll_i150 ll_i151 ll_i153 ll_i154 ll_i155 (ha 1 (by decide)).1 (ha 1 (by decide)).2 ?_
  refine ll_arg (c := 2) (zi := zi) (x := x 2) rfl rfl ll_i156 ll_i157 ll_i159 ll_i160 ll_i161 (ha 2 (by decide)).1 (ha 2 (by decide)).2 ?_
  refine ll_arg (c := 3) (zi := zi) (x := x 3) rfl rfl ll_i162 ll_i163 ll_i165 ll_i166 ll_i167 (ha 3 (by decide)).1 (ha 3 (by decide)).2 ?_
  rcases hcase with ⟨hJ1, hno, hz1⟩ | ⟨ok1, m8, ok2, hz1, ⟨zn, hzn, hout⟩, τ2, hU2, hut2, hH⟩
  · obtain ⟨vs2, hv2⟩ := ll_c40 hut hJ1
    refine ll_iv (as := [.int (x 1), .int (x 2), .int (x 3)]) (r := []) ll_i168 (j := 109) (b := 3) (d := 9) (by decide +kernel) hv2 rfl rfl rfl (Nat.le_of_ble_eq_true rfl) (mj := am_m109) rfl ⟨by decide, by decide, Nat.le_of_ble_eq_true rfl⟩ ?_
    refine Rn_mono (jm_machn hmc hU hut hJ1 (x 1) (x 2) (x 3) hno) (fun r hr => ?_)
    obtain ⟨z2, h2, rfl, hJ2, -, hth⟩ := hr
    have ht : ab_sl h2 (u 40) 0 = some (.int z1) ∧ z1 ≠ 0 := by
      rcases hz1 with ⟨n1, rfl⟩ | ⟨n1, rfl⟩ <;> rcases hth with ⟨n2, t2⟩ | ⟨n2, t2⟩
      · exact ⟨t2, by decide⟩
      · exact absurd n2 n1
      · exact absurd n1 n2
      · exact ⟨t2, by decide⟩
    refine ⟨some (.int z2), h2, 0, 0, rfl, ?_⟩
    show ll_R (ll_x l kn) (171, ll_lo u zi (some (.int z1)) o6, [.int z2], h2, k + k1 + 0, q + q1 + 0) Q
    refine ll_st ll_i171 (S' := (173, ll_lo u zi (some (.int z1)) (some (.int z2)), [], h2, k + k1 + 0, q + q1 + 0)) rfl ?_
    refine ll_st ll_i173 (S' := (174, ll_lo u zi (some (.int z1)) (some (.int z2)), [.ref (u 40)], h2, k + k1 + 0, q + q1 + 0)) rfl ?_
    obtain ⟨vt, hvt⟩ := ll_c40 hut hJ2
    refine ll_iv (as := []) (r := []) ll_i174 (j := 146) (b := 0) (d := 9) (by decide +kernel) hvt rfl rfl rfl (Nat.le_of_ble_eq_true rfl) (mj := am_m146) rfl ⟨by decide, by decide, Nat.le_of_ble_eq_true rfl⟩ ?_
    refine Rn_mono (th_run hut hJ2 ht.1) (fun r hr => ?_)
    subst hr
    refine ⟨some (.int z1), h2, 0, 0, rfl, ?_⟩
    show ll_R (ll_x l kn) (177, ll_lo u zi (some (.int z1)) (some (.int z2)), [.int z1], h2, k + k1 + 0 + 0, q + q1 + 0 + 0) Q
    refine ll_st ll_i177 (S' := (179, ll_lo u zi (some (.int z1)) (some (.int z2)), [.int z1, .int z1], h2, k + k1 + 0 + 0, q + q1 + 0 + 0)) rfl ?_
    refine ll_st ll_i179 (S' := (184, ll_lo u zi (some (.int z1)) (some (.int z2)), [], h2, k + k1 + 0 + 0, q + q1 + 0 + 0)) ?_ ?_
    · show am_br (decide ((z1 : Int32) = z1)) 179 5 (ll_lo u zi (some (.int z1)) (some (.int z2))) [] h2 (k + k1 + 0 + 0) (q + q1 + 0 + 0) = _
      rw [decide_eq_true rfl]
      rfl
    refine ll_st ll_i184 (S' := (186, ll_lo u zi (some (.int z1)) (some (.int z2)), [.int z1], h2, k + k1 + 0 + 0, q + q1 + 0 + 0)) rfl ?_
    refine ll_st ll_i186 (S' := (201, ll_lo u zi (some (.int z1)) (some (.int z2)), [], h2, k + k1 + 0 + 0, q + q1 + 0 + 0)) ?_ ?_
    · show am_br (!decide (z1 = 0)) 186 15 (ll_lo u zi (some (.int z1)) (some (.int z2))) [] h2 (k + k1 + 0 + 0) (q + q1 + 0 + 0) = _
      rw [decide_eq_false ht.2]
      rfl
    refine ll_st ll_i201 (S' := (811, ll_lo u zi (some (.int z1)) (some (.int z2)), [], h2, k + k1 + 0 + 0, q + q1 + 0 + 0)) rfl ?_
    exact hn _ _ _ _ _ ⟨trivial, τ, mc, T, hmc, hU, hut, ⟨hT.1, by omega⟩, hJ2, by omega, by omega⟩
  · obtain ⟨vs2, hv2⟩ := ll_ch hut2 hH
    refine ll_iv (as := [.int (x 1), .int (x 2), .int (x 3)]) (r := []) ll_i168 (j := 109) (b := 3) (d := 9) (by decide +kernel) hv2 rfl rfl rfl (Nat.le_of_ble_eq_true rfl) (mj := am_m109) rfl ⟨by decide, by decide, Nat.le_of_ble_eq_true rfl⟩ ?_
    refine Rn_mono (lo_c (j := 109) rfl rfl (jm_mach (zl := x 1) m8 hU2 hut2 hH ok1 ok2)) (fun r hr => ?_)
    obtain ⟨⟨z2, h2, rfl, hJ2, -, hz2, hth⟩, hf⟩ := hr
    have ht : ab_sl h2 (u 40) 0 = some (.int z1) := by rw [hz1]; exact hth
    refine ⟨some (.int z2), h2, 0, 0, rfl, ?_⟩
    show ll_R (ll_x l kn) (171, ll_lo u zi (some (.int z1)) o6, [.int z2], h2, k + k1 + 0, q + q1 + 0) Q
    refine ll_st ll_i171 (S' := (173, ll_lo u zi (some (.int z1)) (some (.int z2)), [], h2, k + k1 + 0, q + q1 + 0)) rfl ?_
    refine ll_st ll_i173 (S' := (174, ll_lo u zi (some (.int z1)) (some (.int z2)), [.ref (u 40)], h2, k + k1 + 0, q + q1 + 0)) rfl ?_
    obtain ⟨vt, hvt⟩ := ll_c40 hut2 hJ2
    refine ll_iv (as := []) (r := []) ll_i174 (j := 146) (b := 0) (d := 9) (by decide +kernel) hvt rfl rfl rfl (Nat.le_of_ble_eq_true rfl) (mj := am_m146) rfl ⟨by decide, by decide, Nat.le_of_ble_eq_true rfl⟩ ?_
    refine Rn_mono (th_run hut2 hJ2 ht) (fun r hr => ?_)
    subst hr
    refine ⟨some (.int z1), h2, 0, 0, rfl, ?_⟩
    show ll_R (ll_x l kn) (177, ll_lo u zi (some (.int z1)) (some (.int z2)), [.int z1], h2, k + k1 + 0 + 0, q + q1 + 0 + 0) Q
    refine ll_st ll_i177 (S' := (179, ll_lo u zi (some (.int z1)) (some (.int z2)), [.int z1, .int z1], h2, k + k1 + 0 + 0, q + q1 + 0 + 0)) rfl ?_
    refine ll_st ll_i179 (S' := (184, ll_lo u zi (some (.int z1)) (some (.int z2)), [], h2, k + k1 + 0 + 0, q + q1 + 0 + 0)) ?_ ?_
    · show am_br (decide ((z1 : Int32) = z1)) 179 5 (ll_lo u zi (some (.int z1)) (some (.int z2))) [] h2 (k + k1 + 0 + 0) (q + q1 + 0 + 0) = _
      rw [decide_eq_true rfl]
      rfl
    refine ll_st ll_i184 (S' := (186, ll_lo u zi (some (.int z1)) (some (.int z2)), [.int z1], h2, k + k1 + 0 + 0, q + q1 + 0 + 0)) rfl ?_
    refine ll_st ll_i186 (S' := (189, ll_lo u zi (some (.int z1)) (some (.int z2)), [], h2, k + k1 + 0 + 0, q + q1 + 0 + 0)) ?_ ?_
    · show am_br (!decide (z1 = 0)) 186 15 (ll_lo u zi (some (.int z1)) (some (.int z2))) [] h2 (k + k1 + 0 + 0) (q + q1 + 0 + 0) = _
      rw [decide_eq_true hz1]
      rfl
    refine ll_st ll_i189 (S' := (190, ll_lo u zi (some (.int z1)) (some (.int z2)), [.ref (u 39)], h2, k + k1 + 0 + 0, q + q1 + 0 + 0)) rfl ?_
    refine ll_st ll_i190 (S' := (191, ll_lo u zi (some (.int z1)) (some (.int z2)), [.int 0, .ref (u 39)], h2, k + k1 + 0 + 0, q + q1 + 0 + 0)) rfl ?_
    have e39 := hut2 39 (by decide +kernel)
    obtain ⟨v39, c39, -, -⟩ := hH.1 (u 39) (by rw [e39]; decide)
    rw [e39] at c39
    have c39 : h1[u 39]? = some (102, v39) := c39
    have d39 := fz_row hf c39 rfl
    rw [ab_sl_at c39] at hout
    refine ll_lald ll_i191 d39 hout ?_
    refine ll_st ll_i192 (S' := (194, ll_lo u zi (some (.int z1)) (some (.int z2)), [.int z2, .long zn.toInt64], h2, k + k1 + 0 + 0, q + q1 + 0 + 0)) rfl ?_
    refine ll_st ll_i194 (S' := (195, ll_lo u zi (some (.int z1)) (some (.int z2)), [.long z2.toInt64, .long zn.toInt64], h2, k + k1 + 0 + 0, q + q1 + 0 + 0)) rfl ?_
    refine ll_st ll_i195 (S' := (196, ll_lo u zi (some (.int z1)) (some (.int z2)), [.int (lg_cmp zn.toInt64 z2.toInt64)], h2, k + k1 + 0 + 0, q + q1 + 0 + 0)) rfl ?_
    obtain rfl : zn = z2 := ab_b_inj (hzn.trans hz2.symm)
    rw [ll_cmp0]
    refine ll_st ll_i196 (S' := (201, ll_lo u zi (some (.int z1)) (some (.int zn)), [], h2, k + k1 + 0 + 0, q + q1 + 0 + 0)) rfl ?_
    refine ll_st ll_i201 (S' := (811, ll_lo u zi (some (.int z1)) (some (.int zn)), [], h2, k + k1 + 0 + 0, q + q1 + 0 + 0)) rfl ?_
    exact hn _ _ _ _ _ ⟨trivial, τ2, mc + 1, T, by omega, hU2, hut2, ⟨hT.1, by omega⟩, hJ2, by omega, by omega⟩
