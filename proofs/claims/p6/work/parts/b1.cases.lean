/-! ===== the cases of the law ===== -/
theorem ll_jn (z : Int32) : j_n z ≤ 60 := by
  unfold j_n
  split <;> omega
set_option maxRecDepth 100000 in
theorem ll_k1 {u : Nat → Nat} {l : Nat} {kn : List (Nat × Int32)} {N : Nat} (hN : N < 512) {zi : Int32} {x : Nat → Int32} (ha : ll_a l kn zi x) {o5 o6 : Option Value} {h : am_H} {k q : Nat} (hI : ll_I u N h k q) {Q : am_R → Prop} (hn : ∀ o5 o6 h k q, ll_I u (N + 1) h k q → ll_R (ll_x l kn) (783, ll_lo u zi o5 o6, [], h, k, q) Q) : ll_R (ll_x l kn) (176, ll_lo u zi o5 o6, [], h, k, q) Q := by
  obtain ⟨hii, τ, mc, T, hmc, hU, hut, hT, hJ, hk, hq⟩ := hI
  refine ll_st ll_i176 (S' := (177, ll_lo u zi (o5) (o6), [.ref (u 1)], h, k, q)) rfl ?_
  refine ll_arg (c := 1) (zi := zi) (x := x 1) rfl rfl ll_i177 ll_i178 ll_i180 ll_i181 ll_i182 (ha 1 (by decide)).1 (ha 1 (by decide)).2 ?_
  refine ll_arg (c := 2) (zi := zi) (x := x 2) rfl rfl ll_i183 ll_i184 ll_i186 ll_i187 ll_i188 (ha 2 (by decide)).1 (ha 2 (by decide)).2 ?_
  refine ll_ca ll_i189 (j := 138) (as := [.ref (u 1), .int (x 1), .int (x 2)]) (pc' := 189) (lo' := ll_lo u zi (o5) (o6)) (st' := []) (h' := h) (k1 := k) (q1 := q) rfl (mj := am_m138) rfl ⟨by decide, by decide, Nat.le_of_ble_eq_true rfl⟩ ?_
  refine Rn_mono (ii_c (j := 138) rfl rfl (j_apic (xs := [.ref (u 1), .int (x 1), .int (x 2)]) hmc hU hut (j_k138 mc hmc) rfl hJ ⟨Or.inr (ll_g1 hut), ⟨Or.inr (ll_gt), ⟨Or.inr (ll_gt), trivial⟩⟩⟩)) (fun r hr => ?_)
  obtain ⟨hr, hf1⟩ := hr
  obtain ⟨v1, h1, k1, q1, rfl, hv, hJ1, hk1, hq1, -⟩ := hr
  rcases hv with ⟨e, -⟩ | ⟨-, z1, rfl⟩
  · cases e
  · refine ⟨some (.int z1), h1, k1, q1, rfl, ?_⟩
    show ll_R (ll_x l kn) (192, ll_lo u zi (o5) (o6), [.int z1], h1, k + k1, q + q1) Q
    refine ll_st ll_i192 (S' := (194, ll_lo u zi (some (.int z1)) (o6), [], h1, k + k1, q + q1)) rfl ?_
    refine ll_st ll_i194 (S' := (195, ll_lo u zi (some (.int z1)) (o6), [.ref (u 40)], h1, k + k1, q + q1)) rfl ?_
    refine ll_arg (c := 1) (zi := zi) (x := x 1) rfl rfl ll_i195 ll_i196 ll_i198 ll_i199 ll_i200 (ha 1 (by decide)).1 (ha 1 (by decide)).2 ?_
    refine ll_arg (c := 2) (zi := zi) (x := x 2) rfl rfl ll_i201 ll_i202 ll_i204 ll_i205 ll_i206 (ha 2 (by decide)).1 (ha 2 (by decide)).2 ?_
    obtain ⟨vs2, hv2⟩ := ll_c40 hut hJ1
    refine ll_iv (as := [.int (x 1), .int (x 2)]) (r := []) ll_i207 (j := 110) (b := 2) (d := 9) (by decide +kernel) hv2 rfl rfl rfl (Nat.le_of_ble_eq_true rfl) (mj := am_m110) rfl ⟨by decide, by decide, Nat.le_of_ble_eq_true rfl⟩ ?_
    refine Rn_mono (ii_c (j := 110) rfl rfl (jm_move hmc hU hut hJ1 (x 1) (x 2))) (fun r hr => ?_)
    obtain ⟨hr, hf2⟩ := hr
    obtain ⟨h2, rfl, hJ2, -⟩ := hr
    refine ⟨none, h2, 0, 0, rfl, ?_⟩
    show ll_R (ll_x l kn) (210, ll_lo u zi (some (.int z1)) (o6), [], h2, k + k1 + 0, q + q1 + 0) Q
    refine ll_st ll_i210 (S' := (783, ll_lo u zi (some (.int z1)) (o6), [], h2, k + k1 + 0, q + q1 + 0)) rfl ?_
    exact hn _ _ _ _ _ ⟨(ii_k hut hJ (fz_trans hf1 hf2) hii), τ, mc, T, hmc, hU, hut, ⟨hT.1, by omega⟩, hJ2, by omega, by omega⟩
set_option maxRecDepth 100000 in
theorem ll_k2 {u : Nat → Nat} {l : Nat} {kn : List (Nat × Int32)} {N : Nat} (hN : N < 512) {zi : Int32} {x : Nat → Int32} (ha : ll_a l kn zi x) {o5 o6 : Option Value} {h : am_H} {k q : Nat} (hI : ll_I u N h k q) {Q : am_R → Prop} (hn : ∀ o5 o6 h k q, ll_I u (N + 1) h k q → ll_R (ll_x l kn) (783, ll_lo u zi o5 o6, [], h, k, q) Q) : ll_R (ll_x l kn) (213, ll_lo u zi o5 o6, [], h, k, q) Q := by
  obtain ⟨hii, τ, mc, T, hmc, hU, hut, hT, hJ, hk, hq⟩ := hI
  refine ll_st ll_i213 (S' := (214, ll_lo u zi (o5) (o6), [.ref (u 1)], h, k, q)) rfl ?_
  refine ll_arg (c := 1) (zi := zi) (x := x 1) rfl rfl ll_i214 ll_i215 ll_i217 ll_i218 ll_i219 (ha 1 (by decide)).1 (ha 1 (by decide)).2 ?_
  refine ll_arg (c := 2) (zi := zi) (x := x 2) rfl rfl ll_i220 ll_i221 ll_i223 ll_i224 ll_i225 (ha 2 (by decide)).1 (ha 2 (by decide)).2 ?_
  refine ll_arg (c := 3) (zi := zi) (x := x 3) rfl rfl ll_i226 ll_i227 ll_i229 ll_i230 ll_i231 (ha 3 (by decide)).1 (ha 3 (by decide)).2 ?_
  refine ll_ca ll_i232 (j := 142) (as := [.ref (u 1), .int (x 1), .int (x 2), .int (x 3)]) (pc' := 232) (lo' := ll_lo u zi (o5) (o6)) (st' := []) (h' := h) (k1 := k) (q1 := q) rfl (mj := am_m142) rfl ⟨by decide, by decide, Nat.le_of_ble_eq_true rfl⟩ ?_
  refine Rn_mono (ii_c (j := 142) rfl rfl (j_apic (xs := [.ref (u 1), .int (x 1), .int (x 2), .int (x 3)]) hmc hU hut (j_k142 mc hmc) rfl hJ ⟨Or.inr (ll_g1 hut), ⟨Or.inr (ll_gt), ⟨Or.inr (ll_gt), ⟨Or.inr (ll_gt), trivial⟩⟩⟩⟩)) (fun r hr => ?_)
  obtain ⟨hr, hf1⟩ := hr
  obtain ⟨v1, h1, k1, q1, rfl, hv, hJ1, hk1, hq1, -⟩ := hr
  rcases hv with ⟨e, -⟩ | ⟨-, z1, rfl⟩
  · cases e
  · refine ⟨some (.int z1), h1, k1, q1, rfl, ?_⟩
    show ll_R (ll_x l kn) (235, ll_lo u zi (o5) (o6), [.int z1], h1, k + k1, q + q1) Q
    refine ll_st ll_i235 (S' := (237, ll_lo u zi (some (.int z1)) (o6), [], h1, k + k1, q + q1)) rfl ?_
    refine ll_st ll_i237 (S' := (238, ll_lo u zi (some (.int z1)) (o6), [.ref (u 40)], h1, k + k1, q + q1)) rfl ?_
    refine ll_arg (c := 1) (zi := zi) (x := x 1) rfl rfl ll_i238 ll_i239 ll_i241 ll_i242 ll_i243 (ha 1 (by decide)).1 (ha 1 (by decide)).2 ?_
    refine ll_arg (c := 2) (zi := zi) (x := x 2) rfl rfl ll_i244 ll_i245 ll_i247 ll_i248 ll_i249 (ha 2 (by decide)).1 (ha 2 (by decide)).2 ?_
    refine ll_arg (c := 3) (zi := zi) (x := x 3) rfl rfl ll_i250 ll_i251 ll_i253 ll_i254 ll_i255 (ha 3 (by decide)).1 (ha 3 (by decide)).2 ?_
    obtain ⟨vs2, hv2⟩ := ll_c40 hut hJ1
    refine ll_iv (as := [.int (x 1), .int (x 2), .int (x 3)]) (r := []) ll_i256 (j := 121) (b := 3) (d := 9) (by decide +kernel) hv2 rfl rfl rfl (Nat.le_of_ble_eq_true rfl) (mj := am_m121) rfl ⟨by decide, by decide, Nat.le_of_ble_eq_true rfl⟩ ?_
    refine Rn_mono (ii_c (j := 121) rfl rfl (j_api (xs := [.ref (u 40), .int (x 1), .int (x 2), .int (x 3)]) hmc hU hut (j_k121 mc hmc) rfl hJ1 ⟨Or.inr (ll_g40 hut), ⟨Or.inr (ll_gt), ⟨Or.inr (ll_gt), ⟨Or.inr (ll_gt), trivial⟩⟩⟩⟩)) (fun r hr => ?_)
    obtain ⟨hr, hf2⟩ := hr
    obtain ⟨v2, h2, k2, q2, rfl, hv, hJ2, hk2, hq2, -⟩ := hr
    rcases hv with ⟨-, rfl⟩ | ⟨e, -⟩
    · refine ⟨none, h2, k2, q2, rfl, ?_⟩
      show ll_R (ll_x l kn) (259, ll_lo u zi (some (.int z1)) (o6), [], h2, k + k1 + k2, q + q1 + q2) Q
      refine ll_st ll_i259 (S' := (783, ll_lo u zi (some (.int z1)) (o6), [], h2, k + k1 + k2, q + q1 + q2)) rfl ?_
      exact hn _ _ _ _ _ ⟨(ii_k hut hJ (fz_trans hf1 hf2) hii), τ, mc, T, hmc, hU, hut, ⟨hT.1, by omega⟩, hJ2, by omega, by omega⟩
    · cases e
set_option maxRecDepth 100000 in
theorem ll_k3 {u : Nat → Nat} {l : Nat} {kn : List (Nat × Int32)} {N : Nat} (hN : N < 512) {zi : Int32} {x : Nat → Int32} (ha : ll_a l kn zi x) {o5 o6 : Option Value} {h : am_H} {k q : Nat} (hI : ll_I u N h k q) {Q : am_R → Prop} (hn : ∀ o5 o6 h k q, ll_I u (N + 1) h k q → ll_R (ll_x l kn) (783, ll_lo u zi o5 o6, [], h, k, q) Q) : ll_R (ll_x l kn) (262, ll_lo u zi o5 o6, [], h, k, q) Q := by
  obtain ⟨hii, τ, mc, T, hmc, hU, hut, hT, hJ, hk, hq⟩ := hI
  refine ll_st ll_i262 (S' := (263, ll_lo u zi (o5) (o6), [.ref (u 1)], h, k, q)) rfl ?_
  refine ll_arg (c := 1) (zi := zi) (x := x 1) rfl rfl ll_i263 ll_i264 ll_i266 ll_i267 ll_i268 (ha 1 (by decide)).1 (ha 1 (by decide)).2 ?_
  refine ll_arg (c := 2) (zi := zi) (x := x 2) rfl rfl ll_i269 ll_i270 ll_i272 ll_i273 ll_i274 (ha 2 (by decide)).1 (ha 2 (by decide)).2 ?_
  refine ll_bool ll_i275 ll_i278 ll_i279 ll_i282 (fun b1 hb1 hx1 => ?_)
  refine ll_ca ll_i283 (j := 135) (as := [.ref (u 1), .int (x 1), .int b1]) (pc' := 283) (lo' := ll_lo u zi (o5) (o6)) (st' := []) (h' := h) (k1 := k) (q1 := q) rfl (mj := am_m135) rfl ⟨by decide, by decide, Nat.le_of_ble_eq_true rfl⟩ ?_
  refine Rn_mono (ii_c (j := 135) rfl rfl (j_apic (xs := [.ref (u 1), .int (x 1), .int b1]) hmc hU hut (j_k135 mc hmc) rfl hJ ⟨Or.inr (ll_g1 hut), ⟨Or.inr (ll_gt), ⟨Or.inr (ll_gb hb1), trivial⟩⟩⟩)) (fun r hr => ?_)
  obtain ⟨hr, hf1⟩ := hr
  obtain ⟨v1, h1, k1, q1, rfl, hv, hJ1, hk1, hq1, -⟩ := hr
  rcases hv with ⟨e, -⟩ | ⟨-, z1, rfl⟩
  · cases e
  · refine ⟨some (.int z1), h1, k1, q1, rfl, ?_⟩
    show ll_R (ll_x l kn) (286, ll_lo u zi (o5) (o6), [.int z1], h1, k + k1, q + q1) Q
    refine ll_st ll_i286 (S' := (288, ll_lo u zi (some (.int z1)) (o6), [], h1, k + k1, q + q1)) rfl ?_
    refine ll_st ll_i288 (S' := (289, ll_lo u zi (some (.int z1)) (o6), [.ref (u 40)], h1, k + k1, q + q1)) rfl ?_
    refine ll_arg (c := 1) (zi := zi) (x := x 1) rfl rfl ll_i289 ll_i290 ll_i292 ll_i293 ll_i294 (ha 1 (by decide)).1 (ha 1 (by decide)).2 ?_
    refine ll_arg (c := 2) (zi := zi) (x := x 2) rfl rfl ll_i295 ll_i296 ll_i298 ll_i299 ll_i300 (ha 2 (by decide)).1 (ha 2 (by decide)).2 ?_
    refine ll_bool ll_i301 ll_i304 ll_i305 ll_i308 (fun b2 hb2 hx2 => ?_)
    obtain ⟨vs2, hv2⟩ := ll_c40 hut hJ1
    refine ll_iv (as := [.int (x 1), .int b2]) (r := []) ll_i309 (j := 106) (b := 2) (d := 9) (by decide +kernel) hv2 rfl rfl rfl (Nat.le_of_ble_eq_true rfl) (mj := am_m106) rfl ⟨by decide, by decide, Nat.le_of_ble_eq_true rfl⟩ ?_
    refine Rn_mono (ii_c (j := 106) rfl rfl (j_api (xs := [.ref (u 40), .int (x 1), .int b2]) hmc hU hut (j_k106 mc hmc) rfl hJ1 ⟨Or.inr (ll_g40 hut), ⟨Or.inr (ll_gt), ⟨Or.inr (ll_gb hb2), trivial⟩⟩⟩)) (fun r hr => ?_)
    obtain ⟨hr, hf2⟩ := hr
    obtain ⟨v2, h2, k2, q2, rfl, hv, hJ2, hk2, hq2, -⟩ := hr
    rcases hv with ⟨-, rfl⟩ | ⟨e, -⟩
    · refine ⟨none, h2, k2, q2, rfl, ?_⟩
      show ll_R (ll_x l kn) (312, ll_lo u zi (some (.int z1)) (o6), [], h2, k + k1 + k2, q + q1 + q2) Q
      refine ll_st ll_i312 (S' := (783, ll_lo u zi (some (.int z1)) (o6), [], h2, k + k1 + k2, q + q1 + q2)) rfl ?_
      exact hn _ _ _ _ _ ⟨(ii_k hut hJ (fz_trans hf1 hf2) hii), τ, mc, T, hmc, hU, hut, ⟨hT.1, by omega⟩, hJ2, by omega, by omega⟩
    · cases e
set_option maxRecDepth 100000 in
theorem ll_k5 {u : Nat → Nat} {l : Nat} {kn : List (Nat × Int32)} {N : Nat} (hN : N < 512) {zi : Int32} {x : Nat → Int32} (ha : ll_a l kn zi x) {o5 o6 : Option Value} {h : am_H} {k q : Nat} (hI : ll_I u N h k q) {Q : am_R → Prop} (hn : ∀ o5 o6 h k q, ll_I u (N + 1) h k q → ll_R (ll_x l kn) (783, ll_lo u zi o5 o6, [], h, k, q) Q) : ll_R (ll_x l kn) (356, ll_lo u zi o5 o6, [], h, k, q) Q := by
  obtain ⟨hii, τ, mc, T, hmc, hU, hut, hT, hJ, hk, hq⟩ := hI
  refine ll_st ll_i356 (S' := (357, ll_lo u zi (o5) (o6), [.ref (u 1)], h, k, q)) rfl ?_
  refine ll_arg (c := 1) (zi := zi) (x := x 1) rfl rfl ll_i357 ll_i358 ll_i360 ll_i361 ll_i362 (ha 1 (by decide)).1 (ha 1 (by decide)).2 ?_
  refine ll_st ll_i363 (S' := (364, ll_lo u zi (o5) (o6), [.ref (u 39), .int (x 1), .ref (u 1)], h, k, q)) rfl ?_
  refine ll_ca ll_i364 (j := 136) (as := [.ref (u 1), .int (x 1), .ref (u 39)]) (pc' := 364) (lo' := ll_lo u zi (o5) (o6)) (st' := []) (h' := h) (k1 := k) (q1 := q) rfl (mj := am_m136) rfl ⟨by decide, by decide, Nat.le_of_ble_eq_true rfl⟩ ?_
  refine Rn_mono (ii_c (j := 136) rfl rfl (j_apic (xs := [.ref (u 1), .int (x 1), .ref (u 39)]) hmc hU hut (j_k136 mc hmc) rfl hJ ⟨Or.inr (ll_g1 hut), ⟨Or.inr (ll_gt), ⟨Or.inr (ll_g39 hut), trivial⟩⟩⟩)) (fun r hr => ?_)
  obtain ⟨hr, hf1⟩ := hr
  obtain ⟨v1, h1, k1, q1, rfl, hv, hJ1, hk1, hq1, -⟩ := hr
  rcases hv with ⟨e, -⟩ | ⟨-, z1, rfl⟩
  · cases e
  · refine ⟨some (.int z1), h1, k1, q1, rfl, ?_⟩
    show ll_R (ll_x l kn) (367, ll_lo u zi (o5) (o6), [.int z1], h1, k + k1, q + q1) Q
    refine ll_st ll_i367 (S' := (369, ll_lo u zi (some (.int z1)) (o6), [], h1, k + k1, q + q1)) rfl ?_
    refine ll_st ll_i369 (S' := (370, ll_lo u zi (some (.int z1)) (o6), [.ref (u 40)], h1, k + k1, q + q1)) rfl ?_
    refine ll_arg (c := 1) (zi := zi) (x := x 1) rfl rfl ll_i370 ll_i371 ll_i373 ll_i374 ll_i375 (ha 1 (by decide)).1 (ha 1 (by decide)).2 ?_
    obtain ⟨vs2, hv2⟩ := ll_c40 hut hJ1
    refine ll_iv (as := [.int (x 1)]) (r := []) ll_i376 (j := 108) (b := 1) (d := 9) (by decide +kernel) hv2 rfl rfl rfl (Nat.le_of_ble_eq_true rfl) (mj := am_m108) rfl ⟨by decide, by decide, Nat.le_of_ble_eq_true rfl⟩ ?_
    refine Rn_mono (ii_c (j := 108) rfl rfl (j_api (xs := [.ref (u 40), .int (x 1)]) hmc hU hut (j_k108 mc hmc) rfl hJ1 ⟨Or.inr (ll_g40 hut), ⟨Or.inr (ll_gt), trivial⟩⟩)) (fun r hr => ?_)
    obtain ⟨hr, hf2⟩ := hr
    obtain ⟨v2, h2, k2, q2, rfl, hv, hJ2, hk2, hq2, -⟩ := hr
    rcases hv with ⟨e, -⟩ | ⟨-, z2, rfl⟩
    · cases e
    · refine ⟨some (.int z2), h2, k2, q2, rfl, ?_⟩
      show ll_R (ll_x l kn) (379, ll_lo u zi (some (.int z1)) (o6), [.int z2], h2, k + k1 + k2, q + q1 + q2) Q
      refine ll_st ll_i379 (S' := (381, ll_lo u zi (some (.int z1)) (some (.int z2)), [], h2, k + k1 + k2, q + q1 + q2)) rfl ?_
      refine ll_st ll_i381 (S' := (783, ll_lo u zi (some (.int z1)) (some (.int z2)), [], h2, k + k1 + k2, q + q1 + q2)) rfl ?_
      exact hn _ _ _ _ _ ⟨(ii_k hut hJ (fz_trans hf1 hf2) hii), τ, mc, T, hmc, hU, hut, ⟨hT.1, by omega⟩, hJ2, by omega, by omega⟩
set_option maxRecDepth 100000 in
theorem ll_k6 {u : Nat → Nat} {l : Nat} {kn : List (Nat × Int32)} {N : Nat} (hN : N < 512) {zi : Int32} {x : Nat → Int32} (ha : ll_a l kn zi x) {o5 o6 : Option Value} {h : am_H} {k q : Nat} (hI : ll_I u N h k q) {Q : am_R → Prop} (hn : ∀ o5 o6 h k q, ll_I u (N + 1) h k q → ll_R (ll_x l kn) (783, ll_lo u zi o5 o6, [], h, k, q) Q) : ll_R (ll_x l kn) (384, ll_lo u zi o5 o6, [], h, k, q) Q := by
  obtain ⟨hii, τ, mc, T, hmc, hU, hut, hT, hJ, hk, hq⟩ := hI
  refine ll_st ll_i384 (S' := (385, ll_lo u zi (o5) (o6), [.ref (u 1)], h, k, q)) rfl ?_
  refine ll_arg (c := 1) (zi := zi) (x := x 1) rfl rfl ll_i385 ll_i386 ll_i388 ll_i389 ll_i390 (ha 1 (by decide)).1 (ha 1 (by decide)).2 ?_
  refine ll_st ll_i391 (S' := (392, ll_lo u zi (o5) (o6), [.ref (u 39), .int (x 1), .ref (u 1)], h, k, q)) rfl ?_
  refine ll_ca ll_i392 (j := 141) (as := [.ref (u 1), .int (x 1), .ref (u 39)]) (pc' := 392) (lo' := ll_lo u zi (o5) (o6)) (st' := []) (h' := h) (k1 := k) (q1 := q) rfl (mj := am_m141) rfl ⟨by decide, by decide, Nat.le_of_ble_eq_true rfl⟩ ?_
  have hjn := ll_jn (x 1)
  refine Rn_mono (ii_c (j := 141) rfl rfl (jl_run hmc hU hut ⟨hT.1, by omega⟩ hJ (x 1))) (fun r hr => ?_)
  obtain ⟨hr, hf1⟩ := hr
  obtain ⟨z1, h1, k1, q1, rfl, hJ1, hk1, hq1, -⟩ := hr
  refine ⟨some (.int z1), h1, k1, q1, rfl, ?_⟩
  show ll_R (ll_x l kn) (395, ll_lo u zi (o5) (o6), [.int z1], h1, k + k1, q + q1) Q
  refine ll_st ll_i395 (S' := (397, ll_lo u zi (some (.int z1)) (o6), [], h1, k + k1, q + q1)) rfl ?_
  refine ll_st ll_i397 (S' := (398, ll_lo u zi (some (.int z1)) (o6), [.ref (u 40)], h1, k + k1, q + q1)) rfl ?_
  refine ll_arg (c := 1) (zi := zi) (x := x 1) rfl rfl ll_i398 ll_i399 ll_i401 ll_i402 ll_i403 (ha 1 (by decide)).1 (ha 1 (by decide)).2 ?_
  obtain ⟨vs2, hv2⟩ := ll_c40 hut hJ1
  refine ll_iv (as := [.int (x 1)]) (r := []) ll_i404 (j := 119) (b := 1) (d := 9) (by decide +kernel) hv2 rfl rfl rfl (Nat.le_of_ble_eq_true rfl) (mj := am_m119) rfl ⟨by decide, by decide, Nat.le_of_ble_eq_true rfl⟩ ?_
  refine Rn_mono (ii_c (j := 119) rfl rfl (jm_run hmc hU hut ⟨hT.1, by omega⟩ hJ1 (x 1))) (fun r hr => ?_)
  obtain ⟨hr, hf2⟩ := hr
  obtain ⟨z2, h2, rfl, hJ2, -⟩ := hr
  refine ⟨some (.int z2), h2, 0, 0, rfl, ?_⟩
  show ll_R (ll_x l kn) (407, ll_lo u zi (some (.int z1)) (o6), [.int z2], h2, k + k1 + 0, q + q1 + 0) Q
  refine ll_st ll_i407 (S' := (409, ll_lo u zi (some (.int z1)) (some (.int z2)), [], h2, k + k1 + 0, q + q1 + 0)) rfl ?_
  refine ll_st ll_i409 (S' := (783, ll_lo u zi (some (.int z1)) (some (.int z2)), [], h2, k + k1 + 0, q + q1 + 0)) rfl ?_
  exact hn _ _ _ _ _ ⟨(ii_k hut hJ (fz_trans hf1 hf2) hii), τ, mc, T + j_n (x 1), hmc, hU, hut, ⟨by omega, by omega⟩, hJ2, by omega, by omega⟩
set_option maxRecDepth 100000 in
theorem ll_k7 {u : Nat → Nat} {l : Nat} {kn : List (Nat × Int32)} {N : Nat} (hN : N < 512) {zi : Int32} {x : Nat → Int32} (ha : ll_a l kn zi x) {o5 o6 : Option Value} {h : am_H} {k q : Nat} (hI : ll_I u N h k q) {Q : am_R → Prop} (hn : ∀ o5 o6 h k q, ll_I u (N + 1) h k q → ll_R (ll_x l kn) (783, ll_lo u zi o5 o6, [], h, k, q) Q) : ll_R (ll_x l kn) (412, ll_lo u zi o5 o6, [], h, k, q) Q := by
  obtain ⟨hii, τ, mc, T, hmc, hU, hut, hT, hJ, hk, hq⟩ := hI
  refine ll_st ll_i412 (S' := (413, ll_lo u zi (o5) (o6), [.ref (u 1)], h, k, q)) rfl ?_
  obtain ⟨vs1, hv1⟩ := ll_c1 hut hJ
  refine ll_iv (as := []) (r := []) ll_i413 (j := 23) (b := 0) (d := 0) (by decide +kernel) hv1 rfl rfl rfl (Nat.le_of_ble_eq_true rfl) (mj := am_m23) rfl ⟨by decide, by decide, Nat.le_of_ble_eq_true rfl⟩ ?_
  refine Rn_mono (ii_c (j := 23) rfl rfl (jc_now (Q := fun r => ∃ z : Int32, ab_b z = T ∧ r = (.inl (some (.int z)), h, 0, 0)) hmc hU hut hJ (fun z hz => ⟨z, hz, rfl⟩))) (fun r hr => ?_)
  obtain ⟨⟨z1, hz1, rfl⟩, hf1⟩ := hr
  refine ⟨some (.int z1), h, 0, 0, rfl, ?_⟩
  show ll_R (ll_x l kn) (416, ll_lo u zi (o5) (o6), [.int z1], h, k + 0, q + 0) Q
  refine ll_st ll_i416 (S' := (417, ll_lo u zi (o5) (o6), [], h, k + 0, q + 0)) rfl ?_
  refine ll_st ll_i417 (S' := (418, ll_lo u zi (o5) (o6), [.ref (u 40)], h, k + 0, q + 0)) rfl ?_
  obtain ⟨vs2, hv2⟩ := ll_c40 hut hJ
  refine ll_iv (as := []) (r := []) ll_i418 (j := 112) (b := 0) (d := 9) (by decide +kernel) hv2 rfl rfl rfl (Nat.le_of_ble_eq_true rfl) (mj := am_m112) rfl ⟨by decide, by decide, Nat.le_of_ble_eq_true rfl⟩ ?_
  refine Rn_mono (ii_c (j := 112) rfl rfl (jm_now (Q := fun r => ∃ (z : Int32) (h2 : am_H), ab_b z = T ∧ j_J τ u mc T T h2 ∧ r = (.inl (some (.int z)), h2, 0, 0)) hmc hU hut hJ (fun z h2 hz hJ2 _ => ⟨z, h2, hz, hJ2, rfl⟩))) (fun r hr => ?_)
  obtain ⟨⟨z2, h2, hz2, hJ2, rfl⟩, hf2⟩ := hr
  refine ⟨some (.int z2), h2, 0, 0, rfl, ?_⟩
  show ll_R (ll_x l kn) (421, ll_lo u zi (o5) (o6), [.int z2], h2, k + 0 + 0, q + 0 + 0) Q
  refine ll_st ll_i421 (S' := (422, ll_lo u zi (o5) (o6), [], h2, k + 0 + 0, q + 0 + 0)) rfl ?_
  refine ll_st ll_i422 (S' := (783, ll_lo u zi (o5) (o6), [], h2, k + 0 + 0, q + 0 + 0)) rfl ?_
  exact hn _ _ _ _ _ ⟨(ii_k hut hJ (fz_trans hf1 hf2) hii), τ, mc, T, hmc, hU, hut, ⟨hT.1, by omega⟩, hJ2, by omega, by omega⟩
set_option maxRecDepth 100000 in
theorem ll_k8 {u : Nat → Nat} {l : Nat} {kn : List (Nat × Int32)} {N : Nat} (hN : N < 512) {zi : Int32} {x : Nat → Int32} (ha : ll_a l kn zi x) {o5 o6 : Option Value} {h : am_H} {k q : Nat} (hI : ll_I u N h k q) {Q : am_R → Prop} (hn : ∀ o5 o6 h k q, ll_I u (N + 1) h k q → ll_R (ll_x l kn) (783, ll_lo u zi o5 o6, [], h, k, q) Q) : ll_R (ll_x l kn) (425, ll_lo u zi o5 o6, [], h, k, q) Q := by
  obtain ⟨hii, τ, mc, T, hmc, hU, hut, hT, hJ, hk, hq⟩ := hI
  refine ll_st ll_i425 (S' := (426, ll_lo u zi (o5) (o6), [.ref (u 1)], h, k, q)) rfl ?_
  refine ll_arg (c := 1) (zi := zi) (x := x 1) rfl rfl ll_i426 ll_i427 ll_i429 ll_i430 ll_i431 (ha 1 (by decide)).1 (ha 1 (by decide)).2 ?_
  refine ll_arg (c := 2) (zi := zi) (x := x 2) rfl rfl ll_i432 ll_i433 ll_i435 ll_i436 ll_i437 (ha 2 (by decide)).1 (ha 2 (by decide)).2 ?_
  refine ll_st ll_i438 (S' := (439, ll_lo u zi (o5) (o6), [.ref (u 39), .int (x 2), .int (x 1), .ref (u 1)], h, k, q)) rfl ?_
  refine ll_ca ll_i439 (j := 130) (as := [.ref (u 1), .int (x 1), .int (x 2), .ref (u 39)]) (pc' := 439) (lo' := ll_lo u zi (o5) (o6)) (st' := []) (h' := h) (k1 := k) (q1 := q) rfl (mj := am_m130) rfl ⟨by decide, by decide, Nat.le_of_ble_eq_true rfl⟩ ?_
  refine Rn_mono (ii_c (j := 130) rfl rfl (j_apic (xs := [.ref (u 1), .int (x 1), .int (x 2), .ref (u 39)]) hmc hU hut (j_k130 mc hmc) rfl hJ ⟨Or.inr (ll_g1 hut), ⟨Or.inr (ll_gt), ⟨Or.inr (ll_gt), ⟨Or.inr (ll_g39 hut), trivial⟩⟩⟩⟩)) (fun r hr => ?_)
  obtain ⟨hr, hf1⟩ := hr
  obtain ⟨v1, h1, k1, q1, rfl, hv, hJ1, hk1, hq1, -⟩ := hr
  rcases hv with ⟨e, -⟩ | ⟨-, z1, rfl⟩
  · cases e
  · refine ⟨some (.int z1), h1, k1, q1, rfl, ?_⟩
    show ll_R (ll_x l kn) (442, ll_lo u zi (o5) (o6), [.int z1], h1, k + k1, q + q1) Q
    refine ll_st ll_i442 (S' := (444, ll_lo u zi (some (.int z1)) (o6), [], h1, k + k1, q + q1)) rfl ?_
    refine ll_st ll_i444 (S' := (445, ll_lo u zi (some (.int z1)) (o6), [.ref (u 40)], h1, k + k1, q + q1)) rfl ?_
    refine ll_arg (c := 1) (zi := zi) (x := x 1) rfl rfl ll_i445 ll_i446 ll_i448 ll_i449 ll_i450 (ha 1 (by decide)).1 (ha 1 (by decide)).2 ?_
    refine ll_arg (c := 2) (zi := zi) (x := x 2) rfl rfl ll_i451 ll_i452 ll_i454 ll_i455 ll_i456 (ha 2 (by decide)).1 (ha 2 (by decide)).2 ?_
    obtain ⟨vs2, hv2⟩ := ll_c40 hut hJ1
    refine ll_iv (as := [.int (x 1), .int (x 2)]) (r := []) ll_i457 (j := 88) (b := 2) (d := 9) (by decide +kernel) hv2 rfl rfl rfl (Nat.le_of_ble_eq_true rfl) (mj := am_m88) rfl ⟨by decide, by decide, Nat.le_of_ble_eq_true rfl⟩ ?_
    refine Rn_mono (ii_c (j := 88) rfl rfl (j_api (xs := [.ref (u 40), .int (x 1), .int (x 2)]) hmc hU hut (j_k88 mc hmc) rfl hJ1 ⟨Or.inr (ll_g40 hut), ⟨Or.inr (ll_gt), ⟨Or.inr (ll_gt), trivial⟩⟩⟩)) (fun r hr => ?_)
    obtain ⟨hr, hf2⟩ := hr
    obtain ⟨v2, h2, k2, q2, rfl, hv, hJ2, hk2, hq2, -⟩ := hr
    rcases hv with ⟨e, -⟩ | ⟨-, z2, rfl⟩
    · cases e
    · refine ⟨some (.int z2), h2, k2, q2, rfl, ?_⟩
      show ll_R (ll_x l kn) (460, ll_lo u zi (some (.int z1)) (o6), [.int z2], h2, k + k1 + k2, q + q1 + q2) Q
      refine ll_st ll_i460 (S' := (462, ll_lo u zi (some (.int z1)) (some (.int z2)), [], h2, k + k1 + k2, q + q1 + q2)) rfl ?_
      refine ll_st ll_i462 (S' := (783, ll_lo u zi (some (.int z1)) (some (.int z2)), [], h2, k + k1 + k2, q + q1 + q2)) rfl ?_
      exact hn _ _ _ _ _ ⟨(ii_k hut hJ (fz_trans hf1 hf2) hii), τ, mc, T, hmc, hU, hut, ⟨hT.1, by omega⟩, hJ2, by omega, by omega⟩
set_option maxRecDepth 100000 in
theorem ll_k9 {u : Nat → Nat} {l : Nat} {kn : List (Nat × Int32)} {N : Nat} (hN : N < 512) {zi : Int32} {x : Nat → Int32} (ha : ll_a l kn zi x) {o5 o6 : Option Value} {h : am_H} {k q : Nat} (hI : ll_I u N h k q) {Q : am_R → Prop} (hn : ∀ o5 o6 h k q, ll_I u (N + 1) h k q → ll_R (ll_x l kn) (783, ll_lo u zi o5 o6, [], h, k, q) Q) : ll_R (ll_x l kn) (465, ll_lo u zi o5 o6, [], h, k, q) Q := by
  obtain ⟨hii, τ, mc, T, hmc, hU, hut, hT, hJ, hk, hq⟩ := hI
  refine ll_st ll_i465 (S' := (466, ll_lo u zi (o5) (o6), [.ref (u 1)], h, k, q)) rfl ?_
  refine ll_arg (c := 1) (zi := zi) (x := x 1) rfl rfl ll_i466 ll_i467 ll_i469 ll_i470 ll_i471 (ha 1 (by decide)).1 (ha 1 (by decide)).2 ?_
  refine ll_arg (c := 2) (zi := zi) (x := x 2) rfl rfl ll_i472 ll_i473 ll_i475 ll_i476 ll_i477 (ha 2 (by decide)).1 (ha 2 (by decide)).2 ?_
  refine ll_arg (c := 3) (zi := zi) (x := x 3) rfl rfl ll_i478 ll_i479 ll_i481 ll_i482 ll_i483 (ha 3 (by decide)).1 (ha 3 (by decide)).2 ?_
  refine ll_st ll_i484 (S' := (485, ll_lo u zi (o5) (o6), [.ref (u 39), .int (x 3), .int (x 2), .int (x 1), .ref (u 1)], h, k, q)) rfl ?_
  refine ll_ca ll_i485 (j := 133) (as := [.ref (u 1), .int (x 1), .int (x 2), .int (x 3), .ref (u 39)]) (pc' := 485) (lo' := ll_lo u zi (o5) (o6)) (st' := []) (h' := h) (k1 := k) (q1 := q) rfl (mj := am_m133) rfl ⟨by decide, by decide, Nat.le_of_ble_eq_true rfl⟩ ?_
  refine Rn_mono (ii_c (j := 133) rfl rfl (j_apic (xs := [.ref (u 1), .int (x 1), .int (x 2), .int (x 3), .ref (u 39)]) hmc hU hut (j_k133 mc hmc) rfl hJ ⟨Or.inr (ll_g1 hut), ⟨Or.inr (ll_gt), ⟨Or.inr (ll_gt), ⟨Or.inr (ll_gt), ⟨Or.inr (ll_g39 hut), trivial⟩⟩⟩⟩⟩)) (fun r hr => ?_)
  obtain ⟨hr, hf1⟩ := hr
  obtain ⟨v1, h1, k1, q1, rfl, hv, hJ1, hk1, hq1, -⟩ := hr
  rcases hv with ⟨e, -⟩ | ⟨-, z1, rfl⟩
  · cases e
  · refine ⟨some (.int z1), h1, k1, q1, rfl, ?_⟩
    show ll_R (ll_x l kn) (488, ll_lo u zi (o5) (o6), [.int z1], h1, k + k1, q + q1) Q
    refine ll_st ll_i488 (S' := (490, ll_lo u zi (some (.int z1)) (o6), [], h1, k + k1, q + q1)) rfl ?_
    refine ll_st ll_i490 (S' := (491, ll_lo u zi (some (.int z1)) (o6), [.ref (u 40)], h1, k + k1, q + q1)) rfl ?_
    refine ll_arg (c := 1) (zi := zi) (x := x 1) rfl rfl ll_i491 ll_i492 ll_i494 ll_i495 ll_i496 (ha 1 (by decide)).1 (ha 1 (by decide)).2 ?_
    refine ll_arg (c := 2) (zi := zi) (x := x 2) rfl rfl ll_i497 ll_i498 ll_i500 ll_i501 ll_i502 (ha 2 (by decide)).1 (ha 2 (by decide)).2 ?_
    refine ll_arg (c := 3) (zi := zi) (x := x 3) rfl rfl ll_i503 ll_i504 ll_i506 ll_i507 ll_i508 (ha 3 (by decide)).1 (ha 3 (by decide)).2 ?_
    obtain ⟨vs2, hv2⟩ := ll_c40 hut hJ1
    refine ll_iv (as := [.int (x 1), .int (x 2), .int (x 3)]) (r := []) ll_i509 (j := 99) (b := 3) (d := 9) (by decide +kernel) hv2 rfl rfl rfl (Nat.le_of_ble_eq_true rfl) (mj := am_m99) rfl ⟨by decide, by decide, Nat.le_of_ble_eq_true rfl⟩ ?_
    refine Rn_mono (ii_c (j := 99) rfl rfl (j_api (xs := [.ref (u 40), .int (x 1), .int (x 2), .int (x 3)]) hmc hU hut (j_k99 mc hmc) rfl hJ1 ⟨Or.inr (ll_g40 hut), ⟨Or.inr (ll_gt), ⟨Or.inr (ll_gt), ⟨Or.inr (ll_gt), trivial⟩⟩⟩⟩)) (fun r hr => ?_)
    obtain ⟨hr, hf2⟩ := hr
    obtain ⟨v2, h2, k2, q2, rfl, hv, hJ2, hk2, hq2, -⟩ := hr
    rcases hv with ⟨e, -⟩ | ⟨-, z2, rfl⟩
    · cases e
    · refine ⟨some (.int z2), h2, k2, q2, rfl, ?_⟩
      show ll_R (ll_x l kn) (512, ll_lo u zi (some (.int z1)) (o6), [.int z2], h2, k + k1 + k2, q + q1 + q2) Q
      refine ll_st ll_i512 (S' := (514, ll_lo u zi (some (.int z1)) (some (.int z2)), [], h2, k + k1 + k2, q + q1 + q2)) rfl ?_
      refine ll_st ll_i514 (S' := (783, ll_lo u zi (some (.int z1)) (some (.int z2)), [], h2, k + k1 + k2, q + q1 + q2)) rfl ?_
      exact hn _ _ _ _ _ ⟨(ii_k hut hJ (fz_trans hf1 hf2) hii), τ, mc, T, hmc, hU, hut, ⟨hT.1, by omega⟩, hJ2, by omega, by omega⟩
set_option maxRecDepth 100000 in
theorem ll_k10 {u : Nat → Nat} {l : Nat} {kn : List (Nat × Int32)} {N : Nat} (hN : N < 512) {zi : Int32} {x : Nat → Int32} (ha : ll_a l kn zi x) {o5 o6 : Option Value} {h : am_H} {k q : Nat} (hI : ll_I u N h k q) {Q : am_R → Prop} (hn : ∀ o5 o6 h k q, ll_I u (N + 1) h k q → ll_R (ll_x l kn) (783, ll_lo u zi o5 o6, [], h, k, q) Q) : ll_R (ll_x l kn) (517, ll_lo u zi o5 o6, [], h, k, q) Q := by
  obtain ⟨hii, τ, mc, T, hmc, hU, hut, hT, hJ, hk, hq⟩ := hI
  refine ll_st ll_i517 (S' := (518, ll_lo u zi (o5) (o6), [.ref (u 1)], h, k, q)) rfl ?_
  obtain ⟨vs1, hv1⟩ := ll_c1 hut hJ
  refine ll_iv (as := []) (r := []) ll_i518 (j := 25) (b := 0) (d := 0) (by decide +kernel) hv1 rfl rfl rfl (Nat.le_of_ble_eq_true rfl) (mj := am_m25) rfl ⟨by decide, by decide, Nat.le_of_ble_eq_true rfl⟩ ?_
  refine Rn_mono (ii_c (j := 25) rfl rfl (j_apic (xs := [.ref (u 1)]) hmc hU hut (j_k25 mc hmc) rfl hJ ⟨Or.inr (ll_g1 hut), trivial⟩)) (fun r hr => ?_)
  obtain ⟨hr, hf1⟩ := hr
  obtain ⟨v1, h1, k1, q1, rfl, hv, hJ1, hk1, hq1, -⟩ := hr
  rcases hv with ⟨e, -⟩ | ⟨-, z1, rfl⟩
  · cases e
  · refine ⟨some (.int z1), h1, k1, q1, rfl, ?_⟩
    show ll_R (ll_x l kn) (521, ll_lo u zi (o5) (o6), [.int z1], h1, k + k1, q + q1) Q
    refine ll_st ll_i521 (S' := (522, ll_lo u zi (o5) (o6), [], h1, k + k1, q + q1)) rfl ?_
    refine ll_st ll_i522 (S' := (523, ll_lo u zi (o5) (o6), [.ref (u 40)], h1, k + k1, q + q1)) rfl ?_
    obtain ⟨vs2, hv2⟩ := ll_c40 hut hJ1
    refine ll_iv (as := []) (r := []) ll_i523 (j := 115) (b := 0) (d := 9) (by decide +kernel) hv2 rfl rfl rfl (Nat.le_of_ble_eq_true rfl) (mj := am_m115) rfl ⟨by decide, by decide, Nat.le_of_ble_eq_true rfl⟩ ?_
    refine Rn_mono (ii_c (j := 115) rfl rfl (j_api (xs := [.ref (u 40)]) hmc hU hut (j_k115 mc hmc) rfl hJ1 ⟨Or.inr (ll_g40 hut), trivial⟩)) (fun r hr => ?_)
    obtain ⟨hr, hf2⟩ := hr
    obtain ⟨v2, h2, k2, q2, rfl, hv, hJ2, hk2, hq2, -⟩ := hr
    rcases hv with ⟨e, -⟩ | ⟨-, z2, rfl⟩
    · cases e
    · refine ⟨some (.int z2), h2, k2, q2, rfl, ?_⟩
      show ll_R (ll_x l kn) (526, ll_lo u zi (o5) (o6), [.int z2], h2, k + k1 + k2, q + q1 + q2) Q
      refine ll_st ll_i526 (S' := (527, ll_lo u zi (o5) (o6), [], h2, k + k1 + k2, q + q1 + q2)) rfl ?_
      refine ll_st ll_i527 (S' := (783, ll_lo u zi (o5) (o6), [], h2, k + k1 + k2, q + q1 + q2)) rfl ?_
      exact hn _ _ _ _ _ ⟨(ii_k hut hJ (fz_trans hf1 hf2) hii), τ, mc, T, hmc, hU, hut, ⟨hT.1, by omega⟩, hJ2, by omega, by omega⟩
set_option maxRecDepth 100000 in
theorem ll_k11 {u : Nat → Nat} {l : Nat} {kn : List (Nat × Int32)} {N : Nat} (hN : N < 512) {zi : Int32} {x : Nat → Int32} (ha : ll_a l kn zi x) {o5 o6 : Option Value} {h : am_H} {k q : Nat} (hI : ll_I u N h k q) {Q : am_R → Prop} (hn : ∀ o5 o6 h k q, ll_I u (N + 1) h k q → ll_R (ll_x l kn) (783, ll_lo u zi o5 o6, [], h, k, q) Q) : ll_R (ll_x l kn) (530, ll_lo u zi o5 o6, [], h, k, q) Q := by
  obtain ⟨hii, τ, mc, T, hmc, hU, hut, hT, hJ, hk, hq⟩ := hI
  refine ll_st ll_i530 (S' := (531, ll_lo u zi (o5) (o6), [.ref (u 1)], h, k, q)) rfl ?_
  obtain ⟨vs1, hv1⟩ := ll_c1 hut hJ
  refine ll_iv (as := []) (r := []) ll_i531 (j := 4) (b := 0) (d := 0) (by decide +kernel) hv1 rfl rfl rfl (Nat.le_of_ble_eq_true rfl) (mj := am_m4) rfl ⟨by decide, by decide, Nat.le_of_ble_eq_true rfl⟩ ?_
  refine Rn_mono (ii_c (j := 4) rfl rfl (j_apic (xs := [.ref (u 1)]) hmc hU hut (j_k4 mc hmc) rfl hJ ⟨Or.inr (ll_g1 hut), trivial⟩)) (fun r hr => ?_)
  obtain ⟨hr, hf1⟩ := hr
  obtain ⟨v1, h1, k1, q1, rfl, hv, hJ1, hk1, hq1, -⟩ := hr
  rcases hv with ⟨e, -⟩ | ⟨-, z1, rfl⟩
  · cases e
  · refine ⟨some (.int z1), h1, k1, q1, rfl, ?_⟩
    show ll_R (ll_x l kn) (534, ll_lo u zi (o5) (o6), [.int z1], h1, k + k1, q + q1) Q
    refine ll_st ll_i534 (S' := (535, ll_lo u zi (o5) (o6), [], h1, k + k1, q + q1)) rfl ?_
    refine ll_st ll_i535 (S' := (536, ll_lo u zi (o5) (o6), [.ref (u 40)], h1, k + k1, q + q1)) rfl ?_
    obtain ⟨vs2, hv2⟩ := ll_c40 hut hJ1
    refine ll_iv (as := []) (r := []) ll_i536 (j := 90) (b := 0) (d := 9) (by decide +kernel) hv2 rfl rfl rfl (Nat.le_of_ble_eq_true rfl) (mj := am_m90) rfl ⟨by decide, by decide, Nat.le_of_ble_eq_true rfl⟩ ?_
    refine Rn_mono (ii_c (j := 90) rfl rfl (j_api (xs := [.ref (u 40)]) hmc hU hut (j_k90 mc hmc) rfl hJ1 ⟨Or.inr (ll_g40 hut), trivial⟩)) (fun r hr => ?_)
    obtain ⟨hr, hf2⟩ := hr
    obtain ⟨v2, h2, k2, q2, rfl, hv, hJ2, hk2, hq2, -⟩ := hr
    rcases hv with ⟨e, -⟩ | ⟨-, z2, rfl⟩
    · cases e
    · refine ⟨some (.int z2), h2, k2, q2, rfl, ?_⟩
      show ll_R (ll_x l kn) (539, ll_lo u zi (o5) (o6), [.int z2], h2, k + k1 + k2, q + q1 + q2) Q
      refine ll_st ll_i539 (S' := (540, ll_lo u zi (o5) (o6), [], h2, k + k1 + k2, q + q1 + q2)) rfl ?_
      refine ll_st ll_i540 (S' := (783, ll_lo u zi (o5) (o6), [], h2, k + k1 + k2, q + q1 + q2)) rfl ?_
      exact hn _ _ _ _ _ ⟨(ii_k hut hJ (fz_trans hf1 hf2) hii), τ, mc, T, hmc, hU, hut, ⟨hT.1, by omega⟩, hJ2, by omega, by omega⟩
set_option maxRecDepth 100000 in
theorem ll_k12 {u : Nat → Nat} {l : Nat} {kn : List (Nat × Int32)} {N : Nat} (hN : N < 512) {zi : Int32} {x : Nat → Int32} (ha : ll_a l kn zi x) {o5 o6 : Option Value} {h : am_H} {k q : Nat} (hI : ll_I u N h k q) {Q : am_R → Prop} (hn : ∀ o5 o6 h k q, ll_I u (N + 1) h k q → ll_R (ll_x l kn) (783, ll_lo u zi o5 o6, [], h, k, q) Q) : ll_R (ll_x l kn) (543, ll_lo u zi o5 o6, [], h, k, q) Q := by
  obtain ⟨hii, τ, mc, T, hmc, hU, hut, hT, hJ, hk, hq⟩ := hI
  refine ll_st ll_i543 (S' := (544, ll_lo u zi (o5) (o6), [.ref (u 1)], h, k, q)) rfl ?_
  refine ll_arg (c := 1) (zi := zi) (x := x 1) rfl rfl ll_i544 ll_i545 ll_i547 ll_i548 ll_i549 (ha 1 (by decide)).1 (ha 1 (by decide)).2 ?_
  refine ll_arg (c := 2) (zi := zi) (x := x 2) rfl rfl ll_i550 ll_i551 ll_i553 ll_i554 ll_i555 (ha 2 (by decide)).1 (ha 2 (by decide)).2 ?_
  refine ll_st ll_i556 (S' := (557, ll_lo u zi (o5) (o6), [.ref (u 39), .int (x 2), .int (x 1), .ref (u 1)], h, k, q)) rfl ?_
  refine ll_ca ll_i557 (j := 132) (as := [.ref (u 1), .int (x 1), .int (x 2), .ref (u 39)]) (pc' := 557) (lo' := ll_lo u zi (o5) (o6)) (st' := []) (h' := h) (k1 := k) (q1 := q) rfl (mj := am_m132) rfl ⟨by decide, by decide, Nat.le_of_ble_eq_true rfl⟩ ?_
  refine Rn_mono (ii_c (j := 132) rfl rfl (j_apic (xs := [.ref (u 1), .int (x 1), .int (x 2), .ref (u 39)]) hmc hU hut (j_k132 mc hmc) rfl hJ ⟨Or.inr (ll_g1 hut), ⟨Or.inr (ll_gt), ⟨Or.inr (ll_gt), ⟨Or.inr (ll_g39 hut), trivial⟩⟩⟩⟩)) (fun r hr => ?_)
  obtain ⟨hr, hf1⟩ := hr
  obtain ⟨v1, h1, k1, q1, rfl, hv, hJ1, hk1, hq1, -⟩ := hr
  rcases hv with ⟨e, -⟩ | ⟨-, z1, rfl⟩
  · cases e
  · refine ⟨some (.int z1), h1, k1, q1, rfl, ?_⟩
    show ll_R (ll_x l kn) (560, ll_lo u zi (o5) (o6), [.int z1], h1, k + k1, q + q1) Q
    refine ll_st ll_i560 (S' := (562, ll_lo u zi (some (.int z1)) (o6), [], h1, k + k1, q + q1)) rfl ?_
    refine ll_st ll_i562 (S' := (563, ll_lo u zi (some (.int z1)) (o6), [.ref (u 40)], h1, k + k1, q + q1)) rfl ?_
    refine ll_arg (c := 1) (zi := zi) (x := x 1) rfl rfl ll_i563 ll_i564 ll_i566 ll_i567 ll_i568 (ha 1 (by decide)).1 (ha 1 (by decide)).2 ?_
    refine ll_arg (c := 2) (zi := zi) (x := x 2) rfl rfl ll_i569 ll_i570 ll_i572 ll_i573 ll_i574 (ha 2 (by decide)).1 (ha 2 (by decide)).2 ?_
    obtain ⟨vs2, hv2⟩ := ll_c40 hut hJ1
    refine ll_iv (as := [.int (x 1), .int (x 2)]) (r := []) ll_i575 (j := 97) (b := 2) (d := 9) (by decide +kernel) hv2 rfl rfl rfl (Nat.le_of_ble_eq_true rfl) (mj := am_m97) rfl ⟨by decide, by decide, Nat.le_of_ble_eq_true rfl⟩ ?_
    refine Rn_mono (ii_c (j := 97) rfl rfl (j_api (xs := [.ref (u 40), .int (x 1), .int (x 2)]) hmc hU hut (j_k97 mc hmc) rfl hJ1 ⟨Or.inr (ll_g40 hut), ⟨Or.inr (ll_gt), ⟨Or.inr (ll_gt), trivial⟩⟩⟩)) (fun r hr => ?_)
    obtain ⟨hr, hf2⟩ := hr
    obtain ⟨v2, h2, k2, q2, rfl, hv, hJ2, hk2, hq2, -⟩ := hr
    rcases hv with ⟨e, -⟩ | ⟨-, z2, rfl⟩
    · cases e
    · refine ⟨some (.int z2), h2, k2, q2, rfl, ?_⟩
      show ll_R (ll_x l kn) (578, ll_lo u zi (some (.int z1)) (o6), [.int z2], h2, k + k1 + k2, q + q1 + q2) Q
      refine ll_st ll_i578 (S' := (580, ll_lo u zi (some (.int z1)) (some (.int z2)), [], h2, k + k1 + k2, q + q1 + q2)) rfl ?_
      refine ll_st ll_i580 (S' := (783, ll_lo u zi (some (.int z1)) (some (.int z2)), [], h2, k + k1 + k2, q + q1 + q2)) rfl ?_
      exact hn _ _ _ _ _ ⟨(ii_k hut hJ (fz_trans hf1 hf2) hii), τ, mc, T, hmc, hU, hut, ⟨hT.1, by omega⟩, hJ2, by omega, by omega⟩
set_option maxRecDepth 100000 in
theorem ll_k13 {u : Nat → Nat} {l : Nat} {kn : List (Nat × Int32)} {N : Nat} (hN : N < 512) {zi : Int32} {x : Nat → Int32} (ha : ll_a l kn zi x) {o5 o6 : Option Value} {h : am_H} {k q : Nat} (hI : ll_I u N h k q) {Q : am_R → Prop} (hn : ∀ o5 o6 h k q, ll_I u (N + 1) h k q → ll_R (ll_x l kn) (783, ll_lo u zi o5 o6, [], h, k, q) Q) : ll_R (ll_x l kn) (583, ll_lo u zi o5 o6, [], h, k, q) Q := by
  obtain ⟨hii, τ, mc, T, hmc, hU, hut, hT, hJ, hk, hq⟩ := hI
  refine ll_st ll_i583 (S' := (584, ll_lo u zi (o5) (o6), [.ref (u 1)], h, k, q)) rfl ?_
  refine ll_arg (c := 1) (zi := zi) (x := x 1) rfl rfl ll_i584 ll_i585 ll_i587 ll_i588 ll_i589 (ha 1 (by decide)).1 (ha 1 (by decide)).2 ?_
  refine ll_arg (c := 2) (zi := zi) (x := x 2) rfl rfl ll_i590 ll_i591 ll_i593 ll_i594 ll_i595 (ha 2 (by decide)).1 (ha 2 (by decide)).2 ?_
  refine ll_arg (c := 3) (zi := zi) (x := x 3) rfl rfl ll_i596 ll_i597 ll_i599 ll_i600 ll_i601 (ha 3 (by decide)).1 (ha 3 (by decide)).2 ?_
  refine ll_st ll_i602 (S' := (603, ll_lo u zi (o5) (o6), [.ref (u 39), .int (x 3), .int (x 2), .int (x 1), .ref (u 1)], h, k, q)) rfl ?_
  refine ll_ca ll_i603 (j := 131) (as := [.ref (u 1), .int (x 1), .int (x 2), .int (x 3), .ref (u 39)]) (pc' := 603) (lo' := ll_lo u zi (o5) (o6)) (st' := []) (h' := h) (k1 := k) (q1 := q) rfl (mj := am_m131) rfl ⟨by decide, by decide, Nat.le_of_ble_eq_true rfl⟩ ?_
  refine Rn_mono (ii_c (j := 131) rfl rfl (j_apic (xs := [.ref (u 1), .int (x 1), .int (x 2), .int (x 3), .ref (u 39)]) hmc hU hut (j_k131 mc hmc) rfl hJ ⟨Or.inr (ll_g1 hut), ⟨Or.inr (ll_gt), ⟨Or.inr (ll_gt), ⟨Or.inr (ll_gt), ⟨Or.inr (ll_g39 hut), trivial⟩⟩⟩⟩⟩)) (fun r hr => ?_)
  obtain ⟨hr, hf1⟩ := hr
  obtain ⟨v1, h1, k1, q1, rfl, hv, hJ1, hk1, hq1, -⟩ := hr
  rcases hv with ⟨e, -⟩ | ⟨-, z1, rfl⟩
  · cases e
  · refine ⟨some (.int z1), h1, k1, q1, rfl, ?_⟩
    show ll_R (ll_x l kn) (606, ll_lo u zi (o5) (o6), [.int z1], h1, k + k1, q + q1) Q
    refine ll_st ll_i606 (S' := (608, ll_lo u zi (some (.int z1)) (o6), [], h1, k + k1, q + q1)) rfl ?_
    refine ll_st ll_i608 (S' := (609, ll_lo u zi (some (.int z1)) (o6), [.ref (u 40)], h1, k + k1, q + q1)) rfl ?_
    refine ll_arg (c := 1) (zi := zi) (x := x 1) rfl rfl ll_i609 ll_i610 ll_i612 ll_i613 ll_i614 (ha 1 (by decide)).1 (ha 1 (by decide)).2 ?_
    refine ll_arg (c := 2) (zi := zi) (x := x 2) rfl rfl ll_i615 ll_i616 ll_i618 ll_i619 ll_i620 (ha 2 (by decide)).1 (ha 2 (by decide)).2 ?_
    refine ll_arg (c := 3) (zi := zi) (x := x 3) rfl rfl ll_i621 ll_i622 ll_i624 ll_i625 ll_i626 (ha 3 (by decide)).1 (ha 3 (by decide)).2 ?_
    obtain ⟨vs2, hv2⟩ := ll_c40 hut hJ1
    refine ll_iv (as := [.int (x 1), .int (x 2), .int (x 3)]) (r := []) ll_i627 (j := 91) (b := 3) (d := 9) (by decide +kernel) hv2 rfl rfl rfl (Nat.le_of_ble_eq_true rfl) (mj := am_m91) rfl ⟨by decide, by decide, Nat.le_of_ble_eq_true rfl⟩ ?_
    refine Rn_mono (ii_c (j := 91) rfl rfl (j_api (xs := [.ref (u 40), .int (x 1), .int (x 2), .int (x 3)]) hmc hU hut (j_k91 mc hmc) rfl hJ1 ⟨Or.inr (ll_g40 hut), ⟨Or.inr (ll_gt), ⟨Or.inr (ll_gt), ⟨Or.inr (ll_gt), trivial⟩⟩⟩⟩)) (fun r hr => ?_)
    obtain ⟨hr, hf2⟩ := hr
    obtain ⟨v2, h2, k2, q2, rfl, hv, hJ2, hk2, hq2, -⟩ := hr
    rcases hv with ⟨e, -⟩ | ⟨-, z2, rfl⟩
    · cases e
    · refine ⟨some (.int z2), h2, k2, q2, rfl, ?_⟩
      show ll_R (ll_x l kn) (630, ll_lo u zi (some (.int z1)) (o6), [.int z2], h2, k + k1 + k2, q + q1 + q2) Q
      refine ll_st ll_i630 (S' := (632, ll_lo u zi (some (.int z1)) (some (.int z2)), [], h2, k + k1 + k2, q + q1 + q2)) rfl ?_
      refine ll_st ll_i632 (S' := (783, ll_lo u zi (some (.int z1)) (some (.int z2)), [], h2, k + k1 + k2, q + q1 + q2)) rfl ?_
      exact hn _ _ _ _ _ ⟨(ii_k hut hJ (fz_trans hf1 hf2) hii), τ, mc, T, hmc, hU, hut, ⟨hT.1, by omega⟩, hJ2, by omega, by omega⟩
set_option maxRecDepth 100000 in
theorem ll_k14 {u : Nat → Nat} {l : Nat} {kn : List (Nat × Int32)} {N : Nat} (hN : N < 512) {zi : Int32} {x : Nat → Int32} (ha : ll_a l kn zi x) {o5 o6 : Option Value} {h : am_H} {k q : Nat} (hI : ll_I u N h k q) {Q : am_R → Prop} (hn : ∀ o5 o6 h k q, ll_I u (N + 1) h k q → ll_R (ll_x l kn) (783, ll_lo u zi o5 o6, [], h, k, q) Q) : ll_R (ll_x l kn) (635, ll_lo u zi o5 o6, [], h, k, q) Q := by
  obtain ⟨hii, τ, mc, T, hmc, hU, hut, hT, hJ, hk, hq⟩ := hI
  refine ll_st ll_i635 (S' := (636, ll_lo u zi (o5) (o6), [.ref (u 1)], h, k, q)) rfl ?_
  refine ll_arg (c := 1) (zi := zi) (x := x 1) rfl rfl ll_i636 ll_i637 ll_i639 ll_i640 ll_i641 (ha 1 (by decide)).1 (ha 1 (by decide)).2 ?_
  refine ll_arg (c := 2) (zi := zi) (x := x 2) rfl rfl ll_i642 ll_i643 ll_i645 ll_i646 ll_i647 (ha 2 (by decide)).1 (ha 2 (by decide)).2 ?_
  refine ll_st ll_i648 (S' := (649, ll_lo u zi (o5) (o6), [.ref (u 39), .int (x 2), .int (x 1), .ref (u 1)], h, k, q)) rfl ?_
  refine ll_ca ll_i649 (j := 134) (as := [.ref (u 1), .int (x 1), .int (x 2), .ref (u 39)]) (pc' := 649) (lo' := ll_lo u zi (o5) (o6)) (st' := []) (h' := h) (k1 := k) (q1 := q) rfl (mj := am_m134) rfl ⟨by decide, by decide, Nat.le_of_ble_eq_true rfl⟩ ?_
  refine Rn_mono (ii_c (j := 134) rfl rfl (j_apic (xs := [.ref (u 1), .int (x 1), .int (x 2), .ref (u 39)]) hmc hU hut (j_k134 mc hmc) rfl hJ ⟨Or.inr (ll_g1 hut), ⟨Or.inr (ll_gt), ⟨Or.inr (ll_gt), ⟨Or.inr (ll_g39 hut), trivial⟩⟩⟩⟩)) (fun r hr => ?_)
  obtain ⟨hr, hf1⟩ := hr
  obtain ⟨v1, h1, k1, q1, rfl, hv, hJ1, hk1, hq1, -⟩ := hr
  rcases hv with ⟨e, -⟩ | ⟨-, z1, rfl⟩
  · cases e
  · refine ⟨some (.int z1), h1, k1, q1, rfl, ?_⟩
    show ll_R (ll_x l kn) (652, ll_lo u zi (o5) (o6), [.int z1], h1, k + k1, q + q1) Q
    refine ll_st ll_i652 (S' := (654, ll_lo u zi (some (.int z1)) (o6), [], h1, k + k1, q + q1)) rfl ?_
    refine ll_st ll_i654 (S' := (655, ll_lo u zi (some (.int z1)) (o6), [.ref (u 40)], h1, k + k1, q + q1)) rfl ?_
    refine ll_arg (c := 1) (zi := zi) (x := x 1) rfl rfl ll_i655 ll_i656 ll_i658 ll_i659 ll_i660 (ha 1 (by decide)).1 (ha 1 (by decide)).2 ?_
    refine ll_arg (c := 2) (zi := zi) (x := x 2) rfl rfl ll_i661 ll_i662 ll_i664 ll_i665 ll_i666 (ha 2 (by decide)).1 (ha 2 (by decide)).2 ?_
    obtain ⟨vs2, hv2⟩ := ll_c40 hut hJ1
    refine ll_iv (as := [.int (x 1), .int (x 2)]) (r := []) ll_i667 (j := 103) (b := 2) (d := 9) (by decide +kernel) hv2 rfl rfl rfl (Nat.le_of_ble_eq_true rfl) (mj := am_m103) rfl ⟨by decide, by decide, Nat.le_of_ble_eq_true rfl⟩ ?_
    refine Rn_mono (ii_c (j := 103) rfl rfl (j_api (xs := [.ref (u 40), .int (x 1), .int (x 2)]) hmc hU hut (j_k103 mc hmc) rfl hJ1 ⟨Or.inr (ll_g40 hut), ⟨Or.inr (ll_gt), ⟨Or.inr (ll_gt), trivial⟩⟩⟩)) (fun r hr => ?_)
    obtain ⟨hr, hf2⟩ := hr
    obtain ⟨v2, h2, k2, q2, rfl, hv, hJ2, hk2, hq2, -⟩ := hr
    rcases hv with ⟨e, -⟩ | ⟨-, z2, rfl⟩
    · cases e
    · refine ⟨some (.int z2), h2, k2, q2, rfl, ?_⟩
      show ll_R (ll_x l kn) (670, ll_lo u zi (some (.int z1)) (o6), [.int z2], h2, k + k1 + k2, q + q1 + q2) Q
      refine ll_st ll_i670 (S' := (672, ll_lo u zi (some (.int z1)) (some (.int z2)), [], h2, k + k1 + k2, q + q1 + q2)) rfl ?_
      refine ll_st ll_i672 (S' := (783, ll_lo u zi (some (.int z1)) (some (.int z2)), [], h2, k + k1 + k2, q + q1 + q2)) rfl ?_
      exact hn _ _ _ _ _ ⟨(ii_k hut hJ (fz_trans hf1 hf2) hii), τ, mc, T, hmc, hU, hut, ⟨hT.1, by omega⟩, hJ2, by omega, by omega⟩
set_option maxRecDepth 100000 in
theorem ll_k15 {u : Nat → Nat} {l : Nat} {kn : List (Nat × Int32)} {N : Nat} (hN : N < 512) {zi : Int32} {x : Nat → Int32} (ha : ll_a l kn zi x) {o5 o6 : Option Value} {h : am_H} {k q : Nat} (hI : ll_I u N h k q) {Q : am_R → Prop} (hn : ∀ o5 o6 h k q, ll_I u (N + 1) h k q → ll_R (ll_x l kn) (783, ll_lo u zi o5 o6, [], h, k, q) Q) : ll_R (ll_x l kn) (675, ll_lo u zi o5 o6, [], h, k, q) Q := by
  obtain ⟨hii, τ, mc, T, hmc, hU, hut, hT, hJ, hk, hq⟩ := hI
  refine ll_st ll_i675 (S' := (676, ll_lo u zi (o5) (o6), [.ref (u 1)], h, k, q)) rfl ?_
  refine ll_arg (c := 1) (zi := zi) (x := x 1) rfl rfl ll_i676 ll_i677 ll_i679 ll_i680 ll_i681 (ha 1 (by decide)).1 (ha 1 (by decide)).2 ?_
  refine ll_st ll_i682 (S' := (683, ll_lo u zi (o5) (o6), [.ref (u 39), .int (x 1), .ref (u 1)], h, k, q)) rfl ?_
  refine ll_ca ll_i683 (j := 140) (as := [.ref (u 1), .int (x 1), .ref (u 39)]) (pc' := 683) (lo' := ll_lo u zi (o5) (o6)) (st' := []) (h' := h) (k1 := k) (q1 := q) rfl (mj := am_m140) rfl ⟨by decide, by decide, Nat.le_of_ble_eq_true rfl⟩ ?_
  refine Rn_mono (ii_c (j := 140) rfl rfl (j_apic (xs := [.ref (u 1), .int (x 1), .ref (u 39)]) hmc hU hut (j_k140 mc hmc) rfl hJ ⟨Or.inr (ll_g1 hut), ⟨Or.inr (ll_gt), ⟨Or.inr (ll_g39 hut), trivial⟩⟩⟩)) (fun r hr => ?_)
  obtain ⟨hr, hf1⟩ := hr
  obtain ⟨v1, h1, k1, q1, rfl, hv, hJ1, hk1, hq1, -⟩ := hr
  rcases hv with ⟨e, -⟩ | ⟨-, z1, rfl⟩
  · cases e
  · refine ⟨some (.int z1), h1, k1, q1, rfl, ?_⟩
    show ll_R (ll_x l kn) (686, ll_lo u zi (o5) (o6), [.int z1], h1, k + k1, q + q1) Q
    refine ll_st ll_i686 (S' := (688, ll_lo u zi (some (.int z1)) (o6), [], h1, k + k1, q + q1)) rfl ?_
    refine ll_st ll_i688 (S' := (689, ll_lo u zi (some (.int z1)) (o6), [.ref (u 40)], h1, k + k1, q + q1)) rfl ?_
    refine ll_arg (c := 1) (zi := zi) (x := x 1) rfl rfl ll_i689 ll_i690 ll_i692 ll_i693 ll_i694 (ha 1 (by decide)).1 (ha 1 (by decide)).2 ?_
    obtain ⟨vs2, hv2⟩ := ll_c40 hut hJ1
    refine ll_iv (as := [.int (x 1)]) (r := []) ll_i695 (j := 118) (b := 1) (d := 9) (by decide +kernel) hv2 rfl rfl rfl (Nat.le_of_ble_eq_true rfl) (mj := am_m118) rfl ⟨by decide, by decide, Nat.le_of_ble_eq_true rfl⟩ ?_
    refine Rn_mono (ii_c (j := 118) rfl rfl (j_api (xs := [.ref (u 40), .int (x 1)]) hmc hU hut (j_k118 mc hmc) rfl hJ1 ⟨Or.inr (ll_g40 hut), ⟨Or.inr (ll_gt), trivial⟩⟩)) (fun r hr => ?_)
    obtain ⟨hr, hf2⟩ := hr
    obtain ⟨v2, h2, k2, q2, rfl, hv, hJ2, hk2, hq2, -⟩ := hr
    rcases hv with ⟨e, -⟩ | ⟨-, z2, rfl⟩
    · cases e
    · refine ⟨some (.int z2), h2, k2, q2, rfl, ?_⟩
      show ll_R (ll_x l kn) (698, ll_lo u zi (some (.int z1)) (o6), [.int z2], h2, k + k1 + k2, q + q1 + q2) Q
      refine ll_st ll_i698 (S' := (700, ll_lo u zi (some (.int z1)) (some (.int z2)), [], h2, k + k1 + k2, q + q1 + q2)) rfl ?_
      refine ll_st ll_i700 (S' := (783, ll_lo u zi (some (.int z1)) (some (.int z2)), [], h2, k + k1 + k2, q + q1 + q2)) rfl ?_
      exact hn _ _ _ _ _ ⟨(ii_k hut hJ (fz_trans hf1 hf2) hii), τ, mc, T, hmc, hU, hut, ⟨hT.1, by omega⟩, hJ2, by omega, by omega⟩
set_option maxRecDepth 100000 in
theorem ll_k16 {u : Nat → Nat} {l : Nat} {kn : List (Nat × Int32)} {N : Nat} (hN : N < 512) {zi : Int32} {x : Nat → Int32} (ha : ll_a l kn zi x) {o5 o6 : Option Value} {h : am_H} {k q : Nat} (hI : ll_I u N h k q) {Q : am_R → Prop} (hn : ∀ o5 o6 h k q, ll_I u (N + 1) h k q → ll_R (ll_x l kn) (783, ll_lo u zi o5 o6, [], h, k, q) Q) : ll_R (ll_x l kn) (703, ll_lo u zi o5 o6, [], h, k, q) Q := by
  obtain ⟨hii, τ, mc, T, hmc, hU, hut, hT, hJ, hk, hq⟩ := hI
  refine ll_st ll_i703 (S' := (704, ll_lo u zi (o5) (o6), [.ref (u 1)], h, k, q)) rfl ?_
  refine ll_arg (c := 1) (zi := zi) (x := x 1) rfl rfl ll_i704 ll_i705 ll_i707 ll_i708 ll_i709 (ha 1 (by decide)).1 (ha 1 (by decide)).2 ?_
  refine ll_arg (c := 2) (zi := zi) (x := x 2) rfl rfl ll_i710 ll_i711 ll_i713 ll_i714 ll_i715 (ha 2 (by decide)).1 (ha 2 (by decide)).2 ?_
  refine ll_st ll_i716 (S' := (717, ll_lo u zi (o5) (o6), [.ref (u 39), .int (x 2), .int (x 1), .ref (u 1)], h, k, q)) rfl ?_
  refine ll_ca ll_i717 (j := 139) (as := [.ref (u 1), .int (x 1), .int (x 2), .ref (u 39)]) (pc' := 717) (lo' := ll_lo u zi (o5) (o6)) (st' := []) (h' := h) (k1 := k) (q1 := q) rfl (mj := am_m139) rfl ⟨by decide, by decide, Nat.le_of_ble_eq_true rfl⟩ ?_
  refine Rn_mono (ii_c (j := 139) rfl rfl (j_apic (xs := [.ref (u 1), .int (x 1), .int (x 2), .ref (u 39)]) hmc hU hut (j_k139 mc hmc) rfl hJ ⟨Or.inr (ll_g1 hut), ⟨Or.inr (ll_gt), ⟨Or.inr (ll_gt), ⟨Or.inr (ll_g39 hut), trivial⟩⟩⟩⟩)) (fun r hr => ?_)
  obtain ⟨hr, hf1⟩ := hr
  obtain ⟨v1, h1, k1, q1, rfl, hv, hJ1, hk1, hq1, -⟩ := hr
  rcases hv with ⟨e, -⟩ | ⟨-, z1, rfl⟩
  · cases e
  · refine ⟨some (.int z1), h1, k1, q1, rfl, ?_⟩
    show ll_R (ll_x l kn) (720, ll_lo u zi (o5) (o6), [.int z1], h1, k + k1, q + q1) Q
    refine ll_st ll_i720 (S' := (722, ll_lo u zi (some (.int z1)) (o6), [], h1, k + k1, q + q1)) rfl ?_
    refine ll_st ll_i722 (S' := (723, ll_lo u zi (some (.int z1)) (o6), [.ref (u 40)], h1, k + k1, q + q1)) rfl ?_
    refine ll_arg (c := 1) (zi := zi) (x := x 1) rfl rfl ll_i723 ll_i724 ll_i726 ll_i727 ll_i728 (ha 1 (by decide)).1 (ha 1 (by decide)).2 ?_
    refine ll_arg (c := 2) (zi := zi) (x := x 2) rfl rfl ll_i729 ll_i730 ll_i732 ll_i733 ll_i734 (ha 2 (by decide)).1 (ha 2 (by decide)).2 ?_
    obtain ⟨vs2, hv2⟩ := ll_c40 hut hJ1
    refine ll_iv (as := [.int (x 1), .int (x 2)]) (r := []) ll_i735 (j := 117) (b := 2) (d := 9) (by decide +kernel) hv2 rfl rfl rfl (Nat.le_of_ble_eq_true rfl) (mj := am_m117) rfl ⟨by decide, by decide, Nat.le_of_ble_eq_true rfl⟩ ?_
    refine Rn_mono (ii_c (j := 117) rfl rfl (j_api (xs := [.ref (u 40), .int (x 1), .int (x 2)]) hmc hU hut (j_k117 mc hmc) rfl hJ1 ⟨Or.inr (ll_g40 hut), ⟨Or.inr (ll_gt), ⟨Or.inr (ll_gt), trivial⟩⟩⟩)) (fun r hr => ?_)
    obtain ⟨hr, hf2⟩ := hr
    obtain ⟨v2, h2, k2, q2, rfl, hv, hJ2, hk2, hq2, -⟩ := hr
    rcases hv with ⟨e, -⟩ | ⟨-, z2, rfl⟩
    · cases e
    · refine ⟨some (.int z2), h2, k2, q2, rfl, ?_⟩
      show ll_R (ll_x l kn) (738, ll_lo u zi (some (.int z1)) (o6), [.int z2], h2, k + k1 + k2, q + q1 + q2) Q
      refine ll_st ll_i738 (S' := (740, ll_lo u zi (some (.int z1)) (some (.int z2)), [], h2, k + k1 + k2, q + q1 + q2)) rfl ?_
      refine ll_st ll_i740 (S' := (783, ll_lo u zi (some (.int z1)) (some (.int z2)), [], h2, k + k1 + k2, q + q1 + q2)) rfl ?_
      exact hn _ _ _ _ _ ⟨(ii_k hut hJ (fz_trans hf1 hf2) hii), τ, mc, T, hmc, hU, hut, ⟨hT.1, by omega⟩, hJ2, by omega, by omega⟩
set_option maxRecDepth 100000 in
theorem ll_k17 {u : Nat → Nat} {l : Nat} {kn : List (Nat × Int32)} {N : Nat} (hN : N < 512) {zi : Int32} {x : Nat → Int32} (ha : ll_a l kn zi x) {o5 o6 : Option Value} {h : am_H} {k q : Nat} (hI : ll_I u N h k q) {Q : am_R → Prop} (hn : ∀ o5 o6 h k q, ll_I u (N + 1) h k q → ll_R (ll_x l kn) (783, ll_lo u zi o5 o6, [], h, k, q) Q) : ll_R (ll_x l kn) (743, ll_lo u zi o5 o6, [], h, k, q) Q := by
  obtain ⟨hii, τ, mc, T, hmc, hU, hut, hT, hJ, hk, hq⟩ := hI
  refine ll_st ll_i743 (S' := (744, ll_lo u zi (o5) (o6), [.ref (u 1)], h, k, q)) rfl ?_
  refine ll_arg (c := 1) (zi := zi) (x := x 1) rfl rfl ll_i744 ll_i745 ll_i747 ll_i748 ll_i749 (ha 1 (by decide)).1 (ha 1 (by decide)).2 ?_
  refine ll_arg (c := 2) (zi := zi) (x := x 2) rfl rfl ll_i750 ll_i751 ll_i753 ll_i754 ll_i755 (ha 2 (by decide)).1 (ha 2 (by decide)).2 ?_
  refine ll_st ll_i756 (S' := (757, ll_lo u zi (o5) (o6), [.ref (u 39), .int (x 2), .int (x 1), .ref (u 1)], h, k, q)) rfl ?_
  refine ll_ca ll_i757 (j := 143) (as := [.ref (u 1), .int (x 1), .int (x 2), .ref (u 39)]) (pc' := 757) (lo' := ll_lo u zi (o5) (o6)) (st' := []) (h' := h) (k1 := k) (q1 := q) rfl (mj := am_m143) rfl ⟨by decide, by decide, Nat.le_of_ble_eq_true rfl⟩ ?_
  refine Rn_mono (ii_c (j := 143) rfl rfl (j_apic (xs := [.ref (u 1), .int (x 1), .int (x 2), .ref (u 39)]) hmc hU hut (j_k143 mc hmc) rfl hJ ⟨Or.inr (ll_g1 hut), ⟨Or.inr (ll_gt), ⟨Or.inr (ll_gt), ⟨Or.inr (ll_g39 hut), trivial⟩⟩⟩⟩)) (fun r hr => ?_)
  obtain ⟨hr, hf1⟩ := hr
  obtain ⟨v1, h1, k1, q1, rfl, hv, hJ1, hk1, hq1, -⟩ := hr
  rcases hv with ⟨e, -⟩ | ⟨-, z1, rfl⟩
  · cases e
  · refine ⟨some (.int z1), h1, k1, q1, rfl, ?_⟩
    show ll_R (ll_x l kn) (760, ll_lo u zi (o5) (o6), [.int z1], h1, k + k1, q + q1) Q
    refine ll_st ll_i760 (S' := (762, ll_lo u zi (some (.int z1)) (o6), [], h1, k + k1, q + q1)) rfl ?_
    refine ll_st ll_i762 (S' := (763, ll_lo u zi (some (.int z1)) (o6), [.ref (u 40)], h1, k + k1, q + q1)) rfl ?_
    refine ll_arg (c := 1) (zi := zi) (x := x 1) rfl rfl ll_i763 ll_i764 ll_i766 ll_i767 ll_i768 (ha 1 (by decide)).1 (ha 1 (by decide)).2 ?_
    refine ll_arg (c := 2) (zi := zi) (x := x 2) rfl rfl ll_i769 ll_i770 ll_i772 ll_i773 ll_i774 (ha 2 (by decide)).1 (ha 2 (by decide)).2 ?_
    obtain ⟨vs2, hv2⟩ := ll_c40 hut hJ1
    refine ll_iv (as := [.int (x 1), .int (x 2)]) (r := []) ll_i775 (j := 127) (b := 2) (d := 9) (by decide +kernel) hv2 rfl rfl rfl (Nat.le_of_ble_eq_true rfl) (mj := am_m127) rfl ⟨by decide, by decide, Nat.le_of_ble_eq_true rfl⟩ ?_
    refine Rn_mono (ii_c (j := 127) rfl rfl (j_api (xs := [.ref (u 40), .int (x 1), .int (x 2)]) hmc hU hut (j_k127 mc hmc) rfl hJ1 ⟨Or.inr (ll_g40 hut), ⟨Or.inr (ll_gt), ⟨Or.inr (ll_gt), trivial⟩⟩⟩)) (fun r hr => ?_)
    obtain ⟨hr, hf2⟩ := hr
    obtain ⟨v2, h2, k2, q2, rfl, hv, hJ2, hk2, hq2, -⟩ := hr
    rcases hv with ⟨e, -⟩ | ⟨-, z2, rfl⟩
    · cases e
    · refine ⟨some (.int z2), h2, k2, q2, rfl, ?_⟩
      show ll_R (ll_x l kn) (778, ll_lo u zi (some (.int z1)) (o6), [.int z2], h2, k + k1 + k2, q + q1 + q2) Q
      refine ll_st ll_i778 (S' := (780, ll_lo u zi (some (.int z1)) (some (.int z2)), [], h2, k + k1 + k2, q + q1 + q2)) rfl ?_
      refine ll_st ll_i780 (S' := (783, ll_lo u zi (some (.int z1)) (some (.int z2)), [], h2, k + k1 + k2, q + q1 + q2)) rfl ?_
      exact hn _ _ _ _ _ ⟨(ii_k hut hJ (fz_trans hf1 hf2) hii), τ, mc, T, hmc, hU, hut, ⟨hT.1, by omega⟩, hJ2, by omega, by omega⟩
set_option maxRecDepth 100000 in
theorem ll_k4 {u : Nat → Nat} {l : Nat} {kn : List (Nat × Int32)} {N : Nat} (hN : N < 512) {zi : Int32} {x : Nat → Int32} (ha : ll_a l kn zi x) {o5 o6 : Option Value} {h : am_H} {k q : Nat} (hI : ll_I u N h k q) {Q : am_R → Prop} (hn : ∀ o5 o6 h k q, ll_I u (N + 1) h k q → ll_R (ll_x l kn) (783, ll_lo u zi o5 o6, [], h, k, q) Q) : ll_R (ll_x l kn) (315, ll_lo u zi o5 o6, [], h, k, q) Q := by
  obtain ⟨hii, τ, mc, T, hmc, hU, hut, hT, hJ, hk, hq⟩ := hI
  obtain ⟨zD, zA, hD, hA, hDA⟩ := hii
  refine ll_st ll_i315 (S' := (316, ll_lo u zi o5 o6, [.ref (u 1)], h, k, q)) rfl ?_
  refine ll_arg (c := 1) (zi := zi) (x := x 1) rfl rfl ll_i316 ll_i317 ll_i319 ll_i320 ll_i321 (ha 1 (by decide)).1 (ha 1 (by decide)).2 ?_
  refine ll_bool ll_i322 ll_i325 ll_i326 ll_i329 (fun b1 hb1 hx1 => ?_)
  obtain ⟨vs1, hv1⟩ := ll_c1 hut hJ
  refine ll_iv (as := [.int b1]) (r := []) ll_i330 (j := 2) (b := 1) (d := 0) (by decide +kernel) hv1 rfl rfl rfl (Nat.le_of_ble_eq_true rfl) (mj := am_m2) rfl ⟨by decide, by decide, Nat.le_of_ble_eq_true rfl⟩ ?_
  have zD01 : zD = 0 ∨ zD = 1 := hDA.elim (fun e => Or.inr e.1) (fun e => Or.inl e.1)
  have zA01 : zA = 0 ∨ zA = 1 := hDA.elim (fun e => Or.inl e.2) (fun e => Or.inr e.2)
  refine Rn_mono (Rn_and (j_apic (xs := [.ref (u 1), .int b1]) hmc hU hut (j_k2 mc hmc) rfl hJ ⟨Or.inr (ll_g1 hut), ⟨Or.inr (ll_gb hb1), trivial⟩⟩) (dc_dir hmc hU hut hJ hD zD01 hb1)) (fun r hr => ?_)
  obtain ⟨⟨v1, h1, k1, q1, rfl, -, hJ1, hk1, hq1, -⟩, h1b, e, s1⟩ := hr
  cases e
  refine ⟨some (.int zD), h1, 0, 0, rfl, ?_⟩
  show ll_R (ll_x l kn) (333, ll_lo u zi o5 o6, [.int zD], h1, k + 0, q + 0) Q
  refine ll_st ll_i333 (S' := (334, ll_lo u zi o5 o6, [.ref (u 40), .int zD], h1, k + 0, q + 0)) rfl ?_
  refine ll_arg (c := 1) (zi := zi) (x := x 1) rfl rfl ll_i334 ll_i335 ll_i337 ll_i338 ll_i339 (ha 1 (by decide)).1 (ha 1 (by decide)).2 ?_
  refine ll_bool ll_i340 ll_i343 ll_i344 ll_i347 (fun b2 hb2 hx2 => ?_)
  obtain ⟨vs2, hv2⟩ := ll_c40 hut hJ1
  have u44 : u 40 ≠ u 4 := fun e => absurd ((hut 40 (by decide +kernel)).symm.trans ((congrArg τ e).trans (hut 4 (by decide +kernel)))) (by decide)
  have hA1 : ab_sl h1 (u 40) 41 = some (.int zA) := by rw [s1, if_neg (fun e => u44 e.1)]; exact hA
  refine ll_iv (as := [.int b2]) (r := [.int zD]) ll_i348 (j := 87) (b := 1) (d := 9) (by decide +kernel) hv2 rfl rfl rfl (Nat.le_of_ble_eq_true rfl) (mj := am_m87) rfl ⟨by decide, by decide, Nat.le_of_ble_eq_true rfl⟩ ?_
  refine Rn_mono (Rn_and (j_api (xs := [.ref (u 40), .int b2]) hmc hU hut (j_k87 mc hmc) rfl hJ1 ⟨Or.inr (ll_g40 hut), ⟨Or.inr (ll_gb hb2), trivial⟩⟩) (dm_dir hmc hU hut hJ1 hA1 zA01 hb2)) (fun r hr => ?_)
  obtain ⟨⟨v2, h2, k2, q2, rfl, -, hJ2, hk2, hq2, -⟩, h2b, e, s2⟩ := hr
  cases e
  refine ⟨some (.int (if zA = 0 then 1 else 0)), h2, 0, 0, rfl, ?_⟩
  show ll_R (ll_x l kn) (351, ll_lo u zi o5 o6, [.int (if zA = 0 then 1 else 0), .int zD], h2, k + 0 + 0, q + 0 + 0) Q
  have ez : (if zA = 0 then (1 : Int32) else 0) = zD := by rcases hDA with ⟨rfl, rfl⟩ | ⟨rfl, rfl⟩ <;> rfl
  rw [ez]
  refine ll_st ll_i351 (S' := (783, ll_lo u zi o5 o6, [], h2, k + 0 + 0, q + 0 + 0)) ?_ ?_
  · show am_br (decide (zD = zD)) 351 432 (ll_lo u zi o5 o6) [] h2 (k + 0 + 0) (q + 0 + 0) = _
    rw [decide_eq_true rfl]
    rfl
  have eb : b1 = b2 := hx1.trans hx2.symm
  subst eb
  refine hn _ _ _ _ _ ⟨⟨b1, if b1 = 0 then 1 else 0, ?_, ?_, ?_⟩, τ, mc, T, hmc, hU, hut, ⟨hT.1, by omega⟩, hJ2, by omega, by omega⟩
  · rw [s2, if_neg (fun e => u44 e.1.symm), if_neg (fun e => u44 e.1.symm), s1, if_pos ⟨rfl, rfl⟩]
  · rw [s2, if_pos ⟨rfl, rfl⟩]
  · rcases hb1 with rfl | rfl
    · exact Or.inr ⟨rfl, rfl⟩
    · exact Or.inl ⟨rfl, rfl⟩
set_option maxRecDepth 100000 in
theorem ll_k0 {u : Nat → Nat} {l : Nat} {kn : List (Nat × Int32)} {N : Nat} (hN : N < 512) {zi : Int32} {x : Nat → Int32} (ha : ll_a l kn zi x) {o5 o6 : Option Value} {h : am_H} {k q : Nat} (hI : ll_I u N h k q) {Q : am_R → Prop} (hn : ∀ o5 o6 h k q, ll_I u (N + 1) h k q → ll_R (ll_x l kn) (783, ll_lo u zi o5 o6, [], h, k, q) Q) : ll_R (ll_x l kn) (124, ll_lo u zi o5 o6, [], h, k, q) Q := by
  obtain ⟨hii, τ, mc, T, hmc, hU, hut, hT, hJ, hk, hq⟩ := hI
  refine ll_st ll_i124 (S' := (125, ll_lo u zi o5 o6, [.ref (u 1)], h, k, q)) rfl ?_
  refine ll_arg (c := 1) (zi := zi) (x := x 1) rfl rfl ll_i125 ll_i126 ll_i128 ll_i129 ll_i130 (ha 1 (by decide)).1 (ha 1 (by decide)).2 ?_
  refine ll_arg (c := 2) (zi := zi) (x := x 2) rfl rfl ll_i131 ll_i132 ll_i134 ll_i135 ll_i136 (ha 2 (by decide)).1 (ha 2 (by decide)).2 ?_
  refine ll_arg (c := 3) (zi := zi) (x := x 3) rfl rfl ll_i137 ll_i138 ll_i140 ll_i141 ll_i142 (ha 3 (by decide)).1 (ha 3 (by decide)).2 ?_
  refine ll_st ll_i143 (S' := (144, ll_lo u zi o5 o6, [.ref (u 39), .int (x 3), .int (x 2), .int (x 1), .ref (u 1)], h, k, q)) rfl ?_
  refine ll_ca ll_i144 (j := 137) (as := [.ref (u 1), .int (x 1), .int (x 2), .int (x 3), .ref (u 39)]) (pc' := 144) (lo' := ll_lo u zi o5 o6) (st' := []) (h' := h) (k1 := k) (q1 := q) rfl (mj := am_m137) rfl ⟨by decide, by decide, Nat.le_of_ble_eq_true rfl⟩ ?_
  refine Rn_mono (ii_c (j := 137) rfl rfl (jl_mach hmc hU hut hJ (x 1) (x 2) (x 3))) (fun r hr => ?_)
  obtain ⟨hr, hf1⟩ := hr
  obtain ⟨z1, h1, k1, q1, rfl, hk1, hq1, -, hcase⟩ := hr
  refine ⟨some (.int z1), h1, k1, q1, rfl, ?_⟩
  show ll_R (ll_x l kn) (147, ll_lo u zi o5 o6, [.int z1], h1, k + k1, q + q1) Q
  refine ll_st ll_i147 (S' := (149, ll_lo u zi (some (.int z1)) o6, [], h1, k + k1, q + q1)) rfl ?_
  refine ll_st ll_i149 (S' := (150, ll_lo u zi (some (.int z1)) o6, [.ref (u 40)], h1, k + k1, q + q1)) rfl ?_
  refine ll_arg (c := 1) (zi := zi) (x := x 1) rfl rfl ll_i150 ll_i151 ll_i153 ll_i154 ll_i155 (ha 1 (by decide)).1 (ha 1 (by decide)).2 ?_
  refine ll_arg (c := 2) (zi := zi) (x := x 2) rfl rfl ll_i156 ll_i157 ll_i159 ll_i160 ll_i161 (ha 2 (by decide)).1 (ha 2 (by decide)).2 ?_
  refine ll_arg (c := 3) (zi := zi) (x := x 3) rfl rfl ll_i162 ll_i163 ll_i165 ll_i166 ll_i167 (ha 3 (by decide)).1 (ha 3 (by decide)).2 ?_
  rcases hcase with ⟨hJ1, hno⟩ | ⟨ok1, m8, ok2, τ2, hU2, hut2, hH⟩
  · obtain ⟨vs2, hv2⟩ := ll_c40 hut hJ1
    refine ll_iv (as := [.int (x 1), .int (x 2), .int (x 3)]) (r := []) ll_i168 (j := 109) (b := 3) (d := 9) (by decide +kernel) hv2 rfl rfl rfl (Nat.le_of_ble_eq_true rfl) (mj := am_m109) rfl ⟨by decide, by decide, Nat.le_of_ble_eq_true rfl⟩ ?_
    refine Rn_mono (ii_c (j := 109) rfl rfl (jm_machn hmc hU hut hJ1 (x 1) (x 2) (x 3) hno)) (fun r hr => ?_)
    obtain ⟨hr, hf2⟩ := hr
    obtain ⟨z2, h2, rfl, hJ2, -⟩ := hr
    refine ⟨some (.int z2), h2, 0, 0, rfl, ?_⟩
    show ll_R (ll_x l kn) (171, ll_lo u zi (some (.int z1)) o6, [.int z2], h2, k + k1 + 0, q + q1 + 0) Q
    refine ll_st ll_i171 (S' := (173, ll_lo u zi (some (.int z1)) (some (.int z2)), [], h2, k + k1 + 0, q + q1 + 0)) rfl ?_
    refine ll_st ll_i173 (S' := (783, ll_lo u zi (some (.int z1)) (some (.int z2)), [], h2, k + k1 + 0, q + q1 + 0)) rfl ?_
    exact hn _ _ _ _ _ ⟨(ii_k hut hJ (fz_trans hf1 hf2) hii), τ, mc, T, hmc, hU, hut, ⟨hT.1, by omega⟩, hJ2, by omega, by omega⟩
  · obtain ⟨vs2, hv2⟩ := ll_ch hut2 hH
    refine ll_iv (as := [.int (x 1), .int (x 2), .int (x 3)]) (r := []) ll_i168 (j := 109) (b := 3) (d := 9) (by decide +kernel) hv2 rfl rfl rfl (Nat.le_of_ble_eq_true rfl) (mj := am_m109) rfl ⟨by decide, by decide, Nat.le_of_ble_eq_true rfl⟩ ?_
    refine Rn_mono (ii_c (j := 109) rfl rfl (jm_mach (zl := x 1) m8 hU2 hut2 hH ok1 ok2)) (fun r hr => ?_)
    obtain ⟨hr, hf2⟩ := hr
    obtain ⟨z2, h2, rfl, hJ2, -⟩ := hr
    refine ⟨some (.int z2), h2, 0, 0, rfl, ?_⟩
    show ll_R (ll_x l kn) (171, ll_lo u zi (some (.int z1)) o6, [.int z2], h2, k + k1 + 0, q + q1 + 0) Q
    refine ll_st ll_i171 (S' := (173, ll_lo u zi (some (.int z1)) (some (.int z2)), [], h2, k + k1 + 0, q + q1 + 0)) rfl ?_
    refine ll_st ll_i173 (S' := (783, ll_lo u zi (some (.int z1)) (some (.int z2)), [], h2, k + k1 + 0, q + q1 + 0)) rfl ?_
    exact hn _ _ _ _ _ ⟨(ii_k hut hJ (fz_trans hf1 hf2) hii), τ2, mc + 1, T, by omega, hU2, hut2, ⟨hT.1, by omega⟩, hJ2, by omega, by omega⟩
