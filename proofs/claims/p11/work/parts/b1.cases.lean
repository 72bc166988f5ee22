/-! ===== the cases of the law ===== -/
theorem ll_jn (z : Int32) : j_n z ≤ 60 := by
  unfold j_n
  split <;> omega
set_option maxRecDepth 100000 in
theorem ll_k1 {u : Nat → Nat} {l : Nat} {kn : List (Nat × Int32)} {N : Nat} (hN : N < 512) {zi : Int32} {x : Nat → Int32} (ha : ll_a l kn zi x) {o5 o6 : Option Value} {h : am_H} {k q : Nat} (hI : ll_I u N h k q) {Q : am_R → Prop} (hn : ∀ o5 o6 h k q, ll_I u (N + 1) h k q → ll_R (ll_x l kn) (811, ll_lo u zi o5 o6, [], h, k, q) Q) : ll_R (ll_x l kn) (176, ll_lo u zi o5 o6, [], h, k, q) Q := by
  obtain ⟨hii, τ, mc, T, hmc, hU, hut, hT, hJ, hk, hq⟩ := hI
  refine ll_st ll_i176 (S' := (177, ll_lo u zi (o5) (o6), [.ref (u 1)], h, k, q)) rfl ?_
  refine ll_arg (c := 1) (zi := zi) (x := x 1) rfl rfl ll_i177 ll_i178 ll_i180 ll_i181 ll_i182 (ha 1 (by decide)).1 (ha 1 (by decide)).2 ?_
  refine ll_arg (c := 2) (zi := zi) (x := x 2) rfl rfl ll_i183 ll_i184 ll_i186 ll_i187 ll_i188 (ha 2 (by decide)).1 (ha 2 (by decide)).2 ?_
  refine ll_ca ll_i189 (j := 138) (as := [.ref (u 1), .int (x 1), .int (x 2)]) (pc' := 189) (lo' := ll_lo u zi (o5) (o6)) (st' := []) (h' := h) (k1 := k) (q1 := q) rfl (mj := am_m138) rfl ⟨by decide, by decide, Nat.le_of_ble_eq_true rfl⟩ ?_
  refine Rn_mono (Rn_and (j_apic (xs := [.ref (u 1), .int (x 1), .int (x 2)]) hmc hU hut (j_k138 mc hmc) rfl hJ ⟨Or.inr (ll_g1 hut), ⟨Or.inr (ll_gt), ⟨Or.inr (ll_gt), trivial⟩⟩⟩) (k_apic (xs := [.ref (u 1), .int (x 1), .int (x 2)]) hmc hU hut (j_r138 mc hmc) rfl hJ ⟨Or.inr (ll_g1 hut), ⟨Or.inr (ll_gt), ⟨Or.inr (ll_gt), trivial⟩⟩⟩)) (fun r hr => ?_)
  obtain ⟨hr, hf1⟩ := hr
  obtain ⟨v1, h1, k1, q1, rfl, hv, hJ1, hk1, hq1, -⟩ := hr
  rcases hv with ⟨e, -⟩ | ⟨-, z1, rfl⟩
  · cases e
  · refine ⟨some (.int z1), h1, k1, q1, rfl, ?_⟩
    show ll_R (ll_x l kn) (192, ll_lo u zi (o5) (o6), [.int z1], h1, k + k1, q + q1) Q
    refine ll_st ll_i192 (S' := (194, ll_lo u zi (some (.int z1)) (o6), [], h1, k + k1, q + q1)) rfl ?_
    refine ll_st ll_i194 (S' := (195, ll_lo u zi (some (.int z1)) (o6), [.ref (u 40)], h1, k + k1, q + q1)) rfl ?_
    refine ll_arg (c := 1) (zi := zi) (x := x 1) rfl rfl ll_i195 ll_i196 ll_i198 ll_i199 ll_i200 (ha 1 (by decide)).1 (ha 1 (by decide)).2 ?_
    refine ll_arg (c := 2) (zi := zi) (x := x 2) rfl rfl ll_i201 ll_i202 ll_i204 ll_i205 ll_i206 (ha 2 (by decide)).1 (ha 2 (by decide)).2 ?_
    obtain ⟨vs2, hv2⟩ := ll_c40 hut hJ1
    refine ll_iv (as := [.int (x 1), .int (x 2)]) (r := []) ll_i207 (j := 110) (b := 2) (d := 9) (by decide +kernel) hv2 rfl rfl rfl (Nat.le_of_ble_eq_true rfl) (mj := am_m110) rfl ⟨by decide, by decide, Nat.le_of_ble_eq_true rfl⟩ ?_
    refine Rn_mono (jm_moveK hmc hU hut hJ1 (x 1) (x 2)) (fun r hr => ?_)
    obtain ⟨h2, rfl, hJ2, -, hf2⟩ := hr
    refine ⟨none, h2, 0, 0, rfl, ?_⟩
    show ll_R (ll_x l kn) (210, ll_lo u zi (some (.int z1)) (o6), [], h2, k + k1 + 0, q + q1 + 0) Q
    refine ll_st ll_i210 (S' := (811, ll_lo u zi (some (.int z1)) (o6), [], h2, k + k1 + 0, q + q1 + 0)) rfl ?_
    exact hn _ _ _ _ _ ⟨(ii_k hmc hmc hut hU hut hJ hJ2 (k_trans hf1 hf2) hii), τ, mc, T, hmc, hU, hut, ⟨hT.1, by omega⟩, hJ2, by omega, by omega⟩
set_option maxRecDepth 100000 in
theorem ll_k2 {u : Nat → Nat} {l : Nat} {kn : List (Nat × Int32)} {N : Nat} (hN : N < 512) {zi : Int32} {x : Nat → Int32} (ha : ll_a l kn zi x) {o5 o6 : Option Value} {h : am_H} {k q : Nat} (hI : ll_I u N h k q) {Q : am_R → Prop} (hn : ∀ o5 o6 h k q, ll_I u (N + 1) h k q → ll_R (ll_x l kn) (811, ll_lo u zi o5 o6, [], h, k, q) Q) : ll_R (ll_x l kn) (213, ll_lo u zi o5 o6, [], h, k, q) Q := by
  obtain ⟨hii, τ, mc, T, hmc, hU, hut, hT, hJ, hk, hq⟩ := hI
  refine ll_st ll_i213 (S' := (214, ll_lo u zi (o5) (o6), [.ref (u 1)], h, k, q)) rfl ?_
  refine ll_arg (c := 1) (zi := zi) (x := x 1) rfl rfl ll_i214 ll_i215 ll_i217 ll_i218 ll_i219 (ha 1 (by decide)).1 (ha 1 (by decide)).2 ?_
  refine ll_arg (c := 2) (zi := zi) (x := x 2) rfl rfl ll_i220 ll_i221 ll_i223 ll_i224 ll_i225 (ha 2 (by decide)).1 (ha 2 (by decide)).2 ?_
  refine ll_arg (c := 3) (zi := zi) (x := x 3) rfl rfl ll_i226 ll_i227 ll_i229 ll_i230 ll_i231 (ha 3 (by decide)).1 (ha 3 (by decide)).2 ?_
  refine ll_ca ll_i232 (j := 142) (as := [.ref (u 1), .int (x 1), .int (x 2), .int (x 3)]) (pc' := 232) (lo' := ll_lo u zi (o5) (o6)) (st' := []) (h' := h) (k1 := k) (q1 := q) rfl (mj := am_m142) rfl ⟨by decide, by decide, Nat.le_of_ble_eq_true rfl⟩ ?_
  refine Rn_mono (Rn_and (j_apic (xs := [.ref (u 1), .int (x 1), .int (x 2), .int (x 3)]) hmc hU hut (j_k142 mc hmc) rfl hJ ⟨Or.inr (ll_g1 hut), ⟨Or.inr (ll_gt), ⟨Or.inr (ll_gt), ⟨Or.inr (ll_gt), trivial⟩⟩⟩⟩) (k_apic (xs := [.ref (u 1), .int (x 1), .int (x 2), .int (x 3)]) hmc hU hut (j_r142 mc hmc) rfl hJ ⟨Or.inr (ll_g1 hut), ⟨Or.inr (ll_gt), ⟨Or.inr (ll_gt), ⟨Or.inr (ll_gt), trivial⟩⟩⟩⟩)) (fun r hr => ?_)
  obtain ⟨hr, hf1⟩ := hr
  obtain ⟨v1, h1, k1, q1, rfl, hv, hJ1, hk1, hq1, -⟩ := hr
  rcases hv with ⟨e, -⟩ | ⟨-, z1, rfl⟩
  · cases e
  · refine ⟨some (.int z1), h1, k1, q1, rfl, ?_⟩
    show ll_R (ll_x l kn) (235, ll_lo u zi (o5) (o6), [.int z1], h1, k + k1, q + q1) Q
    refine ll_st ll_i235 (S' := (237, ll_lo u zi (some (.int z1)) (o6), [], h1, k + k1, q + q1)) rfl ?_
    refine ll_st ll_i237 (S' := (238, ll_lo u zi (some (.int z1)) (o6), [.ref (u 40)], h1, k + k1, q + q1)) rfl ?_
    refine ll_arg (c := 1) (zi := zi) (x := x 1) rfl rfl ll_i238 ll_i239 ll_i241 ll_i242 ll_i243 (ha 1 (by decide)).1 (ha 1 (by decide)).2 ?_
    refine ll_arg (c := 2) (zi := zi) (x := x 2) rfl rfl ll_i244 ll_i245 ll_i247 ll_i248 ll_i249 (ha 2 (by decide)).1 (ha 2 (by decide)).2 ?_
    refine ll_arg (c := 3) (zi := zi) (x := x 3) rfl rfl ll_i250 ll_i251 ll_i253 ll_i254 ll_i255 (ha 3 (by decide)).1 (ha 3 (by decide)).2 ?_
    obtain ⟨vs2, hv2⟩ := ll_c40 hut hJ1
    refine ll_iv (as := [.int (x 1), .int (x 2), .int (x 3)]) (r := []) ll_i256 (j := 121) (b := 3) (d := 9) (by decide +kernel) hv2 rfl rfl rfl (Nat.le_of_ble_eq_true rfl) (mj := am_m121) rfl ⟨by decide, by decide, Nat.le_of_ble_eq_true rfl⟩ ?_
    refine Rn_mono (Rn_and (j_api (xs := [.ref (u 40), .int (x 1), .int (x 2), .int (x 3)]) hmc hU hut (j_k121 mc hmc) rfl hJ1 ⟨Or.inr (ll_g40 hut), ⟨Or.inr (ll_gt), ⟨Or.inr (ll_gt), ⟨Or.inr (ll_gt), trivial⟩⟩⟩⟩) (k_api (xs := [.ref (u 40), .int (x 1), .int (x 2), .int (x 3)]) hmc hU hut (j_r121 mc hmc) rfl hJ1 ⟨Or.inr (ll_g40 hut), ⟨Or.inr (ll_gt), ⟨Or.inr (ll_gt), ⟨Or.inr (ll_gt), trivial⟩⟩⟩⟩)) (fun r hr => ?_)
    obtain ⟨hr, hf2⟩ := hr
    obtain ⟨v2, h2, k2, q2, rfl, hv, hJ2, hk2, hq2, -⟩ := hr
    rcases hv with ⟨-, rfl⟩ | ⟨e, -⟩
    · refine ⟨none, h2, k2, q2, rfl, ?_⟩
      show ll_R (ll_x l kn) (259, ll_lo u zi (some (.int z1)) (o6), [], h2, k + k1 + k2, q + q1 + q2) Q
      refine ll_st ll_i259 (S' := (811, ll_lo u zi (some (.int z1)) (o6), [], h2, k + k1 + k2, q + q1 + q2)) rfl ?_
      exact hn _ _ _ _ _ ⟨(ii_k hmc hmc hut hU hut hJ hJ2 (k_trans hf1 hf2) hii), τ, mc, T, hmc, hU, hut, ⟨hT.1, by omega⟩, hJ2, by omega, by omega⟩
    · cases e
set_option maxRecDepth 100000 in
theorem ll_k4 {u : Nat → Nat} {l : Nat} {kn : List (Nat × Int32)} {N : Nat} (hN : N < 512) {zi : Int32} {x : Nat → Int32} (ha : ll_a l kn zi x) {o5 o6 : Option Value} {h : am_H} {k q : Nat} (hI : ll_I u N h k q) {Q : am_R → Prop} (hn : ∀ o5 o6 h k q, ll_I u (N + 1) h k q → ll_R (ll_x l kn) (811, ll_lo u zi o5 o6, [], h, k, q) Q) : ll_R (ll_x l kn) (315, ll_lo u zi o5 o6, [], h, k, q) Q := by
  obtain ⟨hii, τ, mc, T, hmc, hU, hut, hT, hJ, hk, hq⟩ := hI
  refine ll_st ll_i315 (S' := (316, ll_lo u zi (o5) (o6), [.ref (u 1)], h, k, q)) rfl ?_
  refine ll_arg (c := 1) (zi := zi) (x := x 1) rfl rfl ll_i316 ll_i317 ll_i319 ll_i320 ll_i321 (ha 1 (by decide)).1 (ha 1 (by decide)).2 ?_
  refine ll_bool ll_i322 ll_i325 ll_i326 ll_i329 (fun b1 hb1 hx1 => ?_)
  obtain ⟨vs1, hv1⟩ := ll_c1 hut hJ
  refine ll_iv (as := [.int b1]) (r := []) ll_i330 (j := 2) (b := 1) (d := 0) (by decide +kernel) hv1 rfl rfl rfl (Nat.le_of_ble_eq_true rfl) (mj := am_m2) rfl ⟨by decide, by decide, Nat.le_of_ble_eq_true rfl⟩ ?_
  refine Rn_mono (Rn_and (j_apic (xs := [.ref (u 1), .int b1]) hmc hU hut (j_k2 mc hmc) rfl hJ ⟨Or.inr (ll_g1 hut), ⟨Or.inr (ll_gb hb1), trivial⟩⟩) (k_apic (xs := [.ref (u 1), .int b1]) hmc hU hut (j_r2 mc hmc) rfl hJ ⟨Or.inr (ll_g1 hut), ⟨Or.inr (ll_gb hb1), trivial⟩⟩)) (fun r hr => ?_)
  obtain ⟨hr, hf1⟩ := hr
  obtain ⟨v1, h1, k1, q1, rfl, hv, hJ1, hk1, hq1, -⟩ := hr
  rcases hv with ⟨e, -⟩ | ⟨-, z1, rfl⟩
  · cases e
  · refine ⟨some (.int z1), h1, k1, q1, rfl, ?_⟩
    show ll_R (ll_x l kn) (333, ll_lo u zi (o5) (o6), [.int z1], h1, k + k1, q + q1) Q
    refine ll_st ll_i333 (S' := (334, ll_lo u zi (o5) (o6), [], h1, k + k1, q + q1)) rfl ?_
    refine ll_st ll_i334 (S' := (335, ll_lo u zi (o5) (o6), [.ref (u 40)], h1, k + k1, q + q1)) rfl ?_
    refine ll_arg (c := 1) (zi := zi) (x := x 1) rfl rfl ll_i335 ll_i336 ll_i338 ll_i339 ll_i340 (ha 1 (by decide)).1 (ha 1 (by decide)).2 ?_
    refine ll_bool ll_i341 ll_i344 ll_i345 ll_i348 (fun b2 hb2 hx2 => ?_)
    obtain ⟨vs2, hv2⟩ := ll_c40 hut hJ1
    refine ll_iv (as := [.int b2]) (r := []) ll_i349 (j := 87) (b := 1) (d := 9) (by decide +kernel) hv2 rfl rfl rfl (Nat.le_of_ble_eq_true rfl) (mj := am_m87) rfl ⟨by decide, by decide, Nat.le_of_ble_eq_true rfl⟩ ?_
    refine Rn_mono (Rn_and (j_api (xs := [.ref (u 40), .int b2]) hmc hU hut (j_k87 mc hmc) rfl hJ1 ⟨Or.inr (ll_g40 hut), ⟨Or.inr (ll_gb hb2), trivial⟩⟩) (k_api (xs := [.ref (u 40), .int b2]) hmc hU hut (j_r87 mc hmc) rfl hJ1 ⟨Or.inr (ll_g40 hut), ⟨Or.inr (ll_gb hb2), trivial⟩⟩)) (fun r hr => ?_)
    obtain ⟨hr, hf2⟩ := hr
    obtain ⟨v2, h2, k2, q2, rfl, hv, hJ2, hk2, hq2, -⟩ := hr
    rcases hv with ⟨e, -⟩ | ⟨-, z2, rfl⟩
    · cases e
    · refine ⟨some (.int z2), h2, k2, q2, rfl, ?_⟩
      show ll_R (ll_x l kn) (352, ll_lo u zi (o5) (o6), [.int z2], h2, k + k1 + k2, q + q1 + q2) Q
      refine ll_st ll_i352 (S' := (353, ll_lo u zi (o5) (o6), [], h2, k + k1 + k2, q + q1 + q2)) rfl ?_
      refine ll_st ll_i353 (S' := (811, ll_lo u zi (o5) (o6), [], h2, k + k1 + k2, q + q1 + q2)) rfl ?_
      exact hn _ _ _ _ _ ⟨(ii_k hmc hmc hut hU hut hJ hJ2 (k_trans hf1 hf2) hii), τ, mc, T, hmc, hU, hut, ⟨hT.1, by omega⟩, hJ2, by omega, by omega⟩
set_option maxRecDepth 100000 in
theorem ll_k5 {u : Nat → Nat} {l : Nat} {kn : List (Nat × Int32)} {N : Nat} (hN : N < 512) {zi : Int32} {x : Nat → Int32} (ha : ll_a l kn zi x) {o5 o6 : Option Value} {h : am_H} {k q : Nat} (hI : ll_I u N h k q) {Q : am_R → Prop} (hn : ∀ o5 o6 h k q, ll_I u (N + 1) h k q → ll_R (ll_x l kn) (811, ll_lo u zi o5 o6, [], h, k, q) Q) : ll_R (ll_x l kn) (356, ll_lo u zi o5 o6, [], h, k, q) Q := by
  obtain ⟨hii, τ, mc, T, hmc, hU, hut, hT, hJ, hk, hq⟩ := hI
  refine ll_st ll_i356 (S' := (357, ll_lo u zi (o5) (o6), [.ref (u 1)], h, k, q)) rfl ?_
  refine ll_arg (c := 1) (zi := zi) (x := x 1) rfl rfl ll_i357 ll_i358 ll_i360 ll_i361 ll_i362 (ha 1 (by decide)).1 (ha 1 (by decide)).2 ?_
  refine ll_st ll_i363 (S' := (364, ll_lo u zi (o5) (o6), [.ref (u 39), .int (x 1), .ref (u 1)], h, k, q)) rfl ?_
  refine ll_ca ll_i364 (j := 136) (as := [.ref (u 1), .int (x 1), .ref (u 39)]) (pc' := 364) (lo' := ll_lo u zi (o5) (o6)) (st' := []) (h' := h) (k1 := k) (q1 := q) rfl (mj := am_m136) rfl ⟨by decide, by decide, Nat.le_of_ble_eq_true rfl⟩ ?_
  refine Rn_mono (Rn_and (j_apic (xs := [.ref (u 1), .int (x 1), .ref (u 39)]) hmc hU hut (j_k136 mc hmc) rfl hJ ⟨Or.inr (ll_g1 hut), ⟨Or.inr (ll_gt), ⟨Or.inr (ll_g39 hut), trivial⟩⟩⟩) (k_apic (xs := [.ref (u 1), .int (x 1), .ref (u 39)]) hmc hU hut (j_r136 mc hmc) rfl hJ ⟨Or.inr (ll_g1 hut), ⟨Or.inr (ll_gt), ⟨Or.inr (ll_g39 hut), trivial⟩⟩⟩)) (fun r hr => ?_)
  obtain ⟨hr, hf1⟩ := hr
  obtain ⟨v1, h1, k1, q1, rfl, hv, hJ1, hk1, hq1, -⟩ := hr
  rcases hv with ⟨e, -⟩ | ⟨-, z1, rfl⟩
  · cases e
  · refine ⟨some (.int z1), h1, k1, q1, rfl, ?_⟩
    show ll_R (ll_x l kn) (367, ll_lo u zi (o5) (o6), [.int z1], h1, k + k1, q + q1) Q
    refine ll_st ll_i367 (S' := (369, ll_lo u zi (some (.int z1)) (o6), [], h1, k + k1, q + q1)) rfl ?_
    refine ll_st ll_i369 (S' := (370, ll_lo u zi (some (.int z1)) (o6), [.ref (u 40)], h1, k + k1, q + q1)) rfl ?_
    refine ll_arg (c := 1) (zi := zi) (x := x 1) rfl rfl ll_i370 ll_i371 ll_i373 ll_i374 ll_i375 (ha 1 (by decide)).1 (ha 1 (by decide)).2 ?_
    obtain ⟨vs2, hv2⟩ := ll_c40 hut hJ1
    refine ll_iv (as := [.int (x 1)]) (r := []) ll_i376 (j := 108) (b := 1) (d := 9) (by decide +kernel) hv2 rfl rfl rfl (Nat.le_of_ble_eq_true rfl) (mj := am_m108) rfl ⟨by decide, by decide, Nat.le_of_ble_eq_true rfl⟩ ?_
    refine Rn_mono (Rn_and (j_api (xs := [.ref (u 40), .int (x 1)]) hmc hU hut (j_k108 mc hmc) rfl hJ1 ⟨Or.inr (ll_g40 hut), ⟨Or.inr (ll_gt), trivial⟩⟩) (k_api (xs := [.ref (u 40), .int (x 1)]) hmc hU hut (j_r108 mc hmc) rfl hJ1 ⟨Or.inr (ll_g40 hut), ⟨Or.inr (ll_gt), trivial⟩⟩)) (fun r hr => ?_)
    obtain ⟨hr, hf2⟩ := hr
    obtain ⟨v2, h2, k2, q2, rfl, hv, hJ2, hk2, hq2, -⟩ := hr
    rcases hv with ⟨e, -⟩ | ⟨-, z2, rfl⟩
    · cases e
    · refine ⟨some (.int z2), h2, k2, q2, rfl, ?_⟩
      show ll_R (ll_x l kn) (379, ll_lo u zi (some (.int z1)) (o6), [.int z2], h2, k + k1 + k2, q + q1 + q2) Q
      refine ll_st ll_i379 (S' := (381, ll_lo u zi (some (.int z1)) (some (.int z2)), [], h2, k + k1 + k2, q + q1 + q2)) rfl ?_
      refine ll_st ll_i381 (S' := (811, ll_lo u zi (some (.int z1)) (some (.int z2)), [], h2, k + k1 + k2, q + q1 + q2)) rfl ?_
      exact hn _ _ _ _ _ ⟨(ii_k hmc hmc hut hU hut hJ hJ2 (k_trans hf1 hf2) hii), τ, mc, T, hmc, hU, hut, ⟨hT.1, by omega⟩, hJ2, by omega, by omega⟩
set_option maxRecDepth 100000 in
theorem ll_k6 {u : Nat → Nat} {l : Nat} {kn : List (Nat × Int32)} {N : Nat} (hN : N < 512) {zi : Int32} {x : Nat → Int32} (ha : ll_a l kn zi x) {o5 o6 : Option Value} {h : am_H} {k q : Nat} (hI : ll_I u N h k q) {Q : am_R → Prop} (hn : ∀ o5 o6 h k q, ll_I u (N + 1) h k q → ll_R (ll_x l kn) (811, ll_lo u zi o5 o6, [], h, k, q) Q) : ll_R (ll_x l kn) (384, ll_lo u zi o5 o6, [], h, k, q) Q := by
  obtain ⟨hii, τ, mc, T, hmc, hU, hut, hT, hJ, hk, hq⟩ := hI
  refine ll_st ll_i384 (S' := (385, ll_lo u zi (o5) (o6), [.ref (u 1)], h, k, q)) rfl ?_
  refine ll_arg (c := 1) (zi := zi) (x := x 1) rfl rfl ll_i385 ll_i386 ll_i388 ll_i389 ll_i390 (ha 1 (by decide)).1 (ha 1 (by decide)).2 ?_
  refine ll_st ll_i391 (S' := (392, ll_lo u zi (o5) (o6), [.ref (u 39), .int (x 1), .ref (u 1)], h, k, q)) rfl ?_
  refine ll_ca ll_i392 (j := 141) (as := [.ref (u 1), .int (x 1), .ref (u 39)]) (pc' := 392) (lo' := ll_lo u zi (o5) (o6)) (st' := []) (h' := h) (k1 := k) (q1 := q) rfl (mj := am_m141) rfl ⟨by decide, by decide, Nat.le_of_ble_eq_true rfl⟩ ?_
  have hjn := ll_jn (x 1)
  obtain ⟨c, w, dn, e1, e2, e3, e4, e5, e6, e7⟩ := hii
  refine Rn_mono (r_lrun hmc hU hut ⟨hT.1, by omega⟩ hJ e1 e2 e3 e4 e6 e7 (x 1)) (fun r hr => ?_)
  obtain ⟨z1, h1, k1, q1, rfl, hJ1, hk1, hq1, -, hI1, hR1⟩ := hr
  refine ⟨some (.int z1), h1, k1, q1, rfl, ?_⟩
  show ll_R (ll_x l kn) (395, ll_lo u zi (o5) (o6), [.int z1], h1, k + k1, q + q1) Q
  refine ll_st ll_i395 (S' := (397, ll_lo u zi (some (.int z1)) (o6), [], h1, k + k1, q + q1)) rfl ?_
  refine ll_st ll_i397 (S' := (398, ll_lo u zi (some (.int z1)) (o6), [.ref (u 40)], h1, k + k1, q + q1)) rfl ?_
  refine ll_arg (c := 1) (zi := zi) (x := x 1) rfl rfl ll_i398 ll_i399 ll_i401 ll_i402 ll_i403 (ha 1 (by decide)).1 (ha 1 (by decide)).2 ?_
  obtain ⟨vs2, hv2⟩ := ll_c40 hut hJ1
  refine ll_iv (as := [.int (x 1)]) (r := []) ll_i404 (j := 119) (b := 1) (d := 9) (by decide +kernel) hv2 rfl rfl rfl (Nat.le_of_ble_eq_true rfl) (mj := am_m119) rfl ⟨by decide, by decide, Nat.le_of_ble_eq_true rfl⟩ ?_
  refine Rn_mono (r_mrun hmc hU hut ⟨hT.1, by omega⟩ hJ1 e1 e2 e3 e4 e5 hI1 hR1 (x 1)) (fun r hr => ?_)
  obtain ⟨z2, h2, rfl, hJ2, -, hI2, hR2⟩ := hr
  refine ⟨some (.int z2), h2, 0, 0, rfl, ?_⟩
  show ll_R (ll_x l kn) (407, ll_lo u zi (some (.int z1)) (o6), [.int z2], h2, k + k1 + 0, q + q1 + 0) Q
  refine ll_st ll_i407 (S' := (409, ll_lo u zi (some (.int z1)) (some (.int z2)), [], h2, k + k1 + 0, q + q1 + 0)) rfl ?_
  refine ll_st ll_i409 (S' := (811, ll_lo u zi (some (.int z1)) (some (.int z2)), [], h2, k + k1 + 0, q + q1 + 0)) rfl ?_
  exact hn _ _ _ _ _ ⟨⟨c, r_an w dn T (j_n (x 1)), dn, e1, e2, r_an16 e3 _, e4, r_and_ e5 _, hI2, hR2⟩, τ, mc, T + j_n (x 1), hmc, hU, hut, ⟨by omega, by omega⟩, hJ2, by omega, by omega⟩
set_option maxRecDepth 100000 in
theorem ll_k7 {u : Nat → Nat} {l : Nat} {kn : List (Nat × Int32)} {N : Nat} (hN : N < 512) {zi : Int32} {x : Nat → Int32} (ha : ll_a l kn zi x) {o5 o6 : Option Value} {h : am_H} {k q : Nat} (hI : ll_I u N h k q) {Q : am_R → Prop} (hn : ∀ o5 o6 h k q, ll_I u (N + 1) h k q → ll_R (ll_x l kn) (811, ll_lo u zi o5 o6, [], h, k, q) Q) : ll_R (ll_x l kn) (412, ll_lo u zi o5 o6, [], h, k, q) Q := by
  obtain ⟨hii, τ, mc, T, hmc, hU, hut, hT, hJ, hk, hq⟩ := hI
  refine ll_st ll_i412 (S' := (413, ll_lo u zi (o5) (o6), [.ref (u 1)], h, k, q)) rfl ?_
  obtain ⟨vs1, hv1⟩ := ll_c1 hut hJ
  refine ll_iv (as := []) (r := []) ll_i413 (j := 23) (b := 0) (d := 0) (by decide +kernel) hv1 rfl rfl rfl (Nat.le_of_ble_eq_true rfl) (mj := am_m23) rfl ⟨by decide, by decide, Nat.le_of_ble_eq_true rfl⟩ ?_
  refine Rn_mono (jc_now (Q := fun r => ∃ z : Int32, ab_b z = T ∧ r = (.inl (some (.int z)), h, 0, 0)) hmc hU hut hJ (fun z hz => ⟨z, hz, rfl⟩)) (fun r hr => ?_)
  obtain ⟨z1, hz1, rfl⟩ := hr
  have hf1 : k_P τ h h := k_refl
  refine ⟨some (.int z1), h, 0, 0, rfl, ?_⟩
  show ll_R (ll_x l kn) (416, ll_lo u zi (o5) (o6), [.int z1], h, k + 0, q + 0) Q
  refine ll_st ll_i416 (S' := (417, ll_lo u zi (o5) (o6), [], h, k + 0, q + 0)) rfl ?_
  refine ll_st ll_i417 (S' := (418, ll_lo u zi (o5) (o6), [.ref (u 40)], h, k + 0, q + 0)) rfl ?_
  obtain ⟨vs2, hv2⟩ := ll_c40 hut hJ
  refine ll_iv (as := []) (r := []) ll_i418 (j := 112) (b := 0) (d := 9) (by decide +kernel) hv2 rfl rfl rfl (Nat.le_of_ble_eq_true rfl) (mj := am_m112) rfl ⟨by decide, by decide, Nat.le_of_ble_eq_true rfl⟩ ?_
  refine Rn_mono (jm_nowK (Q := fun r => ∃ (z : Int32) (h2 : am_H), ab_b z = T ∧ j_J τ u mc T T h2 ∧ k_P τ h h2 ∧ r = (.inl (some (.int z)), h2, 0, 0)) hmc hU hut hJ (fun z h2 hz hJ2 _ hq => ⟨z, h2, hz, hJ2, hq, rfl⟩)) (fun r hr => ?_)
  obtain ⟨z2, h2, hz2, hJ2, hf2, rfl⟩ := hr
  refine ⟨some (.int z2), h2, 0, 0, rfl, ?_⟩
  show ll_R (ll_x l kn) (421, ll_lo u zi (o5) (o6), [.int z2], h2, k + 0 + 0, q + 0 + 0) Q
  refine ll_st ll_i421 (S' := (422, ll_lo u zi (o5) (o6), [], h2, k + 0 + 0, q + 0 + 0)) rfl ?_
  refine ll_st ll_i422 (S' := (811, ll_lo u zi (o5) (o6), [], h2, k + 0 + 0, q + 0 + 0)) rfl ?_
  exact hn _ _ _ _ _ ⟨(ii_k hmc hmc hut hU hut hJ hJ2 (k_trans hf1 hf2) hii), τ, mc, T, hmc, hU, hut, ⟨hT.1, by omega⟩, hJ2, by omega, by omega⟩
set_option maxRecDepth 100000 in
theorem ll_k8 {u : Nat → Nat} {l : Nat} {kn : List (Nat × Int32)} {N : Nat} (hN : N < 512) {zi : Int32} {x : Nat → Int32} (ha : ll_a l kn zi x) {o5 o6 : Option Value} {h : am_H} {k q : Nat} (hI : ll_I u N h k q) {Q : am_R → Prop} (hn : ∀ o5 o6 h k q, ll_I u (N + 1) h k q → ll_R (ll_x l kn) (811, ll_lo u zi o5 o6, [], h, k, q) Q) : ll_R (ll_x l kn) (425, ll_lo u zi o5 o6, [], h, k, q) Q := by
  obtain ⟨hii, τ, mc, T, hmc, hU, hut, hT, hJ, hk, hq⟩ := hI
  refine ll_st ll_i425 (S' := (426, ll_lo u zi (o5) (o6), [.ref (u 1)], h, k, q)) rfl ?_
  refine ll_arg (c := 1) (zi := zi) (x := x 1) rfl rfl ll_i426 ll_i427 ll_i429 ll_i430 ll_i431 (ha 1 (by decide)).1 (ha 1 (by decide)).2 ?_
  refine ll_arg (c := 2) (zi := zi) (x := x 2) rfl rfl ll_i432 ll_i433 ll_i435 ll_i436 ll_i437 (ha 2 (by decide)).1 (ha 2 (by decide)).2 ?_
  refine ll_st ll_i438 (S' := (439, ll_lo u zi (o5) (o6), [.ref (u 39), .int (x 2), .int (x 1), .ref (u 1)], h, k, q)) rfl ?_
  refine ll_ca ll_i439 (j := 130) (as := [.ref (u 1), .int (x 1), .int (x 2), .ref (u 39)]) (pc' := 439) (lo' := ll_lo u zi (o5) (o6)) (st' := []) (h' := h) (k1 := k) (q1 := q) rfl (mj := am_m130) rfl ⟨by decide, by decide, Nat.le_of_ble_eq_true rfl⟩ ?_
  refine Rn_mono (Rn_and (j_apic (xs := [.ref (u 1), .int (x 1), .int (x 2), .ref (u 39)]) hmc hU hut (j_k130 mc hmc) rfl hJ ⟨Or.inr (ll_g1 hut), ⟨Or.inr (ll_gt), ⟨Or.inr (ll_gt), ⟨Or.inr (ll_g39 hut), trivial⟩⟩⟩⟩) (k_apic (xs := [.ref (u 1), .int (x 1), .int (x 2), .ref (u 39)]) hmc hU hut (j_r130 mc hmc) rfl hJ ⟨Or.inr (ll_g1 hut), ⟨Or.inr (ll_gt), ⟨Or.inr (ll_gt), ⟨Or.inr (ll_g39 hut), trivial⟩⟩⟩⟩)) (fun r hr => ?_)
  obtain ⟨hr, hf1⟩ := hr
  obtain ⟨v1, h1, k1, q1, rfl, hv, hJ1, hk1, hq1, -⟩ := hr
  rcases hv with ⟨e, -⟩ | ⟨-, z1, rfl⟩
  · cases e
  · refine ⟨some (.int z1), h1, k1, q1, rfl, ?_⟩
    show ll_R (ll_x l kn) (442, ll_lo u zi (o5) (o6), [.int z1], h1, k + k1, q + q1) Q
    refine ll_st ll_i442 (S' := (444, ll_lo u zi (some (.int z1)) (o6), [], h1, k + k1, q + q1)) rfl ?_
    refine ll_st ll_i444 (S' := (445, ll_lo u zi (some (.int z1)) (o6), [.ref (u 40)], h1, k + k1, q + q1)) rfl ?_
    refine ll_arg (c := 1) (zi := zi) (x := x 1) rfl rfl ll_i445 ll_i446 ll_i448 ll_i449 ll_i450 (ha 1 (by decide)).1 (ha 1 (by decide)).2 ?_
    refine ll_arg (c := 2) (zi := zi) (x := x 2) rfl rfl ll_i451 ll_i452 ll_i454 ll_i455 ll_i456 (ha 2 (by decide)).1 (ha 2 (by decide)).2 ?_
    obtain ⟨vs2, hv2⟩ := ll_c40 hut hJ1
    refine ll_iv (as := [.int (x 1), .int (x 2)]) (r := []) ll_i457 (j := 88) (b := 2) (d := 9) (by decide +kernel) hv2 rfl rfl rfl (Nat.le_of_ble_eq_true rfl) (mj := am_m88) rfl ⟨by decide, by decide, Nat.le_of_ble_eq_true rfl⟩ ?_
    refine Rn_mono (Rn_and (j_api (xs := [.ref (u 40), .int (x 1), .int (x 2)]) hmc hU hut (j_k88 mc hmc) rfl hJ1 ⟨Or.inr (ll_g40 hut), ⟨Or.inr (ll_gt), ⟨Or.inr (ll_gt), trivial⟩⟩⟩) (k_api (xs := [.ref (u 40), .int (x 1), .int (x 2)]) hmc hU hut (j_r88 mc hmc) rfl hJ1 ⟨Or.inr (ll_g40 hut), ⟨Or.inr (ll_gt), ⟨Or.inr (ll_gt), trivial⟩⟩⟩)) (fun r hr => ?_)
    obtain ⟨hr, hf2⟩ := hr
    obtain ⟨v2, h2, k2, q2, rfl, hv, hJ2, hk2, hq2, -⟩ := hr
    rcases hv with ⟨e, -⟩ | ⟨-, z2, rfl⟩
    · cases e
    · refine ⟨some (.int z2), h2, k2, q2, rfl, ?_⟩
      show ll_R (ll_x l kn) (460, ll_lo u zi (some (.int z1)) (o6), [.int z2], h2, k + k1 + k2, q + q1 + q2) Q
      refine ll_st ll_i460 (S' := (462, ll_lo u zi (some (.int z1)) (some (.int z2)), [], h2, k + k1 + k2, q + q1 + q2)) rfl ?_
      refine ll_st ll_i462 (S' := (811, ll_lo u zi (some (.int z1)) (some (.int z2)), [], h2, k + k1 + k2, q + q1 + q2)) rfl ?_
      exact hn _ _ _ _ _ ⟨(ii_k hmc hmc hut hU hut hJ hJ2 (k_trans hf1 hf2) hii), τ, mc, T, hmc, hU, hut, ⟨hT.1, by omega⟩, hJ2, by omega, by omega⟩
set_option maxRecDepth 100000 in
theorem ll_k10 {u : Nat → Nat} {l : Nat} {kn : List (Nat × Int32)} {N : Nat} (hN : N < 512) {zi : Int32} {x : Nat → Int32} (ha : ll_a l kn zi x) {o5 o6 : Option Value} {h : am_H} {k q : Nat} (hI : ll_I u N h k q) {Q : am_R → Prop} (hn : ∀ o5 o6 h k q, ll_I u (N + 1) h k q → ll_R (ll_x l kn) (811, ll_lo u zi o5 o6, [], h, k, q) Q) : ll_R (ll_x l kn) (545, ll_lo u zi o5 o6, [], h, k, q) Q := by
  obtain ⟨hii, τ, mc, T, hmc, hU, hut, hT, hJ, hk, hq⟩ := hI
  refine ll_st ll_i545 (S' := (546, ll_lo u zi (o5) (o6), [.ref (u 1)], h, k, q)) rfl ?_
  obtain ⟨vs1, hv1⟩ := ll_c1 hut hJ
  refine ll_iv (as := []) (r := []) ll_i546 (j := 25) (b := 0) (d := 0) (by decide +kernel) hv1 rfl rfl rfl (Nat.le_of_ble_eq_true rfl) (mj := am_m25) rfl ⟨by decide, by decide, Nat.le_of_ble_eq_true rfl⟩ ?_
  refine Rn_mono (Rn_and (j_apic (xs := [.ref (u 1)]) hmc hU hut (j_k25 mc hmc) rfl hJ ⟨Or.inr (ll_g1 hut), trivial⟩) (k_apic (xs := [.ref (u 1)]) hmc hU hut (j_r25 mc hmc) rfl hJ ⟨Or.inr (ll_g1 hut), trivial⟩)) (fun r hr => ?_)
  obtain ⟨hr, hf1⟩ := hr
  obtain ⟨v1, h1, k1, q1, rfl, hv, hJ1, hk1, hq1, -⟩ := hr
  rcases hv with ⟨e, -⟩ | ⟨-, z1, rfl⟩
  · cases e
  · refine ⟨some (.int z1), h1, k1, q1, rfl, ?_⟩
    show ll_R (ll_x l kn) (549, ll_lo u zi (o5) (o6), [.int z1], h1, k + k1, q + q1) Q
    refine ll_st ll_i549 (S' := (550, ll_lo u zi (o5) (o6), [], h1, k + k1, q + q1)) rfl ?_
    refine ll_st ll_i550 (S' := (551, ll_lo u zi (o5) (o6), [.ref (u 40)], h1, k + k1, q + q1)) rfl ?_
    obtain ⟨vs2, hv2⟩ := ll_c40 hut hJ1
    refine ll_iv (as := []) (r := []) ll_i551 (j := 115) (b := 0) (d := 9) (by decide +kernel) hv2 rfl rfl rfl (Nat.le_of_ble_eq_true rfl) (mj := am_m115) rfl ⟨by decide, by decide, Nat.le_of_ble_eq_true rfl⟩ ?_
    refine Rn_mono (Rn_and (j_api (xs := [.ref (u 40)]) hmc hU hut (j_k115 mc hmc) rfl hJ1 ⟨Or.inr (ll_g40 hut), trivial⟩) (k_api (xs := [.ref (u 40)]) hmc hU hut (j_r115 mc hmc) rfl hJ1 ⟨Or.inr (ll_g40 hut), trivial⟩)) (fun r hr => ?_)
    obtain ⟨hr, hf2⟩ := hr
    obtain ⟨v2, h2, k2, q2, rfl, hv, hJ2, hk2, hq2, -⟩ := hr
    rcases hv with ⟨e, -⟩ | ⟨-, z2, rfl⟩
    · cases e
    · refine ⟨some (.int z2), h2, k2, q2, rfl, ?_⟩
      show ll_R (ll_x l kn) (554, ll_lo u zi (o5) (o6), [.int z2], h2, k + k1 + k2, q + q1 + q2) Q
      refine ll_st ll_i554 (S' := (555, ll_lo u zi (o5) (o6), [], h2, k + k1 + k2, q + q1 + q2)) rfl ?_
      refine ll_st ll_i555 (S' := (811, ll_lo u zi (o5) (o6), [], h2, k + k1 + k2, q + q1 + q2)) rfl ?_
      exact hn _ _ _ _ _ ⟨(ii_k hmc hmc hut hU hut hJ hJ2 (k_trans hf1 hf2) hii), τ, mc, T, hmc, hU, hut, ⟨hT.1, by omega⟩, hJ2, by omega, by omega⟩
set_option maxRecDepth 100000 in
theorem ll_k11 {u : Nat → Nat} {l : Nat} {kn : List (Nat × Int32)} {N : Nat} (hN : N < 512) {zi : Int32} {x : Nat → Int32} (ha : ll_a l kn zi x) {o5 o6 : Option Value} {h : am_H} {k q : Nat} (hI : ll_I u N h k q) {Q : am_R → Prop} (hn : ∀ o5 o6 h k q, ll_I u (N + 1) h k q → ll_R (ll_x l kn) (811, ll_lo u zi o5 o6, [], h, k, q) Q) : ll_R (ll_x l kn) (558, ll_lo u zi o5 o6, [], h, k, q) Q := by
  obtain ⟨hii, τ, mc, T, hmc, hU, hut, hT, hJ, hk, hq⟩ := hI
  refine ll_st ll_i558 (S' := (559, ll_lo u zi (o5) (o6), [.ref (u 1)], h, k, q)) rfl ?_
  obtain ⟨vs1, hv1⟩ := ll_c1 hut hJ
  refine ll_iv (as := []) (r := []) ll_i559 (j := 4) (b := 0) (d := 0) (by decide +kernel) hv1 rfl rfl rfl (Nat.le_of_ble_eq_true rfl) (mj := am_m4) rfl ⟨by decide, by decide, Nat.le_of_ble_eq_true rfl⟩ ?_
  refine Rn_mono (Rn_and (j_apic (xs := [.ref (u 1)]) hmc hU hut (j_k4 mc hmc) rfl hJ ⟨Or.inr (ll_g1 hut), trivial⟩) (k_apic (xs := [.ref (u 1)]) hmc hU hut (j_r4 mc hmc) rfl hJ ⟨Or.inr (ll_g1 hut), trivial⟩)) (fun r hr => ?_)
  obtain ⟨hr, hf1⟩ := hr
  obtain ⟨v1, h1, k1, q1, rfl, hv, hJ1, hk1, hq1, -⟩ := hr
  rcases hv with ⟨e, -⟩ | ⟨-, z1, rfl⟩
  · cases e
  · refine ⟨some (.int z1), h1, k1, q1, rfl, ?_⟩
    show ll_R (ll_x l kn) (562, ll_lo u zi (o5) (o6), [.int z1], h1, k + k1, q + q1) Q
    refine ll_st ll_i562 (S' := (563, ll_lo u zi (o5) (o6), [], h1, k + k1, q + q1)) rfl ?_
    refine ll_st ll_i563 (S' := (564, ll_lo u zi (o5) (o6), [.ref (u 40)], h1, k + k1, q + q1)) rfl ?_
    obtain ⟨vs2, hv2⟩ := ll_c40 hut hJ1
    refine ll_iv (as := []) (r := []) ll_i564 (j := 90) (b := 0) (d := 9) (by decide +kernel) hv2 rfl rfl rfl (Nat.le_of_ble_eq_true rfl) (mj := am_m90) rfl ⟨by decide, by decide, Nat.le_of_ble_eq_true rfl⟩ ?_
    refine Rn_mono (Rn_and (j_api (xs := [.ref (u 40)]) hmc hU hut (j_k90 mc hmc) rfl hJ1 ⟨Or.inr (ll_g40 hut), trivial⟩) (k_api (xs := [.ref (u 40)]) hmc hU hut (j_r90 mc hmc) rfl hJ1 ⟨Or.inr (ll_g40 hut), trivial⟩)) (fun r hr => ?_)
    obtain ⟨hr, hf2⟩ := hr
    obtain ⟨v2, h2, k2, q2, rfl, hv, hJ2, hk2, hq2, -⟩ := hr
    rcases hv with ⟨e, -⟩ | ⟨-, z2, rfl⟩
    · cases e
    · refine ⟨some (.int z2), h2, k2, q2, rfl, ?_⟩
      show ll_R (ll_x l kn) (567, ll_lo u zi (o5) (o6), [.int z2], h2, k + k1 + k2, q + q1 + q2) Q
      refine ll_st ll_i567 (S' := (568, ll_lo u zi (o5) (o6), [], h2, k + k1 + k2, q + q1 + q2)) rfl ?_
      refine ll_st ll_i568 (S' := (811, ll_lo u zi (o5) (o6), [], h2, k + k1 + k2, q + q1 + q2)) rfl ?_
      exact hn _ _ _ _ _ ⟨(ii_k hmc hmc hut hU hut hJ hJ2 (k_trans hf1 hf2) hii), τ, mc, T, hmc, hU, hut, ⟨hT.1, by omega⟩, hJ2, by omega, by omega⟩
set_option maxRecDepth 100000 in
theorem ll_k12 {u : Nat → Nat} {l : Nat} {kn : List (Nat × Int32)} {N : Nat} (hN : N < 512) {zi : Int32} {x : Nat → Int32} (ha : ll_a l kn zi x) {o5 o6 : Option Value} {h : am_H} {k q : Nat} (hI : ll_I u N h k q) {Q : am_R → Prop} (hn : ∀ o5 o6 h k q, ll_I u (N + 1) h k q → ll_R (ll_x l kn) (811, ll_lo u zi o5 o6, [], h, k, q) Q) : ll_R (ll_x l kn) (571, ll_lo u zi o5 o6, [], h, k, q) Q := by
  obtain ⟨hii, τ, mc, T, hmc, hU, hut, hT, hJ, hk, hq⟩ := hI
  refine ll_st ll_i571 (S' := (572, ll_lo u zi (o5) (o6), [.ref (u 1)], h, k, q)) rfl ?_
  refine ll_arg (c := 1) (zi := zi) (x := x 1) rfl rfl ll_i572 ll_i573 ll_i575 ll_i576 ll_i577 (ha 1 (by decide)).1 (ha 1 (by decide)).2 ?_
  refine ll_arg (c := 2) (zi := zi) (x := x 2) rfl rfl ll_i578 ll_i579 ll_i581 ll_i582 ll_i583 (ha 2 (by decide)).1 (ha 2 (by decide)).2 ?_
  refine ll_st ll_i584 (S' := (585, ll_lo u zi (o5) (o6), [.ref (u 39), .int (x 2), .int (x 1), .ref (u 1)], h, k, q)) rfl ?_
  refine ll_ca ll_i585 (j := 132) (as := [.ref (u 1), .int (x 1), .int (x 2), .ref (u 39)]) (pc' := 585) (lo' := ll_lo u zi (o5) (o6)) (st' := []) (h' := h) (k1 := k) (q1 := q) rfl (mj := am_m132) rfl ⟨by decide, by decide, Nat.le_of_ble_eq_true rfl⟩ ?_
  refine Rn_mono (Rn_and (j_apic (xs := [.ref (u 1), .int (x 1), .int (x 2), .ref (u 39)]) hmc hU hut (j_k132 mc hmc) rfl hJ ⟨Or.inr (ll_g1 hut), ⟨Or.inr (ll_gt), ⟨Or.inr (ll_gt), ⟨Or.inr (ll_g39 hut), trivial⟩⟩⟩⟩) (k_apic (xs := [.ref (u 1), .int (x 1), .int (x 2), .ref (u 39)]) hmc hU hut (j_r132 mc hmc) rfl hJ ⟨Or.inr (ll_g1 hut), ⟨Or.inr (ll_gt), ⟨Or.inr (ll_gt), ⟨Or.inr (ll_g39 hut), trivial⟩⟩⟩⟩)) (fun r hr => ?_)
  obtain ⟨hr, hf1⟩ := hr
  obtain ⟨v1, h1, k1, q1, rfl, hv, hJ1, hk1, hq1, -⟩ := hr
  rcases hv with ⟨e, -⟩ | ⟨-, z1, rfl⟩
  · cases e
  · refine ⟨some (.int z1), h1, k1, q1, rfl, ?_⟩
    show ll_R (ll_x l kn) (588, ll_lo u zi (o5) (o6), [.int z1], h1, k + k1, q + q1) Q
    refine ll_st ll_i588 (S' := (590, ll_lo u zi (some (.int z1)) (o6), [], h1, k + k1, q + q1)) rfl ?_
    refine ll_st ll_i590 (S' := (591, ll_lo u zi (some (.int z1)) (o6), [.ref (u 40)], h1, k + k1, q + q1)) rfl ?_
    refine ll_arg (c := 1) (zi := zi) (x := x 1) rfl rfl ll_i591 ll_i592 ll_i594 ll_i595 ll_i596 (ha 1 (by decide)).1 (ha 1 (by decide)).2 ?_
    refine ll_arg (c := 2) (zi := zi) (x := x 2) rfl rfl ll_i597 ll_i598 ll_i600 ll_i601 ll_i602 (ha 2 (by decide)).1 (ha 2 (by decide)).2 ?_
    obtain ⟨vs2, hv2⟩ := ll_c40 hut hJ1
    refine ll_iv (as := [.int (x 1), .int (x 2)]) (r := []) ll_i603 (j := 97) (b := 2) (d := 9) (by decide +kernel) hv2 rfl rfl rfl (Nat.le_of_ble_eq_true rfl) (mj := am_m97) rfl ⟨by decide, by decide, Nat.le_of_ble_eq_true rfl⟩ ?_
    refine Rn_mono (Rn_and (j_api (xs := [.ref (u 40), .int (x 1), .int (x 2)]) hmc hU hut (j_k97 mc hmc) rfl hJ1 ⟨Or.inr (ll_g40 hut), ⟨Or.inr (ll_gt), ⟨Or.inr (ll_gt), trivial⟩⟩⟩) (k_api (xs := [.ref (u 40), .int (x 1), .int (x 2)]) hmc hU hut (j_r97 mc hmc) rfl hJ1 ⟨Or.inr (ll_g40 hut), ⟨Or.inr (ll_gt), ⟨Or.inr (ll_gt), trivial⟩⟩⟩)) (fun r hr => ?_)
    obtain ⟨hr, hf2⟩ := hr
    obtain ⟨v2, h2, k2, q2, rfl, hv, hJ2, hk2, hq2, -⟩ := hr
    rcases hv with ⟨e, -⟩ | ⟨-, z2, rfl⟩
    · cases e
    · refine ⟨some (.int z2), h2, k2, q2, rfl, ?_⟩
      show ll_R (ll_x l kn) (606, ll_lo u zi (some (.int z1)) (o6), [.int z2], h2, k + k1 + k2, q + q1 + q2) Q
      refine ll_st ll_i606 (S' := (608, ll_lo u zi (some (.int z1)) (some (.int z2)), [], h2, k + k1 + k2, q + q1 + q2)) rfl ?_
      refine ll_st ll_i608 (S' := (811, ll_lo u zi (some (.int z1)) (some (.int z2)), [], h2, k + k1 + k2, q + q1 + q2)) rfl ?_
      exact hn _ _ _ _ _ ⟨(ii_k hmc hmc hut hU hut hJ hJ2 (k_trans hf1 hf2) hii), τ, mc, T, hmc, hU, hut, ⟨hT.1, by omega⟩, hJ2, by omega, by omega⟩
set_option maxRecDepth 100000 in
theorem ll_k13 {u : Nat → Nat} {l : Nat} {kn : List (Nat × Int32)} {N : Nat} (hN : N < 512) {zi : Int32} {x : Nat → Int32} (ha : ll_a l kn zi x) {o5 o6 : Option Value} {h : am_H} {k q : Nat} (hI : ll_I u N h k q) {Q : am_R → Prop} (hn : ∀ o5 o6 h k q, ll_I u (N + 1) h k q → ll_R (ll_x l kn) (811, ll_lo u zi o5 o6, [], h, k, q) Q) : ll_R (ll_x l kn) (611, ll_lo u zi o5 o6, [], h, k, q) Q := by
  obtain ⟨hii, τ, mc, T, hmc, hU, hut, hT, hJ, hk, hq⟩ := hI
  refine ll_st ll_i611 (S' := (612, ll_lo u zi (o5) (o6), [.ref (u 1)], h, k, q)) rfl ?_
  refine ll_arg (c := 1) (zi := zi) (x := x 1) rfl rfl ll_i612 ll_i613 ll_i615 ll_i616 ll_i617 (ha 1 (by decide)).1 (ha 1 (by decide)).2 ?_
  refine ll_arg (c := 2) (zi := zi) (x := x 2) rfl rfl ll_i618 ll_i619 ll_i621 ll_i622 ll_i623 (ha 2 (by decide)).1 (ha 2 (by decide)).2 ?_
  refine ll_arg (c := 3) (zi := zi) (x := x 3) rfl rfl ll_i624 ll_i625 ll_i627 ll_i628 ll_i629 (ha 3 (by decide)).1 (ha 3 (by decide)).2 ?_
  refine ll_st ll_i630 (S' := (631, ll_lo u zi (o5) (o6), [.ref (u 39), .int (x 3), .int (x 2), .int (x 1), .ref (u 1)], h, k, q)) rfl ?_
  refine ll_ca ll_i631 (j := 131) (as := [.ref (u 1), .int (x 1), .int (x 2), .int (x 3), .ref (u 39)]) (pc' := 631) (lo' := ll_lo u zi (o5) (o6)) (st' := []) (h' := h) (k1 := k) (q1 := q) rfl (mj := am_m131) rfl ⟨by decide, by decide, Nat.le_of_ble_eq_true rfl⟩ ?_
  refine Rn_mono (Rn_and (j_apic (xs := [.ref (u 1), .int (x 1), .int (x 2), .int (x 3), .ref (u 39)]) hmc hU hut (j_k131 mc hmc) rfl hJ ⟨Or.inr (ll_g1 hut), ⟨Or.inr (ll_gt), ⟨Or.inr (ll_gt), ⟨Or.inr (ll_gt), ⟨Or.inr (ll_g39 hut), trivial⟩⟩⟩⟩⟩) (k_apic (xs := [.ref (u 1), .int (x 1), .int (x 2), .int (x 3), .ref (u 39)]) hmc hU hut (j_r131 mc hmc) rfl hJ ⟨Or.inr (ll_g1 hut), ⟨Or.inr (ll_gt), ⟨Or.inr (ll_gt), ⟨Or.inr (ll_gt), ⟨Or.inr (ll_g39 hut), trivial⟩⟩⟩⟩⟩)) (fun r hr => ?_)
  obtain ⟨hr, hf1⟩ := hr
  obtain ⟨v1, h1, k1, q1, rfl, hv, hJ1, hk1, hq1, -⟩ := hr
  rcases hv with ⟨e, -⟩ | ⟨-, z1, rfl⟩
  · cases e
  · refine ⟨some (.int z1), h1, k1, q1, rfl, ?_⟩
    show ll_R (ll_x l kn) (634, ll_lo u zi (o5) (o6), [.int z1], h1, k + k1, q + q1) Q
    refine ll_st ll_i634 (S' := (636, ll_lo u zi (some (.int z1)) (o6), [], h1, k + k1, q + q1)) rfl ?_
    refine ll_st ll_i636 (S' := (637, ll_lo u zi (some (.int z1)) (o6), [.ref (u 40)], h1, k + k1, q + q1)) rfl ?_
    refine ll_arg (c := 1) (zi := zi) (x := x 1) rfl rfl ll_i637 ll_i638 ll_i640 ll_i641 ll_i642 (ha 1 (by decide)).1 (ha 1 (by decide)).2 ?_
    refine ll_arg (c := 2) (zi := zi) (x := x 2) rfl rfl ll_i643 ll_i644 ll_i646 ll_i647 ll_i648 (ha 2 (by decide)).1 (ha 2 (by decide)).2 ?_
    refine ll_arg (c := 3) (zi := zi) (x := x 3) rfl rfl ll_i649 ll_i650 ll_i652 ll_i653 ll_i654 (ha 3 (by decide)).1 (ha 3 (by decide)).2 ?_
    obtain ⟨vs2, hv2⟩ := ll_c40 hut hJ1
    refine ll_iv (as := [.int (x 1), .int (x 2), .int (x 3)]) (r := []) ll_i655 (j := 91) (b := 3) (d := 9) (by decide +kernel) hv2 rfl rfl rfl (Nat.le_of_ble_eq_true rfl) (mj := am_m91) rfl ⟨by decide, by decide, Nat.le_of_ble_eq_true rfl⟩ ?_
    refine Rn_mono (Rn_and (j_api (xs := [.ref (u 40), .int (x 1), .int (x 2), .int (x 3)]) hmc hU hut (j_k91 mc hmc) rfl hJ1 ⟨Or.inr (ll_g40 hut), ⟨Or.inr (ll_gt), ⟨Or.inr (ll_gt), ⟨Or.inr (ll_gt), trivial⟩⟩⟩⟩) (k_api (xs := [.ref (u 40), .int (x 1), .int (x 2), .int (x 3)]) hmc hU hut (j_r91 mc hmc) rfl hJ1 ⟨Or.inr (ll_g40 hut), ⟨Or.inr (ll_gt), ⟨Or.inr (ll_gt), ⟨Or.inr (ll_gt), trivial⟩⟩⟩⟩)) (fun r hr => ?_)
    obtain ⟨hr, hf2⟩ := hr
    obtain ⟨v2, h2, k2, q2, rfl, hv, hJ2, hk2, hq2, -⟩ := hr
    rcases hv with ⟨e, -⟩ | ⟨-, z2, rfl⟩
    · cases e
    · refine ⟨some (.int z2), h2, k2, q2, rfl, ?_⟩
      show ll_R (ll_x l kn) (658, ll_lo u zi (some (.int z1)) (o6), [.int z2], h2, k + k1 + k2, q + q1 + q2) Q
      refine ll_st ll_i658 (S' := (660, ll_lo u zi (some (.int z1)) (some (.int z2)), [], h2, k + k1 + k2, q + q1 + q2)) rfl ?_
      refine ll_st ll_i660 (S' := (811, ll_lo u zi (some (.int z1)) (some (.int z2)), [], h2, k + k1 + k2, q + q1 + q2)) rfl ?_
      exact hn _ _ _ _ _ ⟨(ii_k hmc hmc hut hU hut hJ hJ2 (k_trans hf1 hf2) hii), τ, mc, T, hmc, hU, hut, ⟨hT.1, by omega⟩, hJ2, by omega, by omega⟩
set_option maxRecDepth 100000 in
theorem ll_k14 {u : Nat → Nat} {l : Nat} {kn : List (Nat × Int32)} {N : Nat} (hN : N < 512) {zi : Int32} {x : Nat → Int32} (ha : ll_a l kn zi x) {o5 o6 : Option Value} {h : am_H} {k q : Nat} (hI : ll_I u N h k q) {Q : am_R → Prop} (hn : ∀ o5 o6 h k q, ll_I u (N + 1) h k q → ll_R (ll_x l kn) (811, ll_lo u zi o5 o6, [], h, k, q) Q) : ll_R (ll_x l kn) (663, ll_lo u zi o5 o6, [], h, k, q) Q := by
  obtain ⟨hii, τ, mc, T, hmc, hU, hut, hT, hJ, hk, hq⟩ := hI
  refine ll_st ll_i663 (S' := (664, ll_lo u zi (o5) (o6), [.ref (u 1)], h, k, q)) rfl ?_
  refine ll_arg (c := 1) (zi := zi) (x := x 1) rfl rfl ll_i664 ll_i665 ll_i667 ll_i668 ll_i669 (ha 1 (by decide)).1 (ha 1 (by decide)).2 ?_
  refine ll_arg (c := 2) (zi := zi) (x := x 2) rfl rfl ll_i670 ll_i671 ll_i673 ll_i674 ll_i675 (ha 2 (by decide)).1 (ha 2 (by decide)).2 ?_
  refine ll_st ll_i676 (S' := (677, ll_lo u zi (o5) (o6), [.ref (u 39), .int (x 2), .int (x 1), .ref (u 1)], h, k, q)) rfl ?_
  refine ll_ca ll_i677 (j := 134) (as := [.ref (u 1), .int (x 1), .int (x 2), .ref (u 39)]) (pc' := 677) (lo' := ll_lo u zi (o5) (o6)) (st' := []) (h' := h) (k1 := k) (q1 := q) rfl (mj := am_m134) rfl ⟨by decide, by decide, Nat.le_of_ble_eq_true rfl⟩ ?_
  refine Rn_mono (Rn_and (j_apic (xs := [.ref (u 1), .int (x 1), .int (x 2), .ref (u 39)]) hmc hU hut (j_k134 mc hmc) rfl hJ ⟨Or.inr (ll_g1 hut), ⟨Or.inr (ll_gt), ⟨Or.inr (ll_gt), ⟨Or.inr (ll_g39 hut), trivial⟩⟩⟩⟩) (k_apic (xs := [.ref (u 1), .int (x 1), .int (x 2), .ref (u 39)]) hmc hU hut (j_r134 mc hmc) rfl hJ ⟨Or.inr (ll_g1 hut), ⟨Or.inr (ll_gt), ⟨Or.inr (ll_gt), ⟨Or.inr (ll_g39 hut), trivial⟩⟩⟩⟩)) (fun r hr => ?_)
  obtain ⟨hr, hf1⟩ := hr
  obtain ⟨v1, h1, k1, q1, rfl, hv, hJ1, hk1, hq1, -⟩ := hr
  rcases hv with ⟨e, -⟩ | ⟨-, z1, rfl⟩
  · cases e
  · refine ⟨some (.int z1), h1, k1, q1, rfl, ?_⟩
    show ll_R (ll_x l kn) (680, ll_lo u zi (o5) (o6), [.int z1], h1, k + k1, q + q1) Q
    refine ll_st ll_i680 (S' := (682, ll_lo u zi (some (.int z1)) (o6), [], h1, k + k1, q + q1)) rfl ?_
    refine ll_st ll_i682 (S' := (683, ll_lo u zi (some (.int z1)) (o6), [.ref (u 40)], h1, k + k1, q + q1)) rfl ?_
    refine ll_arg (c := 1) (zi := zi) (x := x 1) rfl rfl ll_i683 ll_i684 ll_i686 ll_i687 ll_i688 (ha 1 (by decide)).1 (ha 1 (by decide)).2 ?_
    refine ll_arg (c := 2) (zi := zi) (x := x 2) rfl rfl ll_i689 ll_i690 ll_i692 ll_i693 ll_i694 (ha 2 (by decide)).1 (ha 2 (by decide)).2 ?_
    obtain ⟨vs2, hv2⟩ := ll_c40 hut hJ1
    refine ll_iv (as := [.int (x 1), .int (x 2)]) (r := []) ll_i695 (j := 103) (b := 2) (d := 9) (by decide +kernel) hv2 rfl rfl rfl (Nat.le_of_ble_eq_true rfl) (mj := am_m103) rfl ⟨by decide, by decide, Nat.le_of_ble_eq_true rfl⟩ ?_
    refine Rn_mono (Rn_and (j_api (xs := [.ref (u 40), .int (x 1), .int (x 2)]) hmc hU hut (j_k103 mc hmc) rfl hJ1 ⟨Or.inr (ll_g40 hut), ⟨Or.inr (ll_gt), ⟨Or.inr (ll_gt), trivial⟩⟩⟩) (k_api (xs := [.ref (u 40), .int (x 1), .int (x 2)]) hmc hU hut (j_r103 mc hmc) rfl hJ1 ⟨Or.inr (ll_g40 hut), ⟨Or.inr (ll_gt), ⟨Or.inr (ll_gt), trivial⟩⟩⟩)) (fun r hr => ?_)
    obtain ⟨hr, hf2⟩ := hr
    obtain ⟨v2, h2, k2, q2, rfl, hv, hJ2, hk2, hq2, -⟩ := hr
    rcases hv with ⟨e, -⟩ | ⟨-, z2, rfl⟩
    · cases e
    · refine ⟨some (.int z2), h2, k2, q2, rfl, ?_⟩
      show ll_R (ll_x l kn) (698, ll_lo u zi (some (.int z1)) (o6), [.int z2], h2, k + k1 + k2, q + q1 + q2) Q
      refine ll_st ll_i698 (S' := (700, ll_lo u zi (some (.int z1)) (some (.int z2)), [], h2, k + k1 + k2, q + q1 + q2)) rfl ?_
      refine ll_st ll_i700 (S' := (811, ll_lo u zi (some (.int z1)) (some (.int z2)), [], h2, k + k1 + k2, q + q1 + q2)) rfl ?_
      exact hn _ _ _ _ _ ⟨(ii_k hmc hmc hut hU hut hJ hJ2 (k_trans hf1 hf2) hii), τ, mc, T, hmc, hU, hut, ⟨hT.1, by omega⟩, hJ2, by omega, by omega⟩
set_option maxRecDepth 100000 in
theorem ll_k15 {u : Nat → Nat} {l : Nat} {kn : List (Nat × Int32)} {N : Nat} (hN : N < 512) {zi : Int32} {x : Nat → Int32} (ha : ll_a l kn zi x) {o5 o6 : Option Value} {h : am_H} {k q : Nat} (hI : ll_I u N h k q) {Q : am_R → Prop} (hn : ∀ o5 o6 h k q, ll_I u (N + 1) h k q → ll_R (ll_x l kn) (811, ll_lo u zi o5 o6, [], h, k, q) Q) : ll_R (ll_x l kn) (703, ll_lo u zi o5 o6, [], h, k, q) Q := by
  obtain ⟨hii, τ, mc, T, hmc, hU, hut, hT, hJ, hk, hq⟩ := hI
  refine ll_st ll_i703 (S' := (704, ll_lo u zi (o5) (o6), [.ref (u 1)], h, k, q)) rfl ?_
  refine ll_arg (c := 1) (zi := zi) (x := x 1) rfl rfl ll_i704 ll_i705 ll_i707 ll_i708 ll_i709 (ha 1 (by decide)).1 (ha 1 (by decide)).2 ?_
  refine ll_st ll_i710 (S' := (711, ll_lo u zi (o5) (o6), [.ref (u 39), .int (x 1), .ref (u 1)], h, k, q)) rfl ?_
  refine ll_ca ll_i711 (j := 140) (as := [.ref (u 1), .int (x 1), .ref (u 39)]) (pc' := 711) (lo' := ll_lo u zi (o5) (o6)) (st' := []) (h' := h) (k1 := k) (q1 := q) rfl (mj := am_m140) rfl ⟨by decide, by decide, Nat.le_of_ble_eq_true rfl⟩ ?_
  refine Rn_mono (Rn_and (j_apic (xs := [.ref (u 1), .int (x 1), .ref (u 39)]) hmc hU hut (j_k140 mc hmc) rfl hJ ⟨Or.inr (ll_g1 hut), ⟨Or.inr (ll_gt), ⟨Or.inr (ll_g39 hut), trivial⟩⟩⟩) (k_apic (xs := [.ref (u 1), .int (x 1), .ref (u 39)]) hmc hU hut (j_r140 mc hmc) rfl hJ ⟨Or.inr (ll_g1 hut), ⟨Or.inr (ll_gt), ⟨Or.inr (ll_g39 hut), trivial⟩⟩⟩)) (fun r hr => ?_)
  obtain ⟨hr, hf1⟩ := hr
  obtain ⟨v1, h1, k1, q1, rfl, hv, hJ1, hk1, hq1, -⟩ := hr
  rcases hv with ⟨e, -⟩ | ⟨-, z1, rfl⟩
  · cases e
  · refine ⟨some (.int z1), h1, k1, q1, rfl, ?_⟩
    show ll_R (ll_x l kn) (714, ll_lo u zi (o5) (o6), [.int z1], h1, k + k1, q + q1) Q
    refine ll_st ll_i714 (S' := (716, ll_lo u zi (some (.int z1)) (o6), [], h1, k + k1, q + q1)) rfl ?_
    refine ll_st ll_i716 (S' := (717, ll_lo u zi (some (.int z1)) (o6), [.ref (u 40)], h1, k + k1, q + q1)) rfl ?_
    refine ll_arg (c := 1) (zi := zi) (x := x 1) rfl rfl ll_i717 ll_i718 ll_i720 ll_i721 ll_i722 (ha 1 (by decide)).1 (ha 1 (by decide)).2 ?_
    obtain ⟨vs2, hv2⟩ := ll_c40 hut hJ1
    refine ll_iv (as := [.int (x 1)]) (r := []) ll_i723 (j := 118) (b := 1) (d := 9) (by decide +kernel) hv2 rfl rfl rfl (Nat.le_of_ble_eq_true rfl) (mj := am_m118) rfl ⟨by decide, by decide, Nat.le_of_ble_eq_true rfl⟩ ?_
    refine Rn_mono (Rn_and (j_api (xs := [.ref (u 40), .int (x 1)]) hmc hU hut (j_k118 mc hmc) rfl hJ1 ⟨Or.inr (ll_g40 hut), ⟨Or.inr (ll_gt), trivial⟩⟩) (k_api (xs := [.ref (u 40), .int (x 1)]) hmc hU hut (j_r118 mc hmc) rfl hJ1 ⟨Or.inr (ll_g40 hut), ⟨Or.inr (ll_gt), trivial⟩⟩)) (fun r hr => ?_)
    obtain ⟨hr, hf2⟩ := hr
    obtain ⟨v2, h2, k2, q2, rfl, hv, hJ2, hk2, hq2, -⟩ := hr
    rcases hv with ⟨e, -⟩ | ⟨-, z2, rfl⟩
    · cases e
    · refine ⟨some (.int z2), h2, k2, q2, rfl, ?_⟩
      show ll_R (ll_x l kn) (726, ll_lo u zi (some (.int z1)) (o6), [.int z2], h2, k + k1 + k2, q + q1 + q2) Q
      refine ll_st ll_i726 (S' := (728, ll_lo u zi (some (.int z1)) (some (.int z2)), [], h2, k + k1 + k2, q + q1 + q2)) rfl ?_
      refine ll_st ll_i728 (S' := (811, ll_lo u zi (some (.int z1)) (some (.int z2)), [], h2, k + k1 + k2, q + q1 + q2)) rfl ?_
      exact hn _ _ _ _ _ ⟨(ii_k hmc hmc hut hU hut hJ hJ2 (k_trans hf1 hf2) hii), τ, mc, T, hmc, hU, hut, ⟨hT.1, by omega⟩, hJ2, by omega, by omega⟩
set_option maxRecDepth 100000 in
theorem ll_k16 {u : Nat → Nat} {l : Nat} {kn : List (Nat × Int32)} {N : Nat} (hN : N < 512) {zi : Int32} {x : Nat → Int32} (ha : ll_a l kn zi x) {o5 o6 : Option Value} {h : am_H} {k q : Nat} (hI : ll_I u N h k q) {Q : am_R → Prop} (hn : ∀ o5 o6 h k q, ll_I u (N + 1) h k q → ll_R (ll_x l kn) (811, ll_lo u zi o5 o6, [], h, k, q) Q) : ll_R (ll_x l kn) (731, ll_lo u zi o5 o6, [], h, k, q) Q := by
  obtain ⟨hii, τ, mc, T, hmc, hU, hut, hT, hJ, hk, hq⟩ := hI
  refine ll_st ll_i731 (S' := (732, ll_lo u zi (o5) (o6), [.ref (u 1)], h, k, q)) rfl ?_
  refine ll_arg (c := 1) (zi := zi) (x := x 1) rfl rfl ll_i732 ll_i733 ll_i735 ll_i736 ll_i737 (ha 1 (by decide)).1 (ha 1 (by decide)).2 ?_
  refine ll_arg (c := 2) (zi := zi) (x := x 2) rfl rfl ll_i738 ll_i739 ll_i741 ll_i742 ll_i743 (ha 2 (by decide)).1 (ha 2 (by decide)).2 ?_
  refine ll_st ll_i744 (S' := (745, ll_lo u zi (o5) (o6), [.ref (u 39), .int (x 2), .int (x 1), .ref (u 1)], h, k, q)) rfl ?_
  refine ll_ca ll_i745 (j := 139) (as := [.ref (u 1), .int (x 1), .int (x 2), .ref (u 39)]) (pc' := 745) (lo' := ll_lo u zi (o5) (o6)) (st' := []) (h' := h) (k1 := k) (q1 := q) rfl (mj := am_m139) rfl ⟨by decide, by decide, Nat.le_of_ble_eq_true rfl⟩ ?_
  refine Rn_mono (Rn_and (j_apic (xs := [.ref (u 1), .int (x 1), .int (x 2), .ref (u 39)]) hmc hU hut (j_k139 mc hmc) rfl hJ ⟨Or.inr (ll_g1 hut), ⟨Or.inr (ll_gt), ⟨Or.inr (ll_gt), ⟨Or.inr (ll_g39 hut), trivial⟩⟩⟩⟩) (k_apic (xs := [.ref (u 1), .int (x 1), .int (x 2), .ref (u 39)]) hmc hU hut (j_r139 mc hmc) rfl hJ ⟨Or.inr (ll_g1 hut), ⟨Or.inr (ll_gt), ⟨Or.inr (ll_gt), ⟨Or.inr (ll_g39 hut), trivial⟩⟩⟩⟩)) (fun r hr => ?_)
  obtain ⟨hr, hf1⟩ := hr
  obtain ⟨v1, h1, k1, q1, rfl, hv, hJ1, hk1, hq1, -⟩ := hr
  rcases hv with ⟨e, -⟩ | ⟨-, z1, rfl⟩
  · cases e
  · refine ⟨some (.int z1), h1, k1, q1, rfl, ?_⟩
    show ll_R (ll_x l kn) (748, ll_lo u zi (o5) (o6), [.int z1], h1, k + k1, q + q1) Q
    refine ll_st ll_i748 (S' := (750, ll_lo u zi (some (.int z1)) (o6), [], h1, k + k1, q + q1)) rfl ?_
    refine ll_st ll_i750 (S' := (751, ll_lo u zi (some (.int z1)) (o6), [.ref (u 40)], h1, k + k1, q + q1)) rfl ?_
    refine ll_arg (c := 1) (zi := zi) (x := x 1) rfl rfl ll_i751 ll_i752 ll_i754 ll_i755 ll_i756 (ha 1 (by decide)).1 (ha 1 (by decide)).2 ?_
    refine ll_arg (c := 2) (zi := zi) (x := x 2) rfl rfl ll_i757 ll_i758 ll_i760 ll_i761 ll_i762 (ha 2 (by decide)).1 (ha 2 (by decide)).2 ?_
    obtain ⟨vs2, hv2⟩ := ll_c40 hut hJ1
    refine ll_iv (as := [.int (x 1), .int (x 2)]) (r := []) ll_i763 (j := 117) (b := 2) (d := 9) (by decide +kernel) hv2 rfl rfl rfl (Nat.le_of_ble_eq_true rfl) (mj := am_m117) rfl ⟨by decide, by decide, Nat.le_of_ble_eq_true rfl⟩ ?_
    refine Rn_mono (Rn_and (j_api (xs := [.ref (u 40), .int (x 1), .int (x 2)]) hmc hU hut (j_k117 mc hmc) rfl hJ1 ⟨Or.inr (ll_g40 hut), ⟨Or.inr (ll_gt), ⟨Or.inr (ll_gt), trivial⟩⟩⟩) (k_api (xs := [.ref (u 40), .int (x 1), .int (x 2)]) hmc hU hut (j_r117 mc hmc) rfl hJ1 ⟨Or.inr (ll_g40 hut), ⟨Or.inr (ll_gt), ⟨Or.inr (ll_gt), trivial⟩⟩⟩)) (fun r hr => ?_)
    obtain ⟨hr, hf2⟩ := hr
    obtain ⟨v2, h2, k2, q2, rfl, hv, hJ2, hk2, hq2, -⟩ := hr
    rcases hv with ⟨e, -⟩ | ⟨-, z2, rfl⟩
    · cases e
    · refine ⟨some (.int z2), h2, k2, q2, rfl, ?_⟩
      show ll_R (ll_x l kn) (766, ll_lo u zi (some (.int z1)) (o6), [.int z2], h2, k + k1 + k2, q + q1 + q2) Q
      refine ll_st ll_i766 (S' := (768, ll_lo u zi (some (.int z1)) (some (.int z2)), [], h2, k + k1 + k2, q + q1 + q2)) rfl ?_
      refine ll_st ll_i768 (S' := (811, ll_lo u zi (some (.int z1)) (some (.int z2)), [], h2, k + k1 + k2, q + q1 + q2)) rfl ?_
      exact hn _ _ _ _ _ ⟨(ii_k hmc hmc hut hU hut hJ hJ2 (k_trans hf1 hf2) hii), τ, mc, T, hmc, hU, hut, ⟨hT.1, by omega⟩, hJ2, by omega, by omega⟩
set_option maxRecDepth 100000 in
theorem ll_k17 {u : Nat → Nat} {l : Nat} {kn : List (Nat × Int32)} {N : Nat} (hN : N < 512) {zi : Int32} {x : Nat → Int32} (ha : ll_a l kn zi x) {o5 o6 : Option Value} {h : am_H} {k q : Nat} (hI : ll_I u N h k q) {Q : am_R → Prop} (hn : ∀ o5 o6 h k q, ll_I u (N + 1) h k q → ll_R (ll_x l kn) (811, ll_lo u zi o5 o6, [], h, k, q) Q) : ll_R (ll_x l kn) (771, ll_lo u zi o5 o6, [], h, k, q) Q := by
  obtain ⟨hii, τ, mc, T, hmc, hU, hut, hT, hJ, hk, hq⟩ := hI
  refine ll_st ll_i771 (S' := (772, ll_lo u zi (o5) (o6), [.ref (u 1)], h, k, q)) rfl ?_
  refine ll_arg (c := 1) (zi := zi) (x := x 1) rfl rfl ll_i772 ll_i773 ll_i775 ll_i776 ll_i777 (ha 1 (by decide)).1 (ha 1 (by decide)).2 ?_
  refine ll_arg (c := 2) (zi := zi) (x := x 2) rfl rfl ll_i778 ll_i779 ll_i781 ll_i782 ll_i783 (ha 2 (by decide)).1 (ha 2 (by decide)).2 ?_
  refine ll_st ll_i784 (S' := (785, ll_lo u zi (o5) (o6), [.ref (u 39), .int (x 2), .int (x 1), .ref (u 1)], h, k, q)) rfl ?_
  refine ll_ca ll_i785 (j := 143) (as := [.ref (u 1), .int (x 1), .int (x 2), .ref (u 39)]) (pc' := 785) (lo' := ll_lo u zi (o5) (o6)) (st' := []) (h' := h) (k1 := k) (q1 := q) rfl (mj := am_m143) rfl ⟨by decide, by decide, Nat.le_of_ble_eq_true rfl⟩ ?_
  refine Rn_mono (Rn_and (j_apic (xs := [.ref (u 1), .int (x 1), .int (x 2), .ref (u 39)]) hmc hU hut (j_k143 mc hmc) rfl hJ ⟨Or.inr (ll_g1 hut), ⟨Or.inr (ll_gt), ⟨Or.inr (ll_gt), ⟨Or.inr (ll_g39 hut), trivial⟩⟩⟩⟩) (k_apic (xs := [.ref (u 1), .int (x 1), .int (x 2), .ref (u 39)]) hmc hU hut (j_r143 mc hmc) rfl hJ ⟨Or.inr (ll_g1 hut), ⟨Or.inr (ll_gt), ⟨Or.inr (ll_gt), ⟨Or.inr (ll_g39 hut), trivial⟩⟩⟩⟩)) (fun r hr => ?_)
  obtain ⟨hr, hf1⟩ := hr
  obtain ⟨v1, h1, k1, q1, rfl, hv, hJ1, hk1, hq1, -⟩ := hr
  rcases hv with ⟨e, -⟩ | ⟨-, z1, rfl⟩
  · cases e
  · refine ⟨some (.int z1), h1, k1, q1, rfl, ?_⟩
    show ll_R (ll_x l kn) (788, ll_lo u zi (o5) (o6), [.int z1], h1, k + k1, q + q1) Q
    refine ll_st ll_i788 (S' := (790, ll_lo u zi (some (.int z1)) (o6), [], h1, k + k1, q + q1)) rfl ?_
    refine ll_st ll_i790 (S' := (791, ll_lo u zi (some (.int z1)) (o6), [.ref (u 40)], h1, k + k1, q + q1)) rfl ?_
    refine ll_arg (c := 1) (zi := zi) (x := x 1) rfl rfl ll_i791 ll_i792 ll_i794 ll_i795 ll_i796 (ha 1 (by decide)).1 (ha 1 (by decide)).2 ?_
    refine ll_arg (c := 2) (zi := zi) (x := x 2) rfl rfl ll_i797 ll_i798 ll_i800 ll_i801 ll_i802 (ha 2 (by decide)).1 (ha 2 (by decide)).2 ?_
    obtain ⟨vs2, hv2⟩ := ll_c40 hut hJ1
    refine ll_iv (as := [.int (x 1), .int (x 2)]) (r := []) ll_i803 (j := 127) (b := 2) (d := 9) (by decide +kernel) hv2 rfl rfl rfl (Nat.le_of_ble_eq_true rfl) (mj := am_m127) rfl ⟨by decide, by decide, Nat.le_of_ble_eq_true rfl⟩ ?_
    refine Rn_mono (Rn_and (j_api (xs := [.ref (u 40), .int (x 1), .int (x 2)]) hmc hU hut (j_k127 mc hmc) rfl hJ1 ⟨Or.inr (ll_g40 hut), ⟨Or.inr (ll_gt), ⟨Or.inr (ll_gt), trivial⟩⟩⟩) (k_api (xs := [.ref (u 40), .int (x 1), .int (x 2)]) hmc hU hut (j_r127 mc hmc) rfl hJ1 ⟨Or.inr (ll_g40 hut), ⟨Or.inr (ll_gt), ⟨Or.inr (ll_gt), trivial⟩⟩⟩)) (fun r hr => ?_)
    obtain ⟨hr, hf2⟩ := hr
    obtain ⟨v2, h2, k2, q2, rfl, hv, hJ2, hk2, hq2, -⟩ := hr
    rcases hv with ⟨e, -⟩ | ⟨-, z2, rfl⟩
    · cases e
    · refine ⟨some (.int z2), h2, k2, q2, rfl, ?_⟩
      show ll_R (ll_x l kn) (806, ll_lo u zi (some (.int z1)) (o6), [.int z2], h2, k + k1 + k2, q + q1 + q2) Q
      refine ll_st ll_i806 (S' := (808, ll_lo u zi (some (.int z1)) (some (.int z2)), [], h2, k + k1 + k2, q + q1 + q2)) rfl ?_
      refine ll_st ll_i808 (S' := (811, ll_lo u zi (some (.int z1)) (some (.int z2)), [], h2, k + k1 + k2, q + q1 + q2)) rfl ?_
      exact hn _ _ _ _ _ ⟨(ii_k hmc hmc hut hU hut hJ hJ2 (k_trans hf1 hf2) hii), τ, mc, T, hmc, hU, hut, ⟨hT.1, by omega⟩, hJ2, by omega, by omega⟩
set_option maxRecDepth 100000 in
theorem ll_k3 {u : Nat → Nat} {l : Nat} {kn : List (Nat × Int32)} {N : Nat} (hN : N < 512) {zi : Int32} {x : Nat → Int32} (ha : ll_a l kn zi x) {o5 o6 : Option Value} {h : am_H} {k q : Nat} (hI : ll_I u N h k q) {Q : am_R → Prop} (hn : ∀ o5 o6 h k q, ll_I u (N + 1) h k q → ll_R (ll_x l kn) (811, ll_lo u zi o5 o6, [], h, k, q) Q) : ll_R (ll_x l kn) (262, ll_lo u zi o5 o6, [], h, k, q) Q := by
  obtain ⟨hii, τ, mc, T, hmc, hU, hut, hT, hJ, hk, hq⟩ := hI
  obtain ⟨c, w, dn, e1, e2, e3, e4, e5, e6, e7⟩ := hii
  refine ll_st ll_i262 (S' := (263, ll_lo u zi o5 o6, [.ref (u 1)], h, k, q)) rfl ?_
  refine ll_arg (c := 1) (zi := zi) (x := x 1) rfl rfl ll_i263 ll_i264 ll_i266 ll_i267 ll_i268 (ha 1 (by decide)).1 (ha 1 (by decide)).2 ?_
  refine ll_arg (c := 2) (zi := zi) (x := x 2) rfl rfl ll_i269 ll_i270 ll_i272 ll_i273 ll_i274 (ha 2 (by decide)).1 (ha 2 (by decide)).2 ?_
  refine ll_bool ll_i275 ll_i278 ll_i279 ll_i282 (fun b1 hb1 hx1 => ?_)
  refine ll_ca ll_i283 (j := 135) (as := [.ref (u 1), .int (x 1), .int b1]) (pc' := 283) (lo' := ll_lo u zi o5 o6) (st' := []) (h' := h) (k1 := k) (q1 := q) rfl (mj := am_m135) rfl ⟨by decide, by decide, Nat.le_of_ble_eq_true rfl⟩ ?_
  have hA1 : ab_gA τ 2147483648 (kc_rho u 0) [(1, 16, 0), ab_top, w_r 0 1] [.ref (u 1), .int (x 1), .int b1] := ⟨Or.inr (ll_g1 hut), ⟨Or.inr (ll_gt), ⟨Or.inr (ll_gb hb1), trivial⟩⟩⟩
  refine Rn_mono (Rn_rd (j_apic hmc hU hut (j_k135 mc hmc) rfl hJ hA1)) (fun r hr => ?_)
  obtain ⟨⟨v1, h1, k1, q1, rfl, -, hJ1, hk1, hq1, -⟩, hrd⟩ := hr
  obtain ⟨w1, h1b, k1b, q1b, er, hc1⟩ := r_llink hmc hU hut hJ e1 e2 e3 e4 e6 hb1 hrd
  cases er
  refine ⟨some (.int w1), h1, k1, q1, rfl, ?_⟩
  show ll_R (ll_x l kn) (286, ll_lo u zi o5 o6, [.int w1], h1, k + k1, q + q1) Q
  refine ll_st ll_i286 (S' := (288, ll_lo u zi (some (.int w1)) o6, [], h1, k + k1, q + q1)) rfl ?_
  refine ll_st ll_i288 (S' := (289, ll_lo u zi (some (.int w1)) o6, [.ref (u 40)], h1, k + k1, q + q1)) rfl ?_
  refine ll_arg (c := 1) (zi := zi) (x := x 1) rfl rfl ll_i289 ll_i290 ll_i292 ll_i293 ll_i294 (ha 1 (by decide)).1 (ha 1 (by decide)).2 ?_
  refine ll_arg (c := 2) (zi := zi) (x := x 2) rfl rfl ll_i295 ll_i296 ll_i298 ll_i299 ll_i300 (ha 2 (by decide)).1 (ha 2 (by decide)).2 ?_
  refine ll_bool ll_i301 ll_i304 ll_i305 ll_i308 (fun b2 hb2 hx2 => ?_)
  have eb : b2 = b1 := hx2.trans hx1.symm
  subst eb
  obtain ⟨vs2, hv2⟩ := ll_c40 hut hJ1
  refine ll_iv (as := [.int (x 1), .int b2]) (r := []) ll_i309 (j := 106) (b := 2) (d := 9) (by decide +kernel) hv2 rfl rfl rfl (Nat.le_of_ble_eq_true rfl) (mj := am_m106) rfl ⟨by decide, by decide, Nat.le_of_ble_eq_true rfl⟩ ?_
  have hA2 : ab_gA τ 2147483648 (kc_rho u 0) [(1, 640, 0), ab_top, w_r 0 1] [.ref (u 40), .int (x 1), .int b2] := ⟨Or.inr (ll_g40 hut), ⟨Or.inr (ll_gt), ⟨Or.inr (ll_gb hb2), trivial⟩⟩⟩
  refine Rn_mono (Rn_rd (j_api hmc hU hut (j_k106 mc hmc) rfl hJ1 hA2)) (fun r hr => ?_)
  obtain ⟨⟨v2, h2, k2, q2, rfl, hv, hJ2, hk2, hq2, -⟩, hrd2⟩ := hr
  have hii2 : ii_I u h2 := ii_lk hmc hU hut hJ hJ1 hJ2 e1 e2 e3 e4 e5 e6 e7 hc1 (fun hR1 => by
    obtain ⟨h2b, er, hm⟩ := r_mlink hmc hU hut hJ1 e1 e2 e3 e4 e5 hR1 hb2 hrd2
    cases er
    exact hm)
  rcases hv with ⟨-, rfl⟩ | ⟨e, -⟩
  rotate_left
  · cases e
  refine ⟨none, h2, k2, q2, rfl, ?_⟩
  show ll_R (ll_x l kn) (312, ll_lo u zi (some (.int w1)) o6, [], h2, k + k1 + k2, q + q1 + q2) Q
  refine ll_st ll_i312 (S' := (811, ll_lo u zi (some (.int w1)) o6, [], h2, k + k1 + k2, q + q1 + q2)) rfl ?_
  exact hn _ _ _ _ _ ⟨hii2, τ, mc, T, hmc, hU, hut, ⟨hT.1, by omega⟩, hJ2, by omega, by omega⟩
set_option maxRecDepth 100000 in
theorem ll_k9 {u : Nat → Nat} {l : Nat} {kn : List (Nat × Int32)} {N : Nat} (hN : N < 512) {zi : Int32} {x : Nat → Int32} (ha : ll_a l kn zi x) {o5 o6 : Option Value} {h : am_H} {k q : Nat} (hI : ll_I u N h k q) {Q : am_R → Prop} (hn : ∀ o5 o6 h k q, ll_I u (N + 1) h k q → ll_R (ll_x l kn) (811, ll_lo u zi o5 o6, [], h, k, q) Q) : ll_R (ll_x l kn) (465, ll_lo u zi o5 o6, [], h, k, q) Q := by
  obtain ⟨hii, τ, mc, T, hmc, hU, hut, hT, hJ, hk, hq⟩ := hI
  have hi0 := hii
  obtain ⟨c, w, dn, e1, e2, e3, e4, e5, e6, e7⟩ := hii
  refine ll_st ll_i465 (S' := (466, ll_lo u zi o5 o6, [.ref (u 1)], h, k, q)) rfl ?_
  refine ll_arg (c := 1) (zi := zi) (x := x 1) rfl rfl ll_i466 ll_i467 ll_i469 ll_i470 ll_i471 (ha 1 (by decide)).1 (ha 1 (by decide)).2 ?_
  refine ll_arg (c := 2) (zi := zi) (x := x 2) rfl rfl ll_i472 ll_i473 ll_i475 ll_i476 ll_i477 (ha 2 (by decide)).1 (ha 2 (by decide)).2 ?_
  refine ll_arg (c := 3) (zi := zi) (x := x 3) rfl rfl ll_i478 ll_i479 ll_i481 ll_i482 ll_i483 (ha 3 (by decide)).1 (ha 3 (by decide)).2 ?_
  refine ll_st ll_i484 (S' := (485, ll_lo u zi o5 o6, [.ref (u 39), .int (x 3), .int (x 2), .int (x 1), .ref (u 1)], h, k, q)) rfl ?_
  refine ll_ca ll_i485 (j := 133) (as := [.ref (u 1), .int (x 1), .int (x 2), .int (x 3), .ref (u 39)]) (pc' := 485) (lo' := ll_lo u zi o5 o6) (st' := []) (h' := h) (k1 := k) (q1 := q) rfl (mj := am_m133) rfl ⟨by decide, by decide, Nat.le_of_ble_eq_true rfl⟩ ?_
  have hA1 : ab_gA τ 2147483648 (kc_rho u 0) [(1, 16, 0), ab_top, ab_top, ab_top, (1, 624, 0)] [.ref (u 1), .int (x 1), .int (x 2), .int (x 3), .ref (u 39)] := ⟨Or.inr (ll_g1 hut), ⟨Or.inr (ll_gt), ⟨Or.inr (ll_gt), ⟨Or.inr (ll_gt), ⟨Or.inr (ll_g39 hut), trivial⟩⟩⟩⟩⟩
  refine Rn_mono (Rn_rd (Rn_and (j_apic hmc hU hut (j_k133 mc hmc) rfl hJ hA1) (k_apic hmc hU hut (j_r133 mc hmc) rfl hJ hA1))) (fun r hr => ?_)
  obtain ⟨⟨⟨v1, h1, k1, q1, rfl, -, hJ1, hk1, hq1, -⟩, hf1⟩, hrd⟩ := hr
  obtain ⟨w1, h1b, k1b, q1b, er, hc1⟩ := r_lhop hmc hU hut hJ e2 e6 e1 hrd
  cases er
  refine ⟨some (.int w1), h1, k1, q1, rfl, ?_⟩
  have hR1 := rr_kP hut hU hut e2 hJ1.1 (k_r hf1) e7
  show ll_R (ll_x l kn) (488, ll_lo u zi o5 o6, [.int w1], h1, k + k1, q + q1) Q
  refine ll_st ll_i488 (S' := (490, ll_lo u zi (some (.int w1)) o6, [], h1, k + k1, q + q1)) rfl ?_
  refine ll_st ll_i490 (S' := (491, ll_lo u zi (some (.int w1)) o6, [.ref (u 40)], h1, k + k1, q + q1)) rfl ?_
  refine ll_arg (c := 1) (zi := zi) (x := x 1) rfl rfl ll_i491 ll_i492 ll_i494 ll_i495 ll_i496 (ha 1 (by decide)).1 (ha 1 (by decide)).2 ?_
  refine ll_arg (c := 2) (zi := zi) (x := x 2) rfl rfl ll_i497 ll_i498 ll_i500 ll_i501 ll_i502 (ha 2 (by decide)).1 (ha 2 (by decide)).2 ?_
  refine ll_arg (c := 3) (zi := zi) (x := x 3) rfl rfl ll_i503 ll_i504 ll_i506 ll_i507 ll_i508 (ha 3 (by decide)).1 (ha 3 (by decide)).2 ?_
  obtain ⟨vs2, hv2⟩ := ll_c40 hut hJ1
  refine ll_iv (as := [.int (x 1), .int (x 2), .int (x 3)]) (r := []) ll_i509 (j := 99) (b := 3) (d := 9) (by decide +kernel) hv2 rfl rfl rfl (Nat.le_of_ble_eq_true rfl) (mj := am_m99) rfl ⟨by decide, by decide, Nat.le_of_ble_eq_true rfl⟩ ?_
  have hA2 : ab_gA τ 2147483648 (kc_rho u 0) [(1, 640, 0), ab_top, ab_top, ab_top] [.ref (u 40), .int (x 1), .int (x 2), .int (x 3)] := ⟨Or.inr (ll_g40 hut), ⟨Or.inr (ll_gt), ⟨Or.inr (ll_gt), ⟨Or.inr (ll_gt), trivial⟩⟩⟩⟩
  refine Rn_mono (Rn_rd (Rn_and (j_api hmc hU hut (j_k99 mc hmc) rfl hJ1 hA2) (k_api hmc hU hut (j_r99 mc hmc) rfl hJ1 hA2))) (fun r hr => ?_)
  obtain ⟨⟨⟨v2, h2, k2, q2, rfl, -, hJ2, hk2, hq2, -⟩, hf2⟩, hrd2⟩ := hr
  obtain ⟨z2, h2b, er, h39, hm⟩ := r_mhop hmc hU hut hJ1 e2 e3 e4 e5 hR1 hrd2
  cases er
  have hii2 := ii_k hmc hmc hut hU hut hJ hJ2 (k_trans hf1 hf2) hi0
  have hin : ∀ {n m : Nat} {e z : Int32}, n < 10000 → e = Int32.ofNat n → m < n → z = Int32.ofNat m → j_in z e := fun {n m e z} hn he hm hz => by rw [he, hz]; exact ⟨by rw [r_b (by omega)]; omega, by rw [r_b (by omega), r_b (by omega)]; omega⟩
  have ht : ab_sl h2 (u 40) 0 = some (.int w1) ∧ (w1 = 0 → ab_sl h2 (u 39) 0 = some (.long z2.toInt64)) := by
    rcases hc1 with ⟨n1, rfl⟩ | ⟨n, m, hn_, hl_, a1, a2, ⟨nk, rfl⟩ | ⟨jj, yk, rfl, a3⟩⟩
    · rcases hm with ⟨-, t1⟩ | ⟨n, m, hn_, hl_, a1, a2, -⟩
      · exact ⟨t1, fun e => absurd e (by decide)⟩
      · exact absurd ⟨hin (by decide) rfl hn_ a1, hin (n := 4) (by decide) rfl hl_ a2⟩ n1
    · rcases hm with ⟨n1, -⟩ | ⟨n', m', hn', hl', a1', a2', ⟨-, t1⟩ | ⟨j2, yk, -⟩⟩
      · exact absurd ⟨hin (by decide) rfl hn_ a1, hin (n := 4) (by decide) rfl hl_ a2⟩ n1
      · exact ⟨t1, fun e => absurd e (by decide)⟩
      · obtain rfl : n' = n := r_inj (by omega) (by omega) (by rw [← a1', a1])
        obtain rfl : m' = m := r_inj (by omega) (by omega) (by rw [← a2', a2])
        rw [nk] at yk
        cases yk
    · rcases hm with ⟨n1, -⟩ | ⟨n', m', hn', hl', a1', a2', ⟨nk, t1⟩ | ⟨j2, yk2, t1, rfl⟩⟩
      · exact absurd ⟨hin (by decide) rfl hn_ a1, hin (n := 4) (by decide) rfl hl_ a2⟩ n1
      · obtain rfl : n' = n := r_inj (by omega) (by omega) (by rw [← a1', a1])
        obtain rfl : m' = m := r_inj (by omega) (by omega) (by rw [← a2', a2])
        rw [yk] at nk
        cases nk
      · obtain rfl : n' = n := r_inj (by omega) (by omega) (by rw [← a1', a1])
        obtain rfl : m' = m := r_inj (by omega) (by omega) (by rw [← a2', a2])
        rw [yk] at yk2
        cases yk2
        exact ⟨t1, fun _ => by rw [h39]; exact a3⟩
  refine ⟨some (.int z2), h2, 0, 0, rfl, ?_⟩
  show ll_R (ll_x l kn) (512, ll_lo u zi (some (.int w1)) o6, [.int z2], h2, k + k1 + 0, q + q1 + 0) Q
  refine ll_st ll_i512 (S' := (514, ll_lo u zi (some (.int w1)) (some (.int z2)), [], h2, k + k1 + 0, q + q1 + 0)) rfl ?_
  refine ll_st ll_i514 (S' := (515, ll_lo u zi (some (.int w1)) (some (.int z2)), [.ref (u 40)], h2, k + k1 + 0, q + q1 + 0)) rfl ?_
  obtain ⟨vt, hvt⟩ := ll_c40 hut hJ2
  refine ll_iv (as := []) (r := []) ll_i515 (j := 146) (b := 0) (d := 9) (by decide +kernel) hvt rfl rfl rfl (Nat.le_of_ble_eq_true rfl) (mj := am_m146) rfl ⟨by decide, by decide, Nat.le_of_ble_eq_true rfl⟩ ?_
  refine Rn_mono (th_run hut hJ2 ht.1) (fun r hr => ?_)
  subst hr
  refine ⟨some (.int w1), h2, 0, 0, rfl, ?_⟩
  show ll_R (ll_x l kn) (518, ll_lo u zi (some (.int w1)) (some (.int z2)), [.int w1], h2, k + k1 + 0 + 0, q + q1 + 0 + 0) Q
  refine ll_st ll_i518 (S' := (520, ll_lo u zi (some (.int w1)) (some (.int z2)), [.int w1, .int w1], h2, k + k1 + 0 + 0, q + q1 + 0 + 0)) rfl ?_
  refine ll_st ll_i520 (S' := (525, ll_lo u zi (some (.int w1)) (some (.int z2)), [], h2, k + k1 + 0 + 0, q + q1 + 0 + 0)) ?_ ?_
  · show am_br (decide ((w1 : Int32) = w1)) 520 5 (ll_lo u zi (some (.int w1)) (some (.int z2))) [] h2 (k + k1 + 0 + 0) (q + q1 + 0 + 0) = _
    rw [decide_eq_true rfl]
    rfl
  refine ll_st ll_i525 (S' := (527, ll_lo u zi (some (.int w1)) (some (.int z2)), [.int w1], h2, k + k1 + 0 + 0, q + q1 + 0 + 0)) rfl ?_
  by_cases hw0 : w1 = 0
  rotate_left
  · refine ll_st ll_i527 (S' := (542, ll_lo u zi (some (.int w1)) (some (.int z2)), [], h2, k + k1 + 0 + 0, q + q1 + 0 + 0)) ?_ ?_
    · show am_br (!decide (w1 = 0)) 527 15 (ll_lo u zi (some (.int w1)) (some (.int z2))) [] h2 (k + k1 + 0 + 0) (q + q1 + 0 + 0) = _
      rw [decide_eq_false hw0]
      rfl
    refine ll_st ll_i542 (S' := (811, ll_lo u zi (some (.int w1)) (some (.int z2)), [], h2, k + k1 + 0 + 0, q + q1 + 0 + 0)) rfl ?_
    exact hn _ _ _ _ _ ⟨hii2, τ, mc, T, hmc, hU, hut, ⟨hT.1, by omega⟩, hJ2, by omega, by omega⟩
  refine ll_st ll_i527 (S' := (530, ll_lo u zi (some (.int w1)) (some (.int z2)), [], h2, k + k1 + 0 + 0, q + q1 + 0 + 0)) ?_ ?_
  · show am_br (!decide (w1 = 0)) 527 15 (ll_lo u zi (some (.int w1)) (some (.int z2))) [] h2 (k + k1 + 0 + 0) (q + q1 + 0 + 0) = _
    rw [decide_eq_true hw0]
    rfl
  refine ll_st ll_i530 (S' := (531, ll_lo u zi (some (.int w1)) (some (.int z2)), [.ref (u 39)], h2, k + k1 + 0 + 0, q + q1 + 0 + 0)) rfl ?_
  refine ll_st ll_i531 (S' := (532, ll_lo u zi (some (.int w1)) (some (.int z2)), [.int 0, .ref (u 39)], h2, k + k1 + 0 + 0, q + q1 + 0 + 0)) rfl ?_
  obtain ⟨v39, d39, -⟩ := (rv_I hJ2.1 (hut 39 (by decide +kernel)) (by decide) : rv_C h2 (u 39) (w_kd 39).1 (w_kd 39).2)
  have d39 : h2[u 39]? = some (102, v39) := d39
  have hout := ht.2 hw0
  rw [ab_sl_at d39] at hout
  refine ll_lald ll_i532 d39 hout ?_
  refine ll_st ll_i533 (S' := (535, ll_lo u zi (some (.int w1)) (some (.int z2)), [.int z2, .long z2.toInt64], h2, k + k1 + 0 + 0, q + q1 + 0 + 0)) rfl ?_
  refine ll_st ll_i535 (S' := (536, ll_lo u zi (some (.int w1)) (some (.int z2)), [.long z2.toInt64, .long z2.toInt64], h2, k + k1 + 0 + 0, q + q1 + 0 + 0)) rfl ?_
  refine ll_st ll_i536 (S' := (537, ll_lo u zi (some (.int w1)) (some (.int z2)), [.int (lg_cmp z2.toInt64 z2.toInt64)], h2, k + k1 + 0 + 0, q + q1 + 0 + 0)) rfl ?_
  rw [ll_cmp0]
  refine ll_st ll_i537 (S' := (542, ll_lo u zi (some (.int w1)) (some (.int z2)), [], h2, k + k1 + 0 + 0, q + q1 + 0 + 0)) rfl ?_
  refine ll_st ll_i542 (S' := (811, ll_lo u zi (some (.int w1)) (some (.int z2)), [], h2, k + k1 + 0 + 0, q + q1 + 0 + 0)) rfl ?_
  exact hn _ _ _ _ _ ⟨hii2, τ, mc, T, hmc, hU, hut, ⟨hT.1, by omega⟩, hJ2, by omega, by omega⟩
set_option maxRecDepth 100000 in
theorem ll_k0 {u : Nat → Nat} {l : Nat} {kn : List (Nat × Int32)} {N : Nat} (hN : N < 512) {zi : Int32} {x : Nat → Int32} (ha : ll_a l kn zi x) {o5 o6 : Option Value} {h : am_H} {k q : Nat} (hI : ll_I u N h k q) {Q : am_R → Prop} (hn : ∀ o5 o6 h k q, ll_I u (N + 1) h k q → ll_R (ll_x l kn) (811, ll_lo u zi o5 o6, [], h, k, q) Q) : ll_R (ll_x l kn) (124, ll_lo u zi o5 o6, [], h, k, q) Q := by
  obtain ⟨hii, τ, mc, T, hmc, hU, hut, hT, hJ, hk, hq⟩ := hI
  refine ll_st ll_i124 (S' := (125, ll_lo u zi o5 o6, [.ref (u 1)], h, k, q)) rfl ?_
  refine ll_arg (c := 1) (zi := zi) (x := x 1) rfl rfl ll_i125 ll_i126 ll_i128 ll_i129 ll_i130 (ha 1 (by decide)).1 (ha 1 (by decide)).2 ?_
  refine ll_arg (c := 2) (zi := zi) (x := x 2) rfl rfl ll_i131 ll_i132 ll_i134 ll_i135 ll_i136 (ha 2 (by decide)).1 (ha 2 (by decide)).2 ?_
  refine ll_arg (c := 3) (zi := zi) (x := x 3) rfl rfl ll_i137 ll_i138 ll_i140 ll_i141 ll_i142 (ha 3 (by decide)).1 (ha 3 (by decide)).2 ?_
  refine ll_st ll_i143 (S' := (144, ll_lo u zi o5 o6, [.ref (u 39), .int (x 3), .int (x 2), .int (x 1), .ref (u 1)], h, k, q)) rfl ?_
  refine ll_ca ll_i144 (j := 137) (as := [.ref (u 1), .int (x 1), .int (x 2), .int (x 3), .ref (u 39)]) (pc' := 144) (lo' := ll_lo u zi o5 o6) (st' := []) (h' := h) (k1 := k) (q1 := q) rfl (mj := am_m137) rfl ⟨by decide, by decide, Nat.le_of_ble_eq_true rfl⟩ ?_
  refine Rn_mono (jl_machK hmc hU hut hJ (x 1) (x 2) (x 3)) (fun r hr => ?_)
  obtain ⟨z1, h1, k1, q1, rfl, hk1, hq1, -, hcase⟩ := hr
  refine ⟨some (.int z1), h1, k1, q1, rfl, ?_⟩
  show ll_R (ll_x l kn) (147, ll_lo u zi o5 o6, [.int z1], h1, k + k1, q + q1) Q
  refine ll_st ll_i147 (S' := (149, ll_lo u zi (some (.int z1)) o6, [], h1, k + k1, q + q1)) rfl ?_
  refine ll_st ll_i149 (S' := (150, ll_lo u zi (some (.int z1)) o6, [.ref (u 40)], h1, k + k1, q + q1)) rfl ?_
  refine ll_arg (c := 1) (zi := zi) (x := x 1) rfl rfl ll_i150 ll_i151 ll_i153 ll_i154 ll_i155 (ha 1 (by decide)).1 (ha 1 (by decide)).2 ?_
  refine ll_arg (c := 2) (zi := zi) (x := x 2) rfl rfl ll_i156 ll_i157 ll_i159 ll_i160 ll_i161 (ha 2 (by decide)).1 (ha 2 (by decide)).2 ?_
  refine ll_arg (c := 3) (zi := zi) (x := x 3) rfl rfl ll_i162 ll_i163 ll_i165 ll_i166 ll_i167 (ha 3 (by decide)).1 (ha 3 (by decide)).2 ?_
  rcases hcase with ⟨hJ1, hno, -, hf1⟩ | ⟨ok1, m8, ok2, -, -, hqN, τ2, hta, hU2, hut2, hH⟩
  · obtain ⟨vs2, hv2⟩ := ll_c40 hut hJ1
    refine ll_iv (as := [.int (x 1), .int (x 2), .int (x 3)]) (r := []) ll_i168 (j := 109) (b := 3) (d := 9) (by decide +kernel) hv2 rfl rfl rfl (Nat.le_of_ble_eq_true rfl) (mj := am_m109) rfl ⟨by decide, by decide, Nat.le_of_ble_eq_true rfl⟩ ?_
    refine Rn_mono (jm_machnK hmc hU hut hJ1 (x 1) (x 2) (x 3) hno) (fun r hr => ?_)
    obtain ⟨z2, h2, rfl, hJ2, -, -, hf2⟩ := hr
    refine ⟨some (.int z2), h2, 0, 0, rfl, ?_⟩
    show ll_R (ll_x l kn) (171, ll_lo u zi (some (.int z1)) o6, [.int z2], h2, k + k1 + 0, q + q1 + 0) Q
    refine ll_st ll_i171 (S' := (173, ll_lo u zi (some (.int z1)) (some (.int z2)), [], h2, k + k1 + 0, q + q1 + 0)) rfl ?_
    refine ll_st ll_i173 (S' := (811, ll_lo u zi (some (.int z1)) (some (.int z2)), [], h2, k + k1 + 0, q + q1 + 0)) rfl ?_
    exact hn _ _ _ _ _ ⟨(ii_k hmc hmc hut hU hut hJ hJ2 (k_trans hf1 hf2) hii), τ, mc, T, hmc, hU, hut, ⟨hT.1, by omega⟩, hJ2, by omega, by omega⟩
  · obtain ⟨vs2, hv2⟩ := ll_ch hut2 hH
    refine ll_iv (as := [.int (x 1), .int (x 2), .int (x 3)]) (r := []) ll_i168 (j := 109) (b := 3) (d := 9) (by decide +kernel) hv2 rfl rfl rfl (Nat.le_of_ble_eq_true rfl) (mj := am_m109) rfl ⟨by decide, by decide, Nat.le_of_ble_eq_true rfl⟩ ?_
    refine Rn_mono (jm_machK (zl := x 1) m8 hU2 hut2 hH ok1 ok2) (fun r hr => ?_)
    obtain ⟨z2, h2, rfl, hJ2, -, -, -, hqV⟩ := hr
    refine ⟨some (.int z2), h2, 0, 0, rfl, ?_⟩
    show ll_R (ll_x l kn) (171, ll_lo u zi (some (.int z1)) o6, [.int z2], h2, k + k1 + 0, q + q1 + 0) Q
    refine ll_st ll_i171 (S' := (173, ll_lo u zi (some (.int z1)) (some (.int z2)), [], h2, k + k1 + 0, q + q1 + 0)) rfl ?_
    refine ll_st ll_i173 (S' := (811, ll_lo u zi (some (.int z1)) (some (.int z2)), [], h2, k + k1 + 0, q + q1 + 0)) rfl ?_
    exact hn _ _ _ _ _ ⟨(ii_k hmc (by omega) hut hU2 hut2 hJ hJ2 (fun a i ha => (hqV a i (by rw [hta a (k_lt _ ha).2.1]; exact ha)).trans (hqN a i ha)) hii), τ2, mc + 1, T, by omega, hU2, hut2, ⟨hT.1, by omega⟩, hJ2, by omega, by omega⟩
