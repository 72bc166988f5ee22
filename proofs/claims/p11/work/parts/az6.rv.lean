/-! ===== routes: slots and shapes ===== -/
def rv_C (h : am_H) (a t n : Nat) : Prop := ∃ vs, h[a]? = some (t, vs) ∧ vs.length = n
def rv_S (h h' : am_H) : Prop := ∀ a t n, rv_C h a t n → rv_C h' a t n
theorem rv_Sr {h : am_H} : rv_S h h := fun _ _ _ c => c
theorem rv_St {h1 h2 h3 : am_H} (a : rv_S h1 h2) (b : rv_S h2 h3) : rv_S h1 h3 := fun x t n c => b x t n (a x t n c)
def rv_u (V : Nat → Nat → Option Value) (x i : Nat) (v : Value) : Nat → Nat → Option Value := fun a j => if a = x ∧ j = i then some v else V a j
theorem rv_eq {V : Nat → Nat → Option Value} {x i : Nat} {v : Value} : rv_u V x i v x i = some v := if_pos ⟨rfl, rfl⟩
theorem rv_ne {V : Nat → Nat → Option Value} {x i a j : Nat} {v : Value} (h : a ≠ x) : rv_u V x i v a j = V a j := if_neg (fun z => h z.1)
theorem rv_nj {V : Nat → Nat → Option Value} {x i a j : Nat} {v : Value} (h : j ≠ i) : rv_u V x i v a j = V a j := if_neg (fun z => h z.2)
theorem rv_set {h : am_H} {x t j : Nat} {vs : List Value} {v : Value} (e : h[x]? = some (t, vs)) (hj : j < vs.length) : ab_sl (h.set x (t, vs.set j v)) = rv_u (ab_sl h) x j v ∧ rv_S h (h.set x (t, vs.set j v)) := by
  have hx := (List.getElem?_eq_some_iff.mp e).1
  constructor
  · funext a i
    by_cases ha : a = x
    · subst ha
      rw [ab_sl_at (List.getElem?_set_self hx)]
      by_cases hi : i = j
      · subst hi
        rw [rv_eq]
        exact List.getElem?_set_self hj
      · rw [rv_nj hi, ab_sl_at e]
        exact List.getElem?_set_ne (Ne.symm hi)
    · rw [rv_ne ha]
      unfold ab_sl
      rw [List.getElem?_set_ne (Ne.symm ha)]
  · intro a t' n hc
    obtain ⟨ws, e1, e2⟩ := hc
    by_cases ha : a = x
    · subst ha
      rw [e] at e1
      cases e1
      exact ⟨_, List.getElem?_set_self hx, by rw [List.length_set]; exact e2⟩
    · exact ⟨ws, by rw [List.getElem?_set_ne (Ne.symm ha)]; exact e1, e2⟩
/-- small ints -/
theorem r_b {a : Nat} (ha : a < 100000) : ab_b (Int32.ofNat a) = 2147483648 + a := by rw [ab_b_of]; omega
theorem r_add {a b : Nat} (ha : a < 10000) (hb : b < 10000) : Int32.ofNat a + Int32.ofNat b = Int32.ofNat (a + b) := by
  have e1 := r_b (a := a) (by omega)
  have e2 := r_b (a := b) (by omega)
  have e3 := r_b (a := a + b) (by omega)
  exact ab_b_inj (by rw [ab_b_add (by omega) (by omega), e3]; omega)
theorem r_sub {a b : Nat} (ha : a < 10000) (hb : b ≤ a) : Int32.ofNat a - Int32.ofNat b = Int32.ofNat (a - b) := by
  have e1 := r_b (a := a) (by omega)
  have e2 := r_b (a := b) (by omega)
  have e3 := r_b (a := a - b) (by omega)
  exact ab_b_inj (by rw [ab_b_sub (by omega) (by omega), e3]; omega)
theorem r_mul {a b : Nat} (ha : a < 100) (hb : b < 100) : Int32.ofNat a * Int32.ofNat b = Int32.ofNat (a * b) := by
  have e1 := r_b (a := a) (by omega)
  have e2 := r_b (a := b) (by omega)
  have s1 : ab_b (Int32.ofNat a) - 2147483648 = a := by rw [e1, Nat.add_sub_cancel_left]
  have s2 : ab_b (Int32.ofNat b) - 2147483648 = b := by rw [e2, Nat.add_sub_cancel_left]
  have h3 : a * b ≤ 99 * 99 := Nat.mul_le_mul (by omega) (by omega)
  have e3 := r_b (a := a * b) (Nat.lt_of_le_of_lt h3 (by decide))
  exact ab_b_inj (by rw [ab_b_mul (by rw [e1]; exact Nat.le_add_right _ _) (by rw [e2]; exact Nat.le_add_right _ _) (by rw [s1, s2]; exact Nat.le_trans h3 (by decide)), e3, s1, s2])
theorem r_inj {a b : Nat} (ha : a < 10000) (hb : b < 10000) (e : Int32.ofNat a = Int32.ofNat b) : a = b := by
  have e1 := r_b (a := a) (by omega)
  have e2 := r_b (a := b) (by omega)
  rw [e] at e1
  omega
theorem r_of {z : Int32} {n : Nat} (hn : n < 10000) (h : ab_b z = 2147483648 + n) : z = Int32.ofNat n := ab_b_inj (by rw [h, r_b (by omega)])
theorem r_c0 {a b : Nat} (ha : a < 10000) (hb : b < 10000) : wk_c 0 (Int32.ofNat a) (Int32.ofNat b) = decide (a = b) := by
  show decide (Int32.ofNat a = Int32.ofNat b) = decide (a = b)
  exact decide_eq_decide.mpr ⟨r_inj ha hb, fun e => by rw [e]⟩
theorem r_c1 {a b : Nat} (ha : a < 10000) (hb : b < 10000) : wk_c 1 (Int32.ofNat a) (Int32.ofNat b) = !decide (a = b) := by
  show (!decide (Int32.ofNat a = Int32.ofNat b)) = !decide (a = b)
  rw [show decide (Int32.ofNat a = Int32.ofNat b) = decide (a = b) from r_c0 ha hb]
theorem r_c2 {a b : Nat} (ha : a < 10000) (hb : b < 10000) : wk_c 2 (Int32.ofNat a) (Int32.ofNat b) = decide (a < b) := by
  have e1 := r_b (a := a) (by omega)
  have e2 := r_b (a := b) (by omega)
  show decide (Int32.ofNat a < Int32.ofNat b) = decide (a < b)
  exact decide_eq_decide.mpr ⟨fun e => by have := ab_b_lti.mp e; omega, fun e => ab_b_lti.mpr (by omega)⟩
theorem r_c3 {a b : Nat} (ha : a < 10000) (hb : b < 10000) : wk_c 3 (Int32.ofNat a) (Int32.ofNat b) = decide (b ≤ a) := by
  have e1 := r_b (a := a) (by omega)
  have e2 := r_b (a := b) (by omega)
  show decide (Int32.ofNat b ≤ Int32.ofNat a) = decide (b ≤ a)
  exact decide_eq_decide.mpr ⟨fun e => by have := ab_b_lei.mp e; omega, fun e => ab_b_lei.mpr (by omega)⟩
theorem r_rd {vs : List Value} {j : Nat} {v : Value} (hj : j < 10000) (hv : vs[j]? = some v) : am_rd vs (Int32.ofNat j) = some v := by
  have e := r_b (a := j) (by omega)
  have := ab_ix (z := Int32.ofNat j) (by omega)
  unfold am_rd
  rw [if_neg this.1, this.2, e, Nat.add_sub_cancel_left]
  exact hv
section RW
variable {mi : am_M} {mf : fm_M} {pc op a b c d k q : Nat} {lo : List (Option Value)} {st : List Value} {h : am_H} {rr : am_R}
theorem iw_put {x : Nat} {r vs : List Value} {v : Value} (hmf : wk_mck am_fty am_lk wk_tls mi mf = true) (hw : wk_at mf pc 26 a b c d = true) (hc : h[x]? = some (a, vs)) (hb : b < vs.length) (hf : wk_fit c v = true) (hr : Rd mi (pc, lo, v :: .ref x :: r, h, k, q) rr) : Rd mi (pc + 3, lo, r, h.set x (a, vs.set b v), k, q) rr := by
  refine iw_st hmf hw hr ?_
  simp only [wk_ex]
  rw [ab_arr hc]
  dsimp only
  rw [if_pos ⟨hb, hf⟩]
  rfl
theorem rw_get {x n : Nat} {r : List Value} {v : Value} (hmf : wk_mck am_fty am_lk wk_tls mi mf = true) (hw : wk_at mf pc 25 a b c d = true) (hc : rv_C h x a n) (hv : ab_sl h x b = some v) (hr : Rd mi (pc, lo, .ref x :: r, h, k, q) rr) : Rd mi (pc + 3, lo, v :: r, h, k, q) rr := by
  obtain ⟨vs, e, -⟩ := hc
  rw [ab_sl_at e] at hv
  exact iw_get hmf hw e hv hr
theorem rw_aal {x y n j t : Nat} {r : List Value} (hmf : wk_mck am_fty am_lk wk_tls mi mf = true) (hw : wk_at mf pc 30 a b c d = true) (hc : rv_C h x t n ∧ (am_cmp t).isSome = true) (hj : j < 10000) (hv : ab_sl h x j = some (.ref y)) (hr : Rd mi (pc, lo, .int (Int32.ofNat j) :: .ref x :: r, h, k, q) rr) : Rd mi (pc + 1, lo, .ref y :: r, h, k, q) rr := by
  obtain ⟨⟨vs, e, -⟩, hcm⟩ := hc
  rw [ab_sl_at e] at hv
  refine iw_st hmf hw hr ?_
  simp only [wk_ex]
  rw [e]
  dsimp only
  rw [if_pos hcm, r_rd hj hv]
  rfl
theorem rw_ial {x n j : Nat} {r : List Value} {v : Int32} (hmf : wk_mck am_fty am_lk wk_tls mi mf = true) (hw : wk_at mf pc 27 a b c d = true) (hc : rv_C h x 100 n) (hj : j < 10000) (hv : ab_sl h x j = some (.int v)) (hr : Rd mi (pc, lo, .int (Int32.ofNat j) :: .ref x :: r, h, k, q) rr) : Rd mi (pc + 1, lo, .int v :: r, h, k, q) rr := by
  obtain ⟨vs, e, -⟩ := hc
  rw [ab_sl_at e] at hv
  refine iw_st hmf hw hr ?_
  simp only [wk_ex]
  rw [ab_arr e]
  dsimp only
  rw [r_rd hj hv]
  rfl
theorem rw_bal {x n j : Nat} {r : List Value} {v : Int32} (hmf : wk_mck am_fty am_lk wk_tls mi mf = true) (hw : wk_at mf pc 28 a b c d = true) (hc : rv_C h x 101 n) (hj : j < 10000) (hv : ab_sl h x j = some (.int v)) (hr : Rd mi (pc, lo, .int (Int32.ofNat j) :: .ref x :: r, h, k, q) rr) : Rd mi (pc + 1, lo, .int v :: r, h, k, q) rr := by
  obtain ⟨vs, e, -⟩ := hc
  rw [ab_sl_at e] at hv
  refine iw_st hmf hw hr ?_
  simp only [wk_ex]
  rw [ab_arr e]
  dsimp only
  rw [r_rd hj hv]
  rfl
theorem rw_ias {x n j : Nat} {r : List Value} {v : Int32} (hmf : wk_mck am_fty am_lk wk_tls mi mf = true) (hw : wk_at mf pc 31 a b c d = true) (hc : rv_C h x 100 n) (hjn : j < n) (hj : j < 10000) (hr : Rd mi (pc, lo, .int v :: .int (Int32.ofNat j) :: .ref x :: r, h, k, q) rr) : ∃ h', ab_sl h' = rv_u (ab_sl h) x j (.int v) ∧ rv_S h h' ∧ Rd mi (pc + 1, lo, r, h', k, q) rr := by
  obtain ⟨vs, e, el⟩ := hc
  have eb := r_b (a := j) (by omega)
  have hix := ab_ix (z := Int32.ofNat j) (by omega)
  obtain ⟨s1, s2⟩ := rv_set (v := .int v) e (show j < vs.length by omega)
  refine ⟨_, s1, s2, iw_st hmf hw hr ?_⟩
  have ew : am_wr h x 100 vs (Int32.ofNat j) (.int v) = some (h.set x (100, vs.set j (.int v))) := by
    unfold am_wr
    rw [if_neg hix.1, hix.2, eb, Nat.add_sub_cancel_left, if_pos (by omega)]
  simp only [wk_ex]
  rw [ab_arr e]
  dsimp only
  rw [ew]
  rfl
theorem rw_iv {x n : Nat} {r as : List Value} {mj : am_M} (hmf : wk_mck am_fty am_lk wk_tls mi mf = true) (hw : wk_at mf pc 40 a b 2 d = true) (hc : rv_C h x d n) (hb : as.length = b) (ho : am_one as = true) (hcat : am_cat r ≤ 8) (hj : am_ms a = some mj) (hr : Rd mi (pc, lo, as.reverse ++ .ref x :: r, h, k, q) rr) : iv_C mi mj (.ref x :: as) pc lo r h k q rr := by
  obtain ⟨vs, e, -⟩ := hc
  exact iw_iv hmf hw e rfl hb ho hcat hj hr
end RW
set_option maxRecDepth 100000 in
theorem r_end {h : am_H} {n : Nat} (hn : n < 6) {r : am_R} (hr : Rd am_m73 (0, [some (.int (Int32.ofNat n))], [], h, 0, 0) r) : r = (.inl (some (.int (Int32.ofNat (if n < 4 then 6 else 4)))), h, 0, 0) := by
  have hr := iw_st wk_q73 (show wk_at wk_m73 0 2 0 1 0 0 = true by decide +kernel) hr rfl
  have hr := iw_st wk_q73 (show wk_at wk_m73 1 1 33 1 0 0 = true by decide +kernel) hr rfl
  by_cases hn4 : n < 4
  · have hr := iw_icf wk_q73 (show wk_at wk_m73 2 23 3 10 0 0 = true by decide +kernel) (by rw [r_c3 (by omega) (by omega)]; exact decide_eq_false (by omega)) hr
    have hr := iw_st wk_q73 (show wk_at wk_m73 5 1 49 2 0 0 = true by decide +kernel) hr rfl
    have hr := iw_st wk_q73 (show wk_at wk_m73 7 21 11 0 0 0 = true by decide +kernel) hr rfl
    rw [if_pos hn4]
    exact iw_en wk_q73 (show wk_at wk_m73 11 44 0 0 0 0 = true by decide +kernel) hr rfl
  · have hr := iw_ict wk_q73 (show wk_at wk_m73 2 23 3 10 0 0 = true by decide +kernel) (by rw [r_c3 (by omega) (by omega)]; exact decide_eq_true (by omega)) hr
    have hr := iw_st wk_q73 (show wk_at wk_m73 10 1 33 1 0 0 = true by decide +kernel) hr rfl
    rw [if_neg hn4]
    exact iw_en wk_q73 (show wk_at wk_m73 11 44 0 0 0 0 = true by decide +kernel) hr rfl
set_option maxRecDepth 100000 in
theorem r_first {h : am_H} {n : Nat} (hn : n < 6) {r : am_R} (hr : Rd am_m66 (0, [some (.int (Int32.ofNat n))], [], h, 0, 0) r) : r = (.inl (some (.int (Int32.ofNat (if n < 4 then 4 else 0)))), h, 0, 0) := by
  have hr := iw_st wk_q66 (show wk_at wk_m66 0 2 0 1 0 0 = true by decide +kernel) hr rfl
  have hr := iw_st wk_q66 (show wk_at wk_m66 1 1 33 1 0 0 = true by decide +kernel) hr rfl
  by_cases hn4 : n < 4
  · have hr := iw_icf wk_q66 (show wk_at wk_m66 2 23 3 9 0 0 = true by decide +kernel) (by rw [r_c3 (by omega) (by omega)]; exact decide_eq_false (by omega)) hr
    have hr := iw_st wk_q66 (show wk_at wk_m66 5 1 33 1 0 0 = true by decide +kernel) hr rfl
    have hr := iw_st wk_q66 (show wk_at wk_m66 6 21 10 0 0 0 = true by decide +kernel) hr rfl
    rw [if_pos hn4]
    exact iw_en wk_q66 (show wk_at wk_m66 10 44 0 0 0 0 = true by decide +kernel) hr rfl
  · have hr := iw_ict wk_q66 (show wk_at wk_m66 2 23 3 9 0 0 = true by decide +kernel) (by rw [r_c3 (by omega) (by omega)]; exact decide_eq_true (by omega)) hr
    have hr := iw_st wk_q66 (show wk_at wk_m66 9 1 1 1 0 0 = true by decide +kernel) hr rfl
    rw [if_neg hn4]
    exact iw_en wk_q66 (show wk_at wk_m66 10 44 0 0 0 0 = true by decide +kernel) hr rfl
/-- one neighbour more: least, bits -/
def r_fs (v j : Nat) (p : Nat × Nat) : Nat × Nat := if v < p.1 then (v, 2 ^ j) else if v = p.1 ∧ v < 15 then (p.1, p.2 ||| 2 ^ j) else p
theorem r_shl : ∀ j, j < 6 → (Int32.ofNat (9 / 8)) <<< ((Int32.ofNat j) &&& 31) = Int32.ofNat (2 ^ j) := by decide +kernel
theorem r_or : ∀ j, j < 6 → ∀ b, b < 64 → Int32.ofNat b ||| Int32.ofNat (2 ^ j) = Int32.ofNat (b ||| 2 ^ j) := by decide +kernel
theorem r_or6 : ∀ j, j < 6 → ∀ b, b < 64 → b ||| 2 ^ j < 64 := by decide +kernel
theorem r_p6 : ∀ j, j < 6 → 2 ^ j < 64 := by decide +kernel
theorem r_fs6 {v j : Nat} {p : Nat × Nat} (hj : j < 6) (hp : p.1 ≤ 15 ∧ p.2 < 64) : (r_fs v j p).1 ≤ 15 ∧ (r_fs v j p).2 < 64 := by
  unfold r_fs
  split
  · exact ⟨by show v ≤ 15; omega, r_p6 j hj⟩
  · split
    · exact ⟨hp.1, r_or6 j hj _ hp.2⟩
    · exact hp
set_option maxRecDepth 100000 in
theorem r_fit {h : am_H} {x7 x9 xA n l L B e j v : Nat} (hn : n < 6) (hl : l < 4) (hL : L ≤ 15) (hB : B < 64) (hj : j < 6) (he : j < e) (he6 : e ≤ 6) (hv : v ≤ 16) (c7 : rv_C h x7 7 4) (s71 : ab_sl h x7 1 = some (.ref x9)) (c9 : rv_C h x9 103 6 ∧ (am_cmp 103).isSome = true) (s9 : ab_sl h x9 n = some (.ref xA)) (cA : rv_C h xA 100 24) (sA : ab_sl h xA (j * 4 + l) = some (.int (Int32.ofNat v))) {o : Option Value} {r : am_R} (hr : Rd am_m64 (18, [some (.ref x7), some (.int (Int32.ofNat n)), some (.int (Int32.ofNat l)), some (.int (Int32.ofNat L)), some (.int (Int32.ofNat B)), some (.int (Int32.ofNat e)), some (.int (Int32.ofNat j)), o], [], h, 0, 0) r) : ∃ o', Rd am_m64 (18, [some (.ref x7), some (.int (Int32.ofNat n)), some (.int (Int32.ofNat l)), some (.int (Int32.ofNat (r_fs v j (L, B)).1)), some (.int (Int32.ofNat (r_fs v j (L, B)).2)), some (.int (Int32.ofNat e)), some (.int (Int32.ofNat (j + 1))), o'], [], h, 0, 0) r := by
  have hr := iw_st wk_q64 (show wk_at wk_m64 18 2 6 2 0 0 = true by decide +kernel) hr rfl
  have hr := iw_st wk_q64 (show wk_at wk_m64 20 2 5 2 0 0 = true by decide +kernel) hr rfl
  have hr := iw_icf wk_q64 (show wk_at wk_m64 22 23 3 86 0 0 = true by decide +kernel) (by rw [r_c3 (by omega) (by omega)]; exact decide_eq_false (by omega)) hr
  have hr := iw_st wk_q64 (show wk_at wk_m64 25 3 0 1 0 0 = true by decide +kernel) hr rfl
  have hr := rw_get wk_q64 (show wk_at wk_m64 26 25 7 1 0 0 = true by decide +kernel) c7 s71 hr
  have hr := iw_st wk_q64 (show wk_at wk_m64 29 2 1 1 0 0 = true by decide +kernel) hr rfl
  have hr := rw_aal wk_q64 (show wk_at wk_m64 30 30 0 0 0 0 = true by decide +kernel) c9 (by omega) s9 hr
  have hr := iw_st wk_q64 (show wk_at wk_m64 31 2 6 2 0 0 = true by decide +kernel) hr rfl
  have hr := iw_st wk_q64 (show wk_at wk_m64 33 1 33 1 0 0 = true by decide +kernel) hr rfl
  have hr := iw_st wk_q64 (show wk_at wk_m64 34 9 0 0 0 0 = true by decide +kernel) hr rfl
  have hr := iw_st wk_q64 (show wk_at wk_m64 35 2 2 1 0 0 = true by decide +kernel) hr rfl
  have hr := iw_st wk_q64 (show wk_at wk_m64 36 7 0 0 0 0 = true by decide +kernel) hr rfl
  have ex : Int32.ofNat j * Int32.ofNat (33 / 8) + Int32.ofNat l = Int32.ofNat (j * 4 + l) := by rw [r_mul (by omega) (by omega), r_add (by omega) (by omega)]
  rw [ex] at hr
  have hr := rw_ial wk_q64 (show wk_at wk_m64 37 27 0 0 0 0 = true by decide +kernel) cA (by omega) sA hr
  have hr := iw_st wk_q64 (show wk_at wk_m64 38 4 7 2 0 0 = true by decide +kernel) hr rfl
  have hr := iw_st wk_q64 (show wk_at wk_m64 40 2 7 2 0 0 = true by decide +kernel) hr rfl
  have hr := iw_st wk_q64 (show wk_at wk_m64 42 2 3 1 0 0 = true by decide +kernel) hr rfl
  unfold r_fs
  dsimp only
  by_cases h1 : v < L
  · rw [if_pos h1]
    have hr := iw_icf wk_q64 (show wk_at wk_m64 43 23 3 58 0 0 = true by decide +kernel) (by rw [r_c3 (by omega) (by omega)]; exact decide_eq_false (by omega)) hr
    have hr := iw_st wk_q64 (show wk_at wk_m64 46 2 7 2 0 0 = true by decide +kernel) hr rfl
    have hr := iw_st wk_q64 (show wk_at wk_m64 48 4 3 1 0 0 = true by decide +kernel) hr rfl
    have hr := iw_st wk_q64 (show wk_at wk_m64 49 1 9 1 0 0 = true by decide +kernel) hr rfl
    have hr := iw_st wk_q64 (show wk_at wk_m64 50 2 6 2 0 0 = true by decide +kernel) hr rfl
    have hr := iw_st wk_q64 (show wk_at wk_m64 52 14 0 0 0 0 = true by decide +kernel) hr rfl
    rw [r_shl j hj] at hr
    have hr := iw_st wk_q64 (show wk_at wk_m64 53 4 4 2 0 0 = true by decide +kernel) hr rfl
    have hr := iw_st wk_q64 (show wk_at wk_m64 55 21 80 0 0 0 = true by decide +kernel) hr rfl
    have hr := iw_st wk_q64 (show wk_at wk_m64 80 6 6 1 0 0 = true by decide +kernel) hr rfl
    rw [show Int32.ofNat j + Int32.ofNat 1 = Int32.ofNat (j + 1) from r_add (by omega) (by omega)] at hr
    have hr := iw_st wk_q64 (show wk_at wk_m64 83 21 18 0 0 0 = true by decide +kernel) hr rfl
    exact ⟨_, hr⟩
  · rw [if_neg h1]
    have hr := iw_ict wk_q64 (show wk_at wk_m64 43 23 3 58 0 0 = true by decide +kernel) (by rw [r_c3 (by omega) (by omega)]; exact decide_eq_true (by omega)) hr
    have hr := iw_st wk_q64 (show wk_at wk_m64 58 2 7 2 0 0 = true by decide +kernel) hr rfl
    have hr := iw_st wk_q64 (show wk_at wk_m64 60 2 3 1 0 0 = true by decide +kernel) hr rfl
    by_cases h2 : v = L ∧ v < 15
    · rw [if_pos h2]
      have hr := iw_icf wk_q64 (show wk_at wk_m64 61 23 1 80 0 0 = true by decide +kernel) (by rw [r_c1 (by omega) (by omega)]; exact by rw [decide_eq_true h2.1]; rfl) hr
      have hr := iw_st wk_q64 (show wk_at wk_m64 64 2 7 2 0 0 = true by decide +kernel) hr rfl
      have hr := iw_st wk_q64 (show wk_at wk_m64 66 1 121 2 0 0 = true by decide +kernel) hr rfl
      have hr := iw_icf wk_q64 (show wk_at wk_m64 68 23 3 80 0 0 = true by decide +kernel) (by rw [r_c3 (by omega) (by omega)]; exact decide_eq_false (by omega)) hr
      have hr := iw_st wk_q64 (show wk_at wk_m64 71 2 4 2 0 0 = true by decide +kernel) hr rfl
      have hr := iw_st wk_q64 (show wk_at wk_m64 73 1 9 1 0 0 = true by decide +kernel) hr rfl
      have hr := iw_st wk_q64 (show wk_at wk_m64 74 2 6 2 0 0 = true by decide +kernel) hr rfl
      have hr := iw_st wk_q64 (show wk_at wk_m64 76 14 0 0 0 0 = true by decide +kernel) hr rfl
      rw [r_shl j hj] at hr
      have hr := iw_st wk_q64 (show wk_at wk_m64 77 11 0 0 0 0 = true by decide +kernel) hr rfl
      rw [r_or j hj B hB] at hr
      have hr := iw_st wk_q64 (show wk_at wk_m64 78 4 4 2 0 0 = true by decide +kernel) hr rfl
      have hr := iw_st wk_q64 (show wk_at wk_m64 80 6 6 1 0 0 = true by decide +kernel) hr rfl
      rw [show Int32.ofNat j + Int32.ofNat 1 = Int32.ofNat (j + 1) from r_add (by omega) (by omega)] at hr
      have hr := iw_st wk_q64 (show wk_at wk_m64 83 21 18 0 0 0 = true by decide +kernel) hr rfl
      exact ⟨_, hr⟩
    · rw [if_neg h2]
      by_cases h3 : v = L
      · have hr := iw_icf wk_q64 (show wk_at wk_m64 61 23 1 80 0 0 = true by decide +kernel) (by rw [r_c1 (by omega) (by omega)]; exact by rw [decide_eq_true h3]; rfl) hr
        have hr := iw_st wk_q64 (show wk_at wk_m64 64 2 7 2 0 0 = true by decide +kernel) hr rfl
        have hr := iw_st wk_q64 (show wk_at wk_m64 66 1 121 2 0 0 = true by decide +kernel) hr rfl
        have hr := iw_ict wk_q64 (show wk_at wk_m64 68 23 3 80 0 0 = true by decide +kernel) (by rw [r_c3 (by omega) (by omega)]; exact decide_eq_true (by show 121 / 8 ≤ v; omega)) hr
        have hr := iw_st wk_q64 (show wk_at wk_m64 80 6 6 1 0 0 = true by decide +kernel) hr rfl
        rw [show Int32.ofNat j + Int32.ofNat 1 = Int32.ofNat (j + 1) from r_add (by omega) (by omega)] at hr
        have hr := iw_st wk_q64 (show wk_at wk_m64 83 21 18 0 0 0 = true by decide +kernel) hr rfl
        exact ⟨_, hr⟩
      · have hr := iw_ict wk_q64 (show wk_at wk_m64 61 23 1 80 0 0 = true by decide +kernel) (by rw [r_c1 (by omega) (by omega)]; exact by rw [decide_eq_false h3]; rfl) hr
        have hr := iw_st wk_q64 (show wk_at wk_m64 80 6 6 1 0 0 = true by decide +kernel) hr rfl
        rw [show Int32.ofNat j + Int32.ofNat 1 = Int32.ofNat (j + 1) from r_add (by omega) (by omega)] at hr
        have hr := iw_st wk_q64 (show wk_at wk_m64 83 21 18 0 0 0 = true by decide +kernel) hr rfl
        exact ⟨_, hr⟩
/-- the cells of the routes: 0 the object, 1 down, 2 to 4 the rows of rows, 5.. told, 11.. distances, 17.. bits; 23 the reference, 24 its down, 25 its told -/
def rc_j (c : Nat → Nat) : Prop := ∀ i j, i < 26 → j < 26 → c i = c j → i = j
theorem rc_n {c : Nat → Nat} (hc : rc_j c) {i j : Nat} (hi : i < 26) (hj : j < 26) (h : i ≠ j) : c i ≠ c j := fun e => h (hc i j hi hj e)
def rc_W (c : Nat → Nat) (h : am_H) : Prop := (rv_C h (c 0) 7 4 ∧ ab_sl h (c 0) 0 = some (.ref (c 1)) ∧ ab_sl h (c 0) 1 = some (.ref (c 2)) ∧ ab_sl h (c 0) 2 = some (.ref (c 3)) ∧ ab_sl h (c 0) 3 = some (.ref (c 4))) ∧ (rv_C h (c 1) 101 8 ∧ rv_C h (c 2) 103 6 ∧ rv_C h (c 3) 103 6 ∧ rv_C h (c 4) 103 6) ∧ ∀ n, n < 6 → (ab_sl h (c 2) n = some (.ref (c (5 + n))) ∧ rv_C h (c (5 + n)) 100 24) ∧ (ab_sl h (c 3) n = some (.ref (c (11 + n))) ∧ rv_C h (c (11 + n)) 100 4) ∧ (ab_sl h (c 4) n = some (.ref (c (17 + n))) ∧ rv_C h (c (17 + n)) 100 4)
theorem rc_k {c : Nat → Nat} {h h' : am_H} (hW : rc_W c h) (hS : rv_S h h') (h0 : ∀ i, ab_sl h' (c 0) i = ab_sl h (c 0) i) (h2 : ∀ i, ab_sl h' (c 2) i = ab_sl h (c 2) i) (h3 : ∀ i, ab_sl h' (c 3) i = ab_sl h (c 3) i) (h4 : ∀ i, ab_sl h' (c 4) i = ab_sl h (c 4) i) : rc_W c h' := by
  obtain ⟨⟨a1, a2, a3, a4, a5⟩, ⟨b1, b2, b3, b4⟩, w⟩ := hW
  refine ⟨⟨hS _ _ _ a1, by rw [h0]; exact a2, by rw [h0]; exact a3, by rw [h0]; exact a4, by rw [h0]; exact a5⟩, ⟨hS _ _ _ b1, hS _ _ _ b2, hS _ _ _ b3, hS _ _ _ b4⟩, fun n hn => ?_⟩
  obtain ⟨⟨p1, p2⟩, ⟨p3, p4⟩, p5, p6⟩ := w n hn
  exact ⟨⟨by rw [h2]; exact p1, hS _ _ _ p2⟩, ⟨by rw [h3]; exact p3, hS _ _ _ p4⟩, by rw [h4]; exact p5, hS _ _ _ p6⟩
/-- what findWay finds -/
def r_f (g : Nat → Nat) (n : Nat) : Nat × Nat := if n < 4 then r_fs (g 5) 5 (r_fs (g 4) 4 (15, 0)) else r_fs (g 3) 3 (r_fs (g 2) 2 (r_fs (g 1) 1 (r_fs (g 0) 0 (15, 0))))
theorem r_f6 (g : Nat → Nat) (n : Nat) : (r_f g n).1 ≤ 15 ∧ (r_f g n).2 < 64 := by
  unfold r_f
  split
  · exact r_fs6 (by decide) (r_fs6 (by decide) ⟨by decide, by decide⟩)
  · exact r_fs6 (by decide) (r_fs6 (by decide) (r_fs6 (by decide) (r_fs6 (by decide) ⟨by decide, by decide⟩)))
theorem r_cmp3 : (am_cmp 103).isSome = true := by decide +kernel
set_option maxRecDepth 100000 in
theorem r_fw {c : Nat → Nat} {h : am_H} (hj : rc_j c) (hW : rc_W c h) {n l : Nat} (hn : n < 6) (hl : l < 4) {gl : Nat → Nat} (hg : ∀ j, j < 6 → gl j ≤ 16) (sA : ∀ j, j < 6 → ab_sl h (c (5 + n)) (j * 4 + l) = some (.int (Int32.ofNat (gl j)))) {r : am_R} (hr : Rd am_m64 (0, [some (.ref (c 0)), some (.int (Int32.ofNat n)), some (.int (Int32.ofNat l)), none, none, none, none, none], [], h, 0, 0) r) : ∃ h', r = (.inl none, h', 0, 0) ∧ rv_S h h' ∧ ab_sl h' = rv_u (rv_u (ab_sl h) (c (11 + n)) l (.int (Int32.ofNat ((r_f gl n).1 + 1)))) (c (17 + n)) l (.int (Int32.ofNat (r_f gl n).2)) := by
  obtain ⟨⟨a1, a2, a3, a4, a5⟩, ⟨b1, b2, b3, b4⟩, w⟩ := hW
  obtain ⟨⟨p1, p2⟩, ⟨p3, p4⟩, p5, p6⟩ := w n hn
  have hr := iw_st wk_q64 (show wk_at wk_m64 0 1 121 2 0 0 = true by decide +kernel) hr rfl
  have hr := iw_st wk_q64 (show wk_at wk_m64 2 4 3 1 0 0 = true by decide +kernel) hr rfl
  have hr := iw_st wk_q64 (show wk_at wk_m64 3 1 1 1 0 0 = true by decide +kernel) hr rfl
  have hr := iw_st wk_q64 (show wk_at wk_m64 4 4 4 2 0 0 = true by decide +kernel) hr rfl
  have hr := iw_st wk_q64 (show wk_at wk_m64 6 2 1 1 0 0 = true by decide +kernel) hr rfl
  obtain ⟨x1, hx1, hcx1⟩ := iw_is (as := [.int (Int32.ofNat n)]) (r := []) wk_q64 (show wk_at wk_m64 7 40 73 1 0 0 = true by decide +kernel) rfl rfl (Nat.le_of_ble_eq_true rfl) (mj := am_m73) rfl hr
  have hqx1 := r_end hn hx1
  subst hqx1
  obtain ⟨_, _, _, _, ex1, hr⟩ := iv_C_ret rfl hcx1
  cases ex1
  have hr := iw_st wk_q64 (show wk_at wk_m64 10 4 5 2 0 0 = true by decide +kernel) hr rfl
  have hr := iw_st wk_q64 (show wk_at wk_m64 12 2 1 1 0 0 = true by decide +kernel) hr rfl
  obtain ⟨x2, hx2, hcx2⟩ := iw_is (as := [.int (Int32.ofNat n)]) (r := []) wk_q64 (show wk_at wk_m64 13 40 66 1 0 0 = true by decide +kernel) rfl rfl (Nat.le_of_ble_eq_true rfl) (mj := am_m66) rfl hr
  have hqx2 := r_first hn hx2
  subst hqx2
  obtain ⟨_, _, _, _, ex2, hr⟩ := iv_C_ret rfl hcx2
  cases ex2
  have hr := iw_st wk_q64 (show wk_at wk_m64 16 4 6 2 0 0 = true by decide +kernel) hr rfl
  have key : ∀ (p : Nat × Nat) (e : Nat) (o : Option Value), p.1 ≤ 15 ∧ p.2 < 64 → e ≤ 6 → Rd am_m64 (18, [some (.ref (c 0)), some (.int (Int32.ofNat n)), some (.int (Int32.ofNat l)), some (.int (Int32.ofNat p.1)), some (.int (Int32.ofNat p.2)), some (.int (Int32.ofNat e)), some (.int (Int32.ofNat e)), o], [], h, 0, 0) r → ∃ h', r = (.inl none, h', 0, 0) ∧ rv_S h h' ∧ ab_sl h' = rv_u (rv_u (ab_sl h) (c (11 + n)) l (.int (Int32.ofNat (p.1 + 1)))) (c (17 + n)) l (.int (Int32.ofNat p.2)) := fun p e o hp he hr => by
    have hr := iw_st wk_q64 (show wk_at wk_m64 18 2 6 2 0 0 = true by decide +kernel) hr rfl
    have hr := iw_st wk_q64 (show wk_at wk_m64 20 2 5 2 0 0 = true by decide +kernel) hr rfl
    have hr := iw_ict wk_q64 (show wk_at wk_m64 22 23 3 86 0 0 = true by decide +kernel) (by rw [r_c3 (by omega) (by omega)]; exact decide_eq_true (Nat.le_refl _)) hr
    have hr := iw_st wk_q64 (show wk_at wk_m64 86 3 0 1 0 0 = true by decide +kernel) hr rfl
    have hr := rw_get wk_q64 (show wk_at wk_m64 87 25 7 2 0 0 = true by decide +kernel) a1 a4 hr
    have hr := iw_st wk_q64 (show wk_at wk_m64 90 2 1 1 0 0 = true by decide +kernel) hr rfl
    have hr := rw_aal wk_q64 (show wk_at wk_m64 91 30 0 0 0 0 = true by decide +kernel) ⟨b3, r_cmp3⟩ (by omega) p3 hr
    have hr := iw_st wk_q64 (show wk_at wk_m64 92 2 2 1 0 0 = true by decide +kernel) hr rfl
    have hr := iw_st wk_q64 (show wk_at wk_m64 93 2 3 1 0 0 = true by decide +kernel) hr rfl
    have hr := iw_st wk_q64 (show wk_at wk_m64 94 1 9 1 0 0 = true by decide +kernel) hr rfl
    have hr := iw_st wk_q64 (show wk_at wk_m64 95 7 0 0 0 0 = true by decide +kernel) hr rfl
    rw [show Int32.ofNat p.1 + Int32.ofNat (9 / 8) = Int32.ofNat (p.1 + 1) from r_add (by omega) (by omega)] at hr
    obtain ⟨h1, v1, s1, hr⟩ := rw_ias wk_q64 (show wk_at wk_m64 96 31 0 0 0 0 = true by decide +kernel) p4 (by omega) (by omega) hr
    have hr := iw_st wk_q64 (show wk_at wk_m64 97 3 0 1 0 0 = true by decide +kernel) hr rfl
    have hr := rw_get wk_q64 (show wk_at wk_m64 98 25 7 3 0 0 = true by decide +kernel) (s1 _ _ _ a1) (by rw [v1, rv_ne (rc_n hj (i := 0) (j := 11 + n) (by omega) (by omega) (by omega))]; exact a5) hr
    have hr := iw_st wk_q64 (show wk_at wk_m64 101 2 1 1 0 0 = true by decide +kernel) hr rfl
    have hr := rw_aal wk_q64 (show wk_at wk_m64 102 30 0 0 0 0 = true by decide +kernel) ⟨s1 _ _ _ b4, r_cmp3⟩ (by omega) (by rw [v1, rv_ne (rc_n hj (i := 4) (j := 11 + n) (by omega) (by omega) (by omega))]; exact p5) hr
    have hr := iw_st wk_q64 (show wk_at wk_m64 103 2 2 1 0 0 = true by decide +kernel) hr rfl
    have hr := iw_st wk_q64 (show wk_at wk_m64 104 2 4 2 0 0 = true by decide +kernel) hr rfl
    obtain ⟨h2, v2, s2, hr⟩ := rw_ias wk_q64 (show wk_at wk_m64 106 31 0 0 0 0 = true by decide +kernel) (s1 _ _ _ p6) (by omega) (by omega) hr
    exact ⟨h2, iw_en wk_q64 (show wk_at wk_m64 107 46 0 0 0 0 = true by decide +kernel) hr rfl, rv_St s1 s2, by rw [v2, v1]⟩
  unfold r_f
  by_cases hn4 : n < 4
  · rw [if_pos hn4, if_pos hn4] at hr
    rw [if_pos hn4]
    have q0 : (15, 0).1 ≤ 15 ∧ (15, 0).2 < 64 := ⟨by decide, by decide⟩
    have q4 := r_fs6 (v := gl 4) (j := 4) (by decide) q0
    have q5 := r_fs6 (v := gl 5) (j := 5) (by decide) q4
    have hr : Rd am_m64 (18, [some (.ref (c 0)), some (.int (Int32.ofNat n)), some (.int (Int32.ofNat l)), some (.int (Int32.ofNat 15)), some (.int (Int32.ofNat 0)), some (.int (Int32.ofNat 6)), some (.int (Int32.ofNat 4)), none], [], h, 0, 0) r := hr
    obtain ⟨o4, hr⟩ := r_fit hn hl (q0).1 (q0).2 (by omega) (by omega) (by omega) (hg 4 (by omega)) a1 a3 ⟨b2, r_cmp3⟩ p1 p2 (sA 4 (by omega)) hr
    obtain ⟨o5, hr⟩ := r_fit hn hl (q4).1 (q4).2 (by omega) (by omega) (by omega) (hg 5 (by omega)) a1 a3 ⟨b2, r_cmp3⟩ p1 p2 (sA 5 (by omega)) hr
    exact key _ 6 _ q5 (by omega) hr
  · rw [if_neg hn4, if_neg hn4] at hr
    rw [if_neg hn4]
    have q0 : (15, 0).1 ≤ 15 ∧ (15, 0).2 < 64 := ⟨by decide, by decide⟩
    have q10 := r_fs6 (v := gl 0) (j := 0) (by decide) q0
    have q11 := r_fs6 (v := gl 1) (j := 1) (by decide) q10
    have q12 := r_fs6 (v := gl 2) (j := 2) (by decide) q11
    have q13 := r_fs6 (v := gl 3) (j := 3) (by decide) q12
    have hr : Rd am_m64 (18, [some (.ref (c 0)), some (.int (Int32.ofNat n)), some (.int (Int32.ofNat l)), some (.int (Int32.ofNat 15)), some (.int (Int32.ofNat 0)), some (.int (Int32.ofNat 4)), some (.int (Int32.ofNat 0)), none], [], h, 0, 0) r := hr
    obtain ⟨o0, hr⟩ := r_fit hn hl (q0).1 (q0).2 (by omega) (by omega) (by omega) (hg 0 (by omega)) a1 a3 ⟨b2, r_cmp3⟩ p1 p2 (sA 0 (by omega)) hr
    obtain ⟨o1, hr⟩ := r_fit hn hl (q10).1 (q10).2 (by omega) (by omega) (by omega) (hg 1 (by omega)) a1 a3 ⟨b2, r_cmp3⟩ p1 p2 (sA 1 (by omega)) hr
    obtain ⟨o2, hr⟩ := r_fit hn hl (q11).1 (q11).2 (by omega) (by omega) (by omega) (hg 2 (by omega)) a1 a3 ⟨b2, r_cmp3⟩ p1 p2 (sA 2 (by omega)) hr
    obtain ⟨o3, hr⟩ := r_fit hn hl (q12).1 (q12).2 (by omega) (by omega) (by omega) (hg 3 (by omega)) a1 a3 ⟨b2, r_cmp3⟩ p1 p2 (sA 3 (by omega)) hr
    exact key _ 4 _ q13 (by omega) hr
/-- what findWays has done before leaf l -/
def r_ws (c : Nat → Nat) (n : Nat) (g : Nat → Nat → Nat) (l : Nat) (h h' : am_H) : Prop := rv_S h h' ∧ (∀ a i, a ≠ c (11 + n) → a ≠ c (17 + n) → ab_sl h' a i = ab_sl h a i) ∧ ∀ m, m < 4 → ab_sl h' (c (11 + n)) m = (if m < l ∧ m ≠ n then some (.int (Int32.ofNat ((r_f (g m) n).1 + 1))) else ab_sl h (c (11 + n)) m) ∧ ab_sl h' (c (17 + n)) m = (if m < l ∧ m ≠ n then some (.int (Int32.ofNat (r_f (g m) n).2)) else ab_sl h (c (17 + n)) m)
set_option maxRecDepth 100000 in
theorem r_fws {c : Nat → Nat} {h : am_H} (hj : rc_j c) (hW : rc_W c h) {n : Nat} (hn : n < 6) {g : Nat → Nat → Nat} (hg : ∀ l j, j < 6 → g l j ≤ 16) (sA : ∀ l, l < 4 → ∀ j, j < 6 → ab_sl h (c (5 + n)) (j * 4 + l) = some (.int (Int32.ofNat (g l j)))) {r : am_R} (hr : Rd am_m65 (0, [some (.ref (c 0)), some (.int (Int32.ofNat n)), none], [], h, 0, 0) r) : ∃ h', r = (.inl none, h', 0, 0) ∧ r_ws c n g 4 h h' := by
  have loop : ∀ d l hx, l + d = 4 → r_ws c n g l h hx → Rd am_m65 (2, [some (.ref (c 0)), some (.int (Int32.ofNat n)), some (.int (Int32.ofNat l))], [], hx, 0, 0) r → ∃ h', r = (.inl none, h', 0, 0) ∧ r_ws c n g 4 h h' := by
    intro d
    induction d with
    | zero =>
      intro l hx hd hw hr
      have hr := iw_st wk_q65 (show wk_at wk_m65 2 2 2 1 0 0 = true by decide +kernel) hr rfl
      have hr := iw_st wk_q65 (show wk_at wk_m65 3 1 33 1 0 0 = true by decide +kernel) hr rfl
      have hr := iw_ict wk_q65 (show wk_at wk_m65 4 23 3 24 0 0 = true by decide +kernel) (by rw [r_c3 (by omega) (by omega)]; exact decide_eq_true (by show 33 / 8 ≤ l; omega)) hr
      have e4 : l = 4 := by omega
      subst e4
      exact ⟨hx, iw_en wk_q65 (show wk_at wk_m65 24 46 0 0 0 0 = true by decide +kernel) hr rfl, hw⟩
    | succ d ih =>
      intro l hx hd hw hr
      obtain ⟨hs, ho, hm⟩ := hw
      have hr := iw_st wk_q65 (show wk_at wk_m65 2 2 2 1 0 0 = true by decide +kernel) hr rfl
      have hr := iw_st wk_q65 (show wk_at wk_m65 3 1 33 1 0 0 = true by decide +kernel) hr rfl
      have hr := iw_icf wk_q65 (show wk_at wk_m65 4 23 3 24 0 0 = true by decide +kernel) (by rw [r_c3 (by omega) (by omega)]; exact decide_eq_false (by show ¬ 33 / 8 ≤ l; omega)) hr
      have hr := iw_st wk_q65 (show wk_at wk_m65 7 2 2 1 0 0 = true by decide +kernel) hr rfl
      have hr := iw_st wk_q65 (show wk_at wk_m65 8 2 1 1 0 0 = true by decide +kernel) hr rfl
      have inc : Int32.ofNat l + Int32.ofNat 1 = Int32.ofNat (l + 1) := r_add (by omega) (by omega)
      by_cases e1 : l = n
      · have hr := iw_ict wk_q65 (show wk_at wk_m65 9 23 0 18 0 0 = true by decide +kernel) (by rw [r_c0 (by omega) (by omega)]; exact decide_eq_true e1) hr
        have hr := iw_st wk_q65 (show wk_at wk_m65 18 6 2 1 0 0 = true by decide +kernel) hr rfl
        rw [inc] at hr
        have hr := iw_st wk_q65 (show wk_at wk_m65 21 21 2 0 0 0 = true by decide +kernel) hr rfl
        refine ih (l + 1) hx (by omega) ⟨hs, ho, fun m h4 => ?_⟩ hr
        obtain ⟨x1, x2⟩ := hm m h4
        have ei : (m < l + 1 ∧ m ≠ n) ↔ (m < l ∧ m ≠ n) := ⟨fun z => ⟨by omega, z.2⟩, fun z => ⟨by omega, z.2⟩⟩
        simp only [ei]
        exact ⟨x1, x2⟩
      · have hr := iw_icf wk_q65 (show wk_at wk_m65 9 23 0 18 0 0 = true by decide +kernel) (by rw [r_c0 (by omega) (by omega)]; exact decide_eq_false e1) hr
        have hr := iw_st wk_q65 (show wk_at wk_m65 12 3 0 1 0 0 = true by decide +kernel) hr rfl
        have hr := iw_st wk_q65 (show wk_at wk_m65 13 2 1 1 0 0 = true by decide +kernel) hr rfl
        have hr := iw_st wk_q65 (show wk_at wk_m65 14 2 2 1 0 0 = true by decide +kernel) hr rfl
        have hWx : rc_W c hx := rc_k hW hs (fun i => ho _ _ (rc_n hj (i := 0) (j := 11 + n) (by omega) (by omega) (by omega)) (rc_n hj (i := 0) (j := 17 + n) (by omega) (by omega) (by omega))) (fun i => ho _ _ (rc_n hj (i := 2) (j := 11 + n) (by omega) (by omega) (by omega)) (rc_n hj (i := 2) (j := 17 + n) (by omega) (by omega) (by omega))) (fun i => ho _ _ (rc_n hj (i := 3) (j := 11 + n) (by omega) (by omega) (by omega)) (rc_n hj (i := 3) (j := 17 + n) (by omega) (by omega) (by omega))) (fun i => ho _ _ (rc_n hj (i := 4) (j := 11 + n) (by omega) (by omega) (by omega)) (rc_n hj (i := 4) (j := 17 + n) (by omega) (by omega) (by omega)))
        obtain ⟨x1, hx1, hcx1⟩ := rw_iv (as := [.int (Int32.ofNat n), .int (Int32.ofNat l)]) (r := []) wk_q65 (show wk_at wk_m65 15 40 64 2 2 7 = true by decide +kernel) hWx.1.1 rfl rfl (Nat.le_of_ble_eq_true rfl) (mj := am_m64) rfl hr
        obtain ⟨h2, rfl, s2, v2⟩ := r_fw hj hWx hn (by omega) (gl := g l) (hg l) (fun j hj6 => by rw [ho _ _ (rc_n hj (i := 5 + n) (j := 11 + n) (by omega) (by omega) (by omega)) (rc_n hj (i := 5 + n) (j := 17 + n) (by omega) (by omega) (by omega))]; exact sA l (by omega) j hj6) hx1
        obtain ⟨_, _, _, _, ex1, hr⟩ := iv_C_ret rfl hcx1
        cases ex1
        have hr := iw_st wk_q65 (show wk_at wk_m65 18 6 2 1 0 0 = true by decide +kernel) hr rfl
        rw [inc] at hr
        have hr := iw_st wk_q65 (show wk_at wk_m65 21 21 2 0 0 0 = true by decide +kernel) hr rfl
        refine ih (l + 1) h2 (by omega) ⟨rv_St hs s2, fun a i y1 y2 => by rw [v2, rv_ne y2, rv_ne y1]; exact ho a i y1 y2, fun m h4 => ?_⟩ hr
        obtain ⟨x1, x2⟩ := hm m h4
        have ne : c (11 + n) ≠ c (17 + n) := (rc_n hj (i := 11 + n) (j := 17 + n) (by omega) (by omega) (by omega))
        by_cases em : m = l
        · subst em
          rw [if_pos ⟨by omega, e1⟩, if_pos ⟨by omega, e1⟩, v2, rv_ne ne, rv_eq, rv_eq]
          exact ⟨rfl, rfl⟩
        · have ei : (m < l + 1 ∧ m ≠ n) ↔ (m < l ∧ m ≠ n) := ⟨fun z => ⟨by omega, z.2⟩, fun z => ⟨by omega, z.2⟩⟩
          simp only [ei]
          rw [v2, rv_ne ne, rv_nj em, rv_nj em, rv_ne (Ne.symm ne)]
          exact ⟨x1, x2⟩
  have hr := iw_st wk_q65 (show wk_at wk_m65 0 1 1 1 0 0 = true by decide +kernel) hr rfl
  have hr := iw_st wk_q65 (show wk_at wk_m65 1 4 2 1 0 0 = true by decide +kernel) hr rfl
  exact loop 4 0 h (by omega) ⟨rv_Sr, fun _ _ _ _ => rfl, fun m h4 => ⟨by rw [if_neg (by omega)], by rw [if_neg (by omega)]⟩⟩ hr
theorem r_bit : ∀ b, b < 64 → ∀ j, j < 6 → ((Int32.ofNat b) >>> ((Int32.ofNat j) &&& 31)) &&& (Int32.ofNat (9 / 8)) = Int32.ofNat (b / 2 ^ j % 2) := by decide +kernel
def r_hb (b j : Nat) : Bool := decide (b / 2 ^ j % 2 = 1)
set_option maxRecDepth 100000 in
theorem r_ish {c : Nat → Nat} {h : am_H} (hj : rc_j c) (hW : rc_W c h) {n l j b : Nat} (hn : n < 6) (hl : l < 4) (h6 : j < 6) (hb : b < 64) (sH : ab_sl h (c (17 + n)) l = some (.int (Int32.ofNat b))) {r : am_R} (hr : Rd am_m70 (0, [some (.ref (c 0)), some (.int (Int32.ofNat n)), some (.int (Int32.ofNat l)), some (.int (Int32.ofNat j))], [], h, 0, 0) r) : r = (.inl (some (.int (Int32.ofNat (if r_hb b j = true then 1 else 0)))), h, 0, 0) := by
  obtain ⟨⟨a1, a2, a3, a4, a5⟩, ⟨b1, b2, b3, b4⟩, w⟩ := hW
  obtain ⟨⟨p1, p2⟩, ⟨p3, p4⟩, p5, p6⟩ := w n hn
  have hr := iw_st wk_q70 (show wk_at wk_m70 0 3 0 1 0 0 = true by decide +kernel) hr rfl
  have hr := rw_get wk_q70 (show wk_at wk_m70 1 25 7 3 0 0 = true by decide +kernel) a1 a5 hr
  have hr := iw_st wk_q70 (show wk_at wk_m70 4 2 1 1 0 0 = true by decide +kernel) hr rfl
  have hr := rw_aal wk_q70 (show wk_at wk_m70 5 30 0 0 0 0 = true by decide +kernel) ⟨b4, r_cmp3⟩ (by omega) p5 hr
  have hr := iw_st wk_q70 (show wk_at wk_m70 6 2 2 1 0 0 = true by decide +kernel) hr rfl
  have hr := rw_ial wk_q70 (show wk_at wk_m70 7 27 0 0 0 0 = true by decide +kernel) p6 (by omega) sH hr
  have hr := iw_st wk_q70 (show wk_at wk_m70 8 2 3 1 0 0 = true by decide +kernel) hr rfl
  have hr := iw_st wk_q70 (show wk_at wk_m70 9 15 0 0 0 0 = true by decide +kernel) hr rfl
  have hr := iw_st wk_q70 (show wk_at wk_m70 10 1 9 1 0 0 = true by decide +kernel) hr rfl
  have hr := iw_st wk_q70 (show wk_at wk_m70 11 10 0 0 0 0 = true by decide +kernel) hr rfl
  rw [r_bit b hb j h6] at hr
  have hr := iw_st wk_q70 (show wk_at wk_m70 12 1 9 1 0 0 = true by decide +kernel) hr rfl
  have m2 : b / 2 ^ j % 2 < 2 := Nat.mod_lt _ (by decide)
  unfold r_hb
  by_cases hx : b / 2 ^ j % 2 = 1
  · rw [decide_eq_true hx]
    have hr := iw_icf wk_q70 (show wk_at wk_m70 13 23 1 20 0 0 = true by decide +kernel) (by rw [r_c1 (by omega) (by omega)]; exact by rw [decide_eq_true (show b / 2 ^ j % 2 = 9 / 8 from hx)]; rfl) hr
    have hr := iw_st wk_q70 (show wk_at wk_m70 16 1 9 1 0 0 = true by decide +kernel) hr rfl
    have hr := iw_st wk_q70 (show wk_at wk_m70 17 21 21 0 0 0 = true by decide +kernel) hr rfl
    exact iw_en wk_q70 (show wk_at wk_m70 21 44 1 0 0 0 = true by decide +kernel) hr rfl
  · rw [decide_eq_false hx]
    have hr := iw_ict wk_q70 (show wk_at wk_m70 13 23 1 20 0 0 = true by decide +kernel) (by rw [r_c1 (by omega) (by omega)]; exact by rw [decide_eq_false (show ¬ b / 2 ^ j % 2 = 9 / 8 from hx)]; rfl) hr
    have hr := iw_st wk_q70 (show wk_at wk_m70 20 1 1 1 0 0 = true by decide +kernel) hr rfl
    exact iw_en wk_q70 (show wk_at wk_m70 21 44 1 0 0 0 = true by decide +kernel) hr rfl
/-- distances and bits of what was told -/
def r_d (w : Nat → Nat → Nat → Nat) (n l : Nat) : Nat := if l = n then 0 else (r_f (fun j => w n j l) n).1 + 1
def r_h (w : Nat → Nat → Nat → Nat) (n l : Nat) : Nat := if l = n then 0 else (r_f (fun j => w n j l) n).2
theorem r_d16 (w : Nat → Nat → Nat → Nat) (n l : Nat) : r_d w n l ≤ 16 := by
  unfold r_d
  split
  · omega
  · have := (r_f6 (fun j => w n j l) n).1
    omega
theorem r_h64 (w : Nat → Nat → Nat → Nat) (n l : Nat) : r_h w n l < 64 := by
  unfold r_h
  split
  · omega
  · exact (r_f6 (fun j => w n j l) n).2
theorem r_dw {w w' : Nat → Nat → Nat → Nat} {n : Nat} (h : w' n = w n) (l : Nat) : r_d w' n l = r_d w n l ∧ r_h w' n l = r_h w n l := by
  unfold r_d r_h
  rw [h]
  exact ⟨rfl, rfl⟩
/-- what the class has -/
def rc_I (c : Nat → Nat) (w : Nat → Nat → Nat → Nat) (dn : Nat → Nat) (h : am_H) : Prop := rc_W c h ∧ (∀ n j l, n < 6 → j < 6 → l < 4 → ab_sl h (c (5 + n)) (j * 4 + l) = some (.int (Int32.ofNat (w n j l)))) ∧ (∀ n l, n < 6 → l < 4 → ab_sl h (c (11 + n)) l = some (.int (Int32.ofNat (r_d w n l))) ∧ ab_sl h (c (17 + n)) l = some (.int (Int32.ofNat (r_h w n l)))) ∧ ∀ i, i < 8 → ab_sl h (c 1) i = some (.int (Int32.ofNat (dn i)))
def r_16 (w : Nat → Nat → Nat → Nat) : Prop := ∀ n j l, w n j l ≤ 16
/-- one row told anew, its ways found -/
theorem r_upd {c : Nat → Nat} {w w' : Nat → Nat → Nat → Nat} {dn : Nat → Nat} {h h1 h2 : am_H} {m : Nat} (hj : rc_j c) (hm : m < 6) (hI : rc_I c w dn h) (s1 : rv_S h h1) (o1 : ∀ a i, a ≠ c (5 + m) → ab_sl h1 a i = ab_sl h a i) (t1 : ∀ j l, j < 6 → l < 4 → ab_sl h1 (c (5 + m)) (j * 4 + l) = some (.int (Int32.ofNat (w' m j l)))) (hw : ∀ n, n ≠ m → w' n = w n) (h2w : r_ws c m (fun l j => w' m j l) 4 h1 h2) : rc_I c w' dn h2 := by
  obtain ⟨hW, hT, hD, hN⟩ := hI
  obtain ⟨s2, o2, x2⟩ := h2w
  have ot : ∀ a i, a ≠ c (5 + m) → a ≠ c (11 + m) → a ≠ c (17 + m) → ab_sl h2 a i = ab_sl h a i := fun a i q1 q2 q3 => by rw [o2 a i q2 q3, o1 a i q1]
  refine ⟨rc_k hW (rv_St s1 s2) (fun i => ot _ _ (rc_n hj (i := 0) (j := 5 + m) (by omega) (by omega) (by omega)) (rc_n hj (i := 0) (j := 11 + m) (by omega) (by omega) (by omega)) (rc_n hj (i := 0) (j := 17 + m) (by omega) (by omega) (by omega))) (fun i => ot _ _ (rc_n hj (i := 2) (j := 5 + m) (by omega) (by omega) (by omega)) (rc_n hj (i := 2) (j := 11 + m) (by omega) (by omega) (by omega)) (rc_n hj (i := 2) (j := 17 + m) (by omega) (by omega) (by omega))) (fun i => ot _ _ (rc_n hj (i := 3) (j := 5 + m) (by omega) (by omega) (by omega)) (rc_n hj (i := 3) (j := 11 + m) (by omega) (by omega) (by omega)) (rc_n hj (i := 3) (j := 17 + m) (by omega) (by omega) (by omega))) (fun i => ot _ _ (rc_n hj (i := 4) (j := 5 + m) (by omega) (by omega) (by omega)) (rc_n hj (i := 4) (j := 11 + m) (by omega) (by omega) (by omega)) (rc_n hj (i := 4) (j := 17 + m) (by omega) (by omega) (by omega))), fun n j l hn h6 h4 => ?_, fun n l hn h4 => ?_, fun i hi => ?_⟩
  · by_cases e : n = m
    · subst e
      rw [o2 _ _ (rc_n hj (i := 5 + n) (j := 11 + n) (by omega) (by omega) (by omega)) (rc_n hj (i := 5 + n) (j := 17 + n) (by omega) (by omega) (by omega))]
      exact t1 j l h6 h4
    · rw [ot _ _ (rc_n hj (i := 5 + n) (j := 5 + m) (by omega) (by omega) (by omega)) (rc_n hj (i := 5 + n) (j := 11 + m) (by omega) (by omega) (by omega)) (rc_n hj (i := 5 + n) (j := 17 + m) (by omega) (by omega) (by omega)), hw n e]
      exact hT n j l hn h6 h4
  · by_cases e : n = m
    · subst e
      obtain ⟨y1, y2⟩ := x2 l h4
      rw [y1, y2]
      unfold r_d r_h
      by_cases el : l = n
      · obtain ⟨z1, z2⟩ := hD n l hn h4
        unfold r_d at z1
        unfold r_h at z2
        rw [if_pos el] at z1 z2
        rw [if_neg (show ¬ (l < 4 ∧ l ≠ n) from fun z => z.2 el), if_neg (show ¬ (l < 4 ∧ l ≠ n) from fun z => z.2 el), if_pos el, if_pos el, o1 _ _ (rc_n hj (i := 11 + n) (j := 5 + n) (by omega) (by omega) (by omega)), o1 _ _ (rc_n hj (i := 17 + n) (j := 5 + n) (by omega) (by omega) (by omega))]
        exact ⟨z1, z2⟩
      · rw [if_pos (show l < 4 ∧ l ≠ n from ⟨h4, el⟩), if_pos (show l < 4 ∧ l ≠ n from ⟨h4, el⟩), if_neg el, if_neg el]
        exact ⟨rfl, rfl⟩
    · obtain ⟨q1, q2⟩ := r_dw (hw n e) l
      rw [q1, q2, ot _ _ (rc_n hj (i := 11 + n) (j := 5 + m) (by omega) (by omega) (by omega)) (rc_n hj (i := 11 + n) (j := 11 + m) (by omega) (by omega) (by omega)) (rc_n hj (i := 11 + n) (j := 17 + m) (by omega) (by omega) (by omega)), ot _ _ (rc_n hj (i := 17 + n) (j := 5 + m) (by omega) (by omega) (by omega)) (rc_n hj (i := 17 + n) (j := 11 + m) (by omega) (by omega) (by omega)) (rc_n hj (i := 17 + n) (j := 17 + m) (by omega) (by omega) (by omega))]
      exact hD n l hn h4
  · rw [ot _ _ (rc_n hj (i := 1) (j := 5 + m) (by omega) (by omega) (by omega)) (rc_n hj (i := 1) (j := 11 + m) (by omega) (by omega) (by omega)) (rc_n hj (i := 1) (j := 17 + m) (by omega) (by omega) (by omega))]
    exact hN i hi
/-- a column of one row written -/
def r_wt (w : Nat → Nat → Nat → Nat) (m n : Nat) (f : Nat → Nat) : Nat → Nat → Nat → Nat := fun a j l => if a = m ∧ j = n then f l else w a j l
theorem r_wt16 {w : Nat → Nat → Nat → Nat} {m n : Nat} {f : Nat → Nat} (hw : r_16 w) (hf : ∀ l, f l ≤ 16) : r_16 (r_wt w m n f) := fun a j l => by
  unfold r_wt
  split
  · exact hf l
  · exact hw a j l
theorem r_wtn {w : Nat → Nat → Nat → Nat} {m n a : Nat} {f : Nat → Nat} (h : a ≠ m) : r_wt w m n f a = w a := by
  funext j l
  exact if_neg (fun z => h z.1)
/-- the column before leaf l -/
def r_col (c : Nat → Nat) (w : Nat → Nat → Nat → Nat) (m n : Nat) (f : Nat → Nat) (k : Nat) (h h' : am_H) : Prop := rv_S h h' ∧ (∀ a i, a ≠ c (5 + m) → ab_sl h' a i = ab_sl h a i) ∧ ∀ j l, j < 6 → l < 4 → ab_sl h' (c (5 + m)) (j * 4 + l) = some (.int (Int32.ofNat (if j = n ∧ l < k then f l else w m j l)))
theorem r_col1 {c : Nat → Nat} {w : Nat → Nat → Nat → Nat} {m n k : Nat} {f : Nat → Nat} {h hx h1 : am_H} (hk : k < 4) (hc : r_col c w m n f k h hx) (s1 : rv_S hx h1) (v1 : ab_sl h1 = rv_u (ab_sl hx) (c (5 + m)) (n * 4 + k) (.int (Int32.ofNat (f k)))) : r_col c w m n f (k + 1) h h1 := by
  obtain ⟨s, o, t⟩ := hc
  refine ⟨rv_St s s1, fun a i ha => by rw [v1, rv_ne ha]; exact o a i ha, fun j l h6 h4 => ?_⟩
  rw [v1]
  by_cases e : j = n ∧ l = k
  · obtain ⟨rfl, rfl⟩ := e
    rw [rv_eq, if_pos ⟨rfl, by omega⟩]
  · rw [rv_nj (fun z => e (by constructor <;> omega)), t j l h6 h4]
    by_cases e2 : j = n ∧ l < k
    · rw [if_pos e2, if_pos ⟨e2.1, by omega⟩]
    · rw [if_neg e2, if_neg (fun z => e2 ⟨z.1, by have := z.2; have : l ≠ k := fun q => e ⟨z.1, q⟩; omega⟩)]
theorem r_colW {c : Nat → Nat} {w : Nat → Nat → Nat → Nat} {m n k : Nat} {f : Nat → Nat} {h hx : am_H} (hj : rc_j c) (hm : m < 6) (hW : rc_W c h) (hc : r_col c w m n f k h hx) : rc_W c hx := rc_k hW hc.1 (fun i => hc.2.1 _ _ (rc_n hj (i := 0) (j := 5 + m) (by omega) (by omega) (by omega))) (fun i => hc.2.1 _ _ (rc_n hj (i := 2) (j := 5 + m) (by omega) (by omega) (by omega))) (fun i => hc.2.1 _ _ (rc_n hj (i := 3) (j := 5 + m) (by omega) (by omega) (by omega))) (fun i => hc.2.1 _ _ (rc_n hj (i := 4) (j := 5 + m) (by omega) (by omega) (by omega)))
def r_tf (w : Nat → Nat → Nat → Nat) (n m l : Nat) : Nat := if r_hb (r_h w n l) m = true then 16 else r_d w n l
theorem r_tf16 (w : Nat → Nat → Nat → Nat) (n m l : Nat) : r_tf w n m l ≤ 16 := by
  unfold r_tf
  split
  · omega
  · exact r_d16 w n l
theorem r_cw {w : Nat → Nat → Nat → Nat} {m n j l : Nat} {f : Nat → Nat} (h4 : l < 4) : (if j = n ∧ l < 4 then f l else w m j l) = r_wt w m n f m j l := by
  unfold r_wt
  by_cases e : j = n
  · rw [if_pos ⟨e, h4⟩, if_pos ⟨rfl, e⟩]
  · rw [if_neg (fun z => e z.1), if_neg (fun z => e z.2)]
set_option maxRecDepth 100000 in
theorem r_tell {c : Nat → Nat} {w : Nat → Nat → Nat → Nat} {dn : Nat → Nat} {h : am_H} (hj : rc_j c) (h16 : r_16 w) (hI : rc_I c w dn h) {n m : Nat} (hn : n < 6) (hm : m < 6) (hnm : n ≠ m) {r : am_R} (hr : Rd am_m74 (0, [some (.ref (c 0)), some (.int (Int32.ofNat n)), some (.int (Int32.ofNat m)), none, none], [], h, 0, 0) r) : ∃ h', r = (.inl none, h', 0, 0) ∧ rc_I c (r_wt w m n (r_tf w n m)) dn h' := by
  obtain ⟨hW, hT, hD, hN⟩ := id hI
  have loop : ∀ d l (o : Option Value) hx, l + d = 4 → r_col c w m n (r_tf w n m) l h hx → Rd am_m74 (2, [some (.ref (c 0)), some (.int (Int32.ofNat n)), some (.int (Int32.ofNat m)), some (.int (Int32.ofNat l)), o], [], hx, 0, 0) r → ∃ h', r = (.inl none, h', 0, 0) ∧ rc_I c (r_wt w m n (r_tf w n m)) dn h' := by
    intro d
    induction d with
    | zero =>
      intro l o hx hd hc hr
      have hr := iw_st wk_q74 (show wk_at wk_m74 2 2 3 1 0 0 = true by decide +kernel) hr rfl
      have hr := iw_st wk_q74 (show wk_at wk_m74 3 1 33 1 0 0 = true by decide +kernel) hr rfl
      have hr := iw_ict wk_q74 (show wk_at wk_m74 4 23 3 52 0 0 = true by decide +kernel) (by rw [r_c3 (by omega) (by omega)]; exact decide_eq_true (by show 33 / 8 ≤ l; omega)) hr
      have e4 : l = 4 := by omega
      subst e4
      have hWx := r_colW hj hm hW hc
      have hr := iw_st wk_q74 (show wk_at wk_m74 52 3 0 1 0 0 = true by decide +kernel) hr rfl
      have hr := iw_st wk_q74 (show wk_at wk_m74 53 2 2 1 0 0 = true by decide +kernel) hr rfl
      obtain ⟨x1, hx1, hcx1⟩ := rw_iv (as := [.int (Int32.ofNat m)]) (r := []) wk_q74 (show wk_at wk_m74 54 40 65 1 2 7 = true by decide +kernel) hWx.1.1 rfl rfl (Nat.le_of_ble_eq_true rfl) (mj := am_m65) rfl hr
      obtain ⟨h2, rfl, w2⟩ := r_fws hj hWx hm (g := fun l j => r_wt w m n (r_tf w n m) m j l) (fun l j _ => r_wt16 h16 (r_tf16 w n m) m j l) (fun l h4 j h6 => by rw [hc.2.2 j l h6 h4]; exact congrArg (fun x => some (Value.int (Int32.ofNat x))) (r_cw h4)) hx1
      obtain ⟨_, _, _, _, ex1, hr⟩ := iv_C_ret rfl hcx1
      cases ex1
      exact ⟨h2, iw_en wk_q74 (show wk_at wk_m74 57 46 0 0 0 0 = true by decide +kernel) hr rfl, r_upd hj hm hI hc.1 hc.2.1 (fun j l h6 h4 => by rw [hc.2.2 j l h6 h4]; exact congrArg (fun x => some (Value.int (Int32.ofNat x))) (r_cw h4)) (fun a ha => r_wtn ha) w2⟩
    | succ d ih =>
      intro l o hx hd hc hr
      have hWx := r_colW hj hm hW hc
      have hcx := hc
      obtain ⟨hs, ho, hm_⟩ := hcx
      have hwm := hWx.2.2 m hm
      have inc : Int32.ofNat l + Int32.ofNat 1 = Int32.ofNat (l + 1) := r_add (by omega) (by omega)
      have ex : Int32.ofNat n * Int32.ofNat (33 / 8) + Int32.ofNat l = Int32.ofNat (n * 4 + l) := by rw [r_mul (by omega) (by omega), r_add (by omega) (by omega)]
      have hr := iw_st wk_q74 (show wk_at wk_m74 2 2 3 1 0 0 = true by decide +kernel) hr rfl
      have hr := iw_st wk_q74 (show wk_at wk_m74 3 1 33 1 0 0 = true by decide +kernel) hr rfl
      have hr := iw_icf wk_q74 (show wk_at wk_m74 4 23 3 52 0 0 = true by decide +kernel) (by rw [r_c3 (by omega) (by omega)]; exact decide_eq_false (by show ¬ 33 / 8 ≤ l; omega)) hr
      have hr := iw_st wk_q74 (show wk_at wk_m74 7 3 0 1 0 0 = true by decide +kernel) hr rfl
      have hr := iw_st wk_q74 (show wk_at wk_m74 8 2 1 1 0 0 = true by decide +kernel) hr rfl
      have hr := iw_st wk_q74 (show wk_at wk_m74 9 2 3 1 0 0 = true by decide +kernel) hr rfl
      have hr := iw_st wk_q74 (show wk_at wk_m74 10 2 2 1 0 0 = true by decide +kernel) hr rfl
      obtain ⟨y1, y2⟩ := hD n l hn (by omega)
      obtain ⟨x1, hx1, hcx1⟩ := rw_iv (as := [.int (Int32.ofNat n), .int (Int32.ofNat l), .int (Int32.ofNat m)]) (r := []) wk_q74 (show wk_at wk_m74 11 40 70 3 2 7 = true by decide +kernel) hWx.1.1 rfl rfl (Nat.le_of_ble_eq_true rfl) (mj := am_m70) rfl hr
      have hqx1 := r_ish hj hWx hn (by omega) hm (r_h64 w n l) (by rw [ho _ _ (rc_n hj (i := 17 + n) (j := 5 + m) (by omega) (by omega) (by omega))]; exact y2) hx1
      subst hqx1
      obtain ⟨_, _, _, _, ex1, hr⟩ := iv_C_ret rfl hcx1
      cases ex1
      have hr := iw_st wk_q74 (show wk_at wk_m74 14 4 4 2 0 0 = true by decide +kernel) hr rfl
      have hr := iw_st wk_q74 (show wk_at wk_m74 16 3 0 1 0 0 = true by decide +kernel) hr rfl
      have hr := rw_get wk_q74 (show wk_at wk_m74 17 25 7 1 0 0 = true by decide +kernel) hWx.1.1 hWx.1.2.2.1 hr
      have hr := iw_st wk_q74 (show wk_at wk_m74 20 2 2 1 0 0 = true by decide +kernel) hr rfl
      have hr := rw_aal wk_q74 (show wk_at wk_m74 21 30 0 0 0 0 = true by decide +kernel) ⟨hWx.2.1.2.1, r_cmp3⟩ (by omega) hwm.1.1 hr
      have hr := iw_st wk_q74 (show wk_at wk_m74 22 2 1 1 0 0 = true by decide +kernel) hr rfl
      have hr := iw_st wk_q74 (show wk_at wk_m74 23 1 33 1 0 0 = true by decide +kernel) hr rfl
      have hr := iw_st wk_q74 (show wk_at wk_m74 24 9 0 0 0 0 = true by decide +kernel) hr rfl
      have hr := iw_st wk_q74 (show wk_at wk_m74 25 2 3 1 0 0 = true by decide +kernel) hr rfl
      have hr := iw_st wk_q74 (show wk_at wk_m74 26 7 0 0 0 0 = true by decide +kernel) hr rfl
      rw [ex] at hr
      have hr := iw_st wk_q74 (show wk_at wk_m74 27 2 4 2 0 0 = true by decide +kernel) hr rfl
      have dn_ : ∃ o, Rd am_m74 (45, [some (.ref (c 0)), some (.int (Int32.ofNat n)), some (.int (Int32.ofNat m)), some (.int (Int32.ofNat l)), o], [.int (Int32.ofNat (r_tf w n m l)), .int (Int32.ofNat (n * 4 + l)), .ref (c (5 + m))], hx, 0, 0) r := by
        unfold r_tf
        by_cases hh : r_hb (r_h w n l) m = true
        · rw [if_pos hh] at hr
          rw [if_pos hh]
          have hr := iw_iff wk_q74 (show wk_at wk_m74 29 22 0 37 0 0 = true by decide +kernel) (by decide) hr
          have hr := iw_st wk_q74 (show wk_at wk_m74 32 1 129 2 0 0 = true by decide +kernel) hr rfl
          have hr := iw_st wk_q74 (show wk_at wk_m74 34 21 45 0 0 0 = true by decide +kernel) hr rfl
          exact ⟨_, hr⟩
        · rw [if_neg hh] at hr
          rw [if_neg hh]
          have hr := iw_ift wk_q74 (show wk_at wk_m74 29 22 0 37 0 0 = true by decide +kernel) (by decide) hr
          have hr := iw_st wk_q74 (show wk_at wk_m74 37 3 0 1 0 0 = true by decide +kernel) hr rfl
          have hr := rw_get wk_q74 (show wk_at wk_m74 38 25 7 2 0 0 = true by decide +kernel) hWx.1.1 hWx.1.2.2.2.1 hr
          have hr := iw_st wk_q74 (show wk_at wk_m74 41 2 1 1 0 0 = true by decide +kernel) hr rfl
          have hr := rw_aal wk_q74 (show wk_at wk_m74 42 30 0 0 0 0 = true by decide +kernel) ⟨hWx.2.1.2.2.1, r_cmp3⟩ (by omega) (hWx.2.2 n hn).2.1.1 hr
          have hr := iw_st wk_q74 (show wk_at wk_m74 43 2 3 1 0 0 = true by decide +kernel) hr rfl
          have hr := rw_ial wk_q74 (show wk_at wk_m74 44 27 0 0 0 0 = true by decide +kernel) (hWx.2.2 n hn).2.1.2 (by omega) (by rw [ho _ _ (rc_n hj (i := 11 + n) (j := 5 + m) (by omega) (by omega) (by omega))]; exact y1) hr
          exact ⟨_, hr⟩
      obtain ⟨o2, hr⟩ := dn_
      obtain ⟨h1, v1, s1, hr⟩ := rw_ias wk_q74 (show wk_at wk_m74 45 31 0 0 0 0 = true by decide +kernel) hwm.1.2 (by omega) (by omega) hr
      have hr := iw_st wk_q74 (show wk_at wk_m74 46 6 3 1 0 0 = true by decide +kernel) hr rfl
      rw [inc] at hr
      have hr := iw_st wk_q74 (show wk_at wk_m74 49 21 2 0 0 0 = true by decide +kernel) hr rfl
      exact ih (l + 1) _ h1 (by omega) (r_col1 (by omega) hc s1 v1) hr
  have hr := iw_st wk_q74 (show wk_at wk_m74 0 1 1 1 0 0 = true by decide +kernel) hr rfl
  have hr := iw_st wk_q74 (show wk_at wk_m74 1 4 3 1 0 0 = true by decide +kernel) hr rfl
  exact loop 4 0 _ h (by omega) ⟨rv_Sr, fun _ _ _ => rfl, fun j l h6 h4 => by rw [if_neg (by omega)]; exact hT m j l hm h6 h4⟩ hr
set_option maxRecDepth 100000 in
theorem r_forget {c : Nat → Nat} {w : Nat → Nat → Nat → Nat} {dn : Nat → Nat} {h : am_H} (hj : rc_j c) (h16 : r_16 w) (hI : rc_I c w dn h) {n m : Nat} (hn : n < 6) (hm : m < 6) {r : am_R} (hr : Rd am_m67 (0, [some (.ref (c 0)), some (.int (Int32.ofNat n)), some (.int (Int32.ofNat m)), none], [], h, 0, 0) r) : ∃ h', r = (.inl none, h', 0, 0) ∧ rc_I c (r_wt w n m (fun _ => 16)) dn h' := by
  obtain ⟨hW, hT, hD, hN⟩ := id hI
  have loop : ∀ d l (o : Option Value) hx, l + d = 4 → r_col c w n m (fun _ => 16) l h hx → Rd am_m67 (2, [some (.ref (c 0)), some (.int (Int32.ofNat n)), some (.int (Int32.ofNat m)), some (.int (Int32.ofNat l))], [], hx, 0, 0) r → ∃ h', r = (.inl none, h', 0, 0) ∧ rc_I c (r_wt w n m (fun _ => 16)) dn h' := by
    intro d
    induction d with
    | zero =>
      intro l o hx hd hc hr
      have hr := iw_st wk_q67 (show wk_at wk_m67 2 2 3 1 0 0 = true by decide +kernel) hr rfl
      have hr := iw_st wk_q67 (show wk_at wk_m67 3 1 33 1 0 0 = true by decide +kernel) hr rfl
      have hr := iw_ict wk_q67 (show wk_at wk_m67 4 23 3 27 0 0 = true by decide +kernel) (by rw [r_c3 (by omega) (by omega)]; exact decide_eq_true (by show 33 / 8 ≤ l; omega)) hr
      have e4 : l = 4 := by omega
      subst e4
      have hWx := r_colW hj hn hW hc
      have hr := iw_st wk_q67 (show wk_at wk_m67 27 3 0 1 0 0 = true by decide +kernel) hr rfl
      have hr := iw_st wk_q67 (show wk_at wk_m67 28 2 1 1 0 0 = true by decide +kernel) hr rfl
      obtain ⟨x1, hx1, hcx1⟩ := rw_iv (as := [.int (Int32.ofNat n)]) (r := []) wk_q67 (show wk_at wk_m67 29 40 65 1 2 7 = true by decide +kernel) hWx.1.1 rfl rfl (Nat.le_of_ble_eq_true rfl) (mj := am_m65) rfl hr
      obtain ⟨h2, rfl, w2⟩ := r_fws hj hWx hn (g := fun l j => r_wt w n m (fun _ => 16) n j l) (fun l j _ => r_wt16 h16 (fun _ => Nat.le_refl _) n j l) (fun l h4 j h6 => by rw [hc.2.2 j l h6 h4]; exact congrArg (fun x => some (Value.int (Int32.ofNat x))) (r_cw (w := w) (m := n) (n := m) (f := fun _ => 16) h4)) hx1
      obtain ⟨_, _, _, _, ex1, hr⟩ := iv_C_ret rfl hcx1
      cases ex1
      exact ⟨h2, iw_en wk_q67 (show wk_at wk_m67 32 46 0 0 0 0 = true by decide +kernel) hr rfl, r_upd hj hn hI hc.1 hc.2.1 (fun j l h6 h4 => by rw [hc.2.2 j l h6 h4]; exact congrArg (fun x => some (Value.int (Int32.ofNat x))) (r_cw (w := w) (m := n) (n := m) (f := fun _ => 16) h4)) (fun a ha => r_wtn ha) w2⟩
    | succ d ih =>
      intro l o hx hd hc hr
      have hWx := r_colW hj hn hW hc
      have hcx := hc
      obtain ⟨hs, ho, hm_⟩ := hcx
      have hwm := hWx.2.2 n hn
      have inc : Int32.ofNat l + Int32.ofNat 1 = Int32.ofNat (l + 1) := r_add (by omega) (by omega)
      have ex : Int32.ofNat m * Int32.ofNat (33 / 8) + Int32.ofNat l = Int32.ofNat (m * 4 + l) := by rw [r_mul (by omega) (by omega), r_add (by omega) (by omega)]
      have hr := iw_st wk_q67 (show wk_at wk_m67 2 2 3 1 0 0 = true by decide +kernel) hr rfl
      have hr := iw_st wk_q67 (show wk_at wk_m67 3 1 33 1 0 0 = true by decide +kernel) hr rfl
      have hr := iw_icf wk_q67 (show wk_at wk_m67 4 23 3 27 0 0 = true by decide +kernel) (by rw [r_c3 (by omega) (by omega)]; exact decide_eq_false (by show ¬ 33 / 8 ≤ l; omega)) hr
      have hr := iw_st wk_q67 (show wk_at wk_m67 7 3 0 1 0 0 = true by decide +kernel) hr rfl
      have hr := rw_get wk_q67 (show wk_at wk_m67 8 25 7 1 0 0 = true by decide +kernel) hWx.1.1 hWx.1.2.2.1 hr
      have hr := iw_st wk_q67 (show wk_at wk_m67 11 2 1 1 0 0 = true by decide +kernel) hr rfl
      have hr := rw_aal wk_q67 (show wk_at wk_m67 12 30 0 0 0 0 = true by decide +kernel) ⟨hWx.2.1.2.1, r_cmp3⟩ (by omega) hwm.1.1 hr
      have hr := iw_st wk_q67 (show wk_at wk_m67 13 2 2 1 0 0 = true by decide +kernel) hr rfl
      have hr := iw_st wk_q67 (show wk_at wk_m67 14 1 33 1 0 0 = true by decide +kernel) hr rfl
      have hr := iw_st wk_q67 (show wk_at wk_m67 15 9 0 0 0 0 = true by decide +kernel) hr rfl
      have hr := iw_st wk_q67 (show wk_at wk_m67 16 2 3 1 0 0 = true by decide +kernel) hr rfl
      have hr := iw_st wk_q67 (show wk_at wk_m67 17 7 0 0 0 0 = true by decide +kernel) hr rfl
      rw [ex] at hr
      have hr := iw_st wk_q67 (show wk_at wk_m67 18 1 129 2 0 0 = true by decide +kernel) hr rfl
      obtain ⟨h1, v1, s1, hr⟩ := rw_ias wk_q67 (show wk_at wk_m67 20 31 0 0 0 0 = true by decide +kernel) hwm.1.2 (by omega) (by omega) hr
      have hr := iw_st wk_q67 (show wk_at wk_m67 21 6 3 1 0 0 = true by decide +kernel) hr rfl
      rw [inc] at hr
      have hr := iw_st wk_q67 (show wk_at wk_m67 24 21 2 0 0 0 = true by decide +kernel) hr rfl
      exact ih (l + 1) o h1 (by omega) (r_col1 (by omega) hc s1 v1) hr
  have hr := iw_st wk_q67 (show wk_at wk_m67 0 1 1 1 0 0 = true by decide +kernel) hr rfl
  have hr := iw_st wk_q67 (show wk_at wk_m67 1 4 3 1 0 0 = true by decide +kernel) hr rfl
  exact loop 4 0 none h (by omega) ⟨rv_Sr, fun _ _ _ => rfl, fun j l h6 h4 => by rw [if_neg (by omega)]; exact hT n j l hn h6 h4⟩ hr
set_option maxRecDepth 100000 in
theorem r_up {c : Nat → Nat} {h : am_H} (hW : rc_W c h) {i d : Nat} (hi : i < 8) (hd : d = 0 ∨ d = 1) (sN : ab_sl h (c 1) i = some (.int (Int32.ofNat d))) {r : am_R} (hr : Rd am_m71 (0, [some (.ref (c 0)), some (.int (Int32.ofNat i))], [], h, 0, 0) r) : r = (.inl (some (.int (Int32.ofNat (1 - d)))), h, 0, 0) := by
  have hr := iw_st wk_q71 (show wk_at wk_m71 0 3 0 1 0 0 = true by decide +kernel) hr rfl
  have hr := rw_get wk_q71 (show wk_at wk_m71 1 25 7 0 0 0 = true by decide +kernel) hW.1.1 hW.1.2.1 hr
  have hr := iw_st wk_q71 (show wk_at wk_m71 4 2 1 1 0 0 = true by decide +kernel) hr rfl
  have hr := rw_bal wk_q71 (show wk_at wk_m71 5 28 0 0 0 0 = true by decide +kernel) hW.2.1.1 (by omega) sN hr
  rcases hd with rfl | rfl
  · have hr := iw_iff wk_q71 (show wk_at wk_m71 6 22 1 13 0 0 = true by decide +kernel) (by decide) hr
    have hr := iw_st wk_q71 (show wk_at wk_m71 9 1 9 1 0 0 = true by decide +kernel) hr rfl
    have hr := iw_st wk_q71 (show wk_at wk_m71 10 21 14 0 0 0 = true by decide +kernel) hr rfl
    exact iw_en wk_q71 (show wk_at wk_m71 14 44 1 0 0 0 = true by decide +kernel) hr rfl
  · have hr := iw_ift wk_q71 (show wk_at wk_m71 6 22 1 13 0 0 = true by decide +kernel) (by decide) hr
    have hr := iw_st wk_q71 (show wk_at wk_m71 13 1 1 1 0 0 = true by decide +kernel) hr rfl
    exact iw_en wk_q71 (show wk_at wk_m71 14 44 1 0 0 0 = true by decide +kernel) hr rfl
theorem r_lt {a b : Nat} (ha : a < 10000) (hb : b < 10000) : Int32.ofNat a < Int32.ofNat b ↔ a < b := by
  have e1 := r_b (a := a) (by omega)
  have e2 := r_b (a := b) (by omega)
  exact ⟨fun e => by have := ab_b_lti.mp e; omega, fun e => ab_b_lti.mpr (by omega)⟩
theorem r_ite {a b : Nat} (ha : a < 10000) (hb : b < 10000) : (if Int32.ofNat a < Int32.ofNat b then Int32.ofNat a else Int32.ofNat b) = Int32.ofNat (if a < b then a else b) := by
  by_cases e : a < b
  · rw [if_pos ((r_lt ha hb).mpr e), if_pos e]
  · rw [if_neg (fun z => e ((r_lt ha hb).mp z)), if_neg e]
theorem r_ite2 {a b : Nat} (ha : a < 10000) (hb : b < 10000) : (if Int32.ofNat a < Int32.ofNat b then Int32.ofNat b else Int32.ofNat a) = Int32.ofNat (if a < b then b else a) := by
  by_cases e : a < b
  · rw [if_pos ((r_lt ha hb).mpr e), if_pos e]
  · rw [if_neg (fun z => e ((r_lt ha hb).mp z)), if_neg e]
/-- the link between two nodes -/
def r_lk (n m : Nat) : Nat := if n < 4 then 2 * n + m - 4 else 2 * m + n - 4
def r_nb (n m : Nat) : Prop := (n < 4 ∧ (m = 4 ∨ m = 5)) ∨ ((n = 4 ∨ n = 5) ∧ m < 4)
theorem r_nb6 {n m : Nat} (h : r_nb n m) : n < 6 ∧ m < 6 ∧ n ≠ m ∧ r_lk n m < 8 := by
  unfold r_lk
  rcases h with ⟨h1, h2⟩ | ⟨h1, h2⟩
  · rw [if_pos h1]; omega
  · rw [if_neg (by omega)]; omega
theorem r_nbs {n m : Nat} (h : r_nb n m) : r_nb m n ∧ r_lk m n = r_lk n m := by
  unfold r_lk
  rcases h with ⟨h1, h2⟩ | ⟨h1, h2⟩
  · exact ⟨Or.inr ⟨h2, h1⟩, by rw [if_neg (by omega), if_pos h1]⟩
  · exact ⟨Or.inl ⟨h2, h1⟩, by rw [if_pos h2, if_neg (by omega)]⟩
set_option maxRecDepth 100000 in
theorem r_lb {h : am_H} {n m : Nat} (hb : r_nb n m) {r : am_R} (hr : Rd am_m72 (0, [some (.int (Int32.ofNat n)), some (.int (Int32.ofNat m)), none, none], [], h, 0, 0) r) : r = (.inl (some (.int (Int32.ofNat (r_lk n m)))), h, 0, 0) := by
  obtain ⟨hn, hm, hnm, hl8⟩ := r_nb6 hb
  have hv : ∃ a b, (if m < n then m else n) = a ∧ (if n < m then m else n) = b ∧ 2 * a + b - 4 = r_lk n m ∧ 4 ≤ 2 * a + b ∧ a < 6 ∧ b < 6 := by
    unfold r_lk
    rcases hb with ⟨z1, z2⟩ | ⟨z1, z2⟩
    · exact ⟨n, m, if_neg (by omega), if_pos (by omega), by rw [if_pos z1], by omega, by omega, by omega⟩
    · exact ⟨m, n, if_pos (by omega), if_neg (by omega), by rw [if_neg (by omega)], by omega, by omega, by omega⟩
  obtain ⟨a, b, ea, eb, el, e4, ha, hb6⟩ := hv
  have hr := iw_st wk_q72 (show wk_at wk_m72 0 2 0 1 0 0 = true by decide +kernel) hr rfl
  have hr := iw_st wk_q72 (show wk_at wk_m72 1 2 1 1 0 0 = true by decide +kernel) hr rfl
  have hr := iw_st wk_q72 (show wk_at wk_m72 2 41 0 0 0 0 = true by decide +kernel) hr rfl
  rw [r_ite (by omega) (by omega), ea] at hr
  have hr := iw_st wk_q72 (show wk_at wk_m72 5 4 2 1 0 0 = true by decide +kernel) hr rfl
  have hr := iw_st wk_q72 (show wk_at wk_m72 6 2 0 1 0 0 = true by decide +kernel) hr rfl
  have hr := iw_st wk_q72 (show wk_at wk_m72 7 2 1 1 0 0 = true by decide +kernel) hr rfl
  have hr := iw_st wk_q72 (show wk_at wk_m72 8 42 0 0 0 0 = true by decide +kernel) hr rfl
  rw [r_ite2 (by omega) (by omega), eb] at hr
  have hr := iw_st wk_q72 (show wk_at wk_m72 11 4 3 1 0 0 = true by decide +kernel) hr rfl
  have hr := iw_st wk_q72 (show wk_at wk_m72 12 1 17 1 0 0 = true by decide +kernel) hr rfl
  have hr := iw_st wk_q72 (show wk_at wk_m72 13 2 2 1 0 0 = true by decide +kernel) hr rfl
  have hr := iw_st wk_q72 (show wk_at wk_m72 14 9 0 0 0 0 = true by decide +kernel) hr rfl
  rw [show Int32.ofNat (17 / 8) * Int32.ofNat a = Int32.ofNat (2 * a) from r_mul (by omega) (by omega)] at hr
  have hr := iw_st wk_q72 (show wk_at wk_m72 15 2 3 1 0 0 = true by decide +kernel) hr rfl
  have hr := iw_st wk_q72 (show wk_at wk_m72 16 7 0 0 0 0 = true by decide +kernel) hr rfl
  rw [r_add (by omega) (by omega)] at hr
  have hr := iw_st wk_q72 (show wk_at wk_m72 17 1 33 1 0 0 = true by decide +kernel) hr rfl
  have hr := iw_st wk_q72 (show wk_at wk_m72 18 8 0 0 0 0 = true by decide +kernel) hr rfl
  rw [show Int32.ofNat (2 * a + b) - Int32.ofNat (33 / 8) = Int32.ofNat (2 * a + b - 4) from r_sub (by omega) (by omega), el] at hr
  exact iw_en wk_q72 (show wk_at wk_m72 19 44 0 0 0 0 = true by decide +kernel) hr rfl
def r_as (w : Nat → Nat → Nat → Nat) (dn : Nat → Nat) (n m : Nat) : Nat → Nat → Nat → Nat := if dn (r_lk n m) = 0 then r_wt w m n (r_tf w n m) else w
def r_ad (w : Nat → Nat → Nat → Nat) (dn : Nat → Nat) (n : Nat) : Nat → Nat → Nat → Nat := if n < 4 then r_as (r_as w dn n 4) dn n 5 else r_as (r_as (r_as (r_as w dn n 0) dn n 1) dn n 2) dn n 3
def r_01 (dn : Nat → Nat) : Prop := ∀ i, dn i = 0 ∨ dn i = 1
theorem r_as16 {w : Nat → Nat → Nat → Nat} {dn : Nat → Nat} {n m : Nat} (hw : r_16 w) : r_16 (r_as w dn n m) := by
  unfold r_as
  split
  · exact r_wt16 hw (r_tf16 w n m)
  · exact hw
set_option maxRecDepth 100000 in
theorem r_ait {c : Nat → Nat} {w : Nat → Nat → Nat → Nat} {dn : Nat → Nat} {h : am_H} (hj : rc_j c) (h16 : r_16 w) (hI : rc_I c w dn h) (h01 : r_01 dn) {n j e : Nat} (hb : r_nb n j) (he : j < e) (he6 : e ≤ 6) {r : am_R} (hr : Rd am_m63 (10, [some (.ref (c 0)), some (.int (Int32.ofNat n)), some (.int (Int32.ofNat e)), some (.int (Int32.ofNat j))], [], h, 0, 0) r) : ∃ h', rc_I c (r_as w dn n j) dn h' ∧ Rd am_m63 (10, [some (.ref (c 0)), some (.int (Int32.ofNat n)), some (.int (Int32.ofNat e)), some (.int (Int32.ofNat (j + 1)))], [], h', 0, 0) r := by
  obtain ⟨hn, hm, hnm, hl8⟩ := r_nb6 hb
  have hr := iw_st wk_q63 (show wk_at wk_m63 10 2 3 1 0 0 = true by decide +kernel) hr rfl
  have hr := iw_st wk_q63 (show wk_at wk_m63 11 2 2 1 0 0 = true by decide +kernel) hr rfl
  have hr := iw_icf wk_q63 (show wk_at wk_m63 12 23 3 39 0 0 = true by decide +kernel) (by rw [r_c3 (by omega) (by omega)]; exact decide_eq_false (by omega)) hr
  have hr := iw_st wk_q63 (show wk_at wk_m63 15 3 0 1 0 0 = true by decide +kernel) hr rfl
  have hr := iw_st wk_q63 (show wk_at wk_m63 16 2 1 1 0 0 = true by decide +kernel) hr rfl
  have hr := iw_st wk_q63 (show wk_at wk_m63 17 2 3 1 0 0 = true by decide +kernel) hr rfl
  obtain ⟨x1, hx1, hcx1⟩ := iw_is (as := [.int (Int32.ofNat n), .int (Int32.ofNat j)]) (r := [.ref (c 0)]) wk_q63 (show wk_at wk_m63 18 40 72 2 0 0 = true by decide +kernel) rfl rfl (Nat.le_of_ble_eq_true rfl) (mj := am_m72) rfl hr
  have hqx1 := r_lb hb hx1
  subst hqx1
  obtain ⟨_, _, _, _, ex1, hr⟩ := iv_C_ret rfl hcx1
  cases ex1
  have hr : Rd am_m63 (21, [some (.ref (c 0)), some (.int (Int32.ofNat n)), some (.int (Int32.ofNat e)), some (.int (Int32.ofNat j))], [.int (Int32.ofNat (r_lk n j)), .ref (c 0)], h, 0, 0) r := hr
  obtain ⟨x2, hx2, hcx2⟩ := rw_iv (as := [.int (Int32.ofNat (r_lk n j))]) (r := []) wk_q63 (show wk_at wk_m63 21 40 71 1 2 7 = true by decide +kernel) hI.1.1.1 rfl rfl (Nat.le_of_ble_eq_true rfl) (mj := am_m71) rfl hr
  have hqx2 := r_up hI.1 (r_nb6 hb).2.2.2 (h01 _) (hI.2.2.2 _ (r_nb6 hb).2.2.2) hx2
  subst hqx2
  obtain ⟨_, _, _, _, ex2, hr⟩ := iv_C_ret rfl hcx2
  cases ex2
  have inc : Int32.ofNat j + Int32.ofNat 1 = Int32.ofNat (j + 1) := r_add (by omega) (by omega)
  unfold r_as
  rcases h01 (r_lk n j) with e0 | e0
  · rw [if_pos e0]
    rw [e0] at hr
    have hr := iw_iff wk_q63 (show wk_at wk_m63 24 22 0 33 0 0 = true by decide +kernel) (by decide) hr
    have hr := iw_st wk_q63 (show wk_at wk_m63 27 3 0 1 0 0 = true by decide +kernel) hr rfl
    have hr := iw_st wk_q63 (show wk_at wk_m63 28 2 1 1 0 0 = true by decide +kernel) hr rfl
    have hr := iw_st wk_q63 (show wk_at wk_m63 29 2 3 1 0 0 = true by decide +kernel) hr rfl
    obtain ⟨x3, hx3, hcx3⟩ := rw_iv (as := [.int (Int32.ofNat n), .int (Int32.ofNat j)]) (r := []) wk_q63 (show wk_at wk_m63 30 40 74 2 2 7 = true by decide +kernel) hI.1.1.1 rfl rfl (Nat.le_of_ble_eq_true rfl) (mj := am_m74) rfl hr
    obtain ⟨h2, rfl, hI2⟩ := r_tell hj h16 hI (r_nb6 hb).1 (r_nb6 hb).2.1 (r_nb6 hb).2.2.1 hx3
    obtain ⟨_, _, _, _, ex3, hr⟩ := iv_C_ret rfl hcx3
    cases ex3
    have hr := iw_st wk_q63 (show wk_at wk_m63 33 6 3 1 0 0 = true by decide +kernel) hr rfl
    rw [inc] at hr
    have hr := iw_st wk_q63 (show wk_at wk_m63 36 21 10 0 0 0 = true by decide +kernel) hr rfl
    exact ⟨h2, hI2, hr⟩
  · rw [if_neg (by omega)]
    rw [e0] at hr
    have hr := iw_ift wk_q63 (show wk_at wk_m63 24 22 0 33 0 0 = true by decide +kernel) (by decide) hr
    have hr := iw_st wk_q63 (show wk_at wk_m63 33 6 3 1 0 0 = true by decide +kernel) hr rfl
    rw [inc] at hr
    have hr := iw_st wk_q63 (show wk_at wk_m63 36 21 10 0 0 0 = true by decide +kernel) hr rfl
    exact ⟨h, hI, hr⟩
set_option maxRecDepth 100000 in
theorem r_adv {c : Nat → Nat} {w : Nat → Nat → Nat → Nat} {dn : Nat → Nat} {h : am_H} (hj : rc_j c) (h16 : r_16 w) (hI : rc_I c w dn h) (h01 : r_01 dn) {n : Nat} (hn : n < 6) {r : am_R} (hr : Rd am_m63 (0, [some (.ref (c 0)), some (.int (Int32.ofNat n)), none, none], [], h, 0, 0) r) : ∃ h', r = (.inl none, h', 0, 0) ∧ rc_I c (r_ad w dn n) dn h' := by
  have hr := iw_st wk_q63 (show wk_at wk_m63 0 2 1 1 0 0 = true by decide +kernel) hr rfl
  obtain ⟨x1, hx1, hcx1⟩ := iw_is (as := [.int (Int32.ofNat n)]) (r := []) wk_q63 (show wk_at wk_m63 1 40 73 1 0 0 = true by decide +kernel) rfl rfl (Nat.le_of_ble_eq_true rfl) (mj := am_m73) rfl hr
  have hqx1 := r_end hn hx1
  subst hqx1
  obtain ⟨_, _, _, _, ex1, hr⟩ := iv_C_ret rfl hcx1
  cases ex1
  have hr := iw_st wk_q63 (show wk_at wk_m63 4 4 2 1 0 0 = true by decide +kernel) hr rfl
  have hr := iw_st wk_q63 (show wk_at wk_m63 5 2 1 1 0 0 = true by decide +kernel) hr rfl
  obtain ⟨x2, hx2, hcx2⟩ := iw_is (as := [.int (Int32.ofNat n)]) (r := []) wk_q63 (show wk_at wk_m63 6 40 66 1 0 0 = true by decide +kernel) rfl rfl (Nat.le_of_ble_eq_true rfl) (mj := am_m66) rfl hr
  have hqx2 := r_first hn hx2
  subst hqx2
  obtain ⟨_, _, _, _, ex2, hr⟩ := iv_C_ret rfl hcx2
  cases ex2
  have hr := iw_st wk_q63 (show wk_at wk_m63 9 4 3 1 0 0 = true by decide +kernel) hr rfl
  unfold r_ad
  by_cases hn4 : n < 4
  · rw [if_pos hn4, if_pos hn4] at hr
    rw [if_pos hn4]
    have hr : Rd am_m63 (10, [some (.ref (c 0)), some (.int (Int32.ofNat n)), some (.int (Int32.ofNat 6)), some (.int (Int32.ofNat 4))], [], h, 0, 0) r := hr
    obtain ⟨h1, hI, hr⟩ := r_ait hj h16 hI h01 (Or.inl ⟨hn4, Or.inl rfl⟩) (by omega) (by omega) hr
    obtain ⟨h2, hI, hr⟩ := r_ait hj (r_as16 h16) hI h01 (Or.inl ⟨hn4, Or.inr rfl⟩) (by omega) (by omega) hr
    have hr := iw_st wk_q63 (show wk_at wk_m63 10 2 3 1 0 0 = true by decide +kernel) hr rfl
    have hr := iw_st wk_q63 (show wk_at wk_m63 11 2 2 1 0 0 = true by decide +kernel) hr rfl
    have hr := iw_ict wk_q63 (show wk_at wk_m63 12 23 3 39 0 0 = true by decide +kernel) (by rw [r_c3 (by omega) (by omega)]; exact decide_eq_true (by decide)) hr
    exact ⟨h2, iw_en wk_q63 (show wk_at wk_m63 39 46 0 0 0 0 = true by decide +kernel) hr rfl, hI⟩
  · rw [if_neg hn4, if_neg hn4] at hr
    rw [if_neg hn4]
    have hr : Rd am_m63 (10, [some (.ref (c 0)), some (.int (Int32.ofNat n)), some (.int (Int32.ofNat 4)), some (.int (Int32.ofNat 0))], [], h, 0, 0) r := hr
    obtain ⟨h1, hI, hr⟩ := r_ait hj h16 hI h01 (Or.inr ⟨by omega, by decide⟩) (by omega) (by omega) hr
    obtain ⟨h2, hI, hr⟩ := r_ait hj (r_as16 h16) hI h01 (Or.inr ⟨by omega, by decide⟩) (by omega) (by omega) hr
    obtain ⟨h3, hI, hr⟩ := r_ait hj (r_as16 (r_as16 h16)) hI h01 (Or.inr ⟨by omega, by decide⟩) (by omega) (by omega) hr
    obtain ⟨h4, hI, hr⟩ := r_ait hj (r_as16 (r_as16 (r_as16 h16))) hI h01 (Or.inr ⟨by omega, by decide⟩) (by omega) (by omega) hr
    have hr := iw_st wk_q63 (show wk_at wk_m63 10 2 3 1 0 0 = true by decide +kernel) hr rfl
    have hr := iw_st wk_q63 (show wk_at wk_m63 11 2 2 1 0 0 = true by decide +kernel) hr rfl
    have hr := iw_ict wk_q63 (show wk_at wk_m63 12 23 3 39 0 0 = true by decide +kernel) (by rw [r_c3 (by omega) (by omega)]; exact decide_eq_true (by decide)) hr
    exact ⟨h4, iw_en wk_q63 (show wk_at wk_m63 39 46 0 0 0 0 = true by decide +kernel) hr rfl, hI⟩
theorem rw_bas {mi : am_M} {mf : fm_M} {pc a b c d k q : Nat} {lo : List (Option Value)} {h : am_H} {rr : am_R} {x n j : Nat} {r : List Value} {v : Int32} (hmf : wk_mck am_fty am_lk wk_tls mi mf = true) (hw : wk_at mf pc 32 a b c d = true) (hc : rv_C h x 101 n) (hjn : j < n) (hj : j < 10000) (hb : am_bit v = true) (hr : Rd mi (pc, lo, .int v :: .int (Int32.ofNat j) :: .ref x :: r, h, k, q) rr) : ∃ h', ab_sl h' = rv_u (ab_sl h) x j (.int v) ∧ rv_S h h' ∧ Rd mi (pc + 1, lo, r, h', k, q) rr := by
  obtain ⟨vs, e, el⟩ := hc
  have eb := r_b (a := j) (by omega)
  obtain ⟨s1, s2⟩ := rv_set (v := .int v) e (show j < vs.length by omega)
  have hx : ab_b (Int32.ofNat j) - 2147483648 = j := by omega
  have hr := iw_bas hmf hw e (by omega) (by omega) hb hr
  rw [hx] at hr
  exact ⟨_, s1, s2, hr⟩
def r_dt (dn : Nat → Nat) (i v : Nat) : Nat → Nat := fun j => if j = i then v else dn j
/-- what turning a link makes of what was told -/
def r_tu (w : Nat → Nat → Nat → Nat) (i : Nat) : Nat → Nat → Nat → Nat := r_wt (r_wt w (i / 2) (4 + i % 2) (fun _ => 16)) (4 + i % 2) (i / 2) (fun _ => 16)
theorem r_div : ∀ i, i < 8 → (Int32.ofNat i) / (Int32.ofNat (17 / 8)) = Int32.ofNat (i / 2) ∧ Int32.ofNat (33 / 8) + ((Int32.ofNat i) - (Int32.ofNat i) / (Int32.ofNat (17 / 8)) * (Int32.ofNat (17 / 8))) = Int32.ofNat (4 + i % 2) := by decide +kernel
set_option maxRecDepth 100000 in
theorem r_turn {c : Nat → Nat} {w : Nat → Nat → Nat → Nat} {dn : Nat → Nat} {h : am_H} (hj : rc_j c) (h16 : r_16 w) (hI : rc_I c w dn h) {i : Nat} (hi : i < 8) {b : Int32} {r : am_R} (hr : Rd am_m75 (0, [some (.ref (c 0)), some (.int (Int32.ofNat i)), some (.int b), none, none], [], h, 0, 0) r) : ∃ h', r = (.inl none, h', 0, 0) ∧ rc_I c (r_tu w i) (r_dt dn i (if b = 0 then 1 else 0)) h' := by
  have hr := iw_st wk_q75 (show wk_at wk_m75 0 2 1 1 0 0 = true by decide +kernel) hr rfl
  have hr := iw_st wk_q75 (show wk_at wk_m75 1 1 17 1 0 0 = true by decide +kernel) hr rfl
  have hr := iw_st wk_q75 (show wk_at wk_m75 2 12 0 0 0 0 = true by decide +kernel) hr (by simp only [wk_ex, am_bin, if_true]; rw [if_neg (by decide)]; rfl)
  rw [(r_div i hi).1] at hr
  have hr := iw_st wk_q75 (show wk_at wk_m75 3 4 3 1 0 0 = true by decide +kernel) hr rfl
  have hr := iw_st wk_q75 (show wk_at wk_m75 4 1 33 1 0 0 = true by decide +kernel) hr rfl
  have hr := iw_st wk_q75 (show wk_at wk_m75 5 2 1 1 0 0 = true by decide +kernel) hr rfl
  have hr := iw_st wk_q75 (show wk_at wk_m75 6 1 17 1 0 0 = true by decide +kernel) hr rfl
  have hr := iw_st wk_q75 (show wk_at wk_m75 7 13 0 0 0 0 = true by decide +kernel) hr (by simp only [wk_ex, am_bin, if_true]; rw [if_neg (by decide)]; rfl)
  have hr := iw_st wk_q75 (show wk_at wk_m75 8 7 0 0 0 0 = true by decide +kernel) hr rfl
  rw [(r_div i hi).2] at hr
  have hr := iw_st wk_q75 (show wk_at wk_m75 9 4 4 2 0 0 = true by decide +kernel) hr rfl
  have hr := iw_st wk_q75 (show wk_at wk_m75 11 3 0 1 0 0 = true by decide +kernel) hr rfl
  have hr := rw_get wk_q75 (show wk_at wk_m75 12 25 7 0 0 0 = true by decide +kernel) hI.1.1.1 hI.1.1.2.1 hr
  have hr := iw_st wk_q75 (show wk_at wk_m75 15 2 1 1 0 0 = true by decide +kernel) hr rfl
  have hr := iw_st wk_q75 (show wk_at wk_m75 16 2 2 1 0 0 = true by decide +kernel) hr rfl
  have hr := iw_not wk_q75 (show wk_at wk_m75 17 22 1 24 0 0 = true by decide +kernel) (show wk_at wk_m75 20 1 9 1 0 0 = true by decide +kernel) (show wk_at wk_m75 21 21 25 0 0 0 = true by decide +kernel) (show wk_at wk_m75 24 1 1 1 0 0 = true by decide +kernel) hr
  have eb : (if b = 0 then (1 : Int32) else 0) = Int32.ofNat (if b = 0 then 1 else 0) := by split <;> rfl
  rw [eb] at hr
  obtain ⟨h1, v1, s1, hr⟩ := rw_bas wk_q75 (show wk_at wk_m75 25 32 0 0 0 0 = true by decide +kernel) hI.1.2.1.1 hi (by omega) (by split <;> rfl) hr
  have hI1 : rc_I c w (r_dt dn i (if b = 0 then 1 else 0)) h1 := by
    obtain ⟨hW, hT, hD, hN⟩ := hI
    refine ⟨rc_k hW s1 (fun i => by rw [v1, rv_ne (rc_n hj (i := 0) (j := 1) (by omega) (by omega) (by omega))]) (fun i => by rw [v1, rv_ne (rc_n hj (i := 2) (j := 1) (by omega) (by omega) (by omega))]) (fun i => by rw [v1, rv_ne (rc_n hj (i := 3) (j := 1) (by omega) (by omega) (by omega))]) (fun i => by rw [v1, rv_ne (rc_n hj (i := 4) (j := 1) (by omega) (by omega) (by omega))]), fun n j l hn h6 h4 => by rw [v1, rv_ne (rc_n hj (i := 5 + n) (j := 1) (by omega) (by omega) (by omega))]; exact hT n j l hn h6 h4, fun n l hn h4 => by rw [v1, rv_ne (rc_n hj (i := 11 + n) (j := 1) (by omega) (by omega) (by omega)), rv_ne (rc_n hj (i := 17 + n) (j := 1) (by omega) (by omega) (by omega))]; exact hD n l hn h4, fun k hk => ?_⟩
    unfold r_dt
    rw [v1]
    by_cases e : k = i
    · rw [if_pos e, e, rv_eq]
    · rw [if_neg e, rv_nj e]
      exact hN k hk
  have hr := iw_st wk_q75 (show wk_at wk_m75 26 3 0 1 0 0 = true by decide +kernel) hr rfl
  have hr := iw_st wk_q75 (show wk_at wk_m75 27 2 3 1 0 0 = true by decide +kernel) hr rfl
  have hr := iw_st wk_q75 (show wk_at wk_m75 28 2 4 2 0 0 = true by decide +kernel) hr rfl
  obtain ⟨x1, hx1, hcx1⟩ := rw_iv (as := [.int (Int32.ofNat (i / 2)), .int (Int32.ofNat (4 + i % 2))]) (r := []) wk_q75 (show wk_at wk_m75 30 40 67 2 2 7 = true by decide +kernel) hI1.1.1.1 rfl rfl (Nat.le_of_ble_eq_true rfl) (mj := am_m67) rfl hr
  obtain ⟨h2, rfl, hI2⟩ := r_forget hj h16 hI1 (by omega) (by omega) hx1
  obtain ⟨_, _, _, _, ex1, hr⟩ := iv_C_ret rfl hcx1
  cases ex1
  have hr := iw_st wk_q75 (show wk_at wk_m75 33 3 0 1 0 0 = true by decide +kernel) hr rfl
  have hr := iw_st wk_q75 (show wk_at wk_m75 34 2 4 2 0 0 = true by decide +kernel) hr rfl
  have hr := iw_st wk_q75 (show wk_at wk_m75 36 2 3 1 0 0 = true by decide +kernel) hr rfl
  obtain ⟨x2, hx2, hcx2⟩ := rw_iv (as := [.int (Int32.ofNat (4 + i % 2)), .int (Int32.ofNat (i / 2))]) (r := []) wk_q75 (show wk_at wk_m75 37 40 67 2 2 7 = true by decide +kernel) hI2.1.1.1 rfl rfl (Nat.le_of_ble_eq_true rfl) (mj := am_m67) rfl hr
  obtain ⟨h3, rfl, hI3⟩ := r_forget hj (r_wt16 h16 (fun _ => Nat.le_refl _)) hI2 (by omega) (by omega) hx2
  obtain ⟨_, _, _, _, ex2, hr⟩ := iv_C_ret rfl hcx2
  cases ex2
  exact ⟨h3, iw_en wk_q75 (show wk_at wk_m75 40 46 0 0 0 0 = true by decide +kernel) hr rfl, hI3⟩
/-- the neighbour that is hop zk: d left, from j on, b before -/
def r_ha (B : Nat) (zk : Int32) : Nat → Nat → Nat → Option Nat
  | 0, _, _ => none
  | d + 1, j, b => if r_hb B j = true then (if Int32.ofNat b = zk then some j else r_ha B zk d (j + 1) (b + 1)) else r_ha B zk d (j + 1) b
def r_on (o : Option Nat) : Int32 := match o with
  | some j => Int32.ofNat j
  | none => Int32.ofNat 4294967295
set_option maxRecDepth 100000 in
theorem r_hopAt {c : Nat → Nat} {h : am_H} (hj : rc_j c) (hW : rc_W c h) {n l B : Nat} (hn : n < 6) (hl : l < 4) (hB : B < 64) (sH : ab_sl h (c (17 + n)) l = some (.int (Int32.ofNat B))) {zk : Int32} {r : am_R} (hr : Rd am_m68 (0, [some (.ref (c 0)), some (.int (Int32.ofNat n)), some (.int (Int32.ofNat l)), some (.int zk), none, none], [], h, 0, 0) r) : r = (.inl (some (.int (r_on (r_ha B zk 6 0 0)))), h, 0, 0) := by
  have loop : ∀ d j b, j + d = 6 → b ≤ j → Rd am_m68 (6, [some (.ref (c 0)), some (.int (Int32.ofNat n)), some (.int (Int32.ofNat l)), some (.int zk), some (.int (Int32.ofNat b)), some (.int (Int32.ofNat j))], [], h, 0, 0) r → r = (.inl (some (.int (r_on (r_ha B zk d j b)))), h, 0, 0) := by
    intro d
    induction d with
    | zero =>
      intro j b hd hb hr
      have hr := iw_st wk_q68 (show wk_at wk_m68 6 2 5 2 0 0 = true by decide +kernel) hr rfl
      have hr := iw_st wk_q68 (show wk_at wk_m68 8 1 49 2 0 0 = true by decide +kernel) hr rfl
      have hr := iw_ict wk_q68 (show wk_at wk_m68 10 23 3 42 0 0 = true by decide +kernel) (by rw [r_c3 (by omega) (by omega)]; exact decide_eq_true (by show 49 / 8 ≤ j; omega)) hr
      have hr := iw_st wk_q68 (show wk_at wk_m68 42 1 34359738361 1 0 0 = true by decide +kernel) hr rfl
      exact iw_en wk_q68 (show wk_at wk_m68 43 44 0 0 0 0 = true by decide +kernel) hr rfl
    | succ d ih =>
      intro j b hd hb hr
      have inc : Int32.ofNat j + Int32.ofNat 1 = Int32.ofNat (j + 1) := r_add (by omega) (by omega)
      have incb : Int32.ofNat b + Int32.ofNat 1 = Int32.ofNat (b + 1) := r_add (by omega) (by omega)
      have hr := iw_st wk_q68 (show wk_at wk_m68 6 2 5 2 0 0 = true by decide +kernel) hr rfl
      have hr := iw_st wk_q68 (show wk_at wk_m68 8 1 49 2 0 0 = true by decide +kernel) hr rfl
      have hr := iw_icf wk_q68 (show wk_at wk_m68 10 23 3 42 0 0 = true by decide +kernel) (by rw [r_c3 (by omega) (by omega)]; exact decide_eq_false (by show ¬ 49 / 8 ≤ j; omega)) hr
      have hr := iw_st wk_q68 (show wk_at wk_m68 13 3 0 1 0 0 = true by decide +kernel) hr rfl
      have hr := iw_st wk_q68 (show wk_at wk_m68 14 2 1 1 0 0 = true by decide +kernel) hr rfl
      have hr := iw_st wk_q68 (show wk_at wk_m68 15 2 2 1 0 0 = true by decide +kernel) hr rfl
      have hr := iw_st wk_q68 (show wk_at wk_m68 16 2 5 2 0 0 = true by decide +kernel) hr rfl
      obtain ⟨x1, hx1, hcx1⟩ := rw_iv (as := [.int (Int32.ofNat n), .int (Int32.ofNat l), .int (Int32.ofNat j)]) (r := []) wk_q68 (show wk_at wk_m68 18 40 70 3 2 7 = true by decide +kernel) hW.1.1 rfl rfl (Nat.le_of_ble_eq_true rfl) (mj := am_m70) rfl hr
      have hqx1 := r_ish hj hW hn hl (by omega) hB sH hx1
      subst hqx1
      obtain ⟨_, _, _, _, ex1, hr⟩ := iv_C_ret rfl hcx1
      cases ex1
      unfold r_ha
      by_cases hh : r_hb B j = true
      · rw [if_pos hh] at hr
        rw [if_pos hh]
        have hr := iw_iff wk_q68 (show wk_at wk_m68 21 22 0 36 0 0 = true by decide +kernel) (by decide) hr
        have hr := iw_st wk_q68 (show wk_at wk_m68 24 2 4 2 0 0 = true by decide +kernel) hr rfl
        have hr := iw_st wk_q68 (show wk_at wk_m68 26 2 3 1 0 0 = true by decide +kernel) hr rfl
        by_cases ez : Int32.ofNat b = zk
        · rw [if_pos ez]
          have hr := iw_icf wk_q68 (show wk_at wk_m68 27 23 1 33 0 0 = true by decide +kernel) (by show (!decide (Int32.ofNat b = zk)) = false; rw [decide_eq_true ez]; rfl) hr
          have hr := iw_st wk_q68 (show wk_at wk_m68 30 2 5 2 0 0 = true by decide +kernel) hr rfl
          exact iw_en wk_q68 (show wk_at wk_m68 32 44 0 0 0 0 = true by decide +kernel) hr rfl
        · rw [if_neg ez]
          have hr := iw_ict wk_q68 (show wk_at wk_m68 27 23 1 33 0 0 = true by decide +kernel) (by show (!decide (Int32.ofNat b = zk)) = true; rw [decide_eq_false ez]; rfl) hr
          have hr := iw_st wk_q68 (show wk_at wk_m68 33 6 4 1 0 0 = true by decide +kernel) hr rfl
          rw [incb] at hr
          have hr := iw_st wk_q68 (show wk_at wk_m68 36 6 5 1 0 0 = true by decide +kernel) hr rfl
          rw [inc] at hr
          have hr := iw_st wk_q68 (show wk_at wk_m68 39 21 6 0 0 0 = true by decide +kernel) hr rfl
          exact ih (j + 1) (b + 1) (by omega) (by omega) hr
      · rw [if_neg hh] at hr
        rw [if_neg hh]
        have hr := iw_ift wk_q68 (show wk_at wk_m68 21 22 0 36 0 0 = true by decide +kernel) (by decide) hr
        have hr := iw_st wk_q68 (show wk_at wk_m68 36 6 5 1 0 0 = true by decide +kernel) hr rfl
        rw [inc] at hr
        have hr := iw_st wk_q68 (show wk_at wk_m68 39 21 6 0 0 0 = true by decide +kernel) hr rfl
        exact ih (j + 1) b (by omega) (by omega) hr
  have hr := iw_st wk_q68 (show wk_at wk_m68 0 1 1 1 0 0 = true by decide +kernel) hr rfl
  have hr := iw_st wk_q68 (show wk_at wk_m68 1 4 4 2 0 0 = true by decide +kernel) hr rfl
  have hr := iw_st wk_q68 (show wk_at wk_m68 3 1 1 1 0 0 = true by decide +kernel) hr rfl
  have hr := iw_st wk_q68 (show wk_at wk_m68 4 4 5 2 0 0 = true by decide +kernel) hr rfl
  exact loop 6 0 0 (by omega) (by omega) hr
