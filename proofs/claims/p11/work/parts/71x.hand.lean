/-! ===== steps by hand, the heap seen by its slots ===== -/
def wk_at (mf : fm_M) (pc op a b c d : Nat) : Bool := Nat.blt pc mf.2.1 && Nat.beq (fm_w0 (fm_w mf.1 pc)) op && Nat.beq (fm_w1 (fm_w mf.1 pc)) a && Nat.beq (fm_w2 (fm_w mf.1 pc)) b && Nat.beq (fm_w3 (fm_w mf.1 pc)) c && Nat.beq (fm_w4 (fm_w mf.1 pc)) d && not (Nat.beq op 0)
section RSS
variable (fty : Nat → Nat → Option FieldType) (dfl : Nat → Option (List Value)) (cmp : Nat → Option (Option Nat)) (lk : Nat → Nat → Option am_K) (ms : Nat → Option am_M) (cx : Nat → Option Nat)
/-- it comes to an end of which Q holds -/
def Rn (mi : am_M) (S : am_S) (Q : am_R → Prop) : Prop := ∃ f r, am_run fty dfl cmp lk ms cx am_o0 f mi S = some r ∧ Q r
variable {fty dfl cmp lk ms cx}
variable {tls : Nat → List Nat} {mi : am_M} {mf : fm_M} {pc op a b c d k q : Nat} {lo : List (Option Value)} {st : List Value} {h : am_H} {Q : am_R → Prop}
theorem wk_at_d (hw : wk_at mf pc op a b c d = true) : pc < mf.2.1 ∧ fm_w0 (fm_w mf.1 pc) = op ∧ fm_w1 (fm_w mf.1 pc) = a ∧ fm_w2 (fm_w mf.1 pc) = b ∧ fm_w3 (fm_w mf.1 pc) = c ∧ fm_w4 (fm_w mf.1 pc) = d ∧ op ≠ 0 := by
  obtain ⟨hw, h7⟩ := ab_a2 hw
  obtain ⟨hw, h6⟩ := ab_a2 hw
  obtain ⟨hw, h5⟩ := ab_a2 hw
  obtain ⟨hw, h4⟩ := ab_a2 hw
  obtain ⟨hw, h3⟩ := ab_a2 hw
  obtain ⟨h1, h2⟩ := ab_a2 hw
  exact ⟨ab_blt h1, ab_beq h2, ab_beq h3, ab_beq h4, ab_beq h5, ab_beq h6, ab_bne h7⟩
theorem rs_am (hmf : wk_mck fty lk tls mi mf = true) (hw : wk_at mf pc op a b c d = true) {X : am_X} (hx : wk_ex tls cmp op a b c d pc lo st h k q = some X) : am_step fty dfl cmp lk am_o0 mi (pc, lo, st, h, k, q) = some X := by
  obtain ⟨h1, rfl, rfl, rfl, rfl, rfl, h7⟩ := wk_at_d hw
  obtain ⟨-, hcode, -⟩ := wk_mck_d fty lk tls hmf
  obtain ⟨i, n, hins, hck⟩ := hcode pc h1 h7
  unfold am_step
  show (match am_ins (am_c mi) pc with
    | some (i, n) => am_exec fty dfl cmp lk am_o0 mi i n pc lo st h k q
    | none => none) = _
  rw [hins]
  exact wk_ok hck hx
theorem rs_st (hmf : wk_mck fty lk tls mi mf = true) (hw : wk_at mf pc op a b c d = true) {S' : am_S} (hx : wk_ex tls cmp op a b c d pc lo st h k q = some (.inl S')) (hn : Rn fty dfl cmp lk ms cx mi S' Q) : Rn fty dfl cmp lk ms cx mi (pc, lo, st, h, k, q) Q := by
  obtain ⟨f, r, hr, hQ⟩ := hn
  exact ⟨f + 1, r, ab_run1 (rs_am hmf hw hx) hr, hQ⟩
theorem rs_en (hmf : wk_mck fty lk tls mi mf = true) (hw : wk_at mf pc op a b c d = true) {r : am_R} (hx : wk_ex tls cmp op a b c d pc lo st h k q = some (.inr (.inl r))) (hQ : Q r) : Rn fty dfl cmp lk ms cx mi (pc, lo, st, h, k, q) Q := ⟨1, r, ab_rune (rs_am hmf hw hx), hQ⟩
/-- a call, its end known -/
theorem rs_ca (hmf : wk_mck fty lk tls mi mf = true) (hw : wk_at mf pc 40 a b c d = true) {mj : am_M} {as : List Value} {S' : am_S} (hx : wk_ex tls cmp 40 a b c d pc lo st h k q = some (.inr (.inr (a, as, S')))) (hj : ms a = some mj) (hroom : am_f mj + 1 ≤ am_f mi ∧ 8 + (am_L mj + 11) + am_w mj ≤ am_w mi ∧ as.length ≤ am_L mj) (hc : Rn fty dfl cmp lk ms cx mj (0, as.map some ++ List.replicate (am_L mj - as.length) none, [], S'.2.2.2.1, 0, 0) (fun r => ∃ v h' k' q', r = (.inl v, h', k', q') ∧ Rn fty dfl cmp lk ms cx mi (S'.1 + 3, S'.2.1, v.toList ++ S'.2.2.1, h', S'.2.2.2.2.1 + k', S'.2.2.2.2.2 + q') Q)) : Rn fty dfl cmp lk ms cx mi (pc, lo, st, h, k, q) Q := by
  obtain ⟨f1, r1, hr1, v, h', k', q', rfl, f2, r2, hr2, hQ⟩ := hc
  exact ⟨_, r2, ab_runc (rs_am hmf hw hx) hj hroom hr1 hr2, hQ⟩
end RSS
section RSH
variable {fty : Nat → Nat → Option FieldType} {dfl : Nat → Option (List Value)} {cmp : Nat → Option (Option Nat)} {lk : Nat → Nat → Option am_K} {ms : Nat → Option am_M} {cx : Nat → Option Nat}
variable {tls : Nat → List Nat} {mi : am_M} {mf : fm_M} {pc a b c d k q : Nat} {lo : List (Option Value)} {st : List Value} {h h0 : am_H} {Q : am_R → Prop}
variable {kd : Nat → Nat × Nat} {un : Nat → Bool} {Gm : Nat → Nat → List ab_V} {τ : Nat → Nat} {tv wr : Nat}
/-- kinds and writes alone -/
def rs_H (kd : Nat → Nat × Nat) (un : Nat → Bool) (Gm : Nat → Nat → List ab_V) (τ : Nat → Nat) (tv wr : Nat) (h0 h : am_H) (k : Nat) : Prop := ab_I kd un Gm τ tv h ∧ ab_Fr kd τ wr h0 h ∧ h.length = h0.length + k
theorem rs_cell (hI : ab_I kd un Gm τ tv h) {x i : Nat} {v : Value} (hx : τ x ≠ 0) (hv : ab_sl h x i = some v) : ∃ vs, h[x]? = some ((kd (τ x)).1, vs) ∧ vs.length = (kd (τ x)).2 ∧ vs[i]? = some v := by
  obtain ⟨vs, h1, h2, -⟩ := hI x hx
  refine ⟨vs, h1, h2, ?_⟩
  rw [← ab_sl_at h1]
  exact hv
theorem rs_get (hmf : wk_mck fty lk tls mi mf = true) (hw : wk_at mf pc 25 a b c d = true) {x : Nat} {r : List Value} {v : Value} (hI : ab_I kd un Gm τ tv h) (hx : τ x ≠ 0) (hk : (kd (τ x)).1 = a) (hv : ab_sl h x b = some v) (hn : Rn fty dfl cmp lk ms cx mi (pc + 3, lo, v :: r, h, k, q) Q) : Rn fty dfl cmp lk ms cx mi (pc, lo, .ref x :: r, h, k, q) Q := by
  obtain ⟨vs, h1, -, h3⟩ := rs_cell hI hx hv
  rw [hk] at h1
  refine rs_st (cmp := cmp) hmf hw ?_ hn
  simp only [wk_ex]
  rw [ab_arr h1]
  dsimp only
  rw [h3]
  rfl
/-- a store, seen by the slots -/
theorem rs_set {x i t : Nat} {vs : List Value} {v : Value} (hP : rs_H kd un Gm τ tv wr h0 h k) (hx : τ x ≠ 0) (hc : h[x]? = some (t, vs)) (hi : i < vs.length) (hw : ab_tb wr (ab_bt kd (τ x) i) = true) (hg : ∃ w ∈ Gm (τ x) (ab_gi un (τ x) i), ab_gc τ tv w v) : rs_H kd un Gm τ tv wr h0 (h.set x (t, vs.set i v)) k ∧ ∀ a' i', ab_sl (h.set x (t, vs.set i v)) a' i' = if a' = x ∧ i' = i then some v else ab_sl h a' i' := by
  obtain ⟨p1, p2, p3⟩ := hP
  have hset : ∀ j, (vs.set i v)[j]? = if j = i then some v else vs[j]? := fun j => by
    rw [List.getElem?_set]
    by_cases e : i = j
    · subst e
      rw [if_pos rfl, if_pos hi, if_pos rfl]
    · rw [if_neg e, if_neg (Ne.symm e)]
  have hpm : ab_pm kd τ (fun _ => True) (fun _ => 0) (fun _ => 0) 0 := fun _ _ _ => ⟨fun _ => trivial, rfl, rfl⟩
  have hb0 : ∀ n, ab_tb 0 n = false := fun n => by rw [ab_tb_eq]; exact Nat.zero_testBit n
  have := ab_Hp_up (k := k) (q := 0) (g := (1000, 1000, k, 0)) (P0 := fun _ => 0) (P1 := fun _ => 0) (vs' := vs.set i v) hpm ⟨p1, trivial, p2, p3, Nat.le_refl _, Nat.le_refl _, Nat.le_refl _, Nat.le_refl _⟩ hx hc (List.length_set ..) (fun j y hy => by
    rw [hset] at hy
    by_cases e : j = i
    · rw [if_pos e] at hy
      cases hy
      subst e
      exact Or.inr ⟨hw, hb0 _, hg⟩
    · rw [if_neg e] at hy
      exact Or.inl hy)
  refine ⟨⟨this.1, this.2.2.1, this.2.2.2.1⟩, fun a' i' => ?_⟩
  rw [ab_sl_set hc]
  by_cases e : a' = x
  · rw [if_pos e, hset]
    by_cases e2 : i' = i
    · rw [if_pos e2, if_pos ⟨e, e2⟩]
    · rw [if_neg e2, if_neg (fun z => e2 z.2), e, ab_sl_at hc]
  · rw [if_neg e, if_neg (fun z => e z.1)]
theorem rs_put (hmf : wk_mck fty lk tls mi mf = true) (hw : wk_at mf pc 26 a b c d = true) {x : Nat} {r : List Value} {v : Value} (hP : rs_H kd un Gm τ tv wr h0 h k) (hx : τ x ≠ 0) (hk : (kd (τ x)).1 = a) (hb : b < (kd (τ x)).2) (hf : wk_fit c v = true) (hwr : ab_tb wr (ab_bt kd (τ x) b) = true) (hg : ∃ w ∈ Gm (τ x) (ab_gi un (τ x) b), ab_gc τ tv w v) (hn : ∀ h', rs_H kd un Gm τ tv wr h0 h' k → (∀ a' i', ab_sl h' a' i' = if a' = x ∧ i' = b then some v else ab_sl h a' i') → Rn fty dfl cmp lk ms cx mi (pc + 3, lo, r, h', k, q) Q) : Rn fty dfl cmp lk ms cx mi (pc, lo, v :: .ref x :: r, h, k, q) Q := by
  obtain ⟨vs, h1, h2, -⟩ := hP.1 x hx
  obtain ⟨s1, s2⟩ := rs_set hP hx h1 (by omega) hwr hg
  rw [hk] at h1 s1 s2
  refine rs_st (cmp := cmp) hmf hw ?_ (hn _ s1 s2)
  simp only [wk_ex]
  rw [ab_arr h1]
  dsimp only
  rw [if_pos ⟨by omega, hf⟩]
  rfl
/-- an element: of ints (27, 100), of booleans (28, 101) -/
theorem rs_ald {op t : Nat} (ho : (op = 27 ∧ t = 100) ∨ (op = 28 ∧ t = 101)) (hmf : wk_mck fty lk tls mi mf = true) (hw : wk_at mf pc op a b c d = true) {x : Nat} {r : List Value} {i v : Int32} (hI : ab_I kd un Gm τ tv h) (hx : τ x ≠ 0) (hk : (kd (τ x)).1 = t) (hi : 2147483648 ≤ ab_b i) (hv : ab_sl h x (ab_b i - 2147483648) = some (.int v)) (hn : Rn fty dfl cmp lk ms cx mi (pc + 1, lo, .int v :: r, h, k, q) Q) : Rn fty dfl cmp lk ms cx mi (pc, lo, .int i :: .ref x :: r, h, k, q) Q := by
  obtain ⟨vs, h1, -, h3⟩ := rs_cell hI hx hv
  rw [hk] at h1
  obtain ⟨n1, n2⟩ := ab_ix hi
  have hrd : am_rd vs i = some (.int v) := by
    unfold am_rd
    rw [if_neg n1, n2]
    exact h3
  refine rs_st (cmp := cmp) hmf hw ?_ hn
  rcases ho with ⟨rfl, rfl⟩ | ⟨rfl, rfl⟩ <;> simp only [wk_ex] <;> rw [ab_arr h1] <;> dsimp only <;> rw [hrd] <;> rfl
theorem rs_aal (hcmp : ∀ t, 103 ≤ t → t ≤ 106 → (cmp t).isSome = true) (hmf : wk_mck fty lk tls mi mf = true) (hw : wk_at mf pc 30 a b c d = true) {x : Nat} {r : List Value} {i : Int32} {y : Nat} (hI : ab_I kd un Gm τ tv h) (hx : τ x ≠ 0) (hk : 103 ≤ (kd (τ x)).1 ∧ (kd (τ x)).1 ≤ 106) (hi : 2147483648 ≤ ab_b i) (hv : ab_sl h x (ab_b i - 2147483648) = some (.ref y)) (hn : Rn fty dfl cmp lk ms cx mi (pc + 1, lo, .ref y :: r, h, k, q) Q) : Rn fty dfl cmp lk ms cx mi (pc, lo, .int i :: .ref x :: r, h, k, q) Q := by
  obtain ⟨vs, h1, -, h3⟩ := rs_cell hI hx hv
  obtain ⟨n1, n2⟩ := ab_ix hi
  have hrd : am_rd vs i = some (.ref y) := by
    unfold am_rd
    rw [if_neg n1, n2]
    exact h3
  refine rs_st (cmp := cmp) hmf hw ?_ hn
  simp only [wk_ex]
  rw [h1]
  dsimp only
  rw [if_pos (hcmp _ hk.1 hk.2), hrd]
  rfl
theorem rs_ias (hmf : wk_mck fty lk tls mi mf = true) (hw : wk_at mf pc 31 a b c d = true) {x : Nat} {r : List Value} {i v : Int32} (hP : rs_H kd un Gm τ tv wr h0 h k) (hx : τ x ≠ 0) (hk : (kd (τ x)).1 = 100) (hi : 2147483648 ≤ ab_b i) (hb : ab_b i - 2147483648 < (kd (τ x)).2) (hwr : ab_tb wr (ab_bt kd (τ x) (ab_b i - 2147483648)) = true) (hg : ∃ w ∈ Gm (τ x) (ab_gi un (τ x) (ab_b i - 2147483648)), ab_gc τ tv w (.int v)) (hn : ∀ h', rs_H kd un Gm τ tv wr h0 h' k → (∀ a' i', ab_sl h' a' i' = if a' = x ∧ i' = ab_b i - 2147483648 then some (.int v) else ab_sl h a' i') → Rn fty dfl cmp lk ms cx mi (pc + 1, lo, r, h', k, q) Q) : Rn fty dfl cmp lk ms cx mi (pc, lo, .int v :: .int i :: .ref x :: r, h, k, q) Q := by
  obtain ⟨vs, h1, h2, -⟩ := hP.1 x hx
  obtain ⟨n1, n2⟩ := ab_ix hi
  obtain ⟨s1, s2⟩ := rs_set hP hx h1 (i := ab_b i - 2147483648) (by omega) hwr hg
  rw [hk] at h1 s1 s2
  have hwrt : am_wr h x 100 vs i (.int v) = some (h.set x (100, vs.set (ab_b i - 2147483648) (.int v))) := by
    unfold am_wr
    rw [if_neg n1, n2, if_pos (by omega)]
  refine rs_st (cmp := cmp) hmf hw ?_ (hn _ s1 s2)
  simp only [wk_ex]
  rw [ab_arr h1]
  dsimp only
  rw [hwrt]
  rfl
end RSH
