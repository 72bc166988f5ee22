/-! ===== longs ===== -/
theorem ll_lald {xs : am_O} {pc a k q : Nat} {lo : List (Option Value)} {r vs : List Value} {h : am_H} {x : Int64} {Q : am_R → Prop} (hi : am_ins (am_c am_law) pc = some (.laload, 1)) (e : h[a]? = some (102, vs)) (hv : vs[0]? = some (.long x)) (hn : ll_R xs (pc + 1, lo, .long x :: r, h, k, q) Q) : ll_R xs (pc, lo, .int 0 :: .ref a :: r, h, k, q) Q := by
  have e1 : am_rd vs 0 = some (.long x) := by
    unfold am_rd
    rw [if_neg (by decide)]
    exact hv
  refine ll_st hi ?_ hn
  show (if (1 : Nat) = 1 then (match am_arr h a 102 with
    | some vs => (match am_rd vs 0 with
      | some (.long x) => am_go (pc + 1, lo, .long x :: r, h, k, q)
      | _ => none)
    | none => none) else none) = _
  rw [if_pos rfl, ab_arr e]
  dsimp only
  rw [e1]
  rfl
theorem ll_cmp0 (z : Int64) : lg_cmp z z = 0 := by
  unfold lg_cmp
  rw [if_neg (Int64.lt_irrefl), if_pos rfl]
