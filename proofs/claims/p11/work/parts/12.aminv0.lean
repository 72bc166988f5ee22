/-! ===== each instruction of the abstract machine, on the machine ===== -/
theorem am_bin_inv {n pc k q : Nat} {f : Int32 → Int32 → Option Int32} {lo : List (Option Value)} {st : List Value} {h : am_H} {X : am_X} (he : am_bin n f pc lo st h k q = some X) : n = 1 ∧ ∃ (x y z : Int32) (r : List Value), st = .int y :: .int x :: r ∧ f x y = some z ∧ X = .inl (pc + 1, lo, .int z :: r, h, k, q) := by
  unfold am_bin at he
  split at he
  · rename_i hn
    split at he
    · rename_i y x r
      split at he
      · rename_i z hz
        cases he
        exact ⟨hn, x, y, z, r, rfl, hz, rfl⟩
      · cases he
    · cases he
  · cases he
theorem am_lod_inv {n j len pc k q : Nat} {re : Bool} {lo : List (Option Value)} {st : List Value} {h : am_H} {X : am_X} (he : am_lod n j len re pc lo st h k q = some X) : n = len ∧ ∃ v, lo[j]? = some (some v) ∧ X = .inl (pc + len, lo, v :: st, h, k, q) ∧ ((re = false ∧ ((∃ x, v = .int x) ∨ ∃ z, v = .retAddr (z + 1))) ∨ (re = true ∧ ((∃ a, v = .ref a) ∨ v = .null ∨ v = .retAddr 0))) := by
  unfold am_lod at he
  split at he
  · rename_i hn
    refine ⟨hn, ?_⟩
    split at he
    · rename_i x hv
      cases re with
      | true => cases he
      | false => cases he; exact ⟨_, hv, rfl, Or.inl ⟨rfl, Or.inl ⟨x, rfl⟩⟩⟩
    · rename_i a hv
      cases re with
      | true => cases he; exact ⟨_, hv, rfl, Or.inr ⟨rfl, Or.inl ⟨a, rfl⟩⟩⟩
      | false => cases he
    · rename_i hv
      cases re with
      | true => cases he; exact ⟨_, hv, rfl, Or.inr ⟨rfl, Or.inr (Or.inl rfl)⟩⟩
      | false => cases he
    · rename_i hv
      cases re with
      | true => cases he; exact ⟨_, hv, rfl, Or.inr ⟨rfl, Or.inr (Or.inr rfl)⟩⟩
      | false => cases he
    · rename_i z hv
      cases re with
      | true => cases he
      | false => cases he; exact ⟨_, hv, rfl, Or.inl ⟨rfl, Or.inr ⟨z, rfl⟩⟩⟩
    · cases he
  · cases he
theorem am_sto_inv {n j len pc k q : Nat} {re : Bool} {lo : List (Option Value)} {st : List Value} {h : am_H} {X : am_X} (he : am_sto n j len re pc lo st h k q = some X) : n = len ∧ j < lo.length ∧ ∃ v r, st = v :: r ∧ X = .inl (pc + len, lo.set j (some v), r, h, k, q) ∧ ((re = false ∧ ((∃ x, v = .int x) ∨ ∃ z, v = .retAddr (z + 1))) ∨ (re = true ∧ ((∃ a, v = .ref a) ∨ v = .null))) := by
  unfold am_sto at he
  split at he
  · rename_i hn
    refine ⟨hn, ?_⟩
    split at he
    · rename_i hj
      refine ⟨hj, ?_⟩
      split at he
      · rename_i x r
        cases re with
        | true => cases he
        | false => cases he; exact ⟨_, _, rfl, rfl, Or.inl ⟨rfl, Or.inl ⟨x, rfl⟩⟩⟩
      · rename_i a r
        cases re with
        | true => cases he; exact ⟨_, _, rfl, rfl, Or.inr ⟨rfl, Or.inl ⟨a, rfl⟩⟩⟩
        | false => cases he
      · rename_i r
        cases re with
        | true => cases he; exact ⟨_, _, rfl, rfl, Or.inr ⟨rfl, Or.inr rfl⟩⟩
        | false => cases he
      · rename_i z r
        cases re with
        | true => cases he
        | false => cases he; exact ⟨_, _, rfl, rfl, Or.inl ⟨rfl, Or.inr ⟨z, rfl⟩⟩⟩
      · cases he
    · cases he
  · cases he
theorem am_and_inv {os : List (Nat × Int32 × Int32)} {n pc k q : Nat} {lo : List (Option Value)} {st : List Value} {h : am_H} {X : am_X} (he : am_and os n pc lo st h k q = some X) : n = 1 ∧ ∃ (y z : Int32) (v : Value) (r : List Value), st = .int y :: v :: r ∧ X = .inl (pc + 1, lo, .int z :: r, h, k, q) ∧ ((∃ x, v = .int x ∧ z = x &&& y) ∨ ∃ j, v = .retAddr (j + 1) ∧ am_oa os j y = some z) := by
  unfold am_and at he
  split at he
  · rename_i hn
    split at he
    · rename_i y x r
      cases he
      exact ⟨hn, y, _, _, r, rfl, rfl, Or.inl ⟨x, rfl, rfl⟩⟩
    · rename_i y j r
      split at he
      · rename_i z hz
        cases he
        exact ⟨hn, y, z, _, r, rfl, rfl, Or.inr ⟨j, rfl, hz⟩⟩
      · cases he
    · cases he
  · cases he
theorem am_to_inv {pc k q : Nat} {off : Int} {lo : List (Option Value)} {st : List Value} {h : am_H} {X : am_X} (he : am_to pc off lo st h k q = some X) : ∃ t : Nat, (pc : Int) + off = (t : Int) ∧ X = .inl (t, lo, st, h, k, q) := by
  unfold am_to at he
  split at he
  · rename_i t ht
    cases he
    exact ⟨t, ht, rfl⟩
  · cases he
theorem am_br_inv {pc k q : Nat} {bb : Bool} {off : Int} {lo : List (Option Value)} {st : List Value} {h : am_H} {X : am_X} (he : am_br bb pc off lo st h k q = some X) : ∃ t : Nat, (pc : Int) + off = (t : Int) ∧ X = .inl (bif bb then t else pc + 3, lo, st, h, k, q) := by
  unfold am_br at he
  split at he
  · rename_i t ht
    cases he
    exact ⟨t, ht, rfl⟩
  · cases he
theorem am_new_inv {n t len pc k q : Nat} {dv : Value} {lo : List (Option Value)} {st : List Value} {h : am_H} {X : am_X} (he : am_new n t dv len pc lo st h k q = some X) : n = len ∧ ∃ (x : Int32) (r : List Value), st = .int x :: r ∧ ¬ x < 0 ∧ x.toNatClampNeg ≤ 1000 ∧ X = .inl (pc + len, lo, .ref h.length :: r, h ++ [(100 + t, List.replicate x.toNatClampNeg dv)], k + 1, q + x.toNatClampNeg) := by
  unfold am_new at he
  split at he
  · rename_i hn
    split at he
    · rename_i x r
      split at he
      · cases he
      · rename_i h0
        split at he
        · rename_i hx
          cases he
          exact ⟨hn, x, r, rfl, h0, hx, rfl⟩
        · cases he
    · cases he
  · cases he
def am_kf : List (Nat × am_K) → Nat → Option am_K
  | [], _ => none
  | (i, k) :: t, ix => bif Nat.beq i ix then some k else am_kf t ix
