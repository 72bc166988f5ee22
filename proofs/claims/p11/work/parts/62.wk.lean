/-! ===== words of code over the abstract machine's own data ===== -/
def wk_c (c : Nat) (x y : Int32) : Bool := match c with
  | 0 => decide (x = y)
  | 1 => !decide (x = y)
  | 2 => decide (x < y)
  | 3 => decide (y ≤ x)
  | 4 => decide (y < x)
  | _ => decide (x ≤ y)
theorem wk_c_eq (c : ClassFile.Cond) (x y : Int32) : wk_c (am_cc c) x y = am_cnd c x y := by cases c <;> rfl
def wk_fit (c : Nat) (v : Value) : Bool := match c, v with
  | 0, .int _ => true
  | 1, .int x => am_bit x
  | 2, .long _ => true
  | 3, v => am_isR v
  | _, _ => false
/-- what the word says, where nothing of the script is asked -/
def wk_ex (tls : Nat → List Nat) (cmp : Nat → Option (Option Nat)) (op a b c d pc : Nat) (lo : List (Option Value)) (st : List Value) (h : am_H) (k q : Nat) : Option am_X := match op with
  | 1 => am_go (pc + b, lo, .int (Int32.ofNat (a / 8)) :: st, h, k, q)
  | 2 => match lo[a]? with
    | some (some (.int x)) => am_go (pc + b, lo, .int x :: st, h, k, q)
    | _ => none
  | 3 => match lo[a]? with
    | some (some (.ref x)) => am_go (pc + b, lo, .ref x :: st, h, k, q)
    | _ => none
  | 4 => match st with
    | .int x :: r => if a < lo.length then am_go (pc + b, lo.set a (some (.int x)), r, h, k, q) else none
    | _ => none
  | 5 => match st with
    | .ref x :: r => if a < lo.length then am_go (pc + b, lo.set a (some (.ref x)), r, h, k, q) else none
    | _ => none
  | 6 => match lo[a]? with
    | some (some (.int x)) => am_go (pc + 3, lo.set a (some (.int (x + Int32.ofNat b))), st, h, k, q)
    | _ => none
  | 7 => am_bin 1 (fun x y => some (x + y)) pc lo st h k q
  | 8 => am_bin 1 (fun x y => some (x - y)) pc lo st h k q
  | 9 => am_bin 1 (fun x y => some (x * y)) pc lo st h k q
  | 10 => am_bin 1 (fun x y => some (x &&& y)) pc lo st h k q
  | 11 => am_bin 1 (fun x y => some (x ||| y)) pc lo st h k q
  | 12 => am_bin 1 (fun x y => if y = 0 then none else some (x / y)) pc lo st h k q
  | 13 => am_bin 1 (fun x y => if y = 0 then none else some (x - x / y * y)) pc lo st h k q
  | 14 => am_bin 1 (fun x y => some (x <<< (y &&& 31))) pc lo st h k q
  | 15 => am_bin 1 (fun x y => some (x >>> (y &&& 31))) pc lo st h k q
  | 16 => match st with
    | .int x :: r => am_go (pc + 1, lo, .long x.toInt64 :: r, h, k, q)
    | _ => none
  | 18 => match st with
    | v :: r => if v.category = 1 then am_go (pc + 1, lo, v :: v :: r, h, k, q) else none
    | _ => none
  | 19 => match st with
    | v :: w :: r => if v.category = 1 ∧ w.category = 1 then am_go (pc + 1, lo, v :: w :: v :: w :: r, h, k, q) else none
    | _ => none
  | 20 => match st with
    | v :: r => if v.category = 1 then am_go (pc + 1, lo, r, h, k, q) else none
    | _ => none
  | 21 => am_go (a, lo, st, h, k, q)
  | 22 => match st with
    | .int x :: r => am_go (bif wk_c a x 0 then b else pc + 3, lo, r, h, k, q)
    | _ => none
  | 23 => match st with
    | .int y :: .int x :: r => am_go (bif wk_c a x y then b else pc + 3, lo, r, h, k, q)
    | _ => none
  | 24 => match st with
    | .int x :: r => if x < 0 then am_go (a, lo, r, h, k, q) else am_go (((tls b)[x.toNatClampNeg]?).getD a, lo, r, h, k, q)
    | _ => none
  | 25 => match st with
    | .ref x :: r => match am_arr h x a with
      | some vs => match vs[b]? with
        | some v => am_go (pc + 3, lo, v :: r, h, k, q)
        | none => none
      | none => none
    | _ => none
  | 26 => match st with
    | v :: .ref x :: r => match am_arr h x a with
      | some vs => if b < vs.length ∧ wk_fit c v = true then am_go (pc + 3, lo, r, h.set x (a, vs.set b v), k, q) else none
      | none => none
    | _ => none
  | 27 => match st with
    | .int i :: .ref x :: r => match am_arr h x 100 with
      | some vs => match am_rd vs i with
        | some (.int z) => am_go (pc + 1, lo, .int z :: r, h, k, q)
        | _ => none
      | none => none
    | _ => none
  | 28 => match st with
    | .int i :: .ref x :: r => match am_arr h x 101 with
      | some vs => match am_rd vs i with
        | some (.int z) => am_go (pc + 1, lo, .int z :: r, h, k, q)
        | _ => none
      | none => none
    | _ => none
  | 30 => match st with
    | .int i :: .ref x :: r => match h[x]? with
      | some e => if (cmp e.1).isSome = true then match am_rd e.2 i with
        | some (.ref y) => am_go (pc + 1, lo, .ref y :: r, h, k, q)
        | _ => none
        else none
      | none => none
    | _ => none
  | 31 => match st with
    | .int z :: .int i :: .ref x :: r => match am_arr h x 100 with
      | some vs => match am_wr h x 100 vs i (.int z) with
        | some h' => am_go (pc + 1, lo, r, h', k, q)
        | none => none
      | none => none
    | _ => none
  | 32 => match st with
    | .int z :: .int i :: .ref x :: r => match am_arr h x 101 with
      | some vs => if am_bit z = true then match am_wr h x 101 vs i (.int z) with
        | some h' => am_go (pc + 1, lo, r, h', k, q)
        | none => none
        else none
      | none => none
    | _ => none
  | 33 => match st with
    | .long z :: .int i :: .ref x :: r => match am_arr h x 102 with
      | some vs => match am_wr h x 102 vs i (.long z) with
        | some h' => am_go (pc + 1, lo, r, h', k, q)
        | none => none
      | none => none
    | _ => none
  | 34 => match st with
    | .ref v :: .int i :: .ref x :: r => match h[x]?, h[v]? with
      | some e, some cv => if cmp e.1 = some (some cv.1) then match am_wr h x e.1 e.2 i (.ref v) with
        | some h' => am_go (pc + 1, lo, r, h', k, q)
        | none => none
        else none
      | _, _ => none
    | _ => none
  | 35 => match st with
    | .ref x :: r => match h[x]? with
      | some e => if e.1 = 100 ∨ e.1 = 101 ∨ e.1 = 102 ∨ (cmp e.1).isSome = true then am_go (pc + 1, lo, .int (Int32.ofNat e.2.length) :: r, h, k, q) else none
      | none => none
    | _ => none
  | 39 => if am_cat st ≤ 4 then some (.inr (.inl (.inr h.length, h ++ [(a, [])], k + 1, q + 6))) else none
  | 40 => am_ask (0, a, b, (d : Int)) c pc lo st h k q
  | 41 => match st with
    | .int y :: .int x :: r => if am_cat r ≤ 8 then am_go (pc + 3, lo, .int (if y < x then y else x) :: r, h, k, q) else none
    | _ => none
  | 42 => match st with
    | .int y :: .int x :: r => if am_cat r ≤ 8 then am_go (pc + 3, lo, .int (if x < y then y else x) :: r, h, k, q) else none
    | _ => none
  | 44 => match st with
    | [.int x] => if a = 0 ∨ am_bit x = true then some (.inr (.inl (.inl (some (.int x)), h, k, q))) else none
    | _ => none
  | 45 => match st with
    | [.ref x] => some (.inr (.inl (.inl (some (.ref x)), h, k, q)))
    | _ => none
  | 46 => match st with
    | [] => some (.inr (.inl (.inl none, h, k, q)))
    | _ => none
  | 47 => am_bin 1 (fun x y => some ((x.toUInt32 >>> (y &&& 31).toUInt32).toInt32)) pc lo st h k q
  | 49 => match st with
    | .int n :: .int dp :: .ref y :: .int sp :: .ref x :: r => if am_cat r ≤ 0 then match am_arr h x 100, am_arr h y 100 with
      | some us, some vs => if ¬ sp < 0 ∧ ¬ dp < 0 ∧ ¬ n < 0 ∧ sp.toNatClampNeg + n.toNatClampNeg ≤ us.length ∧ dp.toNatClampNeg + n.toNatClampNeg ≤ vs.length then am_go (pc + 3, lo, r, h.set y (100, am_cpy us vs sp.toNatClampNeg dp.toNatClampNeg n.toNatClampNeg), k, q) else none
      | _, _ => none
      else none
    | _ => none
  | _ => none
/-- does the word say the instruction -/
def wk_ck (fty : Nat → Nat → Option FieldType) (lk : Nat → Nat → Option am_K) (tls : Nat → List Nat) (mi : am_M) (pc : Nat) (i : Instr) (n op a b c d : Nat) : Bool := match i with
  | .iconst z => decide (op = 1 ∧ n = 1 ∧ b = 1 ∧ Int32.ofNat (a / 8) = Int32.ofInt z)
  | .bipush z => decide (op = 1 ∧ n = 2 ∧ b = 2 ∧ Int32.ofNat (a / 8) = (Int8.ofInt z).toInt32)
  | .sipush z => decide (op = 1 ∧ n = 3 ∧ b = 3 ∧ Int32.ofNat (a / 8) = (Int16.ofInt z).toInt32)
  | .ldc ix => match lk (am_o mi) ix with
    | some kk => decide (op = 1 ∧ n = 2 ∧ b = 2 ∧ kk.1 = 12 ∧ Int32.ofNat (a / 8) = Int32.ofInt kk.2.2.2)
    | none => false
  | .ldc_w ix => match lk (am_o mi) ix with
    | some kk => decide (op = 1 ∧ n = 3 ∧ b = 3 ∧ kk.1 = 12 ∧ Int32.ofNat (a / 8) = Int32.ofInt kk.2.2.2)
    | none => false
  | .iload j => decide (op = 2 ∧ n = 2 ∧ b = 2 ∧ a = j)
  | .iload_n j => decide (op = 2 ∧ n = 1 ∧ b = 1 ∧ a = j.val)
  | .aload j => decide (op = 3 ∧ n = 2 ∧ b = 2 ∧ a = j)
  | .aload_n j => decide (op = 3 ∧ n = 1 ∧ b = 1 ∧ a = j.val)
  | .istore j => decide (op = 4 ∧ n = 2 ∧ b = 2 ∧ a = j)
  | .istore_n j => decide (op = 4 ∧ n = 1 ∧ b = 1 ∧ a = j.val)
  | .astore j => decide (op = 5 ∧ n = 2 ∧ b = 2 ∧ a = j)
  | .astore_n j => decide (op = 5 ∧ n = 1 ∧ b = 1 ∧ a = j.val)
  | .iinc j z => decide (op = 6 ∧ n = 3 ∧ a = j ∧ Int32.ofInt z = Int32.ofNat b)
  | .iadd => decide (op = 7 ∧ n = 1)
  | .isub => decide (op = 8 ∧ n = 1)
  | .imul => decide (op = 9 ∧ n = 1)
  | .iand => decide (op = 10 ∧ n = 1)
  | .ior => decide (op = 11 ∧ n = 1)
  | .idiv => decide (op = 12 ∧ n = 1)
  | .irem => decide (op = 13 ∧ n = 1)
  | .ishl => decide (op = 14 ∧ n = 1)
  | .ishr => decide (op = 15 ∧ n = 1)
  | .iushr => decide (op = 47 ∧ n = 1)
  | .i2l => decide (op = 16 ∧ n = 1)
  | .dup => decide (op = 18 ∧ n = 1)
  | .dup2 => decide (op = 19 ∧ n = 1)
  | .pop => decide (op = 20 ∧ n = 1)
  | .goto off => decide (op = 21 ∧ n = 3 ∧ (pc : Int) + off = (a : Int))
  | .ifCond cd off => decide (op = 22 ∧ n = 3 ∧ a = am_cc cd ∧ (pc : Int) + off = (b : Int))
  | .if_icmp cd off => decide (op = 23 ∧ n = 3 ∧ a = am_cc cd ∧ (pc : Int) + off = (b : Int))
  | .tableswitch dd lo hi offs => decide (op = 24 ∧ lo = 0 ∧ hi + 1 = ((tls b).length : Int) ∧ (pc : Int) + dd = (a : Int) ∧ offs.toList.map (fun z => (pc : Int) + z) = (tls b).map (fun t : Nat => (t : Int)))
  | .lookupswitch dd ps => decide (op = 24 ∧ (pc : Int) + dd = (a : Int) ∧ ps.toList = ((List.range (tls b).length).zip (tls b)).map (fun p : Nat × Nat => ((p.1 : Int), (p.2 : Int) - (pc : Int))))
  | .getfield ix => match lk (am_o mi) ix with
    | some kk => decide (op = 25 ∧ n = 3 ∧ kk.1 ≤ 4 ∧ a = kk.2.1 ∧ b = kk.2.2.1)
    | none => false
  | .putfield ix => match lk (am_o mi) ix with
    | some kk => decide (op = 26 ∧ n = 3 ∧ (kk.1 ≤ 1 ∨ (kk.1 = 2 ∧ (am_y mi).name = "<init>")) ∧ a = kk.2.1 ∧ b = kk.2.2.1) && (match fty a b with
      | some .int => decide (c = 0)
      | some .boolean => decide (c = 1)
      | some .long => decide (c = 2)
      | some (.object _) => decide (c = 3)
      | some (.array _) => decide (c = 3)
      | _ => false)
    | none => false
  | .iaload => decide (op = 27 ∧ n = 1)
  | .baload => decide (op = 28 ∧ n = 1)
  | .aaload => decide (op = 30 ∧ n = 1)
  | .iastore => decide (op = 31 ∧ n = 1)
  | .bastore => decide (op = 32 ∧ n = 1)
  | .lastore => decide (op = 33 ∧ n = 1)
  | .aastore => decide (op = 34 ∧ n = 1)
  | .arraylength => decide (op = 35 ∧ n = 1)
  | .new ix => match lk (am_o mi) ix with
    | some kk => decide (op = 39 ∧ n = 3 ∧ kk.1 = 13 ∧ (am_h mi).length = 0 ∧ a = kk.2.1 ∧ (am_thr lk mi kk pc [.int 0, .int 0, .int 0, .int 0] [] 0 0).isSome = true)
    | none => false
  | .invokevirtual ix => match lk (am_o mi) ix with
    | some kk => decide (op = 40 ∧ n = 3 ∧ (kk.1 = 20 ∨ kk.1 = 21) ∧ a = kk.2.1 ∧ b = kk.2.2.1 ∧ c = 2 ∧ kk.2.2.2 = (d : Int))
    | none => false
  | .invokestatic ix => match lk (am_o mi) ix with
    | some kk => bif Nat.beq op 40 then decide (n = 3 ∧ (kk.1 = 22 ∨ kk.1 = 23) ∧ a = kk.2.1 ∧ b = kk.2.2.1 ∧ c = 0) else bif Nat.beq op 41 then decide (n = 3 ∧ kk.1 = 27 ∧ 1 ≤ am_f mi ∧ 21 ≤ am_w mi) else bif Nat.beq op 42 then decide (n = 3 ∧ kk.1 = 28 ∧ 1 ≤ am_f mi ∧ 21 ≤ am_w mi) else decide (op = 49 ∧ n = 3 ∧ kk.1 = 29 ∧ 1 ≤ am_f mi ∧ 40 ≤ am_w mi)
    | none => false
  | .invokespecial ix => match lk (am_o mi) ix with
    | some kk => decide (op = 40 ∧ n = 3 ∧ (kk.1 = 24 ∨ kk.1 = 25) ∧ a = kk.2.1 ∧ b = kk.2.2.1 ∧ c = 1)
    | none => false
  | .ireturn => decide (op = 44 ∧ n = 1 ∧ ((a = 0 ∧ am_r mi = some .int) ∨ (a = 1 ∧ am_r mi = some .boolean)))
  | .areturn => match am_r mi with
    | some (.object _) => decide (op = 45 ∧ n = 1)
    | _ => false
  | .return_ => decide (op = 46 ∧ n = 1 ∧ am_r mi = none)
  | _ => false
section WKS
variable {fty : Nat → Nat → Option FieldType} {dfl : Nat → Option (List Value)} {cmp : Nat → Option (Option Nat)} {lk : Nat → Nat → Option am_K} {mi : am_M} {xs : am_O} {tls : Nat → List Nat} {a b c d pc k q : Nat} {lo : List (Option Value)} {st : List Value} {h : am_H} {X : am_X}
theorem wk_lod {n j : Nat} (h0 : (match lo[j]? with | some (some (.int x)) => am_go (pc + n, lo, .int x :: st, h, k, q) | _ => none) = some X) : am_lod n j n false pc lo st h k q = some X := by
  unfold am_lod
  rw [if_pos rfl]
  split at h0
  · rename_i x hx
    rw [hx]
    exact h0
  · cases h0
theorem wk_lodr {n j : Nat} (h0 : (match lo[j]? with | some (some (.ref x)) => am_go (pc + n, lo, .ref x :: st, h, k, q) | _ => none) = some X) : am_lod n j n true pc lo st h k q = some X := by
  unfold am_lod
  rw [if_pos rfl]
  split at h0
  · rename_i x hx
    rw [hx]
    exact h0
  · cases h0
theorem wk_sto {n j : Nat} (h0 : (match st with | .int x :: r => if j < lo.length then am_go (pc + n, lo.set j (some (.int x)), r, h, k, q) else none | _ => none) = some X) : am_sto n j n false pc lo st h k q = some X := by
  unfold am_sto
  rw [if_pos rfl]
  split at h0
  · split at h0
    · rename_i hj
      rw [if_pos hj]
      exact h0
    · cases h0
  · cases h0
theorem wk_stor {n j : Nat} (h0 : (match st with | .ref x :: r => if j < lo.length then am_go (pc + n, lo.set j (some (.ref x)), r, h, k, q) else none | _ => none) = some X) : am_sto n j n true pc lo st h k q = some X := by
  unfold am_sto
  rw [if_pos rfl]
  split at h0
  · split at h0
    · rename_i hj
      rw [if_pos hj]
      exact h0
    · cases h0
  · cases h0
theorem wk_and (h0 : am_bin 1 (fun x y => some (x &&& y)) pc lo st h k q = some X) : am_and xs.2.2.2 1 pc lo st h k q = some X := by
  unfold am_bin at h0
  unfold am_and
  rw [if_pos rfl] at h0 ⊢
  split at h0
  · exact h0
  · cases h0
theorem wk_br {t : Bool} {off : Int} (hb : (pc : Int) + off = (b : Int)) : am_br t pc off lo st h k q = am_go (bif t then b else pc + 3, lo, st, h, k, q) := by
  unfold am_br
  rw [hb]
theorem wk_fit_ok {ty : FieldType} {v : Value} (hc : (match some ty with
      | some .int => decide (c = 0)
      | some .boolean => decide (c = 1)
      | some .long => decide (c = 2)
      | some (.object _) => decide (c = 3)
      | some (.array _) => decide (c = 3)
      | _ => false) = true) (hf : wk_fit c v = true) : am_fit ty v = true := by
  cases ty
  case int => have := of_decide_eq_true hc; subst this; cases v <;> first | rfl | cases hf
  case boolean => have := of_decide_eq_true hc; subst this; cases v <;> first | exact hf | cases hf
  case long => have := of_decide_eq_true hc; subst this; cases v <;> first | rfl | cases hf
  case object => have := of_decide_eq_true hc; subst this; cases v <;> first | rfl | cases hf
  case array => have := of_decide_eq_true hc; subst this; cases v <;> first | rfl | cases hf
  all_goals cases hc
theorem wk_thr {ix : Nat} {kk : am_K} (hl : lk (am_o mi) ix = some kk) (h13 : kk.1 = 13) (hh : am_h mi = []) (hT : (am_thr lk mi kk pc [.int 0, .int 0, .int 0, .int 0] [] 0 0).isSome = true) (hs : am_cat st ≤ 4) : am_exec fty dfl cmp lk xs mi (.new ix) 3 pc lo st h k q = some (.inr (.inl (.inr h.length, h ++ [(kk.2.1, [])], k + 1, q + 6))) := by
  obtain ⟨X, hT⟩ := Option.isSome_iff_exists.mp hT
  obtain ⟨f1, f2, f3, is, ic, d, ks, kc, f4, f5, f6, f7, f8, f9, f10, f11, -⟩ := am_thr_inv hT
  have f2 : 100 + 4 ≤ am_w mi := f2
  simp only [am_exec]
  rw [if_pos trivial, hl]
  dsimp only
  rw [if_neg (by rw [h13]; decide), if_pos ⟨h13, hh⟩]
  unfold am_thr
  rw [if_pos ⟨f1, by omega, f3⟩]
  rcases f4 with ⟨rfl, f4⟩ | ⟨rfl, f4⟩
  · have f5 : am_ins (am_c mi) (pc + 6) = some (.invokespecial ic, 3) := f5
    have f6 : am_ins (am_c mi) (pc + 9) = some (.athrow, 1) := f6
    rw [f4]
    dsimp only
    rw [if_pos ⟨rfl, f6⟩, f5]
    dsimp only
    rw [if_pos rfl, f7, f8]
    dsimp only
    rw [if_pos ⟨f9, f10, f11⟩]
  · have f5 : am_ins (am_c mi) (pc + 7) = some (.invokespecial ic, 3) := f5
    have f6 : am_ins (am_c mi) (pc + 10) = some (.athrow, 1) := f6
    rw [f4]
    dsimp only
    rw [if_pos ⟨rfl, f6⟩, f5]
    dsimp only
    rw [if_pos rfl, f7, f8]
    dsimp only
    rw [if_pos ⟨f9, f10, f11⟩]
theorem wk_sw_nn {x : Int32} (hx : ¬ x < 0) : x.toInt = ((x.toNatClampNeg : Nat) : Int) := by
  have hz0 : (0 : Int) ≤ x.toInt := by
    have := Int32.not_lt.mp hx
    simpa using Int32.le_iff_toInt_le.mp this
  show x.toInt = ((x.toInt.toNat : Nat) : Int)
  omega
theorem wk_tsw {n : Nat} {dd hi : Int} {offs : Array Int} {tl : List Nat} (hhi : hi + 1 = (tl.length : Int)) (hd : (pc : Int) + dd = (a : Int)) (hts : offs.toList.map (fun z => (pc : Int) + z) = tl.map (fun t : Nat => (t : Int))) {x : Int32} {r : List Value} : am_exec fty dfl cmp lk xs mi (.tableswitch dd 0 hi offs) n pc lo (.int x :: r) h k q = if x < 0 then am_go (a, lo, r, h, k, q) else am_go ((tl[x.toNatClampNeg]?).getD a, lo, r, h, k, q) := by
  simp only [am_exec]
  have hln : offs.size = tl.length := by
    have := congrArg List.length hts
    simpa using this
  by_cases hx : x < 0
  · have : x.toInt < 0 := by simpa using Int32.lt_iff_toInt_lt.mp hx
    rw [if_pos hx, if_pos (Or.inl this)]
    unfold am_to
    rw [hd]
  · rw [if_neg hx]
    have hnn := wk_sw_nn hx
    rw [hnn]
    by_cases hlt : x.toNatClampNeg < tl.length
    · rw [if_neg (by omega)]
      have e1 : (((x.toNatClampNeg : Nat) : Int) - 0).toNat = x.toNatClampNeg := by omega
      rw [e1]
      have hlt2 : x.toNatClampNeg < offs.size := by omega
      have e2 : offs[x.toNatClampNeg]? = some offs[x.toNatClampNeg] := Array.getElem?_eq_getElem hlt2
      rw [e2]
      dsimp only
      have e3 := congrArg (fun l : List Int => l[x.toNatClampNeg]?) hts
      simp only [List.getElem?_map] at e3
      have e4 : offs.toList[x.toNatClampNeg]? = some offs[x.toNatClampNeg] := by rw [Array.getElem?_toList]; exact e2
      rw [e4, List.getElem?_eq_getElem hlt] at e3
      have e5 : (pc : Int) + offs[x.toNatClampNeg] = ((tl[x.toNatClampNeg] : Nat) : Int) := Option.some.inj e3
      unfold am_to
      rw [e5, List.getElem?_eq_getElem hlt]
      rfl
    · rw [if_pos (by omega)]
      unfold am_to
      rw [hd, List.getElem?_eq_none (by omega)]
      rfl
theorem wk_lk_off (pc : Int) (dd : Int) : ∀ (tl : List Nat) (j x : Nat), Op.lookupswitch.offset (((List.range' j tl.length).zip tl).map (fun p : Nat × Nat => ((p.1 : Int), (p.2 : Int) - pc))) dd ((j + x : Nat) : Int) = match tl[x]? with
    | some t => (t : Int) - pc
    | none => dd
  | [], j, x => by simp [Op.lookupswitch.offset_nil]
  | t :: tl, j, x => by
    rw [List.length_cons, List.range'_succ, List.zip_cons_cons, List.map_cons, Op.lookupswitch.offset_cons]
    cases x with
    | zero => simp
    | succ x =>
      rw [if_neg (by simp only; omega)]
      have := wk_lk_off pc dd tl (j + 1) x
      have e : ((j + (x + 1) : Nat) : Int) = ((j + 1 + x : Nat) : Int) := by omega
      rw [e, this]
      simp
theorem wk_lk_neg (pc dd : Int) : ∀ (tl : List Nat) (j : Nat) (x : Int), x < 0 → Op.lookupswitch.offset (((List.range' j tl.length).zip tl).map (fun p : Nat × Nat => ((p.1 : Int), (p.2 : Int) - pc))) dd x = dd
  | [], j, x, _ => by simp [Op.lookupswitch.offset_nil]
  | t :: tl, j, x, hx => by
    rw [List.length_cons, List.range'_succ, List.zip_cons_cons, List.map_cons, Op.lookupswitch.offset_cons, if_neg (by simp only; omega)]
    exact wk_lk_neg pc dd tl (j + 1) x hx
theorem wk_lk_ord (pc : Int) : ∀ (tl : List Nat) (j : Nat), ((((List.range' j tl.length).zip tl).map (fun p : Nat × Nat => ((p.1 : Int), (p.2 : Int) - pc))).zip ((((List.range' j tl.length).zip tl).map (fun p : Nat × Nat => ((p.1 : Int), (p.2 : Int) - pc))).drop 1)).all (fun (a, next) => a.1 < next.1) = true
  | [], j => rfl
  | [t], j => rfl
  | t :: t' :: tl, j => by
    have ih := wk_lk_ord pc (t' :: tl) (j + 1)
    simp only [List.length_cons, List.range'_succ, List.zip_cons_cons, List.map_cons, List.drop_succ_cons, List.drop_zero, List.all_cons, Bool.and_eq_true, decide_eq_true_eq] at ih ⊢
    refine ⟨by omega, ?_⟩
    exact ih
theorem wk_lsw {n : Nat} {dd : Int} {ps : Array (Int × Int)} {tl : List Nat} (hd : (pc : Int) + dd = (a : Int)) (hps : ps.toList = ((List.range tl.length).zip tl).map (fun p : Nat × Nat => ((p.1 : Int), (p.2 : Int) - (pc : Int)))) {x : Int32} {r : List Value} : am_exec fty dfl cmp lk xs mi (.lookupswitch dd ps) n pc lo (.int x :: r) h k q = if x < 0 then am_go (a, lo, r, h, k, q) else am_go ((tl[x.toNatClampNeg]?).getD a, lo, r, h, k, q) := by
  simp only [am_exec]
  rw [List.range_eq_range'] at hps
  rw [hps, if_pos (wk_lk_ord _ tl 0)]
  by_cases hx : x < 0
  · have : x.toInt < 0 := by simpa using Int32.lt_iff_toInt_lt.mp hx
    rw [if_pos hx, wk_lk_neg _ _ _ _ _ this]
    unfold am_to
    rw [hd]
  · rw [if_neg hx, wk_sw_nn hx]
    have := wk_lk_off (pc : Int) dd tl 0 x.toNatClampNeg
    rw [Nat.zero_add] at this
    rw [this]
    unfold am_to
    cases tl[x.toNatClampNeg]? with
    | none => dsimp only; rw [hd]; rfl
    | some t =>
      dsimp only
      have e : (pc : Int) + ((t : Int) - (pc : Int)) = (t : Int) := by omega
      rw [e]
      rfl
end WKS
