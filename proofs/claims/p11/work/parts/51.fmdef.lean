/-! ===== a fast machine: the abstract machine, its values, locals and heap in numbers ===== -/
/-- n cells, of m slots in all; T: for each cell its tag, its length, where its slots begin; M: the slots -/
abbrev fm_H : Type := Nat × Nat × Nat × Nat
abbrev fm_n (H : fm_H) : Nat := H.1
abbrev fm_m (H : fm_H) : Nat := H.2.1
abbrev fm_T (H : fm_H) : Nat := H.2.2.1
abbrev fm_Mm (H : fm_H) : Nat := H.2.2.2
/-- pc, locals, stack, heap, cells and slots made -/
abbrev fm_S : Type := Nat × Nat × List Nat × fm_H × Nat × Nat
abbrev fm_R : Type := (Option Nat ⊕ Nat) × fm_H × Nat × Nat
abbrev fm_X : Type := Option (fm_S ⊕ (fm_R ⊕ (Nat × List Nat × fm_S)))
abbrev fm_bad : fm_X := none
abbrev fm_go (pc L : Nat) (st : List Nat) (H : fm_H) (k q : Nat) : fm_X := some (.inl (pc, L, st, H, k, q))
abbrev fm_ret (v : Option Nat) (H : fm_H) (k q : Nat) : fm_X := some (.inr (.inl (.inl v, H, k, q)))
abbrev fm_thr (x : Nat) (H : fm_H) (k q : Nat) : fm_X := some (.inr (.inl (.inr x, H, k, q)))
abbrev fm_ask (j : Nat) (as : List Nat) (pc L : Nat) (st : List Nat) (H : fm_H) (k q : Nat) : fm_X := some (.inr (.inr (j, as, (pc, L, st, H, k, q))))
/-- codes: 8u+1 an int, 8a+2 a reference, 3 null, 8u+4 a long that was an int, 8n+5 an int that isn't known, 6 the script; 0 nothing -/
def fm_d (c v : Nat) : Value := match v % 8 with
  | 1 => .int (Int32.ofNat (v / 8))
  | 2 => .ref (c + v / 8)
  | 4 => .long (Int32.ofNat (v / 8)).toInt64
  | 5 => .retAddr (v / 8 + 1)
  | 6 => .retAddr 0
  | _ => .null
def fm_dl (c v : Nat) : Option Value := if v = 0 then none else some (fm_d c v)
def fm_tg (T k : Nat) : Nat := Nat.mod (fm_g T k) 128
def fm_ln (T k : Nat) : Nat := Nat.mod (Nat.shiftRight (fm_g T k) 7) 1024
def fm_of (T k : Nat) : Nat := Nat.shiftRight (fm_g T k) 17
def fm_cell (c : Nat) (T M k : Nat) : am_C := (fm_tg T k, (List.range (fm_ln T k)).map fun j => fm_d c (fm_g M (fm_of T k + j)))
def fm_ah (hp : am_H) (H : fm_H) : am_H := hp ++ (List.range H.1).map (fm_cell hp.length H.2.2.1 H.2.2.2)
def fm_lo (c nL L : Nat) : List (Option Value) := (List.range nL).map fun j => fm_dl c (fm_g L j)
/-- cells lie one behind another -/
def fm_ok (H : fm_H) : Prop := ∀ k, k < H.1 → fm_of H.2.2.1 k + fm_ln H.2.2.1 k ≤ H.2.1 ∧ ∀ j, j < k → fm_of H.2.2.1 j + fm_ln H.2.2.1 j ≤ fm_of H.2.2.1 k
/-- one more cell, with a block of slots -/
def fm_al (H : fm_H) (t x P : Nat) : fm_H := (Nat.add H.1 1, Nat.add H.2.1 x, fm_b H.2.2.1 H.1 (Nat.add t (Nat.shiftLeft (Nat.add x (Nat.shiftLeft H.2.1 10)) 7)), fm_b H.2.2.2 H.2.1 P)
def fm_st (H : fm_H) (p v : Nat) : fm_H := (H.1, H.2.1, H.2.2.1, fm_s H.2.2.2 p v)
/-- the slot of a cell, if it is of that tag and so long -/
def fm_at (H : fm_H) (a t i : Nat) : Bool := Nat.blt a H.1 && Nat.beq (fm_tg H.2.2.1 a) t && Nat.blt i (fm_ln H.2.2.1 a)
def fm_rp (d : Nat) : Nat → Nat
  | 0 => 0
  | x + 1 => Nat.add d (Nat.shiftLeft (fm_rp d x) 36)
def fm_iv (v : Nat) : Bool := Nat.beq (Nat.mod v 8) 1
def fm_rv (v : Nat) : Bool := Nat.beq (Nat.mod v 8) 2
def fm_sm (v : Nat) : Bool := Nat.blt v 68719476736 && not (Nat.beq v 0)
def fm_ix (v : Nat) : Bool := Nat.beq (Nat.mod v 8) 1 && Nat.blt v 17179869184
def fm_mk (u : Nat) : Nat := Nat.add (Nat.mul 8 (Nat.mod u 4294967296)) 1
def fm_cat1 : List Nat → Bool
  | [] => true
  | v :: t => not (Nat.beq (Nat.mod v 8) 4) && fm_cat1 t
def fm_small (n : Nat) : List Nat → Bool
  | [] => true
  | v :: t => match n with
    | 0 => false
    | n + 1 => not (Nat.beq (Nat.mod v 8) 4) && fm_small n t
/-- 0 an int, 1 a boolean, 2 a long, 3 a reference -/
def fm_fit (ty v : Nat) : Bool := bif Nat.beq ty 0 then Nat.beq (Nat.mod v 8) 1 else bif Nat.beq ty 1 then Nat.beq v 1 || Nat.beq v 9 else bif Nat.beq ty 2 then Nat.beq (Nat.mod v 8) 4 else Nat.beq (Nat.mod v 8) 2 || Nat.beq v 3
def fx_bin (f : Nat → Nat → Nat) (pc L : Nat) (st : List Nat) (H : fm_H) (k q : Nat) : fm_X := match st with
  | y :: x :: r => bif fm_iv y && fm_iv x then fm_go (Nat.add pc 1) L (fm_mk (f (Nat.div x 8) (Nat.div y 8)) :: r) H k q else fm_bad
  | _ => fm_bad
def fx_lod (v pc' : Nat) (re : Bool) (L : Nat) (st : List Nat) (H : fm_H) (k q : Nat) : fm_X := bif (bif re then Nat.ble 2 (Nat.mod v 4) else Nat.beq (Nat.mod v 4) 1) then fm_go pc' L (v :: st) H k q else fm_bad
def fx_sto (j pc' : Nat) (re : Bool) (L : Nat) (st : List Nat) (H : fm_H) (k q : Nat) : fm_X := match st with
  | v :: r => bif fm_sm v && (bif re then Nat.beq (Nat.mod v 8) 2 || Nat.beq v 3 else Nat.beq (Nat.mod v 4) 1) then fm_go pc' (fm_s L j v) r H k q else fm_bad
  | [] => fm_bad
def fx_inc (j c v pc L : Nat) (st : List Nat) (H : fm_H) (k q : Nat) : fm_X := bif fm_iv v then fm_go (Nat.add pc 3) (fm_s L j (fm_mk (Nat.add (Nat.div v 8) c))) st H k q else fm_bad
def fm_oc : List (ClassFile.Cond × Nat × Int32 × Bool) → Nat → Nat → Int32 → Option Bool
  | [], _, _, _ => none
  | (d, j, z, t) :: r, c, n, y => bif Nat.beq (am_cc d) c && Nat.beq j n && decide (z = y) then some t else fm_oc r c n y
def fx_cv (os : List (ClassFile.Cond × Nat × Int32 × Bool)) (c : Nat) (v y : Nat) : Option Bool := bif fm_iv v then some (fm_cnd c (Nat.div v 8) y) else bif Nat.beq (Nat.mod v 8) 5 then fm_oc os c (Nat.div v 8) (Int32.ofNat y) else none
def fx_br (o : Option Bool) (t pc L : Nat) (st : List Nat) (H : fm_H) (k q : Nat) : fm_X := match o with
  | some b => fm_go (bif b then t else Nat.add pc 3) L st H k q
  | none => fm_bad
def fx_ifc (xs : am_O) (c t pc L : Nat) (st : List Nat) (H : fm_H) (k q : Nat) : fm_X := match st with
  | v :: r => fx_br (fx_cv xs.2.2.1 c v 0) t pc L r H k q
  | [] => fm_bad
def fx_icm (xs : am_O) (c t pc L : Nat) (st : List Nat) (H : fm_H) (k q : Nat) : fm_X := match st with
  | y :: v :: r => bif fm_iv y then fx_br (fx_cv xs.2.2.1 c v (Nat.div y 8)) t pc L r H k q else fm_bad
  | _ => fm_bad
def fx_and (xs : am_O) (pc L : Nat) (st : List Nat) (H : fm_H) (k q : Nat) : fm_X := match st with
  | y :: x :: r => bif fm_iv y then bif fm_iv x then fm_go (Nat.add pc 1) L (fm_mk (fm_u (Int32.ofNat (Nat.div x 8) &&& Int32.ofNat (Nat.div y 8))) :: r) H k q else bif Nat.beq (Nat.mod x 8) 5 then match am_oa xs.2.2.2 (Nat.div x 8) (Int32.ofNat (Nat.div y 8)) with
      | some z => fm_go (Nat.add pc 1) L (fm_mk (fm_u z) :: r) H k q
      | none => fm_bad
    else fm_bad else fm_bad
  | _ => fm_bad
def fx_tsw (tl : List Nat) (d L : Nat) (st : List Nat) (H : fm_H) (k q : Nat) : fm_X := match st with
  | v :: r => bif fm_ix v then (match tl[Nat.div v 8]? with
      | some t => fm_go t L r H k q
      | none => fm_go d L r H k q) else fm_bad
  | [] => fm_bad
def fx_rd (a t i pc' L : Nat) (r : List Nat) (H : fm_H) (k q : Nat) : fm_X := bif fm_at H a t i then fm_go pc' L (fm_g H.2.2.2 (Nat.add (fm_of H.2.2.1 a) i) :: r) H k q else fm_bad
def fx_wr (a t i v pc' L : Nat) (r : List Nat) (H : fm_H) (k q : Nat) : fm_X := bif fm_at H a t i && fm_sm v then fm_go pc' L r (fm_st H (Nat.add (fm_of H.2.2.1 a) i) v) k q else fm_bad
def fx_getf (ci j pc L : Nat) (st : List Nat) (H : fm_H) (k q : Nat) : fm_X := match st with
  | x :: r => bif fm_rv x then fx_rd (Nat.div x 8) ci j (Nat.add pc 3) L r H k q else fm_bad
  | [] => fm_bad
def fx_putf (ci j : Nat) (ty : Nat) (pc L : Nat) (st : List Nat) (H : fm_H) (k q : Nat) : fm_X := match st with
  | v :: x :: r => bif fm_rv x && fm_fit ty v then fx_wr (Nat.div x 8) ci j v (Nat.add pc 3) L r H k q else fm_bad
  | _ => fm_bad
/-- an element of a row of that tag, whose code has that ending -/
def fx_ald (t e pc L : Nat) (st : List Nat) (H : fm_H) (k q : Nat) : fm_X := match st with
  | i :: x :: r => bif fm_rv x && fm_ix i && fm_at H (Nat.div x 8) t (Nat.div i 8) && Nat.beq (Nat.mod (fm_g H.2.2.2 (Nat.add (fm_of H.2.2.1 (Nat.div x 8)) (Nat.div i 8))) 8) e then fm_go (Nat.add pc 1) L (fm_g H.2.2.2 (Nat.add (fm_of H.2.2.1 (Nat.div x 8)) (Nat.div i 8)) :: r) H k q else fm_bad
  | _ => fm_bad
def fx_ial (xs : am_O) (pc L : Nat) (st : List Nat) (H : fm_H) (k q : Nat) : fm_X := match st with
  | i :: x :: r => bif Nat.beq x 6 then match xs.1 with
      | some l => bif fm_ix i && Nat.blt (Nat.div i 8) l then match am_kn xs.2.1 (Nat.div i 8) with
          | some z => fm_go (Nat.add pc 1) L (fm_mk (fm_u z) :: r) H k q
          | none => fm_go (Nat.add pc 1) L (Nat.add (Nat.mul 8 (Nat.div i 8)) 5 :: r) H k q
        else fm_bad
      | none => fm_bad
    else fx_ald 100 1 pc L st H k q
  | _ => fm_bad
def fx_aal (pc L : Nat) (st : List Nat) (H : fm_H) (k q : Nat) : fm_X := match st with
  | i :: x :: r => bif fm_rv x && fm_ix i && Nat.blt (Nat.div x 8) H.1 && Nat.ble 103 (fm_tg H.2.2.1 (Nat.div x 8)) && Nat.ble (fm_tg H.2.2.1 (Nat.div x 8)) 106 && Nat.blt (Nat.div i 8) (fm_ln H.2.2.1 (Nat.div x 8)) && Nat.ble 2 (Nat.mod (fm_g H.2.2.2 (Nat.add (fm_of H.2.2.1 (Nat.div x 8)) (Nat.div i 8))) 8) && Nat.ble (Nat.mod (fm_g H.2.2.2 (Nat.add (fm_of H.2.2.1 (Nat.div x 8)) (Nat.div i 8))) 8) 3 then fm_go (Nat.add pc 1) L (fm_g H.2.2.2 (Nat.add (fm_of H.2.2.1 (Nat.div x 8)) (Nat.div i 8)) :: r) H k q else fm_bad
  | _ => fm_bad
def fx_ast (t : Nat) (ty : Nat) (pc L : Nat) (st : List Nat) (H : fm_H) (k q : Nat) : fm_X := match st with
  | v :: i :: x :: r => bif fm_rv x && fm_ix i && fm_fit ty v then fx_wr (Nat.div x 8) t (Nat.div i 8) v (Nat.add pc 1) L r H k q else fm_bad
  | _ => fm_bad
def fx_aas (cmp : Nat → Option (Option Nat)) (pc L : Nat) (st : List Nat) (H : fm_H) (k q : Nat) : fm_X := match st with
  | v :: i :: x :: r => bif fm_rv x && fm_ix i && fm_rv v && Nat.blt (Nat.div v 8) H.1 && Nat.blt (Nat.div x 8) H.1 then match cmp (fm_tg H.2.2.1 (Nat.div x 8)) with
      | some (some ci) => bif Nat.beq ci (fm_tg H.2.2.1 (Nat.div v 8)) then fx_wr (Nat.div x 8) (fm_tg H.2.2.1 (Nat.div x 8)) (Nat.div i 8) v (Nat.add pc 1) L r H k q else fm_bad
      | _ => fm_bad
    else fm_bad
  | _ => fm_bad
def fx_len (xs : am_O) (pc L : Nat) (st : List Nat) (H : fm_H) (k q : Nat) : fm_X := match st with
  | x :: r => bif Nat.beq x 6 then match xs.1 with
      | some l => fm_go (Nat.add pc 1) L (Nat.add (Nat.mul 8 l) 1 :: r) H k q
      | none => fm_bad
    else bif fm_rv x && Nat.blt (Nat.div x 8) H.1 && Nat.ble 100 (fm_tg H.2.2.1 (Nat.div x 8)) && Nat.ble (fm_tg H.2.2.1 (Nat.div x 8)) 106 then fm_go (Nat.add pc 1) L (Nat.add (Nat.mul 8 (fm_ln H.2.2.1 (Nat.div x 8))) 1 :: r) H k q else fm_bad
  | [] => fm_bad
def fm_rm (H : fm_H) (x : Nat) : Bool := Nat.blt (Nat.add H.2.1 x) 524288 && Nat.blt H.1 65536
def fx_newa (t d n pc L : Nat) (st : List Nat) (H : fm_H) (k q : Nat) : fm_X := match st with
  | x :: r => bif fm_ix x && Nat.ble (Nat.div x 8) 1000 && fm_rm H (Nat.div x 8) then fm_go (Nat.add pc n) L (Nat.add (Nat.mul 8 H.1) 2 :: r) (fm_al H (Nat.add 100 t) (Nat.div x 8) (fm_rp d (Nat.div x 8))) (Nat.add k 1) (Nat.add q (Nat.div x 8)) else fm_bad
  | [] => fm_bad
def fx_new (ci x P pc L : Nat) (st : List Nat) (H : fm_H) (k q : Nat) : fm_X := bif fm_rm H x then fm_go (Nat.add pc 3) L (Nat.add (Nat.mul 8 H.1) 2 :: st) (fm_al H ci x P) (Nat.add k 1) (Nat.add q x) else fm_bad
def fm_rows (y : Nat) : Nat → fm_H → fm_H
  | 0, H => H
  | x + 1, H => fm_rows y x (fm_al H 100 y (fm_rp 1 y))
def fm_refs (a : Nat) : Nat → Nat
  | 0 => 0
  | x + 1 => Nat.add (Nat.add (Nat.mul 8 a) 2) (Nat.shiftLeft (fm_refs (Nat.add a 1) x) 36)
def fx_mul2 (pc L : Nat) (st : List Nat) (H : fm_H) (k q : Nat) : fm_X := match st with
  | y :: x :: r => bif fm_ix x && fm_ix y && Nat.ble (Nat.div x 8) 100 && Nat.ble (Nat.div y 8) 100 && Nat.blt (Nat.add H.2.1 20000) 524288 && Nat.blt H.1 65000 then
      fm_go (Nat.add pc 4) L (Nat.add (Nat.mul 8 H.1) 2 :: r) (fm_rows (Nat.div y 8) (Nat.div x 8) (fm_al H 103 (Nat.div x 8) (fm_refs (Nat.add H.1 1) (Nat.div x 8)))) (Nat.add k (Nat.add 1 (Nat.div x 8))) (Nat.add q (Nat.add (Nat.div x 8) (Nat.mul (Nat.div x 8) (Nat.div y 8)))) else fm_bad
  | _ => fm_bad
def fx_thr (ci : Nat) (st : List Nat) (H : fm_H) (k q : Nat) : fm_X := bif fm_small 4 st && fm_rm H 0 then fm_thr H.1 (fm_al H ci 0 0) (Nat.add k 1) (Nat.add q 6) else fm_bad
def fx_ask (j na rc ci pc L : Nat) (st : List Nat) (H : fm_H) (k q : Nat) : fm_X := match rc with
  | 0 => bif fm_small 8 (st.drop na) && fm_cat1 (st.take na) && Nat.beq (st.take na).length na then fm_ask j (st.take na).reverse pc L (st.drop na) H k q else fm_bad
  | _ => match st.drop na with
    | x :: r => bif fm_small 8 r && fm_cat1 (st.take na) && Nat.beq (st.take na).length na && fm_rv x && Nat.blt (Nat.div x 8) H.1 && (Nat.beq rc 1 || Nat.beq (fm_tg H.2.2.1 (Nat.div x 8)) ci) then fm_ask j (x :: (st.take na).reverse) pc L r H k q else fm_bad
    | [] => fm_bad
def fx_mm (mx : Bool) (pc L : Nat) (st : List Nat) (H : fm_H) (k q : Nat) : fm_X := match st with
  | y :: x :: r => bif fm_iv y && fm_iv x && fm_small 8 r then fm_go (Nat.add pc 3) L ((bif mx then (bif fm_cnd 2 (Nat.div x 8) (Nat.div y 8) then y else x) else (bif fm_cnd 2 (Nat.div y 8) (Nat.div x 8) then y else x)) :: r) H k q else fm_bad
  | _ => fm_bad
def fx_oin (pc L : Nat) (st : List Nat) (H : fm_H) (k q : Nat) : fm_X := match st with
  | x :: r => bif fm_rv x && fm_small 8 r then fm_go (Nat.add pc 3) L r H k q else fm_bad
  | [] => fm_bad
def fx_iret (bo : Nat) (st : List Nat) (H : fm_H) (k q : Nat) : fm_X := match st with
  | [v] => bif fm_iv v && (Nat.beq bo 0 || Nat.beq v 1 || Nat.beq v 9) then fm_ret (some v) H k q else fm_bad
  | _ => fm_bad
def fx_aret (st : List Nat) (H : fm_H) (k q : Nat) : fm_X := match st with
  | [v] => bif fm_rv v then fm_ret (some v) H k q else fm_bad
  | _ => fm_bad
def fx_vret (st : List Nat) (H : fm_H) (k q : Nat) : fm_X := match st with
  | [] => fm_ret none H k q
  | _ => fm_bad
def fx_i2l (pc L : Nat) (st : List Nat) (H : fm_H) (k q : Nat) : fm_X := match st with
  | v :: r => bif fm_iv v then fm_go (Nat.add pc 1) L (Nat.add (Nat.mul 8 (Nat.div v 8)) 4 :: r) H k q else fm_bad
  | [] => fm_bad
def fx_lcmp (pc L : Nat) (st : List Nat) (H : fm_H) (k q : Nat) : fm_X := match st with
  | y :: x :: r => bif Nat.beq (Nat.mod y 8) 4 && Nat.beq (Nat.mod x 8) 4 then fm_go (Nat.add pc 1) L (fm_mk (fm_u (lg_cmp (Int32.ofNat (Nat.div x 8)).toInt64 (Int32.ofNat (Nat.div y 8)).toInt64)) :: r) H k q else fm_bad
  | _ => fm_bad
def fx_dup (pc L : Nat) (st : List Nat) (H : fm_H) (k q : Nat) : fm_X := match st with
  | v :: r => bif Nat.beq (Nat.mod v 8) 4 then fm_bad else fm_go (Nat.add pc 1) L (v :: v :: r) H k q
  | [] => fm_bad
def fx_dup2 (pc L : Nat) (st : List Nat) (H : fm_H) (k q : Nat) : fm_X := match st with
  | v :: w :: r => bif Nat.beq (Nat.mod v 8) 4 || Nat.beq (Nat.mod w 8) 4 then fm_bad else fm_go (Nat.add pc 1) L (v :: w :: v :: w :: r) H k q
  | _ => fm_bad
def fx_pop (pc L : Nat) (st : List Nat) (H : fm_H) (k q : Nat) : fm_X := match st with
  | v :: r => bif Nat.beq (Nat.mod v 8) 4 then fm_bad else fm_go (Nat.add pc 1) L r H k q
  | [] => fm_bad
def fm_sub (x y : Nat) : Nat := Nat.add x (Nat.sub 4294967296 (Nat.mod y 4294967296))
def fm_or (x y : Nat) : Nat := fm_u (Int32.ofNat x ||| Int32.ofNat y)
def fm_div (x y : Nat) : Nat := fm_u (Int32.ofNat x / Int32.ofNat y)
def fm_rem (x y : Nat) : Nat := fm_u (Int32.ofNat x - Int32.ofNat x / Int32.ofNat y * Int32.ofNat y)
def fm_shl (x y : Nat) : Nat := fm_u (Int32.ofNat x <<< (Int32.ofNat y &&& 31))
def fm_shr (x y : Nat) : Nat := fm_u (Int32.ofNat x >>> (Int32.ofNat y &&& 31))
def fx_dv (f : Nat → Nat → Nat) (pc L : Nat) (st : List Nat) (H : fm_H) (k q : Nat) : fm_X := match st with
  | y :: r => bif Nat.beq (Nat.mod (Nat.div y 8) 4294967296) 0 then fm_bad else fx_bin f pc L (y :: r) H k q
  | [] => fm_bad
def fm_e0 (cmp : Nat → Option (Option Nat)) (tl : List Nat) (bl : Nat → Nat) (xs : am_O) (op a b c d pc L : Nat) (st : List Nat) (H : fm_H) (k q : Nat) : fm_X := (bif Nat.blt op 4 then (bif Nat.blt op 2 then (fm_go (Nat.add pc b) L (a :: st) H k q) else (bif Nat.blt op 3 then (fx_lod (fm_g L a) (Nat.add pc b) false L st H k q) else (fx_lod (fm_g L a) (Nat.add pc b) true L st H k q))) else (bif Nat.blt op 5 then (fx_sto a (Nat.add pc b) false L st H k q) else (bif Nat.blt op 6 then (fx_sto a (Nat.add pc b) true L st H k q) else (fx_inc a b (fm_g L a) pc L st H k q))))
def fm_e1 (cmp : Nat → Option (Option Nat)) (tl : List Nat) (bl : Nat → Nat) (xs : am_O) (op a b c d pc L : Nat) (st : List Nat) (H : fm_H) (k q : Nat) : fm_X := (bif Nat.blt op 11 then (bif Nat.blt op 9 then (bif Nat.blt op 8 then (fx_bin Nat.add pc L st H k q) else (fx_bin fm_sub pc L st H k q)) else (bif Nat.blt op 10 then (fx_bin Nat.mul pc L st H k q) else (fx_and xs pc L st H k q))) else (bif Nat.blt op 13 then (bif Nat.blt op 12 then (fx_bin fm_or pc L st H k q) else (fx_dv fm_div pc L st H k q)) else (bif Nat.blt op 14 then (fx_dv fm_rem pc L st H k q) else (bif Nat.blt op 15 then (fx_bin fm_shl pc L st H k q) else (fx_bin fm_shr pc L st H k q)))))
def fm_e2 (cmp : Nat → Option (Option Nat)) (tl : List Nat) (bl : Nat → Nat) (xs : am_O) (op a b c d pc L : Nat) (st : List Nat) (H : fm_H) (k q : Nat) : fm_X := (bif Nat.blt op 18 then (bif Nat.blt op 17 then (fx_i2l pc L st H k q) else (fx_lcmp pc L st H k q)) else (bif Nat.blt op 19 then (fx_dup pc L st H k q) else (bif Nat.blt op 20 then (fx_dup2 pc L st H k q) else (fx_pop pc L st H k q))))
def fm_e3 (cmp : Nat → Option (Option Nat)) (tl : List Nat) (bl : Nat → Nat) (xs : am_O) (op a b c d pc L : Nat) (st : List Nat) (H : fm_H) (k q : Nat) : fm_X := (bif Nat.blt op 23 then (bif Nat.blt op 22 then (fm_go a L st H k q) else (fx_ifc xs a b pc L st H k q)) else (bif Nat.blt op 24 then (fx_icm xs a b pc L st H k q) else (fx_tsw tl a L st H k q)))
def fm_e4 (cmp : Nat → Option (Option Nat)) (tl : List Nat) (bl : Nat → Nat) (xs : am_O) (op a b c d pc L : Nat) (st : List Nat) (H : fm_H) (k q : Nat) : fm_X := (bif Nat.blt op 28 then (bif Nat.blt op 26 then (fx_getf a b pc L st H k q) else (bif Nat.blt op 27 then (fx_putf a b c pc L st H k q) else (fx_ial xs pc L st H k q))) else (bif Nat.blt op 29 then (fx_ald 101 1 pc L st H k q) else (bif Nat.blt op 30 then (fx_ald 102 4 pc L st H k q) else (fx_aal pc L st H k q))))
def fm_e5 (cmp : Nat → Option (Option Nat)) (tl : List Nat) (bl : Nat → Nat) (xs : am_O) (op a b c d pc L : Nat) (st : List Nat) (H : fm_H) (k q : Nat) : fm_X := (bif Nat.blt op 33 then (bif Nat.blt op 32 then (fx_ast 100 0 pc L st H k q) else (fx_ast 101 1 pc L st H k q)) else (bif Nat.blt op 34 then (fx_ast 102 2 pc L st H k q) else (bif Nat.blt op 35 then (fx_aas cmp pc L st H k q) else (fx_len xs pc L st H k q))))
def fm_e6 (cmp : Nat → Option (Option Nat)) (tl : List Nat) (bl : Nat → Nat) (xs : am_O) (op a b c d pc L : Nat) (st : List Nat) (H : fm_H) (k q : Nat) : fm_X := (bif Nat.blt op 38 then (bif Nat.blt op 37 then (fx_newa a b c pc L st H k q) else (fx_mul2 pc L st H k q)) else (bif Nat.blt op 39 then (fx_new a b (bl a) pc L st H k q) else (bif Nat.blt op 40 then (fx_thr a st H k q) else (fx_ask a b c d pc L st H k q))))
def fm_e7 (cmp : Nat → Option (Option Nat)) (tl : List Nat) (bl : Nat → Nat) (xs : am_O) (op a b c d pc L : Nat) (st : List Nat) (H : fm_H) (k q : Nat) : fm_X := (bif Nat.blt op 44 then (bif Nat.blt op 42 then (fx_mm false pc L st H k q) else (bif Nat.blt op 43 then (fx_mm true pc L st H k q) else (fx_oin pc L st H k q))) else (bif Nat.blt op 45 then (fx_iret a st H k q) else (bif Nat.blt op 46 then (fx_aret st H k q) else (fx_vret st H k q))))
/-- the instruction with that number; tl: where the law's switch goes; bl: a new object's slots -/
def fm_ex (cmp : Nat → Option (Option Nat)) (tl : List Nat) (bl : Nat → Nat) (xs : am_O) (op a b c d pc L : Nat) (st : List Nat) (H : fm_H) (k q : Nat) : fm_X := bif Nat.beq op 0 || Nat.blt 46 op then fm_bad else (bif Nat.blt op 25 then (bif Nat.blt op 16 then (bif Nat.blt op 7 then (fm_e0 cmp tl bl xs op a b c d pc L st H k q) else (fm_e1 cmp tl bl xs op a b c d pc L st H k q)) else (bif Nat.blt op 21 then (fm_e2 cmp tl bl xs op a b c d pc L st H k q) else (fm_e3 cmp tl bl xs op a b c d pc L st H k q))) else (bif Nat.blt op 36 then (bif Nat.blt op 31 then (fm_e4 cmp tl bl xs op a b c d pc L st H k q) else (fm_e5 cmp tl bl xs op a b c d pc L st H k q)) else (bif Nat.blt op 41 then (fm_e6 cmp tl bl xs op a b c d pc L st H k q) else (fm_e7 cmp tl bl xs op a b c d pc L st H k q))))
/-- a method: its code (128 bits for each pc), its end, size of its locals, room in frames and words, handlers -/
abbrev fm_M : Type := Nat × Nat × Nat × Nat × Nat × List (Nat × Nat × Nat × Nat)
def fm_w (C pc : Nat) : Nat := Nat.mod (Nat.shiftRight C (Nat.mul 128 pc)) 340282366920938463463374607431768211456
def fm_w0 (x : Nat) : Nat := Nat.mod x 256
def fm_w1 (x : Nat) : Nat := Nat.mod (Nat.shiftRight x 8) 1099511627776
def fm_w2 (x : Nat) : Nat := Nat.mod (Nat.shiftRight x 48) 1099511627776
def fm_w3 (x : Nat) : Nat := Nat.mod (Nat.shiftRight x 88) 1048576
def fm_w4 (x : Nat) : Nat := Nat.shiftRight x 108
def fm_sp (cmp : Nat → Option (Option Nat)) (tl : List Nat) (bl : Nat → Nat) (xs : am_O) (x pc L : Nat) (st : List Nat) (H : fm_H) (k q : Nat) : fm_X := fm_ex cmp tl bl xs (fm_w0 x) (fm_w1 x) (fm_w2 x) (fm_w3 x) (fm_w4 x) pc L st H k q
section FMR
variable (cmp : Nat → Option (Option Nat)) (tl : List Nat) (bl : Nat → Nat) (cx : Nat → Option Nat) (ms : Nat → Option fm_M)
abbrev fm_Fn : Type := am_O → fm_M → fm_S → Option fm_R
/-- behind a call -/
def fm_k3 (rec : fm_Fn) (xs : am_O) (mi : fm_M) (S : fm_S) (r : fm_R) : Option fm_R := match r with
  | (.inl v, H2, k2, q2) => rec xs mi (Nat.add S.1 3, S.2.1, v.toList ++ S.2.2.1, H2, Nat.add S.2.2.2.2.1 k2, Nat.add S.2.2.2.2.2 q2)
  | (.inr x, H2, k2, q2) => bif Nat.blt x H2.1 && Nat.beq (fm_w0 (fm_w mi.1 S.1)) 40 && Nat.beq (fm_w3 (fm_w mi.1 S.1)) 2 then (match am_catch cx mi.2.2.2.2.2 S.1 (fm_tg H2.2.2.1 x) with
      | some t => rec xs mi (t, S.2.1, [Nat.add (Nat.mul 8 x) 2], H2, Nat.add S.2.2.2.2.1 k2, Nat.add S.2.2.2.2.2 q2)
      | none => none) else none
/-- a call -/
def fm_k2 (rec : fm_Fn) (xs : am_O) (mi : fm_M) (as : List Nat) (S : fm_S) (mj : fm_M) : Option fm_R :=
  bif Nat.ble (Nat.add mj.2.2.2.1 1) mi.2.2.2.1 && Nat.ble (Nat.add (Nat.add 8 (Nat.add mj.2.2.1 11)) mj.2.2.2.2.1) mi.2.2.2.2.1 && Nat.ble as.length mj.2.2.1 && as.all fm_sm then (match rec (none, xs.2) mj (0, fm_p as, [], S.2.2.2.1, 0, 0) with
    | some r => fm_k3 cx rec xs mi S r
    | none => none) else none
def fm_k1 (rec : fm_Fn) (xs : am_O) (mi : fm_M) (y : fm_R ⊕ (Nat × List Nat × fm_S)) : Option fm_R := match y with
  | .inl r => some r
  | .inr (j, as, S) => match ms j with
    | some mj => fm_k2 cx rec xs mi as S mj
    | none => none
def fm_k0 (rec : fm_Fn) (xs : am_O) (mi : fm_M) (x : fm_X) : Option fm_R := match x with
  | none => none
  | some (.inl S') => rec xs mi S'
  | some (.inr y) => fm_k1 cx ms rec xs mi y
def fm_bd (rec : fm_Fn) (xs : am_O) (mi : fm_M) (S : fm_S) : Option fm_R := match S with
  | (pc, L, st, H, k, q) => bif Nat.blt pc mi.2.1 then fm_k0 cx ms rec xs mi (fm_sp cmp tl bl xs (fm_w mi.1 pc) pc L st H k q) else none
def fm_run : Nat → fm_Fn
  | 0 => fun _ _ _ => none
  | f + 1 => fm_bd cmp tl bl cx ms (fm_run f)
end FMR
