/-! ===== abstract values, states and steps: run by the kernel ===== -/
/-- 0 lo hi: an int (2147483648 added) from lo to hi; 1 n: a reference to the cell named n, of kind n/16; 2 k: to some cell of kind k; 3 null; 4 a long; 5 anything; 6 a reference; 7 c: the time, c added -/
abbrev ab_V : Type := Nat × Nat × Nat
/-- a cell's name, a place in it, what stands there -/
abbrev ab_F : Type := Nat × Nat × ab_V
/-- two bounds of what grew (1000 added), bounds of cells and slots made -/
abbrev ab_G : Type := Nat × Nat × Nat × Nat
/-- pc, locals, stack, facts, bounds -/
abbrev ab_S : Type := Nat × List ab_V × List ab_V × List ab_F × ab_G
/-- next states; or an end (0 nothing, 1 a value, 2 thrown, of that class); or a call: method, arguments, state behind it -/
abbrev ab_X : Type := List ab_S ⊕ ((Nat × ab_V) ⊕ (Nat × List ab_V × ab_S))
/-- what a method wants of its arguments and of slots, its ends, which slots it may write, bounds -/
abbrev ab_C : Type := List ab_V × List ab_F × List (Nat × ab_V × List ab_F) × Nat × ab_G
def ab_top : ab_V := (0, 0, 4294967295)
def ab_iI (v : ab_V) : Bool := Nat.beq v.1 0 || Nat.beq v.1 7
def ab_iR (v : ab_V) : Bool := Nat.beq v.1 1 || Nat.beq v.1 2
/-- as an int's bounds -/
def ab_i (v : ab_V) : ab_V := bif Nat.beq v.1 7 then (0, Nat.add 2147483648 v.2.1, Nat.add 2147523647 v.2.1) else v
def ab_le (v w : ab_V) : Bool := bif Nat.beq w.1 5 then true
  else bif Nat.beq w.1 0 then (bif ab_iI v then Nat.ble w.2.1 (ab_i v).2.1 && Nat.ble (ab_i v).2.2 w.2.2 else false)
  else bif Nat.beq w.1 2 then (Nat.beq v.1 2 && Nat.beq v.2.1 w.2.1) || (Nat.beq v.1 1 && Nat.beq (Nat.div v.2.1 16) w.2.1)
  else bif Nat.beq w.1 6 then ab_iR v || Nat.beq v.1 6
  else Nat.beq v.1 w.1 && Nat.beq v.2.1 w.2.1
def ab_leL : List ab_V → List ab_V → Bool
  | [], [] => true
  | v :: l, w :: m => ab_le v w && ab_leL l m
  | _, _ => false
/-- on the stack: nothing that may be anything -/
def ab_leK : List ab_V → List ab_V → Bool
  | [], [] => true
  | v :: l, w :: m => ab_le v w && not (Nat.beq w.1 5) && ab_leK l m
  | _, _ => false
def ab_ff : List ab_F → Nat → Nat → Option ab_V
  | [], _, _ => none
  | f :: l, n, i => bif Nat.beq f.1 n && Nat.beq f.2.1 i then some f.2.2 else ab_ff l n i
def ab_leF (s : List ab_F) : List ab_F → Bool
  | [] => true
  | f :: l => (match ab_ff s f.1 f.2.1 with
    | some v => ab_le v f.2.2 && not (Nat.beq f.2.2.1 5)
    | none => false) && ab_leF s l
def ab_leG (s t : ab_G) : Bool := Nat.ble s.1 t.1 && Nat.ble s.2.1 t.2.1 && Nat.ble s.2.2.1 t.2.2.1 && Nat.ble s.2.2.2 t.2.2.2
def ab_leS (s t : ab_S) : Bool := Nat.beq s.1 t.1 && ab_leL s.2.1 t.2.1 && ab_leK s.2.2.1 t.2.2.1 && ab_leF s.2.2.2.1 t.2.2.2.1 && ab_leG s.2.2.2.2 t.2.2.2.2
/-- no name n stands there -/
def ab_nV (n : Nat) (v : ab_V) : Bool := not (Nat.beq v.1 1 && Nat.beq v.2.1 n)
def ab_nL (n : Nat) : List ab_V → Bool
  | [] => true
  | v :: l => ab_nV n v && ab_nL n l
def ab_nF (n : Nat) : List ab_F → Bool
  | [] => true
  | f :: l => not (Nat.beq f.1 n) && ab_nV n f.2.2 && ab_nF n l
def ab_cat1 : List ab_V → Bool
  | [] => true
  | v :: l => not (Nat.beq v.1 4) && ab_cat1 l
def ab_small : Nat → List ab_V → Bool
  | _, [] => true
  | 0, _ :: _ => false
  | n + 1, v :: l => not (Nat.beq v.1 4) && ab_small n l
def ab_nth : List ab_V → Nat → ab_V
  | [], _ => (5, 0, 0)
  | v :: _, 0 => v
  | _ :: l, n + 1 => ab_nth l n
def ab_u (b : Nat) : Int32 := Int32.ofNat (Nat.add b 2147483648)
def ab_b (z : Int32) : Nat := Nat.mod (Nat.add z.toBitVec.toNat 2147483648) 4294967296
def ab_exq (v : ab_V) : Bool := Nat.beq v.2.1 v.2.2
def ab_e2 (f : Int32 → Int32 → Int32) (x y : ab_V) : ab_V := bif ab_exq x && ab_exq y then (0, ab_b (f (ab_u x.2.1) (ab_u y.2.1)), ab_b (f (ab_u x.2.1) (ab_u y.2.1))) else ab_top
def ab_addi (x y : ab_V) : ab_V := bif Nat.ble 2147483648 (Nat.add x.2.1 y.2.1) && Nat.ble (Nat.add x.2.2 y.2.2) 6442450943 then (0, Nat.sub (Nat.add x.2.1 y.2.1) 2147483648, Nat.sub (Nat.add x.2.2 y.2.2) 2147483648) else ab_top
def ab_add (x y : ab_V) : ab_V := bif Nat.beq x.1 7 && Nat.beq y.1 0 && ab_exq y && Nat.ble 2147483648 y.2.1 && Nat.ble (Nat.sub (Nat.add x.2.1 y.2.1) 2147483648) 1000 then (7, Nat.sub (Nat.add x.2.1 y.2.1) 2147483648, 0) else ab_addi (ab_i x) (ab_i y)
def ab_sub (x y : ab_V) : ab_V := bif Nat.ble y.2.2 (Nat.add x.2.1 2147483648) && Nat.ble (Nat.add x.2.2 2147483648) (Nat.add y.2.1 4294967295) then (0, Nat.sub (Nat.add x.2.1 2147483648) y.2.2, Nat.sub (Nat.add x.2.2 2147483648) y.2.1) else ab_top
def ab_mul (x y : ab_V) : ab_V := bif Nat.ble 2147483648 x.2.1 && Nat.ble 2147483648 y.2.1 && Nat.ble (Nat.mul (Nat.sub x.2.2 2147483648) (Nat.sub y.2.2 2147483648)) 2147483647 then (0, Nat.add 2147483648 (Nat.mul (Nat.sub x.2.1 2147483648) (Nat.sub y.2.1 2147483648)), Nat.add 2147483648 (Nat.mul (Nat.sub x.2.2 2147483648) (Nat.sub y.2.2 2147483648))) else ab_top
/-- by a known number above 0 -/
def ab_div (x y : ab_V) : Option ab_V := bif ab_exq y && Nat.blt 2147483648 y.2.1 && Nat.ble y.2.1 4294967295 then some (bif Nat.ble 2147483648 x.2.1 && Nat.ble x.2.2 4294967295 then (0, Nat.add 2147483648 (Nat.div (Nat.sub x.2.1 2147483648) (Nat.sub y.2.1 2147483648)), Nat.add 2147483648 (Nat.div (Nat.sub x.2.2 2147483648) (Nat.sub y.2.1 2147483648))) else ab_top) else none
def ab_rem (x y : ab_V) : Option ab_V := bif ab_exq y && Nat.blt 2147483648 y.2.1 && Nat.ble y.2.1 4294967295 then some (bif Nat.ble 2147483648 x.2.1 && Nat.ble x.2.2 4294967295 then (bif ab_exq x then (0, Nat.add 2147483648 (Nat.mod (Nat.sub x.2.1 2147483648) (Nat.sub y.2.1 2147483648)), Nat.add 2147483648 (Nat.mod (Nat.sub x.2.1 2147483648) (Nat.sub y.2.1 2147483648))) else (0, 2147483648, Nat.sub y.2.1 1)) else ab_top) else none
/-- by a known mask that isn't negative -/
def ab_and (x y : ab_V) : ab_V := bif ab_exq x && ab_exq y then ab_e2 (fun x y => x &&& y) x y else bif ab_exq y && Nat.ble 2147483648 y.2.1 && Nat.ble y.2.1 4294967295 then (0, 2147483648, y.2.1) else ab_top
def ab_mnx (f : Nat → Nat → Nat) (x y : ab_V) : ab_V := (0, f x.2.1 y.2.1, f x.2.2 y.2.2)
def ab_min (a b : Nat) : Nat := bif Nat.ble a b then a else b
def ab_max (a b : Nat) : Nat := bif Nat.ble a b then b else a
/-- can it be true, can it be false -/
def ab_cnd (c : Nat) (x y : ab_V) : Bool × Bool := bif Nat.beq c 0 then (not (Nat.blt x.2.2 y.2.1) && not (Nat.blt y.2.2 x.2.1), not (ab_exq x && ab_exq y && Nat.beq x.2.1 y.2.1))
  else bif Nat.beq c 1 then (not (ab_exq x && ab_exq y && Nat.beq x.2.1 y.2.1), not (Nat.blt x.2.2 y.2.1) && not (Nat.blt y.2.2 x.2.1))
  else bif Nat.beq c 2 then (Nat.blt x.2.1 y.2.2, Nat.ble y.2.1 x.2.2)
  else bif Nat.beq c 3 then (Nat.ble y.2.1 x.2.2, Nat.blt x.2.1 y.2.2)
  else bif Nat.beq c 4 then (Nat.blt y.2.1 x.2.2, Nat.ble x.2.1 y.2.2)
  else (Nat.ble x.2.1 y.2.2, Nat.blt y.2.1 x.2.2)
def ab_br (cf : Bool × Bool) (t e : Nat) (lo st : List ab_V) (fa : List ab_F) (g : ab_G) : Option ab_X := some (.inl ((bif cf.1 then [(t, lo, st, fa, g)] else []) ++ (bif cf.2 then [(e, lo, st, fa, g)] else [])))
section ABX
/- kd: tag and length of a kind; un: a row whose elements are alike; uq: one cell alone; Gm: what may stand in a slot; wr: may be written; pm: may not; tk: facts are kept; bn: the name that is given -/
variable (kd : Nat → Nat × Nat) (un uq : Nat → Bool) (Gm : Nat → Nat → List ab_V) (cmp : Nat → Option (Option Nat)) (tls : Nat → List Nat)
def ab_bt (k i : Nat) : Nat := Nat.add (Nat.mul k 64) (bif Nat.blt (kd k).1 100 then i else 63)
def ab_gi (k i : Nat) : Nat := bif un k then 0 else i
def ab_tb (m b : Nat) : Bool := Nat.beq (Nat.mod (Nat.shiftRight m b) 2) 1
def ab_nrm (v : ab_V) : ab_V := bif Nat.beq v.1 2 && uq v.2.1 then (1, Nat.mul 16 v.2.1, 0) else v
def ab_kn (v : ab_V) : Nat := bif Nat.beq v.1 1 then Nat.div v.2.1 16 else v.2.1
/-- what comes of a slot -/
def ab_ld (tk N : Nat) (lo st : List ab_V) (fa : List ab_F) (r : ab_V) (i : Nat) : List (ab_V × List ab_F) := match (bif Nat.beq r.1 1 then ab_ff fa r.2.1 i else none) with
  | some v => [(v, fa)]
  | none => (Gm (ab_kn r) (ab_gi un (ab_kn r) i)).map fun v =>
      bif Nat.beq v.1 2 && not (Nat.beq N 0) && Nat.beq (Nat.div N 16) v.2.1 && not (Nat.beq (Nat.mod N 16) 0) && ab_nL N lo && ab_nL N st && ab_nF N fa then ((1, N, 0), bif Nat.beq r.1 1 && not (Nat.beq r.2.1 N) then (r.2.1, i, (1, N, 0)) :: fa else fa)
      else (ab_nrm uq v, bif Nat.beq r.1 1 && ab_tb tk (ab_bt kd (ab_kn r) i) then (r.2.1, i, ab_nrm uq v) :: fa else fa)
/-- are the slots from i on, n of them, alike -/
def ab_eqV (v w : ab_V) : Bool := Nat.beq v.1 w.1 && Nat.beq v.2.1 w.2.1 && Nat.beq v.2.2 w.2.2
def ab_eqL : List ab_V → List ab_V → Bool
  | [], [] => true
  | v :: l, w :: m => ab_eqV v w && ab_eqL l m
  | _, _ => false
def ab_rng (k i : Nat) : Nat → Bool
  | 0 => true
  | n + 1 => ab_eqL (Gm k (Nat.add i (Nat.add n 1))) (Gm k i) && ab_rng k i n
/-- an element at an index -/
def ab_al (tk N : Nat) (lo st : List ab_V) (fa : List ab_F) (r x : ab_V) : Option (List (ab_V × List ab_F)) := bif Nat.ble 2147483648 x.2.1 && Nat.ble x.2.1 x.2.2 && Nat.blt x.2.2 (Nat.add 2147483648 (kd (ab_kn r)).2) then
    (bif ab_exq x then some (ab_ld kd un uq Gm tk N lo st fa r (Nat.sub x.2.1 2147483648))
    else bif un (ab_kn r) || ab_rng Gm (ab_kn r) (Nat.sub x.2.1 2147483648) (Nat.sub x.2.2 x.2.1) then some (ab_ld kd un uq Gm tk N lo st fa (2, ab_kn r, 0) (Nat.sub x.2.1 2147483648)) else none)
  else none
def ab_any (v : ab_V) : List ab_V → Bool
  | [] => false
  | w :: l => (ab_le v w && not (Nat.beq w.1 5) && not (Nat.beq w.1 1)) || ab_any v l
/-- without the facts on that kind's place -/
def ab_rm1 (k i : Nat) : List ab_F → List ab_F
  | [] => []
  | f :: l => bif Nat.beq (Nat.div f.1 16) k && Nat.beq f.2.1 i then ab_rm1 k i l else f :: ab_rm1 k i l
def ab_rmk (k : Nat) : List ab_F → List ab_F
  | [] => []
  | f :: l => bif Nat.beq (Nat.div f.1 16) k then ab_rmk k l else f :: ab_rmk k l
def ab_rmw (w : Nat) : List ab_F → List ab_F
  | [] => []
  | f :: l => bif ab_tb w (ab_bt kd (Nat.div f.1 16) f.2.1) then ab_rmw w l else f :: ab_rmw w l
/-- a store into a place -/
def ab_sv (wr pm tk : Nat) (fa : List ab_F) (r : ab_V) (i : Nat) (v : ab_V) : Option (List ab_F) := bif ab_any v (Gm (ab_kn r) (ab_gi un (ab_kn r) i)) && ab_tb wr (ab_bt kd (ab_kn r) i) && not (ab_tb pm (ab_bt kd (ab_kn r) i)) then
    some (bif Nat.beq r.1 1 && ab_tb tk (ab_bt kd (ab_kn r) i) then (r.2.1, i, v) :: ab_rm1 (ab_kn r) i fa else ab_rm1 (ab_kn r) i fa) else none
def ab_as (wr pm tk : Nat) (fa : List ab_F) (r x v : ab_V) : Option (List ab_F) := bif Nat.ble 2147483648 x.2.1 && Nat.ble x.2.1 x.2.2 && Nat.blt x.2.2 (Nat.add 2147483648 (kd (ab_kn r)).2) then
    (bif ab_exq x then ab_sv kd un Gm wr pm tk fa r (Nat.sub x.2.1 2147483648) v
    else bif un (ab_kn r) && ab_any v (Gm (ab_kn r) 0) && ab_tb wr (ab_bt kd (ab_kn r) 0) && not (ab_tb pm (ab_bt kd (ab_kn r) 0)) && Nat.ble 100 (kd (ab_kn r)).1 then some (ab_rmk (ab_kn r) fa) else none)
  else none
def ax_bin (f : ab_V → ab_V → Option ab_V) (pc : Nat) (lo st : List ab_V) (fa : List ab_F) (g : ab_G) : Option ab_X := match st with
  | y :: x :: r => bif ab_iI x && ab_iI y then (match f x y with
      | some z => some (.inl [(Nat.add pc 1, lo, z :: r, fa, g)])
      | none => none) else none
  | _ => none
def ax_f (f : ab_V → ab_V → ab_V) (x y : ab_V) : Option ab_V := some (f (ab_i x) (ab_i y))
def ax_res (pc : Nat) (lo r : List ab_V) (g : ab_G) (o : Option (List (ab_V × List ab_F))) : Option ab_X := match o with
  | some l => some (.inl (l.map fun p => (pc, lo, p.1 :: r, p.2, g)))
  | none => none
def ab_allI : List (ab_V × List ab_F) → Bool
  | [] => true
  | p :: l => ab_iI p.1 && ab_allI l
def ab_allR : List (ab_V × List ab_F) → Bool
  | [] => true
  | p :: l => ab_iR p.1 && ab_allR l
def ab_okI (o : Option (List (ab_V × List ab_F))) : Bool := match o with
  | some l => ab_allI l
  | none => false
def ab_okR (o : Option (List (ab_V × List ab_F))) : Bool := match o with
  | some l => ab_allR l
  | none => false
def ax_ald (t : Nat) (tk N pc : Nat) (lo st : List ab_V) (fa : List ab_F) (g : ab_G) : Option ab_X := match st with
  | x :: r :: s => bif ab_iI x && ab_iR r && Nat.beq (kd (ab_kn r)).1 t && ab_okI (ab_al kd un uq Gm tk N lo s fa r (ab_i x)) then ax_res (Nat.add pc 1) lo s g (ab_al kd un uq Gm tk N lo s fa r (ab_i x)) else none
  | _ => none
def ax_aal (tk N pc : Nat) (lo st : List ab_V) (fa : List ab_F) (g : ab_G) : Option ab_X := match st with
  | x :: r :: s => bif ab_iI x && ab_iR r && Nat.ble 103 (kd (ab_kn r)).1 && Nat.ble (kd (ab_kn r)).1 106 && ab_okR (ab_al kd un uq Gm tk N lo s fa r (ab_i x)) then ax_res (Nat.add pc 1) lo s g (ab_al kd un uq Gm tk N lo s fa r (ab_i x)) else none
  | _ => none
def ab_isb (v : ab_V) : Bool := ab_iI v && Nat.ble 2147483648 (ab_i v).2.1 && Nat.ble (ab_i v).2.2 2147483649
def ab_fit (c : Nat) (v : ab_V) : Bool := bif Nat.beq c 0 then ab_iI v else bif Nat.beq c 1 then ab_isb v else bif Nat.beq c 2 then Nat.beq v.1 4 else Nat.beq c 3 && (ab_iR v || Nat.beq v.1 3)
def ax_st (pc : Nat) (lo s : List ab_V) (g : ab_G) (o : Option (List ab_F)) : Option ab_X := match o with
  | some fa => some (.inl [(pc, lo, s, fa, g)])
  | none => none
def ax_ast (t c wr pm tk pc : Nat) (lo st : List ab_V) (fa : List ab_F) (g : ab_G) : Option ab_X := match st with
  | v :: x :: r :: s => bif ab_iI x && ab_iR r && Nat.beq (kd (ab_kn r)).1 t && ab_fit c v then ax_st (Nat.add pc 1) lo s g (ab_as kd un Gm wr pm tk fa r (ab_i x) v) else none
  | _ => none
def ax_aas (wr pm tk pc : Nat) (lo st : List ab_V) (fa : List ab_F) (g : ab_G) : Option ab_X := match st with
  | v :: x :: r :: s => bif ab_iI x && ab_iR r && ab_iR v && Nat.ble 100 (kd (ab_kn r)).1 && (match cmp (kd (ab_kn r)).1 with
      | some (some t) => Nat.beq t (kd (ab_kn v)).1
      | _ => false) then ax_st (Nat.add pc 1) lo s g (ab_as kd un Gm wr pm tk fa r (ab_i x) v) else none
  | _ => none
def ax_get (a b tk N pc : Nat) (lo st : List ab_V) (fa : List ab_F) (g : ab_G) : Option ab_X := match st with
  | r :: s => bif ab_iR r && Nat.beq (kd (ab_kn r)).1 a && Nat.blt b (kd (ab_kn r)).2 then ax_res (Nat.add pc 3) lo s g (some (ab_ld kd un uq Gm tk N lo s fa r b)) else none
  | _ => none
def ax_put (a b c wr pm tk pc : Nat) (lo st : List ab_V) (fa : List ab_F) (g : ab_G) : Option ab_X := match st with
  | v :: r :: s => bif ab_iR r && Nat.beq (kd (ab_kn r)).1 a && Nat.blt a 100 && Nat.blt b (kd (ab_kn r)).2 && ab_fit c v then ax_st (Nat.add pc 3) lo s g (ab_sv kd un Gm wr pm tk fa r b v) else none
  | _ => none
def ax_cpy (wr pm pc : Nat) (lo st : List ab_V) (fa : List ab_F) (g : ab_G) : Option ab_X := match st with
  | n :: dp :: y :: sp :: x :: [] => bif ab_iI n && ab_iI dp && ab_iI sp && ab_iR x && ab_iR y && Nat.beq (ab_kn x) (ab_kn y) && Nat.beq (kd (ab_kn y)).1 100 && un (ab_kn y) && ab_tb wr (ab_bt kd (ab_kn y) 0) && not (ab_tb pm (ab_bt kd (ab_kn y) 0)) && Nat.ble 2147483648 (ab_i n).2.1 && Nat.ble 2147483648 (ab_i dp).2.1 && Nat.ble 2147483648 (ab_i sp).2.1 && Nat.ble (Nat.add (ab_i sp).2.2 (ab_i n).2.2) (Nat.add 4294967296 (kd (ab_kn y)).2) && Nat.ble (Nat.add (ab_i dp).2.2 (ab_i n).2.2) (Nat.add 4294967296 (kd (ab_kn y)).2) then some (.inl [(Nat.add pc 3, lo, [], ab_rmk (ab_kn y) fa, g)]) else none
  | _ => none
def ax_ask (j na rc ci pc : Nat) (lo st : List ab_V) (fa : List ab_F) (g : ab_G) : Option ab_X := match rc with
  | 0 => bif ab_small 8 (st.drop na) && ab_cat1 (st.take na) && Nat.beq (st.take na).length na then some (.inr (.inr (j, (st.take na).reverse, (pc, lo, st.drop na, fa, g)))) else none
  | _ => match st.drop na with
    | x :: r => bif ab_small 8 r && ab_cat1 (st.take na) && Nat.beq (st.take na).length na && ab_iR x && (Nat.beq rc 1 || Nat.beq (kd (ab_kn x)).1 ci) then some (.inr (.inr (j, x :: (st.take na).reverse, (pc, lo, r, fa, g)))) else none
    | [] => none
def ax_lod (a pc' : Nat) (re : Bool) (lo st : List ab_V) (fa : List ab_F) (g : ab_G) : Option ab_X := bif (bif re then ab_iR (ab_nth lo a) || Nat.beq (ab_nth lo a).1 6 else ab_iI (ab_nth lo a)) then some (.inl [(pc', lo, ab_nth lo a :: st, fa, g)]) else none
def ax_sto (a pc' : Nat) (re : Bool) (lo st : List ab_V) (fa : List ab_F) (g : ab_G) : Option ab_X := match st with
  | v :: r => bif (bif re then ab_iR v || Nat.beq v.1 6 else ab_iI v) && Nat.blt a lo.length then some (.inl [(pc', lo.set a v, r, fa, g)]) else none
  | [] => none
def ax_sw (tl : List Nat) (a : Nat) (lo : List ab_V) (x : ab_V) (r : List ab_V) (fa : List ab_F) (g : ab_G) : Option ab_X := bif ab_exq x && Nat.ble 2147483648 x.2.1 then some (.inl [((tl[Nat.sub x.2.1 2147483648]?).getD a, lo, r, fa, g)]) else some (.inl ((a :: tl).map fun t => (t, lo, r, fa, g)))
def ax_1 (pc : Nat) (lo st : List ab_V) (fa : List ab_F) (g : ab_G) : Option ab_X := some (.inl [(pc, lo, st, fa, g)])
def ab_ex0 (op a b pc : Nat) (lo st : List ab_V) (fa : List ab_F) (g : ab_G) : Option ab_X :=
  bif Nat.blt op 4 then (bif Nat.blt op 2 then ax_1 (Nat.add pc b) lo ((0, Nat.mod (Nat.add (Nat.div a 8) 2147483648) 4294967296, Nat.mod (Nat.add (Nat.div a 8) 2147483648) 4294967296) :: st) fa g
    else bif Nat.blt op 3 then ax_lod a (Nat.add pc b) false lo st fa g else ax_lod a (Nat.add pc b) true lo st fa g)
  else (bif Nat.blt op 5 then ax_sto a (Nat.add pc b) false lo st fa g else bif Nat.blt op 6 then ax_sto a (Nat.add pc b) true lo st fa g
    else bif ab_iI (ab_nth lo a) then ax_1 (Nat.add pc 3) (lo.set a (ab_add (ab_nth lo a) (0, Nat.mod (Nat.add b 2147483648) 4294967296, Nat.mod (Nat.add b 2147483648) 4294967296))) st fa g else none)
def ab_ex1 (op pc : Nat) (lo st : List ab_V) (fa : List ab_F) (g : ab_G) : Option ab_X :=
  bif Nat.blt op 11 then (bif Nat.blt op 9 then (bif Nat.blt op 8 then ax_bin (fun x y => some (ab_add x y)) pc lo st fa g else ax_bin (ax_f ab_sub) pc lo st fa g) else (bif Nat.blt op 10 then ax_bin (ax_f ab_mul) pc lo st fa g else ax_bin (ax_f ab_and) pc lo st fa g))
  else (bif Nat.blt op 13 then (bif Nat.blt op 12 then ax_bin (ax_f (ab_e2 (fun x y => x ||| y))) pc lo st fa g else ax_bin (fun x y => ab_div (ab_i x) (ab_i y)) pc lo st fa g)
    else (bif Nat.blt op 14 then ax_bin (fun x y => ab_rem (ab_i x) (ab_i y)) pc lo st fa g else bif Nat.blt op 15 then ax_bin (ax_f (ab_e2 (fun x y => x <<< (y &&& 31)))) pc lo st fa g else ax_bin (ax_f (ab_e2 (fun x y => x >>> (y &&& 31)))) pc lo st fa g))
def ab_ex2 (op a b pc : Nat) (lo st : List ab_V) (fa : List ab_F) (g : ab_G) : Option ab_X :=
  bif Nat.blt op 20 then (match st with
    | v :: r => bif Nat.beq op 16 then (bif ab_iI v then ax_1 (Nat.add pc 1) lo ((4, 0, 0) :: r) fa g else none)
        else bif Nat.beq op 18 then (bif Nat.beq v.1 4 || Nat.beq v.1 5 then none else ax_1 (Nat.add pc 1) lo (v :: v :: r) fa g)
        else bif Nat.beq op 19 then (match r with
          | w :: r' => bif Nat.beq v.1 4 || Nat.beq v.1 5 || Nat.beq w.1 4 || Nat.beq w.1 5 then none else ax_1 (Nat.add pc 1) lo (v :: w :: v :: w :: r') fa g
          | [] => none) else none
    | [] => none)
  else bif Nat.blt op 22 then (bif Nat.beq op 20 then (match st with
      | v :: r => bif Nat.beq v.1 4 || Nat.beq v.1 5 then none else ax_1 (Nat.add pc 1) lo r fa g
      | [] => none) else ax_1 a lo st fa g)
  else bif Nat.blt op 24 then (bif Nat.beq op 22 then (match st with
      | x :: r => bif ab_iI x then ab_br (ab_cnd a (ab_i x) (0, 2147483648, 2147483648)) b (Nat.add pc 3) lo r fa g else none
      | [] => none) else (match st with
      | y :: x :: r => bif ab_iI x && ab_iI y then ab_br (ab_cnd a (ab_i x) (ab_i y)) b (Nat.add pc 3) lo r fa g else none
      | _ => none))
  else (match st with
      | x :: r => bif ab_iI x then ax_sw (tls b) a lo (ab_i x) r fa g else none
      | [] => none)
def ab_ex3 (wr pm tk N op a b c pc : Nat) (lo st : List ab_V) (fa : List ab_F) (g : ab_G) : Option ab_X :=
  bif Nat.blt op 28 then (bif Nat.beq op 25 then ax_get kd un uq Gm a b tk N pc lo st fa g else bif Nat.beq op 26 then ax_put kd un Gm a b c wr pm tk pc lo st fa g else ax_ald kd un uq Gm 100 tk N pc lo st fa g)
  else bif Nat.blt op 32 then (bif Nat.beq op 28 then ax_ald kd un uq Gm 101 tk N pc lo st fa g else bif Nat.beq op 30 then ax_aal kd un uq Gm tk N pc lo st fa g else bif Nat.beq op 31 then ax_ast kd un Gm 100 0 wr pm tk pc lo st fa g else none)
  else bif Nat.beq op 32 then ax_ast kd un Gm 101 1 wr pm tk pc lo st fa g else bif Nat.beq op 33 then ax_ast kd un Gm 102 2 wr pm tk pc lo st fa g else ax_aas kd un Gm cmp wr pm tk pc lo st fa g
def ab_ex4 (wr pm op a b c d pc : Nat) (lo st : List ab_V) (fa : List ab_F) (g : ab_G) : Option ab_X :=
  bif Nat.blt op 41 then (bif Nat.beq op 35 then (match st with
      | r :: s => bif ab_iR r && Nat.ble 100 (kd (ab_kn r)).1 && Nat.ble (kd (ab_kn r)).1 106 && Nat.blt (kd (ab_kn r)).2 1000000 then ax_1 (Nat.add pc 1) lo ((0, Nat.add 2147483648 (kd (ab_kn r)).2, Nat.add 2147483648 (kd (ab_kn r)).2) :: s) fa g else none
      | [] => none)
    else bif Nat.beq op 39 then (bif ab_small 4 st then some (.inr (.inl (2, (a, 0, 0)))) else none)
    else bif Nat.beq op 40 then ax_ask kd a b c d pc lo st fa g else none)
  else bif Nat.blt op 44 then (match st with
      | y :: x :: r => bif ab_iI x && ab_iI y && ab_small 8 r && Nat.blt op 43 then ax_1 (Nat.add pc 3) lo (ab_mnx (bif Nat.beq op 41 then ab_min else ab_max) (ab_i x) (ab_i y) :: r) fa g else none
      | _ => none)
  else bif Nat.blt op 47 then (bif Nat.beq op 44 then (match st with
        | [v] => bif ab_iI v && (Nat.beq a 0 || ab_isb v) then some (.inr (.inl (1, v))) else none
        | _ => none)
      else bif Nat.beq op 45 then (match st with
        | [v] => bif ab_iR v then some (.inr (.inl (1, v))) else none
        | _ => none)
      else (match st with
        | [] => some (.inr (.inl (0, (3, 0, 0))))
        | _ => none))
  else bif Nat.beq op 47 then ax_bin (ax_f (ab_e2 (fun x y => (x.toUInt32 >>> (y &&& 31).toUInt32).toInt32))) pc lo st fa g
  else bif Nat.beq op 49 then ax_cpy kd un wr pm pc lo st fa g else none
def ab_ex (wr pm tk N op a b c d pc : Nat) (lo st : List ab_V) (fa : List ab_F) (g : ab_G) : Option ab_X := bif Nat.beq op 0 || Nat.blt 49 op then none
  else bif Nat.blt op 25 then (bif Nat.blt op 7 then ab_ex0 op a b pc lo st fa g else bif Nat.blt op 16 then ab_ex1 op pc lo st fa g else ab_ex2 tls op a b pc lo st fa g)
  else bif Nat.blt op 35 then ab_ex3 kd un uq Gm cmp wr pm tk N op a b c pc lo st fa g else ab_ex4 kd un wr pm op a b c d pc lo st fa g
end ABX
