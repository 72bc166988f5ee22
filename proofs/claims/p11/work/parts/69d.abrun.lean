/-! ===== methods by contracts: the checker ===== -/
/-- an entry of a unit's table: 0 go on from it; 1 cut a local's bounds; 2 what a row of slots holds together -/
abbrev ab_E : Type := Nat × Nat × List Nat × ab_S
section ABD
variable (fty : Nat → Nat → Option FieldType) (lk : Nat → Nat → Option am_K) (tls : Nat → List Nat)
/-- are the words the method's -/
def wk_mck (mi : am_M) (mf : fm_M) : Bool := decide (mf.2.2.1 = am_L mi ∧ mf.2.2.2.1 = am_f mi ∧ mf.2.2.2.2.1 = am_w mi ∧ mf.2.2.2.2.2 = am_h mi) && ((List.range mf.2.1).all fun pc => Nat.beq (fm_w0 (fm_w mf.1 pc)) 0 || (match am_ins (am_c mi) pc with
    | some (i, n) => wk_ck fty lk tls mi pc i n (fm_w0 (fm_w mf.1 pc)) (fm_w1 (fm_w mf.1 pc)) (fm_w2 (fm_w mf.1 pc)) (fm_w3 (fm_w mf.1 pc)) (fm_w4 (fm_w mf.1 pc))
    | none => false)) && ((am_h mi).isEmpty || (am_c mi).all fun x => match x.2.1 with
    | .invokevirtual ix => match lk (am_o mi) ix with
      | some kk => Nat.beq kk.1 20
      | none => true
    | _ => true)
theorem wk_mck_d {mi : am_M} {mf : fm_M} (h : wk_mck fty lk tls mi mf = true) : (mf.2.2.1 = am_L mi ∧ mf.2.2.2.1 = am_f mi ∧ mf.2.2.2.2.1 = am_w mi ∧ mf.2.2.2.2.2 = am_h mi) ∧ (∀ pc, pc < mf.2.1 → fm_w0 (fm_w mf.1 pc) ≠ 0 → ∃ i n, am_ins (am_c mi) pc = some (i, n) ∧ wk_ck fty lk tls mi pc i n (fm_w0 (fm_w mf.1 pc)) (fm_w1 (fm_w mf.1 pc)) (fm_w2 (fm_w mf.1 pc)) (fm_w3 (fm_w mf.1 pc)) (fm_w4 (fm_w mf.1 pc)) = true) ∧ (am_h mi ≠ [] → ∀ pc ix n kk, am_ins (am_c mi) pc = some (.invokevirtual ix, n) → lk (am_o mi) ix = some kk → kk.1 = 20) := by
  obtain ⟨h1, h3⟩ := ab_a2 h
  obtain ⟨h1, h2⟩ := ab_a2 h1
  refine ⟨of_decide_eq_true h1, fun pc hpc h0 => ?_, fun hne pc ix n kk hi hl => ?_⟩
  · have := List.all_eq_true.mp h2 pc (List.mem_range.mpr hpc)
    rcases Bool.or_eq_true_iff.mp this with g | g
    · exact absurd (Nat.eq_of_beq_eq_true g) h0
    · split at g
      · rename_i i n hi
        exact ⟨i, n, hi, g⟩
      · cases g
  · rcases Bool.or_eq_true_iff.mp h3 with g | g
    · exact absurd (List.isEmpty_iff.mp g) hne
    · have := List.all_eq_true.mp g _ (am_ins_mem hi)
      dsimp only at this
      rw [hl] at this
      exact Nat.eq_of_beq_eq_true this
theorem wk_ck_40 {mi : am_M} {pc n a b c d : Nat} {i : Instr} (h : wk_ck fty lk tls mi pc i n 40 a b c d = true) : (c = 0 ∨ c = 1 ∨ c = 2) ∧ (c = 2 → ∃ ix, i = .invokevirtual ix ∧ (lk (am_o mi) ix).isSome = true) := by
  cases i
  case invokevirtual ix =>
    simp only [wk_ck] at h
    split at h
    · rename_i kk hl
      have h := of_decide_eq_true h
      exact ⟨Or.inr (Or.inr h.2.2.2.2.2.1), fun _ => ⟨ix, rfl, by rw [hl]; rfl⟩⟩
    · cases h
  case invokestatic ix =>
    simp only [wk_ck] at h
    split at h
    · have h := of_decide_eq_true h
      exact ⟨Or.inl h.2.2.2.2, fun e => by omega⟩
    · cases h
  case invokespecial ix =>
    simp only [wk_ck] at h
    split at h
    · have h := of_decide_eq_true h
      exact ⟨Or.inr (Or.inl h.2.2.2.2.2), fun e => by omega⟩
    · cases h
  all_goals (exfalso; simp only [wk_ck] at h)
  all_goals (first | (cases h; done) | skip)
  all_goals (repeat' (split at h))
  all_goals (first | (cases h; done) | (simp at h; done))
end ABD
section ABC
variable (kd : Nat → Nat × Nat) (un uq : Nat → Bool) (Gm : Nat → Nat → List ab_V) (cmp : Nat → Option (Option Nat)) (tls : Nat → List Nat)
variable (cx : Nat → Option Nat) (wms : Nat → Option fm_M) (Ct : Nat → List ab_V → List ab_C) (cr : Nat → Nat → List (List ab_F))
/-- an argument against what is wanted -/
def ab_lep (x p : ab_V) : Bool := bif Nat.beq p.1 1 then ab_iR x && Nat.beq (ab_kn x) (Nat.div p.2.1 16) else ab_le x p
def ab_lepL : List ab_V → List ab_V → Bool
  | [], [] => true
  | x :: l, p :: m => ab_lep x p && ab_lepL l m
  | _, _ => false
def ab_nd : List ab_V → Bool
  | [] => true
  | p :: l => (not (Nat.beq p.1 1) || ab_nL p.2.1 l) && ab_nd l
/-- what the caller calls it -/
def ab_tr : List ab_V → List ab_V → Nat → Option Nat
  | p :: ps, x :: xs, n => bif Nat.beq p.1 1 && Nat.beq p.2.1 n then (bif Nat.beq x.1 1 then some x.2.1 else none) else ab_tr ps xs n
  | _, _, n => bif Nat.beq (Nat.mod n 16) 0 && uq (Nat.div n 16) then some n else none
def ab_clo (v : ab_V) : Bool := not (Nat.beq v.1 1) && not (Nat.beq v.1 5)
def ab_pfk (fa : List ab_F) (pre as : List ab_V) : List ab_F → Bool
  | [] => true
  | f :: l => (match ab_tr uq pre as f.1 with
    | some n => (match ab_ff fa n f.2.1 with
      | some v => ab_le v f.2.2 && ab_clo f.2.2
      | none => false)
    | none => false) && ab_pfk fa pre as l
def ab_mat (C : ab_C) (as : List ab_V) (fa : List ab_F) (wr : Nat) : Bool := ab_lepL as C.1 && ab_nd C.1 && ab_pfk uq fa C.1 as C.2.1 && Nat.beq (Nat.land C.2.2.2.1 wr) C.2.2.2.1
def ab_gg (g c : ab_G) : ab_G := (Nat.sub (Nat.add g.1 c.1) 1000, Nat.sub (Nat.add g.2.1 c.2.1) 1000, Nat.add g.2.2.1 c.2.2.1, Nat.add g.2.2.2 c.2.2.2)
/-- facts that any caller knows -/
def ab_bfs : List ab_F → Bool
  | [] => true
  | f :: l => Nat.beq (Nat.mod f.1 16) 0 && uq (Nat.div f.1 16) && ab_clo f.2.2 && ab_bfs l
def ab_out (C : ab_C) (rc : Nat) (hs : List (Nat × Nat × Nat × Nat)) (A : ab_S) : List (Nat × ab_V × List ab_F) → Option (List ab_S)
  | [] => some []
  | e :: l => match ab_out C rc hs A l with
    | none => none
    | some r => bif ab_bfs uq e.2.2 then
        (bif Nat.beq e.1 0 then some ((Nat.add A.1 3, A.2.1, A.2.2.1, e.2.2 ++ ab_rmw kd C.2.2.2.1 A.2.2.2.1, ab_gg A.2.2.2.2 C.2.2.2.2) :: r)
        else bif Nat.beq e.1 1 && ab_clo e.2.1 then some ((Nat.add A.1 3, A.2.1, ab_nrm uq e.2.1 :: A.2.2.1, e.2.2 ++ ab_rmw kd C.2.2.2.1 A.2.2.2.1, ab_gg A.2.2.2.2 C.2.2.2.2) :: r)
        else bif Nat.beq e.1 2 && Nat.beq rc 2 then (match am_catch cx hs A.1 e.2.1.1 with
          | some t => some ((t, A.2.1, [(6, 0, 0)], e.2.2 ++ ab_rmw kd C.2.2.2.1 A.2.2.2.1, ab_gg A.2.2.2.2 C.2.2.2.2) :: r)
          | none => none)
        else none) else none
def ab_try (as : List ab_V) (wr rc : Nat) (hs : List (Nat × Nat × Nat × Nat)) (A : ab_S) : List ab_C → Option (List ab_S)
  | [] => none
  | C :: l => bif ab_mat uq C as A.2.2.2.1 wr then ab_out kd uq cx C rc hs A C.2.2.1 else ab_try as wr rc hs A l
def ab_call (mf : fm_M) (wr rc j : Nat) (as : List ab_V) (A : ab_S) : Option (List ab_S) := match wms j with
  | some mj => bif Nat.ble (Nat.add mj.2.2.2.1 1) mf.2.2.2.1 && Nat.ble (Nat.add (Nat.add 8 (Nat.add mj.2.2.1 11)) mj.2.2.2.2.1) mf.2.2.2.2.1 && Nat.ble as.length mj.2.2.1 then ab_try kd uq cx as wr rc mf.2.2.2.2.2 A (Ct j as) else none
  | none => none
def ab_bnd : List (Nat × Nat) → Nat → Nat
  | [], _ => 0
  | p :: l, n => bif Nat.beq p.1 n then p.2 else ab_bnd l n
/-- a step, calls and all: next states, or an end -/
def ab_stp (mf : fm_M) (wr pm tk : Nat) (bn : List (Nat × Nat)) (A : ab_S) : Option (List ab_S ⊕ (Nat × ab_V)) := bif Nat.blt A.1 mf.2.1 then (match ab_ex kd un uq Gm cmp tls wr pm tk (ab_bnd bn A.1) (fm_w0 (fm_w mf.1 A.1)) (fm_w1 (fm_w mf.1 A.1)) (fm_w2 (fm_w mf.1 A.1)) (fm_w3 (fm_w mf.1 A.1)) (fm_w4 (fm_w mf.1 A.1)) A.1 A.2.1 A.2.2.1 A.2.2.2.1 A.2.2.2.2 with
    | none => none
    | some (.inl As) => some (.inl As)
    | some (.inr (.inl e)) => some (.inr e)
    | some (.inr (.inr (j, as, A'))) => bif Nat.beq (fm_w0 (fm_w mf.1 A.1)) 40 && Nat.beq A'.1 A.1 then (match ab_call kd uq cx wms Ct mf wr (fm_w3 (fm_w mf.1 A.1)) j as A' with
      | some As => some (.inl As)
      | none => none) else none) else none
def ab_ms (A : ab_S) : List ab_E → Bool
  | [] => false
  | e :: l => ab_leS A e.2.2.2 || ab_ms A l
/-- is it one of the ends -/
def ab_ed (C : ab_C) (fa : List ab_F) (g : ab_G) (t : Nat) (v : ab_V) : List (Nat × ab_V × List ab_F) → Bool
  | [] => false
  | e :: l => (Nat.beq e.1 t && (bif Nat.beq t 0 then true else bif Nat.beq t 1 then ab_le v e.2.1 && ab_clo e.2.1 else Nat.beq v.1 e.2.1.1) && ab_bfs uq e.2.2 && ab_leF fa e.2.2 && ab_leG (bif Nat.beq t 2 then (g.1, g.2.1, Nat.add g.2.2.1 1, Nat.add g.2.2.2 6) else g) C.2.2.2.2) || ab_ed C fa g t v l
def ab_go (mf : fm_M) (C : ab_C) (pm tk : Nat) (bn : List (Nat × Nat)) (cut : Nat) (es : List ab_E) : Nat → ab_S → Bool
  | 0, _ => false
  | f + 1, A => match ab_stp kd un uq Gm cmp tls cx wms Ct mf C.2.2.2.1 pm tk bn A with
    | none => false
    | some (.inl As) => As.all fun A' => bif ab_tb cut A'.1 then ab_ms A' es else ab_go mf C pm tk bn cut es f A'
    | some (.inr e) => ab_ed uq C A.2.2.2.1 A.2.2.2.2 e.1 e.2 C.2.2.1
def ab_cuts (l h : Nat) : List Nat → List (Nat × Nat)
  | [] => [(l, h)]
  | c :: cs => (l, Nat.sub c 1) :: ab_cuts c h cs
def ab_ent (mf : fm_M) (C : ab_C) (pm tk : Nat) (bn : List (Nat × Nat)) (cut : Nat) (es : List ab_E) (e : ab_E) : Bool := bif Nat.beq e.1 0 then ab_go kd un uq Gm cmp tls cx wms Ct mf C pm tk bn cut es 1000 e.2.2.2
  else bif Nat.beq e.1 1 then ab_iI (ab_nth e.2.2.2.2.1 e.2.1) && ((ab_cuts (ab_i (ab_nth e.2.2.2.2.1 e.2.1)).2.1 (ab_i (ab_nth e.2.2.2.2.1 e.2.1)).2.2 e.2.2.1).all fun p => ab_ms (e.2.2.2.1, e.2.2.2.2.1.set e.2.1 (0, p.1, p.2), e.2.2.2.2.2) es)
  else (match e.2.2.1 with
    | p :: _ => ((Nat.beq (Nat.mod p 16) 0 && uq (Nat.div p 16)) || not (ab_nL p e.2.2.2.2.1)) && ((cr e.2.1 p).all fun l => ab_ms (e.2.2.2.1, e.2.2.2.2.1, e.2.2.2.2.2.1, l ++ e.2.2.2.2.2.2.1, e.2.2.2.2.2.2.2) es)
    | [] => false)
def ab_tab (mf : fm_M) (C : ab_C) (pm tk : Nat) (bn : List (Nat × Nat)) (cut : Nat) : List ab_E → Bool
  | [] => true
  | e :: es => ab_ent kd un uq Gm cmp tls cx wms Ct cr mf C pm tk bn cut es e && ab_tab mf C pm tk bn cut es
def ab_5s : Nat → List ab_V
  | 0 => []
  | n + 1 => (5, 0, 0) :: ab_5s n
/-- does the method keep the contract -/
def ab_unit (j : Nat) (C : ab_C) (pm tk : Nat) (bn : List (Nat × Nat)) (cut : Nat) (es : List ab_E) : Bool := match wms j with
  | some mf => Nat.ble C.1.length mf.2.2.1 && ab_tab kd un uq Gm cmp tls cx wms Ct cr mf C pm tk bn cut es && ab_ms (0, C.1 ++ ab_5s (Nat.sub mf.2.2.1 C.1.length), [], C.2.1, (1000, 1000, 0, 0)) es
  | none => false
end ABC
