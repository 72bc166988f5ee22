/-! ===== the fast machine's step is the abstract machine's ===== -/
section FME
variable {hp : am_H} {pc L k q : Nat} {st : List Nat} {H : fm_H} {x : fm_S ⊕ (fm_R ⊕ (Nat × List Nat × fm_S))}
variable {fty : Nat → Nat → Option FieldType} {dfl : Nat → Option (List Value)} {cmp : Nat → Option (Option Nat)} {lk : Nat → Nat → Option am_K} {mi : am_M} {xs : am_O} {tl : List Nat} {bl : Nat → Nat} {a b c d : Nat}
theorem fm_ex1 : fm_ex cmp tl bl xs 1 a b c d pc L st H k q = fm_go (Nat.add pc b) L (a :: st) H k q := rfl
theorem fm_ex2 : fm_ex cmp tl bl xs 2 a b c d pc L st H k q = fx_lod (fm_g L a) (Nat.add pc b) false L st H k q := rfl
theorem fm_ex3 : fm_ex cmp tl bl xs 3 a b c d pc L st H k q = fx_lod (fm_g L a) (Nat.add pc b) true L st H k q := rfl
theorem fm_ex4 : fm_ex cmp tl bl xs 4 a b c d pc L st H k q = fx_sto a (Nat.add pc b) false L st H k q := rfl
theorem fm_ex5 : fm_ex cmp tl bl xs 5 a b c d pc L st H k q = fx_sto a (Nat.add pc b) true L st H k q := rfl
theorem fm_ex6 : fm_ex cmp tl bl xs 6 a b c d pc L st H k q = fx_inc a b (fm_g L a) pc L st H k q := rfl
theorem fm_ex7 : fm_ex cmp tl bl xs 7 a b c d pc L st H k q = fx_bin Nat.add pc L st H k q := rfl
theorem fm_ex8 : fm_ex cmp tl bl xs 8 a b c d pc L st H k q = fx_bin fm_sub pc L st H k q := rfl
theorem fm_ex9 : fm_ex cmp tl bl xs 9 a b c d pc L st H k q = fx_bin Nat.mul pc L st H k q := rfl
theorem fm_ex10 : fm_ex cmp tl bl xs 10 a b c d pc L st H k q = fx_and xs pc L st H k q := rfl
theorem fm_ex11 : fm_ex cmp tl bl xs 11 a b c d pc L st H k q = fx_bin fm_or pc L st H k q := rfl
theorem fm_ex12 : fm_ex cmp tl bl xs 12 a b c d pc L st H k q = fx_dv fm_div pc L st H k q := rfl
theorem fm_ex13 : fm_ex cmp tl bl xs 13 a b c d pc L st H k q = fx_dv fm_rem pc L st H k q := rfl
theorem fm_ex14 : fm_ex cmp tl bl xs 14 a b c d pc L st H k q = fx_bin fm_shl pc L st H k q := rfl
theorem fm_ex15 : fm_ex cmp tl bl xs 15 a b c d pc L st H k q = fx_bin fm_shr pc L st H k q := rfl
theorem fm_ex16 : fm_ex cmp tl bl xs 16 a b c d pc L st H k q = fx_i2l pc L st H k q := rfl
theorem fm_ex17 : fm_ex cmp tl bl xs 17 a b c d pc L st H k q = fx_lcmp pc L st H k q := rfl
theorem fm_ex18 : fm_ex cmp tl bl xs 18 a b c d pc L st H k q = fx_dup pc L st H k q := rfl
theorem fm_ex19 : fm_ex cmp tl bl xs 19 a b c d pc L st H k q = fx_dup2 pc L st H k q := rfl
theorem fm_ex20 : fm_ex cmp tl bl xs 20 a b c d pc L st H k q = fx_pop pc L st H k q := rfl
theorem fm_ex21 : fm_ex cmp tl bl xs 21 a b c d pc L st H k q = fm_go a L st H k q := rfl
theorem fm_ex22 : fm_ex cmp tl bl xs 22 a b c d pc L st H k q = fx_ifc xs a b pc L st H k q := rfl
theorem fm_ex23 : fm_ex cmp tl bl xs 23 a b c d pc L st H k q = fx_icm xs a b pc L st H k q := rfl
theorem fm_ex24 : fm_ex cmp tl bl xs 24 a b c d pc L st H k q = fx_tsw tl a L st H k q := rfl
theorem fm_ex25 : fm_ex cmp tl bl xs 25 a b c d pc L st H k q = fx_getf a b pc L st H k q := rfl
theorem fm_ex26 : fm_ex cmp tl bl xs 26 a b c d pc L st H k q = fx_putf a b c pc L st H k q := rfl
theorem fm_ex27 : fm_ex cmp tl bl xs 27 a b c d pc L st H k q = fx_ial xs pc L st H k q := rfl
theorem fm_ex28 : fm_ex cmp tl bl xs 28 a b c d pc L st H k q = fx_ald 101 1 pc L st H k q := rfl
theorem fm_ex29 : fm_ex cmp tl bl xs 29 a b c d pc L st H k q = fx_ald 102 4 pc L st H k q := rfl
theorem fm_ex30 : fm_ex cmp tl bl xs 30 a b c d pc L st H k q = fx_aal pc L st H k q := rfl
theorem fm_ex31 : fm_ex cmp tl bl xs 31 a b c d pc L st H k q = fx_ast 100 0 pc L st H k q := rfl
theorem fm_ex32 : fm_ex cmp tl bl xs 32 a b c d pc L st H k q = fx_ast 101 1 pc L st H k q := rfl
theorem fm_ex33 : fm_ex cmp tl bl xs 33 a b c d pc L st H k q = fx_ast 102 2 pc L st H k q := rfl
theorem fm_ex34 : fm_ex cmp tl bl xs 34 a b c d pc L st H k q = fx_aas cmp pc L st H k q := rfl
theorem fm_ex35 : fm_ex cmp tl bl xs 35 a b c d pc L st H k q = fx_len xs pc L st H k q := rfl
theorem fm_ex36 : fm_ex cmp tl bl xs 36 a b c d pc L st H k q = fx_newa a b c pc L st H k q := rfl
theorem fm_ex37 : fm_ex cmp tl bl xs 37 a b c d pc L st H k q = fx_mul2 pc L st H k q := rfl
theorem fm_ex38 : fm_ex cmp tl bl xs 38 a b c d pc L st H k q = fx_new a b (bl a) pc L st H k q := rfl
theorem fm_ex39 : fm_ex cmp tl bl xs 39 a b c d pc L st H k q = fx_thr a st H k q := rfl
theorem fm_ex40 : fm_ex cmp tl bl xs 40 a b c d pc L st H k q = fx_ask a b c d pc L st H k q := rfl
theorem fm_ex41 : fm_ex cmp tl bl xs 41 a b c d pc L st H k q = fx_mm false pc L st H k q := rfl
theorem fm_ex42 : fm_ex cmp tl bl xs 42 a b c d pc L st H k q = fx_mm true pc L st H k q := rfl
theorem fm_ex43 : fm_ex cmp tl bl xs 43 a b c d pc L st H k q = fx_oin pc L st H k q := rfl
theorem fm_ex44 : fm_ex cmp tl bl xs 44 a b c d pc L st H k q = fx_iret a st H k q := rfl
theorem fm_ex45 : fm_ex cmp tl bl xs 45 a b c d pc L st H k q = fx_aret st H k q := rfl
theorem fm_ex46 : fm_ex cmp tl bl xs 46 a b c d pc L st H k q = fx_vret st H k q := rfl
/-- does the word say the instruction -/
def fm_ck (fty : Nat → Nat → Option FieldType) (dfl : Nat → Option (List Value)) (lk : Nat → Nat → Option am_K) (tl : List Nat) (mi : am_M) (pc : Nat) (i : Instr) (n op a b c d : Nat) : Bool := match i with
  | .iconst z => decide (op = 1 ∧ n = 1 ∧ b = 1 ∧ a = 8 * fm_u (Int32.ofInt z) + 1)
  | .bipush z => decide (op = 1 ∧ n = 2 ∧ b = 2 ∧ a = 8 * fm_u (Int8.ofInt z).toInt32 + 1)
  | .sipush z => decide (op = 1 ∧ n = 3 ∧ b = 3 ∧ a = 8 * fm_u (Int16.ofInt z).toInt32 + 1)
  | .ldc ix => match lk (am_o mi) ix with
    | some kk => decide (op = 1 ∧ n = 2 ∧ b = 2 ∧ kk.1 = 12 ∧ a = 8 * fm_u (Int32.ofInt kk.2.2.2) + 1)
    | none => false
  | .ldc_w ix => match lk (am_o mi) ix with
    | some kk => decide (op = 1 ∧ n = 3 ∧ b = 3 ∧ kk.1 = 12 ∧ a = 8 * fm_u (Int32.ofInt kk.2.2.2) + 1)
    | none => false
  | .iload j => decide (op = 2 ∧ n = 2 ∧ b = 2 ∧ a = j ∧ j < am_L mi)
  | .iload_n j => decide (op = 2 ∧ n = 1 ∧ b = 1 ∧ a = j.val ∧ j.val < am_L mi)
  | .aload j => decide (op = 3 ∧ n = 2 ∧ b = 2 ∧ a = j ∧ j < am_L mi)
  | .aload_n j => decide (op = 3 ∧ n = 1 ∧ b = 1 ∧ a = j.val ∧ j.val < am_L mi)
  | .istore j => decide (op = 4 ∧ n = 2 ∧ b = 2 ∧ a = j ∧ j < am_L mi)
  | .istore_n j => decide (op = 4 ∧ n = 1 ∧ b = 1 ∧ a = j.val ∧ j.val < am_L mi)
  | .astore j => decide (op = 5 ∧ n = 2 ∧ b = 2 ∧ a = j ∧ j < am_L mi)
  | .astore_n j => decide (op = 5 ∧ n = 1 ∧ b = 1 ∧ a = j.val ∧ j.val < am_L mi)
  | .iinc j z => decide (op = 6 ∧ n = 3 ∧ a = j ∧ Int32.ofInt z = Int32.ofNat b ∧ j < am_L mi)
  | .iadd => decide (op = 7 ∧ n = 1)
  | .isub => decide (op = 8 ∧ n = 1)
  | .imul => decide (op = 9 ∧ n = 1)
  | .iand => decide (op = 10 ∧ n = 1)
  | .ior => decide (op = 11 ∧ n = 1)
  | .idiv => decide (op = 12 ∧ n = 1)
  | .irem => decide (op = 13 ∧ n = 1)
  | .ishl => decide (op = 14 ∧ n = 1)
  | .ishr => decide (op = 15 ∧ n = 1)
  | .i2l => decide (op = 16 ∧ n = 1)
  | .lcmp => decide (op = 17 ∧ n = 1)
  | .dup => decide (op = 18 ∧ n = 1)
  | .dup2 => decide (op = 19 ∧ n = 1)
  | .pop => decide (op = 20 ∧ n = 1)
  | .goto off => decide (op = 21 ∧ n = 3 ∧ (pc : Int) + off = (a : Int))
  | .ifCond cd off => decide (op = 22 ∧ n = 3 ∧ a = am_cc cd ∧ (pc : Int) + off = (b : Int))
  | .if_icmp cd off => decide (op = 23 ∧ n = 3 ∧ a = am_cc cd ∧ (pc : Int) + off = (b : Int))
  | .tableswitch dd lo hi offs => decide (op = 24 ∧ lo = 0 ∧ hi + 1 = (tl.length : Int) ∧ (pc : Int) + dd = (a : Int) ∧ offs.toList.map (fun z => (pc : Int) + z) = tl.map (fun t : Nat => (t : Int)))
  | .getfield ix => match lk (am_o mi) ix with
    | some kk => decide (op = 25 ∧ n = 3 ∧ kk.1 ≤ 4 ∧ a = kk.2.1 ∧ b = kk.2.2.1)
    | none => false
  | .putfield ix => match lk (am_o mi) ix with
    | some kk => decide (op = 26 ∧ n = 3 ∧ (kk.1 ≤ 1 ∨ (kk.1 = 2 ∧ (am_y mi).name = "<init>")) ∧ a = kk.2.1 ∧ b = kk.2.2.1) && (match fty a b with
      | some .int => decide (c = 0)
      | some .boolean => decide (c = 1)
      | some .long => decide (c = 2)
      | some (.object _) => decide (c = 3)
      | some (.array _) => decide (c = 3)
      | _ => false)
    | none => false
  | .iaload => decide (op = 27 ∧ n = 1)
  | .baload => decide (op = 28 ∧ n = 1)
  | .laload => decide (op = 29 ∧ n = 1)
  | .aaload => decide (op = 30 ∧ n = 1)
  | .iastore => decide (op = 31 ∧ n = 1)
  | .bastore => decide (op = 32 ∧ n = 1)
  | .lastore => decide (op = 33 ∧ n = 1)
  | .aastore => decide (op = 34 ∧ n = 1)
  | .arraylength => decide (op = 35 ∧ n = 1)
  | .newarray .int => decide (op = 36 ∧ n = 2 ∧ a = 0 ∧ b = 1 ∧ c = 2)
  | .newarray .boolean => decide (op = 36 ∧ n = 2 ∧ a = 1 ∧ b = 1 ∧ c = 2)
  | .newarray .long => decide (op = 36 ∧ n = 2 ∧ a = 2 ∧ b = 4 ∧ c = 2)
  | .anewarray ix => match lk (am_o mi) ix with
    | some kk => decide (op = 36 ∧ n = 3 ∧ kk.1 = 9 ∧ 3 ≤ kk.2.2.1 ∧ kk.2.2.1 < 28 ∧ a = kk.2.2.1 ∧ b = 3 ∧ c = 3)
    | none => false
  | .multianewarray ix dd => match lk (am_o mi) ix with
    | some kk => decide (op = 37 ∧ n = 4 ∧ dd = 2 ∧ kk.1 = 11)
    | none => false
  | .new ix => match lk (am_o mi) ix with
    | some kk => bif Nat.beq op 38 then decide (n = 3 ∧ kk.1 = 9 ∧ a = kk.2.1 ∧ a < 128 ∧ b < 1024 ∧ (dfl a).map List.length = some b) else decide (op = 39 ∧ n = 3 ∧ kk.1 = 13 ∧ (am_h mi).length = 0 ∧ a = kk.2.1 ∧ a < 128 ∧ (am_thr lk mi kk pc [.int 0, .int 0, .int 0, .int 0] [] 0 0).isSome = true)
    | none => false
  | .invokevirtual ix => match lk (am_o mi) ix with
    | some kk => decide (op = 40 ∧ n = 3 ∧ (kk.1 = 20 ∨ kk.1 = 21) ∧ a = kk.2.1 ∧ b = kk.2.2.1 ∧ c = 2 ∧ kk.2.2.2 = (d : Int))
    | none => false
  | .invokestatic ix => match lk (am_o mi) ix with
    | some kk => bif Nat.beq op 40 then decide (n = 3 ∧ (kk.1 = 22 ∨ kk.1 = 23) ∧ a = kk.2.1 ∧ b = kk.2.2.1 ∧ c = 0) else bif Nat.beq op 41 then decide (n = 3 ∧ kk.1 = 27 ∧ 1 ≤ am_f mi ∧ 21 ≤ am_w mi) else decide (op = 42 ∧ n = 3 ∧ kk.1 = 28 ∧ 1 ≤ am_f mi ∧ 21 ≤ am_w mi)
    | none => false
  | .invokespecial ix => match lk (am_o mi) ix with
    | some kk => bif Nat.beq op 40 then decide (n = 3 ∧ (kk.1 = 24 ∨ kk.1 = 25) ∧ a = kk.2.1 ∧ b = kk.2.2.1 ∧ c = 1) else decide (op = 43 ∧ n = 3 ∧ kk.1 = 26 ∧ 1 ≤ am_f mi ∧ 20 ≤ am_w mi)
    | none => false
  | .ireturn => decide (op = 44 ∧ n = 1 ∧ ((a = 0 ∧ am_r mi = some .int) ∨ (a = 1 ∧ am_r mi = some .boolean)))
  | .areturn => match am_r mi with
    | some (.object _) => decide (op = 45 ∧ n = 1)
    | _ => false
  | .return_ => decide (op = 46 ∧ n = 1 ∧ am_r mi = none)
  | _ => false
theorem fm_ad (z : Int32) : Int32.ofNat (fm_u z) = z := fm_i_u z
theorem fs_push {v : Value} {len w : Nat} (hk : fm_ok H) (hv : fm_d hp.length w = v) (h : fm_go (Nat.add pc len) L (w :: st) H k q = some x) : am_go (pc + len, fm_lo hp.length (am_L mi) L, v :: st.map (fm_d hp.length), fm_ah hp H, k, q) = some (fm_ax hp (am_L mi) x) ∧ fm_okx x := by
  cases h
  subst hv
  exact ⟨rfl, hk⟩
theorem fs_tsw {n : Nat} {dd hi : Int} {offs : Array Int} (hhi : hi + 1 = (tl.length : Int)) (hd : (pc : Int) + dd = (a : Int)) (hts : offs.toList.map (fun z => (pc : Int) + z) = tl.map (fun t : Nat => (t : Int))) (hk : fm_ok H) (h : fx_tsw tl a L st H k q = some x) : am_exec fty dfl cmp lk xs mi (.tableswitch dd 0 hi offs) n pc (fm_lo hp.length (am_L mi) L) (st.map (fm_d hp.length)) (fm_ah hp H) k q = some (fm_ax hp (am_L mi) x) ∧ fm_okx x := by
  unfold fx_tsw at h
  split at h
  · rename_i v r
    obtain ⟨h1, h⟩ := fm_bt h
    obtain ⟨i1, i2, i3⟩ := fm_ix_d (c := hp.length) h1
    have hnn : (Int32.ofNat (v / 8)).toInt = ((v / 8 : Nat) : Int) := by
      have e : (Int32.ofNat (v / 8)).toInt.toNat = v / 8 := i3
      have e2 : ¬ (Int32.ofNat (v / 8)).toInt < 0 := fun z => i2 (by rw [Int32.lt_iff_toInt_lt]; exact z)
      omega
    have hln : offs.size = tl.length := by
      have := congrArg List.length hts
      simpa using this
    have hx : x = .inl ((tl[v / 8]?).getD a, L, r, H, k, q) := by
      split at h
      · rename_i t ht
        have ht : tl[v / 8]? = some t := ht
        rw [ht]
        exact (Option.some.inj h).symm
      · rename_i ht
        have ht : tl[v / 8]? = none := ht
        rw [ht]
        exact (Option.some.inj h).symm
    subst hx
    refine ⟨?_, hk⟩
    simp only [am_exec]
    rw [List.map_cons, i1]
    dsimp only
    rw [hnn]
    by_cases hlt : v / 8 < tl.length
    · rw [if_neg (by omega)]
      have e1 : (((v / 8 : Nat) : Int) - 0).toNat = v / 8 := by omega
      rw [e1]
      have hlt2 : v / 8 < offs.size := by omega
      have e2 : offs[v / 8]? = some offs[v / 8] := Array.getElem?_eq_getElem hlt2
      rw [e2]
      dsimp only
      have e3 := congrArg (fun l : List Int => l[v / 8]?) hts
      simp only [List.getElem?_map] at e3
      have e4 : offs.toList[v / 8]? = some offs[v / 8] := by rw [Array.getElem?_toList]; exact e2
      rw [e4, List.getElem?_eq_getElem hlt] at e3
      have e5 : (pc : Int) + offs[v / 8] = ((tl[v / 8] : Nat) : Int) := Option.some.inj e3
      unfold am_to
      rw [e5, List.getElem?_eq_getElem hlt]
      rfl
    · rw [if_pos (by omega)]
      unfold am_to
      rw [hd, List.getElem?_eq_none (by omega)]
      rfl
  · cases h
set_option maxHeartbeats 4000000 in
theorem fm_exec_ok (hcmp : ∀ t, 103 ≤ t → t ≤ 106 → (cmp t).isSome = true) (hbl : ∀ ci vs, dfl ci = some vs → ((List.range vs.length).map fun j => fm_d hp.length (fm_g (bl ci) j)) = vs) {i : Instr} {n op : Nat} (hck : fm_ck fty dfl lk tl mi pc i n op a b c d = true) (hk : fm_ok H) (h : fm_ex cmp tl bl xs op a b c d pc L st H k q = some x) : am_exec fty dfl cmp lk xs mi i n pc (fm_lo hp.length (am_L mi) L) (st.map (fm_d hp.length)) (fm_ah hp H) k q = some (fm_ax hp (am_L mi) x) ∧ fm_okx x := by
  cases i
  case iconst z =>
    have hck := of_decide_eq_true hck
    obtain ⟨rfl, rfl, rfl, rfl⟩ := hck
    rw [fm_ex1] at h
    simp only [am_exec]
    rw [if_pos trivial]
    exact fs_push hk (by rw [fm_d_int, fm_i_u]) h
  case bipush z =>
    have hck := of_decide_eq_true hck
    obtain ⟨rfl, rfl, rfl, rfl⟩ := hck
    rw [fm_ex1] at h
    simp only [am_exec]
    rw [if_pos trivial]
    exact fs_push hk (by rw [fm_d_int, fm_i_u]) h
  case sipush z =>
    have hck := of_decide_eq_true hck
    obtain ⟨rfl, rfl, rfl, rfl⟩ := hck
    rw [fm_ex1] at h
    simp only [am_exec]
    rw [if_pos trivial]
    exact fs_push hk (by rw [fm_d_int, fm_i_u]) h
  case ldc ix =>
    simp only [fm_ck] at hck
    split at hck
    · rename_i kk hl
      have hck := of_decide_eq_true hck
      obtain ⟨rfl, rfl, rfl, h12, rfl⟩ := hck
      rw [fm_ex1] at h
      simp only [am_exec]
      rw [if_pos trivial, hl]
      dsimp only
      rw [if_pos h12]
      exact fs_push hk (by rw [fm_d_int, fm_i_u]) h
    · cases hck
  case ldc_w ix =>
    simp only [fm_ck] at hck
    split at hck
    · rename_i kk hl
      have hck := of_decide_eq_true hck
      obtain ⟨rfl, rfl, rfl, h12, rfl⟩ := hck
      rw [fm_ex1] at h
      simp only [am_exec]
      rw [if_pos trivial, hl]
      dsimp only
      rw [if_pos h12]
      exact fs_push hk (by rw [fm_d_int, fm_i_u]) h
    · cases hck
  case iload j =>
    have hck := of_decide_eq_true hck
    obtain ⟨rfl, rfl, rfl, rfl, hj⟩ := hck
    rw [fm_ex2] at h
    exact fs_lod hk hj h
  case iload_n j =>
    have hck := of_decide_eq_true hck
    obtain ⟨rfl, rfl, rfl, rfl, hj⟩ := hck
    rw [fm_ex2] at h
    exact fs_lod hk hj h
  case aload j =>
    have hck := of_decide_eq_true hck
    obtain ⟨rfl, rfl, rfl, rfl, hj⟩ := hck
    rw [fm_ex3] at h
    exact fs_lod hk hj h
  case aload_n j =>
    have hck := of_decide_eq_true hck
    obtain ⟨rfl, rfl, rfl, rfl, hj⟩ := hck
    rw [fm_ex3] at h
    exact fs_lod hk hj h
  case istore j =>
    have hck := of_decide_eq_true hck
    obtain ⟨rfl, rfl, rfl, rfl, hj⟩ := hck
    rw [fm_ex4] at h
    exact fs_sto hk hj h
  case istore_n j =>
    have hck := of_decide_eq_true hck
    obtain ⟨rfl, rfl, rfl, rfl, hj⟩ := hck
    rw [fm_ex4] at h
    exact fs_sto hk hj h
  case astore j =>
    have hck := of_decide_eq_true hck
    obtain ⟨rfl, rfl, rfl, rfl, hj⟩ := hck
    rw [fm_ex5] at h
    exact fs_sto hk hj h
  case astore_n j =>
    have hck := of_decide_eq_true hck
    obtain ⟨rfl, rfl, rfl, rfl, hj⟩ := hck
    rw [fm_ex5] at h
    exact fs_sto hk hj h
  case iinc j z =>
    have hck := of_decide_eq_true hck
    obtain ⟨rfl, rfl, rfl, hz, hj⟩ := hck
    rw [fm_ex6] at h
    simp only [am_exec]
    rw [if_pos trivial]
    exact fs_inc hk hj hz h
  case iadd =>
    have hck := of_decide_eq_true hck
    obtain ⟨rfl, rfl⟩ := hck
    rw [fm_ex7] at h
    exact fs_bin (g := fun x y => some (x + y)) hk (fun u v => by (try dsimp only); rw [← Int32.ofNat_add]; rfl) h
  case isub =>
    have hck := of_decide_eq_true hck
    obtain ⟨rfl, rfl⟩ := hck
    rw [fm_ex8] at h
    exact fs_bin (g := fun x y => some (x - y)) hk (fun u v => by (try dsimp only); rw [← fm_i_sub, fm_i_mod]; rfl) h
  case imul =>
    have hck := of_decide_eq_true hck
    obtain ⟨rfl, rfl⟩ := hck
    rw [fm_ex9] at h
    exact fs_bin (g := fun x y => some (x * y)) hk (fun u v => by (try dsimp only); rw [← Int32.ofNat_mul]; rfl) h
  case ior =>
    have hck := of_decide_eq_true hck
    obtain ⟨rfl, rfl⟩ := hck
    rw [fm_ex11] at h
    exact fs_bin (g := fun x y => some (x ||| y)) hk (fun u v => by (try dsimp only); unfold fm_or; rw [fm_i_u]) h
  case ishl =>
    have hck := of_decide_eq_true hck
    obtain ⟨rfl, rfl⟩ := hck
    rw [fm_ex14] at h
    exact fs_bin (g := fun x y => some (x <<< (y &&& 31))) hk (fun u v => by (try dsimp only); unfold fm_shl; rw [fm_i_u]) h
  case ishr =>
    have hck := of_decide_eq_true hck
    obtain ⟨rfl, rfl⟩ := hck
    rw [fm_ex15] at h
    exact fs_bin (g := fun x y => some (x >>> (y &&& 31))) hk (fun u v => by (try dsimp only); unfold fm_shr; rw [fm_i_u]) h
  case iand =>
    have hck := of_decide_eq_true hck
    obtain ⟨rfl, rfl⟩ := hck
    rw [fm_ex10] at h
    exact fs_and hk h
  case idiv =>
    have hck := of_decide_eq_true hck
    obtain ⟨rfl, rfl⟩ := hck
    rw [fm_ex12] at h
    exact fs_dv (g := fun x y => if y = 0 then none else some (x / y)) hk (fun u v hv => by (try dsimp only); unfold fm_div; rw [if_neg hv, fm_i_u]) h
  case irem =>
    have hck := of_decide_eq_true hck
    obtain ⟨rfl, rfl⟩ := hck
    rw [fm_ex13] at h
    exact fs_dv (g := fun x y => if y = 0 then none else some (x - x / y * y)) hk (fun u v hv => by (try dsimp only); unfold fm_rem; rw [if_neg hv, fm_i_u]) h
  case i2l =>
    have hck := of_decide_eq_true hck
    obtain ⟨rfl, rfl⟩ := hck
    rw [fm_ex16] at h
    exact fs_i2l hk h
  case lcmp =>
    have hck := of_decide_eq_true hck
    obtain ⟨rfl, rfl⟩ := hck
    rw [fm_ex17] at h
    exact fs_lcmp hk h
  case dup =>
    have hck := of_decide_eq_true hck
    obtain ⟨rfl, rfl⟩ := hck
    rw [fm_ex18] at h
    exact fs_dup hk h
  case dup2 =>
    have hck := of_decide_eq_true hck
    obtain ⟨rfl, rfl⟩ := hck
    rw [fm_ex19] at h
    exact fs_dup2 hk h
  case pop =>
    have hck := of_decide_eq_true hck
    obtain ⟨rfl, rfl⟩ := hck
    rw [fm_ex20] at h
    exact fs_pop hk h
  case iaload =>
    have hck := of_decide_eq_true hck
    obtain ⟨rfl, rfl⟩ := hck
    rw [fm_ex27] at h
    exact fs_ial hk h
  case baload =>
    have hck := of_decide_eq_true hck
    obtain ⟨rfl, rfl⟩ := hck
    rw [fm_ex28] at h
    exact fs_zal hk h
  case laload =>
    have hck := of_decide_eq_true hck
    obtain ⟨rfl, rfl⟩ := hck
    rw [fm_ex29] at h
    exact fs_lal hk h
  case iastore =>
    have hck := of_decide_eq_true hck
    obtain ⟨rfl, rfl⟩ := hck
    rw [fm_ex31] at h
    exact fs_ias hk h
  case bastore =>
    have hck := of_decide_eq_true hck
    obtain ⟨rfl, rfl⟩ := hck
    rw [fm_ex32] at h
    exact fs_zas hk h
  case lastore =>
    have hck := of_decide_eq_true hck
    obtain ⟨rfl, rfl⟩ := hck
    rw [fm_ex33] at h
    exact fs_las hk h
  case aastore =>
    have hck := of_decide_eq_true hck
    obtain ⟨rfl, rfl⟩ := hck
    rw [fm_ex34] at h
    exact fs_aas hk h
  case aaload =>
    have hck := of_decide_eq_true hck
    obtain ⟨rfl, rfl⟩ := hck
    rw [fm_ex30] at h
    exact fs_aal hcmp hk h
  case arraylength =>
    have hck := of_decide_eq_true hck
    obtain ⟨rfl, rfl⟩ := hck
    rw [fm_ex35] at h
    exact fs_len hcmp hk h
  case goto off =>
    have hck := of_decide_eq_true hck
    obtain ⟨rfl, rfl, ht⟩ := hck
    rw [fm_ex21] at h
    simp only [am_exec]
    rw [if_pos trivial]
    unfold am_to
    rw [ht]
    cases h
    exact ⟨rfl, hk⟩
  case ifCond cd off =>
    have hck := of_decide_eq_true hck
    obtain ⟨rfl, rfl, rfl, ht⟩ := hck
    rw [fm_ex22] at h
    simp only [am_exec]
    rw [if_pos trivial]
    exact fs_ifc hk ht h
  case if_icmp cd off =>
    have hck := of_decide_eq_true hck
    obtain ⟨rfl, rfl, rfl, ht⟩ := hck
    rw [fm_ex23] at h
    simp only [am_exec]
    rw [if_pos trivial]
    exact fs_icm hk ht h
  case tableswitch dd lo hi offs =>
    have hck := of_decide_eq_true hck
    obtain ⟨rfl, rfl, hhi, hd, hts⟩ := hck
    rw [fm_ex24] at h
    exact fs_tsw hhi hd hts hk h
  case getfield ix =>
    simp only [fm_ck] at hck
    split at hck
    · rename_i kk hl
      have hck := of_decide_eq_true hck
      obtain ⟨rfl, rfl, h4, rfl, rfl⟩ := hck
      rw [fm_ex25] at h
      simp only [am_exec]
      rw [if_pos trivial, hl]
      exact fs_getf hk h4 rfl rfl h
    · cases hck
  case putfield ix =>
    simp only [fm_ck] at hck
    split at hck
    · rename_i kk hl
      obtain ⟨hc1, hc2⟩ := fm_a2 hck
      have hc1 := of_decide_eq_true hc1
      obtain ⟨rfl, rfl, h4, rfl, rfl⟩ := hc1
      rw [fm_ex26] at h
      simp only [am_exec]
      rw [if_pos trivial, hl]
      dsimp only
      split at hc2
      · rename_i hty
        exact fs_putf hk h4 rfl rfl hty (Or.inl ⟨of_decide_eq_true hc2, rfl⟩) h
      · rename_i hty
        exact fs_putf hk h4 rfl rfl hty (Or.inr (Or.inl ⟨of_decide_eq_true hc2, rfl⟩)) h
      · rename_i hty
        exact fs_putf hk h4 rfl rfl hty (Or.inr (Or.inr (Or.inl ⟨of_decide_eq_true hc2, rfl⟩))) h
      · rename_i C hty
        exact fs_putf hk h4 rfl rfl hty (Or.inr (Or.inr (Or.inr ⟨of_decide_eq_true hc2, Or.inl ⟨C, rfl⟩⟩))) h
      · rename_i C hty
        exact fs_putf hk h4 rfl rfl hty (Or.inr (Or.inr (Or.inr ⟨of_decide_eq_true hc2, Or.inr ⟨C, rfl⟩⟩))) h
      · cases hc2
    · cases hck
  case newarray ty =>
    cases ty
    case int =>
      have hck := of_decide_eq_true hck
      obtain ⟨rfl, rfl, rfl, rfl, rfl⟩ := hck
      rw [fm_ex36] at h
      exact fs_newa (by omega) (by decide) rfl hk h
    case boolean =>
      have hck := of_decide_eq_true hck
      obtain ⟨rfl, rfl, rfl, rfl, rfl⟩ := hck
      rw [fm_ex36] at h
      exact fs_newa (by omega) (by decide) rfl hk h
    case long =>
      have hck := of_decide_eq_true hck
      obtain ⟨rfl, rfl, rfl, rfl, rfl⟩ := hck
      rw [fm_ex36] at h
      exact fs_newa (by omega) (by decide) rfl hk h
    all_goals cases hck
  case anewarray ix =>
    simp only [fm_ck] at hck
    split at hck
    · rename_i kk hl
      have hck := of_decide_eq_true hck
      obtain ⟨rfl, rfl, h9, h3, h28, rfl, rfl, rfl⟩ := hck
      rw [fm_ex36] at h
      simp only [am_exec]
      rw [hl]
      dsimp only
      rw [if_pos ⟨h9, h3⟩]
      exact fs_newa h28 (by decide) rfl hk h
    · cases hck
  case multianewarray ix dd =>
    simp only [fm_ck] at hck
    split at hck
    · rename_i kk hl
      have hck := of_decide_eq_true hck
      obtain ⟨rfl, rfl, rfl, h11⟩ := hck
      rw [fm_ex37] at h
      exact fs_mul2 hl h11 hk h
    · cases hck
  case new ix =>
    simp only [fm_ck] at hck
    split at hck
    · rename_i kk hl
      cases h38 : Nat.beq op 38 with
      | true =>
        rw [h38] at hck
        have h38 := Nat.eq_of_beq_eq_true h38
        subst h38
        have hck := of_decide_eq_true hck
        obtain ⟨rfl, h9, rfl, ha, hb, hd⟩ := hck
        rw [fm_ex38] at h
        obtain ⟨vs, hvs, hlen⟩ := Option.map_eq_some_iff.mp hd
        subst hlen
        exact fs_new hl h9 rfl hvs ha hb (hbl _ _ hvs) hk h
      | false =>
        rw [h38] at hck
        have hck := of_decide_eq_true hck
        obtain ⟨rfl, rfl, h13, hh, rfl, ha, hT⟩ := hck
        rw [fm_ex39] at h
        exact fs_thr hl h13 (List.length_eq_zero_iff.mp hh) rfl ha (Option.isSome_iff_exists.mp hT) hk h
    · cases hck
  case invokevirtual ix =>
    simp only [fm_ck] at hck
    split at hck
    · rename_i kk hl
      have hck := of_decide_eq_true hck
      obtain ⟨rfl, rfl, hkd, rfl, rfl, rfl, hd⟩ := hck
      rw [fm_ex40] at h
      simp only [am_exec]
      rw [if_pos trivial, hl]
      dsimp only
      rw [if_pos hkd]
      exact fs_ask rfl rfl (by omega) (fun _ => hd) hk h
    · cases hck
  case invokestatic ix =>
    simp only [fm_ck] at hck
    split at hck
    · rename_i kk hl
      cases h40 : Nat.beq op 40 with
      | true =>
        rw [h40] at hck
        have h40 := Nat.eq_of_beq_eq_true h40
        subst h40
        have hck := of_decide_eq_true hck
        obtain ⟨rfl, hkd, rfl, rfl, rfl⟩ := hck
        rw [fm_ex40] at h
        simp only [am_exec]
        rw [if_pos trivial, hl]
        dsimp only
        rw [if_pos hkd]
        exact fs_ask rfl rfl (by omega) (fun z => by cases z) hk h
      | false =>
        rw [h40] at hck
        dsimp only [cond_false] at hck
        cases h41 : Nat.beq op 41 with
        | true =>
          rw [h41] at hck
          have h41 := Nat.eq_of_beq_eq_true h41
          subst h41
          have hck := of_decide_eq_true hck
          obtain ⟨rfl, hkd, hf, hw⟩ := hck
          rw [fm_ex41] at h
          exact fs_mm (mx := false) hl hkd hf hw hk h
        | false =>
          rw [h41] at hck
          have hck := of_decide_eq_true hck
          obtain ⟨rfl, rfl, hkd, hf, hw⟩ := hck
          rw [fm_ex42] at h
          exact fs_mm (mx := true) hl hkd hf hw hk h
    · cases hck
  case invokespecial ix =>
    simp only [fm_ck] at hck
    split at hck
    · rename_i kk hl
      cases h40 : Nat.beq op 40 with
      | true =>
        rw [h40] at hck
        have h40 := Nat.eq_of_beq_eq_true h40
        subst h40
        have hck := of_decide_eq_true hck
        obtain ⟨rfl, hkd, rfl, rfl, rfl⟩ := hck
        rw [fm_ex40] at h
        simp only [am_exec]
        rw [if_pos trivial, hl]
        dsimp only
        rw [if_pos hkd]
        exact fs_ask rfl rfl (by omega) (fun z => by cases z) hk h
      | false =>
        rw [h40] at hck
        have hck := of_decide_eq_true hck
        obtain ⟨rfl, rfl, hkd, hf, hw⟩ := hck
        rw [fm_ex43] at h
        exact fs_oin hl hkd hf hw hk h
    · cases hck
  case ireturn =>
    have hck := of_decide_eq_true hck
    obtain ⟨rfl, rfl, hb⟩ := hck
    rw [fm_ex44] at h
    exact fs_iret hb hk h
  case areturn =>
    simp only [fm_ck] at hck
    split at hck
    · rename_i C hC
      have hck := of_decide_eq_true hck
      obtain ⟨rfl, rfl⟩ := hck
      rw [fm_ex45] at h
      exact fs_aret hC hk h
    · cases hck
  case return_ =>
    have hck := of_decide_eq_true hck
    obtain ⟨rfl, rfl, hb⟩ := hck
    rw [fm_ex46] at h
    exact fs_vret hb hk h
  all_goals cases hck
end FME
