/-! ===== which instructions end a method or call one ===== -/
theorem am_ask_inv {kf : am_K} {rc pc k q : Nat} {lo : List (Option Value)} {st : List Value} {h : am_H} {X : am_X} (he : am_ask kf rc pc lo st h k q = some X) : ∃ as r : List Value, as.length = kf.2.2.1 ∧ am_one as = true ∧ am_cat r ≤ 8 ∧ ((rc = 0 ∧ st = as.reverse ++ r ∧ X = .inr (.inr (kf.2.1, as, (pc, lo, r, h, k, q)))) ∨ (rc ≠ 0 ∧ ∃ (a : Nat) (c : am_C), st = as.reverse ++ .ref a :: r ∧ h[a]? = some c ∧ (rc = 1 ∨ (c.1 : Int) = kf.2.2.2) ∧ X = .inr (.inr (kf.2.1, .ref a :: as, (pc, lo, r, h, k, q))))) := by
  unfold am_ask at he
  dsimp only at he
  split at he
  · rename_i hl
    have hst : ∀ r, st.drop kf.2.2.1 = r → st = (st.take kf.2.2.1).reverse.reverse ++ r := fun r hr => by
      rw [List.reverse_reverse, ← hr, List.take_append_drop]
    split at he
    · split at he
      · rename_i hc
        cases he
        exact ⟨_, _, hl, hc.2, hc.1, Or.inl ⟨rfl, hst _ rfl, rfl⟩⟩
      · cases he
    · rename_i hrc
      split at he
      · rename_i a r hr
        split at he
        · rename_i hc
          split at he
          · rename_i c hc2
            split at he
            · rename_i hrr
              cases he
              exact ⟨_, _, hl, hc.2, hc.1, Or.inr ⟨hrc, a, c, hst _ hr, hc2, hrr, rfl⟩⟩
            · cases he
          · cases he
        · cases he
      · cases he
  · cases he
set_option maxHeartbeats 4000000 in
set_option maxRecDepth 100000 in
theorem am_exec_inr {fty : Nat → Nat → Option FieldType} {dfl : Nat → Option (List Value)} {cmp : Nat → Option (Option Nat)} {lk : Nat → Nat → Option am_K} {xs : am_O} {mi : am_M} {i : Instr} {n pc k q : Nat} {lo : List (Option Value)} {st : List Value} {h : am_H} {Y : am_R ⊕ (Nat × List Value × am_S)} (he : am_exec fty dfl cmp lk xs mi i n pc lo st h k q = some (.inr Y)) :
    (∃ (ix : Nat) (kf : am_K) (rc : Nat), lk (am_o mi) ix = some kf ∧ n = 3 ∧ am_ask kf rc pc lo st h k q = some (.inr Y) ∧ ((i = .invokevirtual ix ∧ rc = 2 ∧ (kf.1 = 20 ∨ kf.1 = 21)) ∨ (i = .invokestatic ix ∧ rc = 0 ∧ (kf.1 = 22 ∨ kf.1 = 23)) ∨ (i = .invokespecial ix ∧ rc = 1 ∧ (kf.1 = 24 ∨ kf.1 = 25)))) ∨
    (n = 1 ∧ ((i = .ireturn ∧ ∃ x : Int32, st = [.int x] ∧ (am_r mi = some .int ∨ (am_r mi = some .boolean ∧ am_bit x = true)) ∧ Y = .inl (.inl (some (.int x)), h, k, q)) ∨ (i = .areturn ∧ ∃ (a : Nat) (C : String), st = [.ref a] ∧ am_r mi = some (.object C) ∧ Y = .inl (.inl (some (.ref a)), h, k, q)) ∨ (i = .return_ ∧ st = [] ∧ am_r mi = none ∧ Y = .inl (.inl none, h, k, q)))) ∨
    (∃ (ix : Nat) (kf : am_K), i = .new ix ∧ n = 3 ∧ lk (am_o mi) ix = some kf ∧ kf.1 = 13 ∧ am_h mi = [] ∧ am_thr lk mi kf pc st h k q = some (.inr Y)) := by
  cases i
  case ireturn =>
    simp only [am_exec] at he
    split at he
    · rename_i hn
      split at he
      · rename_i x
        split at he
        · rename_i hr
          cases he
          exact Or.inr (Or.inl ⟨hn, Or.inl ⟨rfl, x, rfl, hr, rfl⟩⟩)
        · cases he
      · cases he
    · cases he
  case areturn =>
    simp only [am_exec] at he
    split at he
    · rename_i hn
      split at he
      · rename_i a C hr
        cases he
        exact Or.inr (Or.inl ⟨hn, Or.inr (Or.inl ⟨rfl, a, C, rfl, hr, rfl⟩)⟩)
      · cases he
    · cases he
  case return_ =>
    simp only [am_exec] at he
    split at he
    · rename_i hn
      split at he
      · split at he
        · rename_i hr
          cases he
          exact Or.inr (Or.inl ⟨hn, Or.inr (Or.inr ⟨rfl, rfl, hr, rfl⟩)⟩)
        · cases he
      · cases he
    · cases he
  case new ix =>
    simp only [am_exec] at he
    split at he
    · rename_i hn
      split at he
      · rename_i kf hl
        split at he
        · split at he
          · cases he
          · cases he
        · split at he
          · rename_i h13
            exact Or.inr (Or.inr ⟨ix, kf, rfl, hn, hl, h13.1, h13.2, he⟩)
          · cases he
      · cases he
    · cases he
  case invokevirtual ix =>
    simp only [am_exec] at he
    split at he
    · rename_i hn
      split at he
      · rename_i kf hl
        split at he
        · rename_i hk
          exact Or.inl ⟨ix, kf, 2, hl, hn, he, Or.inl ⟨rfl, rfl, hk⟩⟩
        · cases he
      · cases he
    · cases he
  case invokestatic ix =>
    simp only [am_exec] at he
    split at he
    · rename_i hn
      split at he
      · rename_i kf hl
        split at he
        · rename_i hk
          exact Or.inl ⟨ix, kf, 0, hl, hn, he, Or.inr (Or.inl ⟨rfl, rfl, hk⟩)⟩
        · exfalso
          simp only [am_cpyi] at he
          repeat' (split at he)
          all_goals cases he
      · cases he
    · cases he
  case invokespecial ix =>
    simp only [am_exec] at he
    split at he
    · rename_i hn
      split at he
      · rename_i kf hl
        split at he
        · rename_i hk
          exact Or.inl ⟨ix, kf, 1, hl, hn, he, Or.inr (Or.inr ⟨rfl, rfl, hk⟩)⟩
        · exfalso
          repeat' (split at he)
          all_goals cases he
      · cases he
    · cases he
  all_goals exfalso
  case iload j => obtain ⟨-, v, -, hX, -⟩ := am_lod_inv he; cases hX
  case iload_n j => obtain ⟨-, v, -, hX, -⟩ := am_lod_inv he; cases hX
  case aload j => obtain ⟨-, v, -, hX, -⟩ := am_lod_inv he; cases hX
  case aload_n j => obtain ⟨-, v, -, hX, -⟩ := am_lod_inv he; cases hX
  case istore j => obtain ⟨-, -, v, r, -, hX, -⟩ := am_sto_inv he; cases hX
  case istore_n j => obtain ⟨-, -, v, r, -, hX, -⟩ := am_sto_inv he; cases hX
  case astore j => obtain ⟨-, -, v, r, -, hX, -⟩ := am_sto_inv he; cases hX
  case astore_n j => obtain ⟨-, -, v, r, -, hX, -⟩ := am_sto_inv he; cases hX
  case iadd => simp only [am_exec] at he; obtain ⟨-, x, y, z, r, -, -, hX⟩ := am_bin_inv he; cases hX
  case isub => simp only [am_exec] at he; obtain ⟨-, x, y, z, r, -, -, hX⟩ := am_bin_inv he; cases hX
  case imul => simp only [am_exec] at he; obtain ⟨-, x, y, z, r, -, -, hX⟩ := am_bin_inv he; cases hX
  case iand => simp only [am_exec] at he; obtain ⟨-, y, z, v, r, -, hX, -⟩ := am_and_inv he; cases hX
  case ior => simp only [am_exec] at he; obtain ⟨-, x, y, z, r, -, -, hX⟩ := am_bin_inv he; cases hX
  case idiv => simp only [am_exec] at he; obtain ⟨-, x, y, z, r, -, -, hX⟩ := am_bin_inv he; cases hX
  case irem => simp only [am_exec] at he; obtain ⟨-, x, y, z, r, -, -, hX⟩ := am_bin_inv he; cases hX
  case ishl => simp only [am_exec] at he; obtain ⟨-, x, y, z, r, -, -, hX⟩ := am_bin_inv he; cases hX
  case ishr => simp only [am_exec] at he; obtain ⟨-, x, y, z, r, -, -, hX⟩ := am_bin_inv he; cases hX
  case iushr => simp only [am_exec] at he; obtain ⟨-, x, y, z, r, -, -, hX⟩ := am_bin_inv he; cases hX
  case newarray ty =>
    cases ty
    case int => obtain ⟨-, x, r, -, -, -, hX⟩ := am_new_inv (show am_new n 0 (.int 0) 2 pc lo st h k q = some (.inr Y) from he); cases hX
    case boolean => obtain ⟨-, x, r, -, -, -, hX⟩ := am_new_inv (show am_new n 1 (.int 0) 2 pc lo st h k q = some (.inr Y) from he); cases hX
    case long => obtain ⟨-, x, r, -, -, -, hX⟩ := am_new_inv (show am_new n 2 (.long 0) 2 pc lo st h k q = some (.inr Y) from he); cases hX
    all_goals exact nomatch (show (none : Option am_X) = some (.inr Y) from he)
  case getfield ix =>
    simp only [am_exec, am_getf] at he
    repeat' (split at he)
    all_goals cases he
  case putfield ix =>
    simp only [am_exec, am_putf] at he
    repeat' (split at he)
    all_goals cases he
  all_goals (first | exact nomatch (show (none : Option am_X) = some (.inr Y) from he) | simp only [am_exec] at he)
  all_goals (repeat' (split at he))
  all_goals (first | (cases he; done) | (obtain ⟨t, -, hX⟩ := am_to_inv he; cases hX; done) | (obtain ⟨t, -, hX⟩ := am_br_inv he; cases hX; done) | (obtain ⟨-, x, r, -, -, -, hX⟩ := am_new_inv he; cases hX; done))
theorem am_thr_inv {lk : Nat → Nat → Option am_K} {mi : am_M} {kf : am_K} {pc k q : Nat} {st : List Value} {h : am_H} {X : am_X} (he : am_thr lk mi kf pc st h k q = some X) : 8 ≤ am_f mi ∧ 100 + am_cat st ≤ am_w mi ∧ am_ins (am_c mi) (pc + 3) = some (.dup, 1) ∧ ∃ (is ic d : Nat) (ks kc : am_K), ((d = 2 ∧ am_ins (am_c mi) (pc + 4) = some (.ldc is, 2)) ∨ (d = 3 ∧ am_ins (am_c mi) (pc + 4) = some (.ldc_w is, 3))) ∧ am_ins (am_c mi) (pc + 4 + d) = some (.invokespecial ic, 3) ∧ am_ins (am_c mi) (pc + 4 + d + 3) = some (.athrow, 1) ∧ lk (am_o mi) is = some ks ∧ lk (am_o mi) ic = some kc ∧ ks.1 = 14 ∧ kc.1 = 15 ∧ kc.2.1 = kf.2.1 ∧ X = .inr (.inl (.inr h.length, h ++ [(kf.2.1, [])], k + 1, q + 6)) := by
  unfold am_thr at he
  split at he
  · rename_i h0
    refine ⟨h0.1, h0.2.1, h0.2.2, ?_⟩
    split at he
    · rename_i is n0 h4
      split at he
      · rename_i h1
        split at he
        · rename_i ic n1 h6
          split at he
          · rename_i h2
            split at he
            · rename_i ks kc hs hc
              split at he
              · rename_i h3
                cases he
                exact ⟨is, ic, 2, ks, kc, Or.inl ⟨rfl, h1.1⟩, h2, h1.2, hs, hc, h3.1, h3.2.1, h3.2.2, rfl⟩
              · cases he
            · cases he
          · cases he
        · cases he
      · cases he
    · rename_i is n0 h4
      split at he
      · rename_i h1
        split at he
        · rename_i ic n1 h6
          split at he
          · rename_i h2
            split at he
            · rename_i ks kc hs hc
              split at he
              · rename_i h3
                cases he
                exact ⟨is, ic, 3, ks, kc, Or.inr ⟨rfl, h1.1⟩, h2, h1.2, hs, hc, h3.1, h3.2.1, h3.2.2, rfl⟩
              · cases he
            · cases he
          · cases he
        · cases he
      · cases he
    · cases he
  · cases he
