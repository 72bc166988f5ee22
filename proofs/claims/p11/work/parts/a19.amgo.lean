/-! ===== a step that goes on ===== -/
theorem am_ask_ne (kf : am_K) (rc pc : Nat) (lo : List (Option Value)) (st : List Value) (h : am_H) (k q : Nat) (S' : am_S) : ¬ am_ask kf rc pc lo st h k q = some (.inl S') := by
  intro he
  unfold am_ask at he
  dsimp only at he
  repeat' (split at he)
  all_goals (first | cases he | (simp at he))
theorem am_thr_ne (lk : Nat → Nat → Option am_K) (mi : am_M) (kf : am_K) (pc : Nat) (st : List Value) (h : am_H) (k q : Nat) {S' : am_S} : ¬ am_thr lk mi kf pc st h k q = some (.inl S') := by
  intro he
  unfold am_thr at he
  repeat' (split at he)
  all_goals (first | cases he | (simp at he))
theorem am_ret_ne (fty : Nat → Nat → Option FieldType) (dfl : Nat → Option (List Value)) (cmp : Nat → Option (Option Nat)) (lk : Nat → Nat → Option am_K) (xs : am_O) (mi : am_M) (n pc : Nat) (lo : List (Option Value)) (st : List Value) (h : am_H) (k q : Nat) {i : Instr} {S' : am_S} (hi : i = .ireturn ∨ i = .areturn ∨ i = .return_) : ¬ am_exec fty dfl cmp lk xs mi i n pc lo st h k q = some (.inl S') := by
  intro he
  rcases hi with rfl | rfl | rfl <;> simp only [am_exec] at he <;> (repeat' (split at he)) <;> (first | cases he | (simp at he))
section AMG
variable {p : Program} {l : Launch} {e : Env} {R : Room} {s : State} {m : MethodId} {args : Array Value} {below : List Frame} {meth : Method} {c : Code} {Q : State → Prop}
variable {D : va_G} {cl : List vw_C} {dA : Nat → ClassId} {b : Nat} {sc : am_Sy} {tyl : List FieldType} {TS : List Cond} {Zx : State → Prop}
variable {fty : Nat → Nat → Option FieldType} {dfl : Nat → Option (List Value)} {cmp : Nat → Option (Option Nat)} {lk : Nat → Nat → Option am_K} {on : Nat → String} {mi : am_M} {xs : am_O}
variable {n pc k q : Nat} {lo : List (Option Value)} {st : List Value} {h : am_H} {S' : am_S} {H : Heap} {ls : Array Slot} {locs : List Loc}
set_option maxHeartbeats 4000000 in
set_option maxRecDepth 100000 in
theorem am_exec_go {i : Instr} (hOk : am_Ok TS cl tyl Zx fty dfl cmp lk on) (hx : p.tables.exec = Jvm.exec) (hb : c.code = am_b mi) (hml : c.maxLocals = am_L mi) (hno : (am_y mi).cls = on (am_o mi)) (hown : s.vm.findClass (am_y mi).cls = some m.cls) (hname : meth.name = (am_y mi).name) (hts : ∀ w ∈ TS, w.before args s = true) (hK : va_K D cl (am_tys dA tyl) s) (hz : Zx s) (hRf : am_f mi ≤ R.frames) (hRw : am_w mi ≤ R.locals) (hX : ∀ l, xs.1 = some l → ∃ f : Nat → Int32, va_X sc.1 l f s s.heap ∧ sc.1 < s.heap.size ∧ sc.1 < b ∧ ∀ j, j < l → f j = sc.2 j) (hO : am_Or sc xs) (hi : ∀ ix d, i ≠ .multianewarray ix d) (hd : decode (am_b mi) pc = .ok (i, n)) (he : am_exec fty dfl cmp lk xs mi i n pc lo st h k q = some (.inl S')) (hk : S'.2.2.2.2.1 ≤ R.cells) (hq : S'.2.2.2.2.2 ≤ R.slots) (hJ : am_J D cl dA b sc s.heap (am_L mi) (pc, lo, st, h, k, q) H ls locs) (kk : (∀ (H' : Heap) (ls' : Array Slot) (locs' : List Loc), am_J D cl dA b sc s.heap (am_L mi) S' H' ls' locs' → W p l e R s m args below meth c H' locs' (S').2.2.2.2.1 (S').2.2.2.2.2 Q (F0 m (S').1 ls' ((S').2.2.1.map (am_v b sc))))) : W p l e R s m args below meth c H locs k q Q (F0 m pc ls (st.map (am_v b sc))) := by
  have o1 := hOk.1
  have o2 := hOk.2.1
  obtain ⟨t0, t1, t2⟩ := hOk.2.2.1
  obtain ⟨w0, w1, w2⟩ := hOk.2.2.2.1
  have o5 := hOk.2.2.2.2.1
  have o6 := hOk.2.2.2.2.2
  have hsz : ls.size = am_L mi := hJ.2.2.2.2.1
  cases i
  case iconst z =>
    simp only [am_exec] at he
    split at he
    · rename_i hn
      subst hn
      cases he
      exact lv_iconst hx hb hd rfl (kk _ _ _ hJ)
    · cases he
  case bipush z =>
    simp only [am_exec] at he
    split at he
    · rename_i hn
      subst hn
      cases he
      exact lv_bipush hx hb hd rfl (kk _ _ _ hJ)
    · cases he
  case sipush z =>
    simp only [am_exec] at he
    split at he
    · rename_i hn
      subst hn
      cases he
      exact lv_sipush hx hb hd rfl (kk _ _ _ hJ)
    · cases he
  case ldc ix =>
    simp only [am_exec] at he
    split at he
    · rename_i hn
      subst hn
      split at he
      · rename_i kf hl
        split at he
        · rename_i h12
          cases he
          rw [hno] at hown
          exact lv_ldc hx hb hown (hts _ ((o6 _ _ _ hl).2.2.2.1 h12)) hd (kk _ _ _ hJ)
        · cases he
      · cases he
    · cases he
  case ldc_w ix =>
    simp only [am_exec] at he
    split at he
    · rename_i hn
      subst hn
      split at he
      · rename_i kf hl
        split at he
        · rename_i h12
          cases he
          rw [hno] at hown
          exact lv_ldcw hx hb hown (hts _ ((o6 _ _ _ hl).2.2.2.1 h12)) hd (kk _ _ _ hJ)
        · cases he
      · cases he
    · cases he
  case iload j =>
    exact am_x_lod hx hb hd (Or.inl ⟨rfl, Or.inl ⟨rfl, rfl⟩⟩) he hJ kk
  case iload_n j =>
    exact am_x_lod hx hb hd (Or.inl ⟨rfl, Or.inr ⟨rfl, j, rfl, rfl⟩⟩) he hJ kk
  case aload j =>
    exact am_x_lod hx hb hd (Or.inr ⟨rfl, Or.inl ⟨rfl, rfl⟩⟩) he hJ kk
  case aload_n j =>
    exact am_x_lod hx hb hd (Or.inr ⟨rfl, Or.inr ⟨rfl, j, rfl, rfl⟩⟩) he hJ kk
  case istore j =>
    exact am_x_sto hx hb hd (Or.inl ⟨rfl, Or.inl ⟨rfl, rfl⟩⟩) he hJ kk
  case istore_n j =>
    exact am_x_sto hx hb hd (Or.inl ⟨rfl, Or.inr ⟨rfl, j, rfl, rfl⟩⟩) he hJ kk
  case astore j =>
    exact am_x_sto hx hb hd (Or.inr ⟨rfl, Or.inl ⟨rfl, rfl⟩⟩) he hJ kk
  case astore_n j =>
    exact am_x_sto hx hb hd (Or.inr ⟨rfl, Or.inr ⟨rfl, j, rfl, rfl⟩⟩) he hJ kk
  case iinc j z =>
    simp only [am_exec] at he
    split at he
    · rename_i hn
      subst hn
      split at he
      · rename_i x hv
        cases he
        exact am_x_iinc hx hb hd hv hJ kk
      · cases he
    · cases he
  case iadd =>
    simp only [am_exec] at he
    obtain ⟨rfl, x, y, z, r, rfl, hf, hS⟩ := am_bin_inv he
    cases hS
    cases hf
    exact lv_iadd hx hb hd (kk _ _ _ hJ)
  case isub =>
    simp only [am_exec] at he
    obtain ⟨rfl, x, y, z, r, rfl, hf, hS⟩ := am_bin_inv he
    cases hS
    cases hf
    exact lv_isub hx hb hd (kk _ _ _ hJ)
  case imul =>
    simp only [am_exec] at he
    obtain ⟨rfl, x, y, z, r, rfl, hf, hS⟩ := am_bin_inv he
    cases hS
    cases hf
    exact lv_imul hx hb hd (kk _ _ _ hJ)
  case iand =>
    simp only [am_exec] at he
    obtain ⟨rfl, y, z, v, r, rfl, hS, ⟨x, rfl, rfl⟩ | ⟨j, rfl, ho⟩⟩ := am_and_inv he
    · cases hS
      exact lv_iand hx hb hd (kk _ _ _ hJ)
    · cases hS
      have hz : sc.2 j &&& y = z := hO.2.2 _ (am_oa_mem ho)
      subst hz
      exact lv_iand (x := sc.2 j) hx hb hd (kk _ _ _ hJ)
  case ior =>
    simp only [am_exec] at he
    obtain ⟨rfl, x, y, z, r, rfl, hf, hS⟩ := am_bin_inv he
    cases hS
    cases hf
    exact lv_ior hx hb hd (kk _ _ _ hJ)
  case ishl =>
    simp only [am_exec] at he
    obtain ⟨rfl, x, y, z, r, rfl, hf, hS⟩ := am_bin_inv he
    cases hS
    cases hf
    exact lv_ishl hx hb hd (kk _ _ _ hJ)
  case ishr =>
    simp only [am_exec] at he
    obtain ⟨rfl, x, y, z, r, rfl, hf, hS⟩ := am_bin_inv he
    cases hS
    cases hf
    exact lv_ishr hx hb hd (kk _ _ _ hJ)
  case iushr =>
    simp only [am_exec] at he
    obtain ⟨rfl, x, y, z, r, rfl, hf, hS⟩ := am_bin_inv he
    cases hS
    cases hf
    exact lv_iushr hx hb hd rfl (kk _ _ _ hJ)
  case idiv =>
    simp only [am_exec] at he
    obtain ⟨rfl, x, y, z, r, rfl, hf, hS⟩ := am_bin_inv he
    cases hS
    split at hf
    · cases hf
    · rename_i hne
      cases hf
      exact lv_idiv hx hb hd hne (kk _ _ _ hJ)
  case irem =>
    simp only [am_exec] at he
    obtain ⟨rfl, x, y, z, r, rfl, hf, hS⟩ := am_bin_inv he
    cases hS
    split at hf
    · cases hf
    · rename_i hne
      cases hf
      exact lv_irem hx hb hd hne (kk _ _ _ hJ)
  case i2l =>
    simp only [am_exec] at he
    split at he
    · rename_i hn
      subst hn
      split at he
      · rename_i x r
        cases he
        exact lv_i2l hx hb hd rfl (kk _ _ _ hJ)
      · cases he
    · cases he
  case lcmp =>
    simp only [am_exec] at he
    split at he
    · rename_i hn
      subst hn
      split at he
      · rename_i y x r
        cases he
        exact W.lcmp hx hb hd (kk _ _ _ hJ)
      · cases he
    · cases he
  case dup =>
    simp only [am_exec] at he
    split at he
    · rename_i hn
      subst hn
      split at he
      · rename_i v r
        split at he
        · rename_i hc
          cases he
          exact lv_dup hx hb hd ((am_v_cat b sc v).trans hc) (kk _ _ _ hJ)
        · cases he
      · cases he
    · cases he
  case dup2 =>
    simp only [am_exec] at he
    split at he
    · rename_i hn
      subst hn
      split at he
      · rename_i v w r
        split at he
        · rename_i hc
          cases he
          exact lv_dup2_11 hx hb hd ((am_v_cat b sc v).trans hc.1) ((am_v_cat b sc w).trans hc.2) (kk _ _ _ hJ)
        · cases he
      · cases he
    · cases he
  case pop =>
    simp only [am_exec] at he
    split at he
    · rename_i hn
      subst hn
      split at he
      · rename_i v r
        split at he
        · rename_i hc
          cases he
          exact lv_pop hx hb hd ((am_v_cat b sc v).trans hc) (kk _ _ _ hJ)
        · cases he
      · cases he
    · cases he
  case goto off =>
    simp only [am_exec] at he
    split at he
    · rename_i hn
      subst hn
      obtain ⟨t, ht, hS⟩ := am_to_inv he
      cases hS
      exact lv_goto hx hb hd ht (kk _ _ _ hJ)
    · cases he
  case ifCond cd off =>
    simp only [am_exec] at he
    split at he
    · rename_i hn
      subst hn
      split at he
      · rename_i v r
        split at he
        · rename_i t ht
          obtain ⟨x, hv, rfl⟩ := am_cv_spec (b := b) hO ht
          exact am_x_ifc hv hx hb hd he hJ kk
        · cases he
      · cases he
    · cases he
  case if_icmp cd off =>
    simp only [am_exec] at he
    split at he
    · rename_i hn
      subst hn
      split at he
      · rename_i y v r
        split at he
        · rename_i t ht
          obtain ⟨x, hv, rfl⟩ := am_cv_spec (b := b) hO ht
          exact am_x_icm hv hx hb hd he hJ kk
        · cases he
      · cases he
    · cases he
  case tableswitch d ta tb offs =>
    simp only [am_exec] at he
    split at he
    · rename_i x r
      split at he
      · rename_i h1
        obtain ⟨t, ht, hS⟩ := am_to_inv he
        cases hS
        exact lv_tableOut hx hb hd h1 ht (kk _ _ _ hJ)
      · rename_i h1
        split at he
        · rename_i off ho
          obtain ⟨t, ht, hS⟩ := am_to_inv he
          cases hS
          exact lv_tableIn hx hb hd (fun z => h1 (Or.inl z)) (fun z => h1 (Or.inr z)) ho ht (kk _ _ _ hJ)
        · cases he
    · cases he
  case lookupswitch d ps =>
    simp only [am_exec] at he
    split at he
    · rename_i x r
      split at he
      · rename_i h1
        obtain ⟨t, ht, hS⟩ := am_to_inv he
        cases hS
        exact lv_lookup hx hb hd h1 rfl ht (kk _ _ _ hJ)
      · cases he
    · cases he
  case getfield ix =>
    simp only [am_exec] at he
    split at he
    · rename_i hn
      subst hn
      split at he
      · rename_i kf hl
        exact am_g_get hOk hx hb hml hno hown hname hts hK hz hRf hRw hd hl he hJ kk
      · cases he
    · cases he
  case putfield ix =>
    simp only [am_exec] at he
    split at he
    · rename_i hn
      subst hn
      split at he
      · rename_i kf hl
        exact am_g_put hOk hx hb hml hno hown hname hts hK hz hRf hRw hd hl he hJ kk
      · cases he
    · cases he
  case iaload =>
    simp only [am_exec] at he
    split at he
    · rename_i hn
      subst hn
      split at he
      · rename_i iv a r
        split at he
        · rename_i vs ha
          split at he
          · rename_i x hr
            cases he
            exact am_x_iald hx hb hK t0 hd ha hr hJ kk
          · cases he
        · cases he
      · rename_i iv r
        split at he
        · rename_i lx hlx
          split at he
          · cases he
          · rename_i h0
            obtain ⟨f, X1, X2, X3, X4⟩ := hX lx hlx
            have hw := X4 iv.toNatClampNeg (by omega)
            split at he
            · rename_i x hxs
              cases he
              have hkn : sc.2 iv.toNatClampNeg = x := hO.1 _ (am_kn_mem hxs)
              refine va_sld hx hb X1 X2 (show ¬ b ≤ sc.1 by omega) hJ.2.1 h0 hd ?_
              rw [hw, hkn]
              exact kk _ _ _ hJ
            · cases he
              refine va_sld hx hb X1 X2 (show ¬ b ≤ sc.1 by omega) hJ.2.1 h0 hd ?_
              rw [hw]
              exact kk _ _ _ hJ
        · cases he
      · cases he
    · cases he
  case baload =>
    simp only [am_exec] at he
    split at he
    · rename_i hn
      subst hn
      split at he
      · rename_i iv a r
        split at he
        · rename_i vs ha
          split at he
          · rename_i x hr
            cases he
            exact am_x_zald hx hb hK t1 hd ha hr hJ kk
          · cases he
        · cases he
      · cases he
    · cases he
  case laload =>
    simp only [am_exec] at he
    split at he
    · rename_i hn
      subst hn
      split at he
      · rename_i iv a r
        split at he
        · rename_i vs ha
          split at he
          · rename_i x hr
            cases he
            exact am_x_lald hx hb hK t2 hd ha hr hJ kk
          · cases he
        · cases he
      · cases he
    · cases he
  case aaload =>
    simp only [am_exec] at he
    split at he
    · rename_i hn
      subst hn
      split at he
      · rename_i iv a r
        split at he
        · rename_i cx ha
          split at he
          · rename_i hcm
            obtain ⟨oo, hoo⟩ := Option.isSome_iff_exists.mp hcm
            obtain ⟨h3, ty, ht, hre, -⟩ := o5 _ _ hoo
            split at he
            · rename_i y hr
              cases he
              exact am_x_aald hx hb hK h3 ht hre hd ha hr (Or.inl ⟨y, rfl⟩) hJ kk
            · rename_i hr
              cases he
              exact am_x_aald hx hb hK h3 ht hre hd ha hr (Or.inr rfl) hJ kk
            · cases he
          · cases he
        · cases he
      · cases he
    · cases he
  case iastore =>
    simp only [am_exec] at he
    split at he
    · rename_i hn
      subst hn
      split at he
      · rename_i x iv a r
        split at he
        · rename_i vs ha
          split at he
          · rename_i h' hw
            cases he
            exact am_x_iast hx hb hK t0 hd ha hw hJ kk
          · cases he
        · cases he
      · cases he
    · cases he
  case bastore =>
    simp only [am_exec] at he
    split at he
    · rename_i hn
      subst hn
      split at he
      · rename_i x iv a r
        split at he
        · rename_i vs ha
          split at he
          · rename_i hbt
            split at he
            · rename_i h' hw
              cases he
              exact am_x_zast hx hb hK t1 hd ha hbt hw hJ kk
            · cases he
          · cases he
        · cases he
      · cases he
    · cases he
  case lastore =>
    simp only [am_exec] at he
    split at he
    · rename_i hn
      subst hn
      split at he
      · rename_i x iv a r
        split at he
        · rename_i vs ha
          split at he
          · rename_i h' hw
            cases he
            exact am_x_last hx hb hK t2 hd ha hw hJ kk
          · cases he
        · cases he
      · cases he
    · cases he
  case aastore =>
    simp only [am_exec] at he
    split at he
    · rename_i hn
      subst hn
      split at he
      · rename_i v iv a r
        split at he
        · rename_i cx cv ha hv
          split at he
          · rename_i hcm
            obtain ⟨h3, ty, ht, hre, hcc⟩ := o5 _ _ hcm
            obtain ⟨C, T, N, f1, rfl⟩ := hcc _ rfl
            split at he
            · rename_i h' hw
              cases he
              exact am_x_aast hx hb hK h3 ht (am_ci o1 f1) f1 hd ha hv hw hJ kk
            · cases he
          · cases he
        · cases he
      · cases he
    · cases he
  case arraylength =>
    simp only [am_exec] at he
    split at he
    · rename_i hn
      subst hn
      split at he
      · rename_i a r
        split at he
        · rename_i cx ha
          split at he
          · rename_i hcm
            cases he
            rcases hcm with hcm | hcm | hcm | hcm
            · exact am_x_alen (t := cx.1) hx hb hK (Or.inl hcm) (by rw [hcm]; exact t0) hd ha hJ kk
            · exact am_x_alen (t := cx.1) hx hb hK (Or.inr (Or.inl hcm)) (by rw [hcm]; exact t1) hd ha hJ kk
            · exact am_x_alen (t := cx.1) hx hb hK (Or.inr (Or.inr (Or.inl hcm))) (by rw [hcm]; exact t2) hd ha hJ kk
            · obtain ⟨oo, hoo⟩ := Option.isSome_iff_exists.mp hcm
              obtain ⟨h3, ty, ht, hre, -⟩ := o5 _ _ hoo
              exact am_x_alen (t := cx.1) hx hb hK (Or.inr (Or.inr (Or.inr h3))) ht hd ha hJ kk
          · cases he
        · cases he
      · rename_i r
        split at he
        · rename_i lx hlx
          cases he
          obtain ⟨f, X1, X2, X3, X4⟩ := hX lx hlx
          exact va_slen hx hb X1 X2 (show ¬ b ≤ sc.1 by omega) hJ.2.1 hd (kk _ _ _ hJ)
        · cases he
      · cases he
    · cases he
  case newarray ty =>
    cases ty
    case int =>
      obtain ⟨rfl, x, r, rfl, h0, h9, hS⟩ := am_new_inv (show am_new n 0 (.int 0) 2 pc lo st h k q = some (.inl S') from he)
      cases hS
      exact am_x_newi hx hb hK t0 (hts _ w0) hd h0 h9 hk hq hJ kk
    case boolean =>
      obtain ⟨rfl, x, r, rfl, h0, h9, hS⟩ := am_new_inv (show am_new n 1 (.int 0) 2 pc lo st h k q = some (.inl S') from he)
      cases hS
      exact am_x_newz hx hb hK t1 (hts _ w1) hd h0 h9 hk hq hJ kk
    case long =>
      obtain ⟨rfl, x, r, rfl, h0, h9, hS⟩ := am_new_inv (show am_new n 2 (.long 0) 2 pc lo st h k q = some (.inl S') from he)
      cases hS
      exact am_x_newl hx hb hK t2 (hts _ w2) hd h0 h9 hk hq hJ kk
    all_goals exact nomatch (show (none : Option am_X) = some (.inl S') from he)
  case anewarray ix =>
    simp only [am_exec] at he
    split at he
    · rename_i kf hl
      split at he
      · rename_i h10
        obtain ⟨C, f1, f2, f3⟩ := (o6 _ _ _ hl).2.2.1 h10.1 h10.2
        obtain ⟨rfl, x, r, rfl, h0, h9, hS⟩ := am_new_inv he
        cases hS
        rw [hno] at hown
        exact am_x_anew hx hb hK h10.2 f1 hown (hts _ f2) (va_AO.use (f3 s hz)) hd h0 h9 hk hq hJ kk
      · cases he
    · cases he
  case multianewarray ix d =>
    exact absurd rfl (hi ix d)
  case new ix =>
    simp only [am_exec] at he
    split at he
    · rename_i hn
      subst hn
      split at he
      · rename_i kf hl
        split at he
        · rename_i h9
          split at he
          · rename_i vs hv
            cases he
            obtain ⟨C, T, N, f1, f2, f3, f4⟩ := (o6 _ _ _ hl).2.1 h9
            obtain ⟨c1, c2, c3, c4, c5⟩ := o2 _ _ _ _ f1
            obtain ⟨c6, c7⟩ := c5 _ hv
            rw [hno] at hown
            exact am_x_new hx hb hts c1 hown hK (am_ci o1 f1) f1 c6 c7 (hts _ f2) (hts _ f3) (hts _ f4) hd hk hq hJ kk
          · cases he
        · split at he
          · exact absurd he (am_thr_ne _ _ _ _ _ _ _ _)
          · cases he
      · cases he
    · cases he
  case invokevirtual ix =>
    simp only [am_exec] at he
    split at he
    · rename_i hn
      subst hn
      split at he
      · split at he
        · exact absurd he (am_ask_ne _ _ _ _ _ _ _ _ _)
        · cases he
      · cases he
    · cases he
  case invokestatic ix =>
    simp only [am_exec] at he
    split at he
    · rename_i hn
      subst hn
      split at he
      · rename_i kf hl
        split at he
        · exact absurd he (am_ask_ne _ _ _ _ _ _ _ _ _)
        · split at he
          · rename_i h27
            split at he
            · rename_i y x r
              split at he
              · rename_i hr
                cases he
                rw [hno] at hown
                have hw : ((r.map (am_v b sc)).map fun v => v.category).sum + 13 ≤ R.locals := by rw [am_v_cats]; omega
                rcases h27 with h27 | h27
                · obtain ⟨f1, f2, f3, f4⟩ := (o6 _ _ _ hl).2.2.2.2.2.1 h27
                  rw [if_pos h27] at kk
                  exact va_mmin hx hb (hml.trans hsz.symm) hown (hts _ f1) (hts _ f2) (hts _ f3) (hts _ f4) (by omega) hw hk hq hd (kk _ _ _ hJ)
                · obtain ⟨f1, f2, f3, f4⟩ := (o6 _ _ _ hl).2.2.2.2.2.2.1 h27
                  rw [if_neg (by omega)] at kk
                  exact va_mmax hx hb (hml.trans hsz.symm) hown (hts _ f1) (hts _ f2) (hts _ f3) (hts _ f4) (by omega) hw hk hq hd (kk _ _ _ hJ)
              · cases he
            · cases he
          · split at he
            · rename_i h29
              obtain ⟨f1, f2, f3, f4⟩ := (o6 _ _ _ hl).2.2.2.2.2.2.2 h29
              rw [hno] at hown
              exact am_g_cpy hx hb (hml.trans hsz.symm) hown (hts _ f1) (hts _ f2) (hts _ f3) (hts _ f4) hK t0 hRf hRw hd he hJ kk
            · cases he
      · cases he
    · cases he
  case invokespecial ix =>
    simp only [am_exec] at he
    split at he
    · rename_i hn
      subst hn
      split at he
      · rename_i kf hl
        split at he
        · exact absurd he (am_ask_ne _ _ _ _ _ _ _ _ _)
        · split at he
          · rename_i h26
            split at he
            · rename_i a r
              split at he
              · rename_i hr
                cases he
                obtain ⟨f1, f2, f3⟩ := (o6 _ _ _ hl).2.2.2.2.1 h26
                rw [hno] at hown
                exact W.objInit hx hb hown (hts _ f1) (hts _ f2) (hts _ f3) rfl (hsz.trans hml.symm) rfl hd (by omega) (by show 2 * 0 + _ + 12 ≤ _; rw [am_v_cats]; omega) (kk _ _ _ hJ)
              · cases he
            · cases he
          · cases he
      · cases he
    · cases he
  case ireturn =>
    exact absurd he (am_ret_ne _ _ _ _ _ _ _ _ _ _ _ _ _ (Or.inl rfl))
  case areturn =>
    exact absurd he (am_ret_ne _ _ _ _ _ _ _ _ _ _ _ _ _ (Or.inr (Or.inl rfl)))
  case return_ =>
    exact absurd he (am_ret_ne _ _ _ _ _ _ _ _ _ _ _ _ _ (Or.inr (Or.inr rfl)))
  all_goals exact nomatch (show (none : Option am_X) = some (.inl S') from he)
end AMG
