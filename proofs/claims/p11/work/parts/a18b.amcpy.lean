/-! ===== ints from a row to a row ===== -/
theorem am_cpy_len (us vs : List Value) (sp dp n : Nat) : (am_cpy us vs sp dp n).length = vs.length := by
  unfold am_cpy
  rw [List.length_map, List.length_range]
theorem am_cpy_get (us vs : List Value) (sp dp n j : Nat) (h : dp + n ≤ vs.length) : am_int ((am_cpy us vs sp dp n).getD j .null) = va_cpy (fun j => am_int (us.getD j .null)) (fun j => am_int (vs.getD j .null)) sp dp n j := by
  unfold am_cpy va_cpy
  rw [List.getD_eq_getElem?_getD, List.getElem?_map]
  by_cases hj : j < vs.length
  · rw [List.getElem?_range hj]
    show am_int (if dp ≤ j ∧ j < dp + n then us.getD (sp + (j - dp)) .null else vs.getD j .null) = _
    split <;> rfl
  · rw [List.getElem?_eq_none (by rw [List.length_range]; omega), if_neg (by omega)]
    show am_int .null = am_int (vs.getD j .null)
    rw [List.getD_eq_getElem?_getD, List.getElem?_eq_none (by omega)]
    rfl
section AMCP
variable {p : Program} {l : Launch} {e : Env} {R : Room} {s : State} {m : MethodId} {args : Array Value} {below : List Frame} {meth : Method} {c : Code} {Q : State → Prop}
variable {D : va_G} {cl : List vw_C} {dA : Nat → ClassId} {b : Nat} {sc : am_Sy} {tyl : List FieldType} {cc : ByteArray} {H0 : Heap} {nL : Nat}
variable {pc k q : Nat} {lo : List (Option Value)} {st r : List Value} {h : am_H} {S' : am_S} {H : Heap} {ls : Array Slot} {locs : List Loc}
theorem am_x_cpy {own : String} {ix a a0 : Nat} {us vs : List Value} {sp dp n : Int32} (hx : p.tables.exec = Jvm.exec) (hb : c.code = cc) (hml : c.maxLocals = ls.size) (hown : s.vm.findClass own = some m.cls) (w1 : (Cond.methodLink own ix arraycopyName).before args s = true) (w2 : (Cond.native arraycopyName).before args s = true) (w3 : (Cond.static arraycopyName).before args s = true) (w4 : (Cond.initialized "java/lang/System").before args s = true) (hK : va_K D cl (am_tys dA tyl) s) (ht : tyl[0]? = some .int) (hf : 1 ≤ R.frames) (hw : am_cat r + 40 ≤ R.locals) (hd : decode cc pc = .ok (.invokestatic ix, 3)) (ha0 : am_arr h a0 100 = some us) (ha : am_arr h a 100 = some vs) (h1 : ¬ sp < 0) (h2 : ¬ dp < 0) (h3 : ¬ n < 0) (h4 : sp.toNatClampNeg + n.toNatClampNeg ≤ us.length) (h5 : dp.toNatClampNeg + n.toNatClampNeg ≤ vs.length)
    (hJ : am_J D cl dA b sc H0 nL (pc, lo, .int n :: .int dp :: .ref a :: .int sp :: .ref a0 :: r, h, k, q) H ls locs) (kk : (∀ (H' : Heap) (ls' : Array Slot) (locs' : List Loc), am_J D cl dA b sc H0 nL (pc + 3, lo, r, h.set a (100, am_cpy us vs sp.toNatClampNeg dp.toNatClampNeg n.toNatClampNeg), k, q) H' ls' locs' → W p l e R s m args below meth c H' locs' k q Q (F0 m (pc + 3) ls' (r.map (am_v b sc))))) : W p l e R s m args below meth c H locs k q Q (F0 m pc ls ((.int n :: .int dp :: .ref a :: .int sp :: .ref a0 :: r).map (am_v b sc))) := by
  intro T hT X
  have hc0 : H[b + a0]? = some (vp_cell (dA 0) (us.length, .inl (fun j => am_int (us.getD j .null)))) := hJ.1.2 a0 _ (am_arr_spec ha0)
  have hc1 : H[b + a]? = some (vp_cell (dA 0) (vs.length, .inl (fun j => am_int (vs.getD j .null)))) := hJ.1.2 a _ (am_arr_spec ha)
  rw [vp_cell_i] at hc0 hc1
  obtain ⟨-, k0, hk0, m0, q0⟩ := (hK.2 0 _ (am_tys_at ht)).1 us.length (fun j => .int (am_int (us.getD j .null)))
  obtain ⟨-, k1, hk1, m1, q1⟩ := (hK.2 0 _ (am_tys_at ht)).1 vs.length (fun j => .int (am_int (vs.getD j .null)))
  have pos : ∀ z : Int32, ¬ z < 0 → z.toInt = (z.toNatClampNeg : Int) := fun z hz => by
    have g1 := Int32.le_iff_toInt_le.mp (Int32.not_lt.mp hz)
    have g1 : (0 : Int) ≤ z.toInt := g1
    have g2 : z.toNatClampNeg = z.toInt.toNat := rfl
    omega
  have hcat : ((r.map (am_v b sc)).map fun v => v.category).sum = am_cat r := am_v_cats b sc r
  have hnw : nativeFrameWords "java/lang/System" "arraycopy" 5 + 11 ≤ 40 := by decide
  obtain ⟨vm, X', step⟩ := X.arraycopy hx hown w1 w2 w3 w4 (src := b + a0) (dst := b + a) (srcPos := sp) (destPos := dp) (n := n) (by rw [hT]; exact hc0) (by rw [hT]; exact hc1) (fun _ h => by cases h) (fun _ h => by cases h) (fun h => by cases h) (fun h => by cases h) hk0 hk1 q0 q1 rfl h1 h2 h3 (by rw [pos sp h1, pos n h3, arrV_size]; omega) (by rw [pos dp h2, pos n h3, arrV_size]; omega) (fun _ _ i hi => by
      have g : (arrV (dA 0) us.length (fun j => .int (am_int (us.getD j .null)))).slots.getD (sp.toNatClampNeg + i) .null = .int (am_int (us.getD (sp.toNatClampNeg + i) .null)) := by
        rw [Array.getD_eq_getD_getElem?, arrV_read _ _ (by omega)]
        rfl
      rw [g]
      exact ⟨rfl, trivial⟩) (g := F0 m pc ls (.int n :: .int dp :: .ref (b + a) :: .int sp :: .ref (b + a0) :: r.map (am_v b sc))) rfl (by rw [hml]) (rest := r.map (am_v b sc)) rfl (by rw [hb]; exact hd) hf (by show 2 * 0 + _ + _ ≤ _; omega)
  have e1 : copied (arrV (dA 0) us.length (fun j => .int (am_int (us.getD j .null)))) (arrV (dA 0) vs.length (fun j => .int (am_int (vs.getD j .null)))) sp dp n = vp_cell (dA 0) ((am_cpy us vs sp.toNatClampNeg dp.toNatClampNeg n.toNatClampNeg).length, .inl (fun j => am_int ((am_cpy us vs sp.toNatClampNeg dp.toNatClampNeg n.toNatClampNeg).getD j .null))) := by
    rw [vp_cell_i, am_cpy_len, show (fun j => (Value.int (am_int ((am_cpy us vs sp.toNatClampNeg dp.toNatClampNeg n.toNatClampNeg).getD j .null)))) = fun j => Value.int (va_cpy (fun j => am_int (us.getD j .null)) (fun j => am_int (vs.getD j .null)) sp.toNatClampNeg dp.toNatClampNeg n.toNatClampNeg j) from funext fun j => by rw [am_cpy_get _ _ _ _ _ _ h5]]
    exact va_copied (fun z => .int z) (dA 0) (dA 0) (fun j => am_int (us.getD j .null)) (fun j => am_int (vs.getD j .null)) h4
  rw [e1] at X' step
  have hlt : b + a < H.size := (Array.getElem?_eq_some_iff.mp hc1).1
  have oq : ∀ x : Nat, x ≠ b + a → (H.setIfInBounds (b + a) (vp_cell (dA 0) ((am_cpy us vs sp.toNatClampNeg dp.toNatClampNeg n.toNatClampNeg).length, .inl (fun j => am_int ((am_cpy us vs sp.toNatClampNeg dp.toNatClampNeg n.toNatClampNeg).getD j .null)))))[x]? = H[x]? := fun x hx => Array.getElem?_setIfInBounds_ne (Ne.symm hx)
  obtain ⟨t, t1, t2⟩ := kk (H.setIfInBounds (b + a) (vp_cell (dA 0) ((am_cpy us vs sp.toNatClampNeg dp.toNatClampNeg n.toNatClampNeg).length, .inl (fun j => am_int ((am_cpy us vs sp.toNatClampNeg dp.toNatClampNeg n.toNatClampNeg).getD j .null))))) ls _ ⟨hJ.1.put (am_lt (am_arr_spec ha)) (show (H.setIfInBounds (b + a) _)[b + a]? = some _ from Array.getElem?_setIfInBounds_self_of_lt hlt) Array.size_setIfInBounds oq, ⟨by rw [Array.size_setIfInBounds]; exact hJ.2.1.1, fun x g1 g2 => by
      rw [oq x (fun e => g2 (by show b ≤ x; omega))]
      exact hJ.2.1.2.1 x g1 g2, fun x hx => by
      rcases List.mem_append.mp hx with g | g
      · exact hJ.2.1.2.2 x g
      · obtain ⟨z, -, hz⟩ := List.mem_map.mp g
        rw [← hz]
        exact Nat.le_add_right b a⟩, hJ.2.2⟩ _ (by rw [← hT]; rfl) X'
  exact ⟨t, step t t1, t2⟩
theorem am_g_cpy {own : String} {ix : Nat} {mi : am_M} (hx : p.tables.exec = Jvm.exec) (hb : c.code = cc) (hml : c.maxLocals = ls.size) (hown : s.vm.findClass own = some m.cls) (w1 : (Cond.methodLink own ix arraycopyName).before args s = true) (w2 : (Cond.native arraycopyName).before args s = true) (w3 : (Cond.static arraycopyName).before args s = true) (w4 : (Cond.initialized "java/lang/System").before args s = true) (hK : va_K D cl (am_tys dA tyl) s) (ht : tyl[0]? = some .int) (hRf : am_f mi ≤ R.frames) (hRw : am_w mi ≤ R.locals) (hd : decode cc pc = .ok (.invokestatic ix, 3)) (he : am_cpyi mi pc lo st h k q = some (.inl S'))
    (hJ : am_J D cl dA b sc H0 nL (pc, lo, st, h, k, q) H ls locs) (kk : (∀ (H' : Heap) (ls' : Array Slot) (locs' : List Loc), am_J D cl dA b sc H0 nL S' H' ls' locs' → W p l e R s m args below meth c H' locs' S'.2.2.2.2.1 S'.2.2.2.2.2 Q (F0 m S'.1 ls' (S'.2.2.1.map (am_v b sc))))) : W p l e R s m args below meth c H locs k q Q (F0 m pc ls (st.map (am_v b sc))) := by
  unfold am_cpyi at he
  split at he
  · rename_i n dp a sp a0 r
    split at he
    · rename_i hr
      split at he
      · rename_i us vs ha0 ha
        split at he
        · rename_i hh
          obtain ⟨h1, h2, h3, h4, h5⟩ := hh
          cases he
          exact am_x_cpy hx hb hml hown w1 w2 w3 w4 hK ht (by omega) (by omega) hd ha0 ha h1 h2 h3 h4 h5 hJ kk
        · cases he
      · cases he
    · cases he
  · cases he
end AMCP
