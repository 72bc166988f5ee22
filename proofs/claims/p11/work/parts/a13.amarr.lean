/-! ===== arrays and fields ===== -/
def am_tys (dA : Nat → ClassId) (tyl : List FieldType) : List (ClassId × FieldType) := tyl.zipIdx.map fun x => (dA x.2, x.1)
theorem am_tys_at {dA : Nat → ClassId} {tyl : List FieldType} {j : Nat} {t : FieldType} (h : tyl[j]? = some t) : (am_tys dA tyl)[j]? = some (dA j, t) := by
  unfold am_tys
  rw [List.getElem?_map, List.getElem?_zipIdx, h]
  simp
theorem am_e_obj {b : Nat} {sc : am_Sy} {t : Nat} {dA : Nat → ClassId} {vs : List Value} (h : t < 100) : am_e b sc dA (t, vs) = .inr (t, vs.map (am_v b sc)) := by
  unfold am_e
  rw [if_pos h]
theorem am_e_ref {b : Nat} {sc : am_Sy} {t : Nat} {dA : Nat → ClassId} {vs : List Value} (h : 103 ≤ t) : am_e b sc dA (t, vs) = .inl (dA (t - 100), vs.length, .inr (.inr (.inr (.inr fun j => am_opt b (vs.getD j .null))))) := by
  unfold am_e
  rw [if_neg (show ¬ t < 100 by omega), if_neg (show ¬ t < 102 by omega), if_neg (show ¬ t = 102 by omega)]
theorem am_bit_or {x : Int32} (h : am_bit x = true) : x = 0 ∨ x = 1 := by
  unfold am_bit at h
  simpa using h
theorem am_nar_bit {x : Int32} (h : am_bit x = true) : narrow .boolean (.int x) = .int x := by
  rcases am_bit_or h with rfl | rfl <;> rfl
theorem am_fit_spec {b : Nat} {sc : am_Sy} {ty : FieldType} {v : Value} (h : am_fit ty v = true) : narrow ty (am_v b sc v) = am_v b sc v ∧ fits ty (am_v b sc v) = true := by
  cases ty <;> cases v <;> first
    | (simp [am_fit, am_isR] at h; done)
    | exact ⟨rfl, rfl⟩
    | (rcases am_bit_or (by simpa [am_fit] using h) with rfl | rfl <;> exact ⟨rfl, rfl⟩)
section AMA
variable {p : Program} {l : Launch} {e : Env} {R : Room} {s : State} {m : MethodId} {args : Array Value} {below : List Frame} {meth : Method} {c : Code} {Q : State → Prop}
variable {D : va_G} {cl : List vw_C} {dA : Nat → ClassId} {b : Nat} {sc : am_Sy} {H0 : Heap} {nL : Nat} {cc : ByteArray} {tyl : List FieldType}
variable {n pc k q : Nat} {lo : List (Option Value)} {st r : List Value} {h : am_H} {S' : am_S} {H : Heap} {ls : Array Slot} {locs : List Loc} {a : Nat} {i : Int32} {vs : List Value}

theorem am_x_iald {x : Int32} (hx : p.tables.exec = Jvm.exec) (hb : c.code = cc) (hK : va_K D cl (am_tys dA tyl) s) (ht : tyl[0]? = some .int) (hd : decode cc pc = .ok (.iaload, 1)) (ha : am_arr h a 100 = some vs) (hr : am_rd vs i = some (.int x))
    (hJ : am_J D cl dA b sc H0 nL (pc, lo, .int i :: .ref a :: r, h, k, q) H ls locs) (kk : (∀ (H' : Heap) (ls' : Array Slot) (locs' : List Loc), am_J D cl dA b sc H0 nL (pc + 1, lo, .int x :: r, h, k, q) H' ls' locs' → W p l e R s m args below meth c H' locs' ((pc + 1, lo, .int x :: r, h, k, q)).2.2.2.2.1 ((pc + 1, lo, .int x :: r, h, k, q)).2.2.2.2.2 Q (F0 m ((pc + 1, lo, .int x :: r, h, k, q)).1 ls' (((pc + 1, lo, .int x :: r, h, k, q)).2.2.1.map (am_v b sc))))) : W p l e R s m args below meth c H locs k q Q (F0 m pc ls ((.int i :: .ref a :: r).map (am_v b sc))) := by
  have h1 : va_at D cl (b + a, .inl (dA 0, vs.length, .inl (fun j => am_int (vs.getD j .null)))) H := hJ.1.2 a _ (am_arr_spec ha)
  obtain ⟨hin, h3, h4⟩ := am_rd_spec hr
  refine va_iald hx hb hK (am_P1 h1) 0 0 rfl (am_tys_at ht) hin hd ?_
  rw [h4]
  exact kk _ _ _ hJ
theorem am_x_zald {x : Int32} (hx : p.tables.exec = Jvm.exec) (hb : c.code = cc) (hK : va_K D cl (am_tys dA tyl) s) (ht : tyl[1]? = some .boolean) (hd : decode cc pc = .ok (.baload, 1)) (ha : am_arr h a 101 = some vs) (hr : am_rd vs i = some (.int x))
    (hJ : am_J D cl dA b sc H0 nL (pc, lo, .int i :: .ref a :: r, h, k, q) H ls locs) (kk : (∀ (H' : Heap) (ls' : Array Slot) (locs' : List Loc), am_J D cl dA b sc H0 nL (pc + 1, lo, .int x :: r, h, k, q) H' ls' locs' → W p l e R s m args below meth c H' locs' ((pc + 1, lo, .int x :: r, h, k, q)).2.2.2.2.1 ((pc + 1, lo, .int x :: r, h, k, q)).2.2.2.2.2 Q (F0 m ((pc + 1, lo, .int x :: r, h, k, q)).1 ls' (((pc + 1, lo, .int x :: r, h, k, q)).2.2.1.map (am_v b sc))))) : W p l e R s m args below meth c H locs k q Q (F0 m pc ls ((.int i :: .ref a :: r).map (am_v b sc))) := by
  have h1 : va_at D cl (b + a, .inl (dA 1, vs.length, .inl (fun j => am_int (vs.getD j .null)))) H := hJ.1.2 a _ (am_arr_spec ha)
  obtain ⟨hin, h3, h4⟩ := am_rd_spec hr
  refine va_zald hx hb hK (am_P1 h1) 0 1 rfl (am_tys_at ht) hin hd ?_
  rw [h4]
  exact kk _ _ _ hJ
theorem am_x_lald {x : Int64} (hx : p.tables.exec = Jvm.exec) (hb : c.code = cc) (hK : va_K D cl (am_tys dA tyl) s) (ht : tyl[2]? = some .long) (hd : decode cc pc = .ok (.laload, 1)) (ha : am_arr h a 102 = some vs) (hr : am_rd vs i = some (.long x))
    (hJ : am_J D cl dA b sc H0 nL (pc, lo, .int i :: .ref a :: r, h, k, q) H ls locs) (kk : (∀ (H' : Heap) (ls' : Array Slot) (locs' : List Loc), am_J D cl dA b sc H0 nL (pc + 1, lo, .long x :: r, h, k, q) H' ls' locs' → W p l e R s m args below meth c H' locs' ((pc + 1, lo, .long x :: r, h, k, q)).2.2.2.2.1 ((pc + 1, lo, .long x :: r, h, k, q)).2.2.2.2.2 Q (F0 m ((pc + 1, lo, .long x :: r, h, k, q)).1 ls' (((pc + 1, lo, .long x :: r, h, k, q)).2.2.1.map (am_v b sc))))) : W p l e R s m args below meth c H locs k q Q (F0 m pc ls ((.int i :: .ref a :: r).map (am_v b sc))) := by
  have h1 : va_at D cl (b + a, .inl (dA 2, vs.length, .inr (.inl (fun j => am_lng (vs.getD j .null))))) H := hJ.1.2 a _ (am_arr_spec ha)
  obtain ⟨hin, h3, h4⟩ := am_rd_spec hr
  refine va_lald hx hb hK (am_P1 h1) 0 2 rfl (am_tys_at ht) hin hd ?_
  rw [h4]
  exact kk _ _ _ hJ
theorem am_x_iast {x : Int32} {h' : am_H} (hx : p.tables.exec = Jvm.exec) (hb : c.code = cc) (hK : va_K D cl (am_tys dA tyl) s) (ht : tyl[0]? = some .int) (hd : decode cc pc = .ok (.iastore, 1)) (ha : am_arr h a 100 = some vs) (hw : am_wr h a 100 vs i (.int x) = some h')
    (hJ : am_J D cl dA b sc H0 nL (pc, lo, .int x :: .int i :: .ref a :: r, h, k, q) H ls locs) (kk : (∀ (H' : Heap) (ls' : Array Slot) (locs' : List Loc), am_J D cl dA b sc H0 nL (pc + 1, lo, r, h', k, q) H' ls' locs' → W p l e R s m args below meth c H' locs' ((pc + 1, lo, r, h', k, q)).2.2.2.2.1 ((pc + 1, lo, r, h', k, q)).2.2.2.2.2 Q (F0 m ((pc + 1, lo, r, h', k, q)).1 ls' (((pc + 1, lo, r, h', k, q)).2.2.1.map (am_v b sc))))) : W p l e R s m args below meth c H locs k q Q (F0 m pc ls ((.int x :: .int i :: .ref a :: r).map (am_v b sc))) := by
  have h1 : H[b + a]? = some (vp_cell (dA 0) (vs.length, .inl (fun j => am_int (vs.getD j .null)))) := hJ.1.2 a _ (am_arr_spec ha)
  obtain ⟨hin, hl, rfl⟩ := am_wr_spec hw
  rw [vp_cell_i] at h1
  refine W.iast hx hb h1 ((hK.2 0 _ (am_tys_at ht)).1 vs.length _) (fun q => by cases q) (by rw [arrV_size]; exact hin) rfl rfl hd fun H1 e1 z oq => ?_
  have h2 : va_at D cl (b + a, am_e b sc dA (100, vs.set i.toNatClampNeg (.int x))) H1 := by
    show H1[b + a]? = some (vp_cell (dA 0) ((vs.set i.toNatClampNeg (.int x)).length, .inl (fun j => am_int ((vs.set i.toNatClampNeg (.int x)).getD j .null))))
    rw [e1, vp_cell_i, arrV_store, List.length_set]
    congr 2
    funext j
    exact (am_set_get vs i.toNatClampNeg (.int x) hl (fun v => (.int (am_int v) : Value)) j).symm
  exact kk _ _ _ ⟨hJ.1.put (am_lt (am_arr_spec ha)) h2 z oq, hJ.2.1.put z oq (Nat.le_add_right b a), hJ.2.2⟩
theorem am_x_zast {x : Int32} {h' : am_H} (hx : p.tables.exec = Jvm.exec) (hb : c.code = cc) (hK : va_K D cl (am_tys dA tyl) s) (ht : tyl[1]? = some .boolean) (hd : decode cc pc = .ok (.bastore, 1)) (ha : am_arr h a 101 = some vs) (hbt : am_bit x = true) (hw : am_wr h a 101 vs i (.int x) = some h')
    (hJ : am_J D cl dA b sc H0 nL (pc, lo, .int x :: .int i :: .ref a :: r, h, k, q) H ls locs) (kk : (∀ (H' : Heap) (ls' : Array Slot) (locs' : List Loc), am_J D cl dA b sc H0 nL (pc + 1, lo, r, h', k, q) H' ls' locs' → W p l e R s m args below meth c H' locs' ((pc + 1, lo, r, h', k, q)).2.2.2.2.1 ((pc + 1, lo, r, h', k, q)).2.2.2.2.2 Q (F0 m ((pc + 1, lo, r, h', k, q)).1 ls' (((pc + 1, lo, r, h', k, q)).2.2.1.map (am_v b sc))))) : W p l e R s m args below meth c H locs k q Q (F0 m pc ls ((.int x :: .int i :: .ref a :: r).map (am_v b sc))) := by
  have h1 : H[b + a]? = some (vp_cell (dA 1) (vs.length, .inl (fun j => am_int (vs.getD j .null)))) := hJ.1.2 a _ (am_arr_spec ha)
  obtain ⟨hin, hl, rfl⟩ := am_wr_spec hw
  rw [vp_cell_i] at h1
  refine W.zast hx hb h1 ((hK.2 1 _ (am_tys_at ht)).1 vs.length _) (fun q => by cases q) (by rw [arrV_size]; exact hin) rfl rfl hd fun H1 e1 z oq => ?_
  rw [am_nar_bit hbt] at e1
  have h2 : va_at D cl (b + a, am_e b sc dA (101, vs.set i.toNatClampNeg (.int x))) H1 := by
    show H1[b + a]? = some (vp_cell (dA 1) ((vs.set i.toNatClampNeg (.int x)).length, .inl (fun j => am_int ((vs.set i.toNatClampNeg (.int x)).getD j .null))))
    rw [e1, vp_cell_i, arrV_store, List.length_set]
    congr 2
    funext j
    exact (am_set_get vs i.toNatClampNeg (.int x) hl (fun v => (.int (am_int v) : Value)) j).symm
  exact kk _ _ _ ⟨hJ.1.put (am_lt (am_arr_spec ha)) h2 z oq, hJ.2.1.put z oq (Nat.le_add_right b a), hJ.2.2⟩
theorem am_x_last {x : Int64} {h' : am_H} (hx : p.tables.exec = Jvm.exec) (hb : c.code = cc) (hK : va_K D cl (am_tys dA tyl) s) (ht : tyl[2]? = some .long) (hd : decode cc pc = .ok (.lastore, 1)) (ha : am_arr h a 102 = some vs) (hw : am_wr h a 102 vs i (.long x) = some h')
    (hJ : am_J D cl dA b sc H0 nL (pc, lo, .long x :: .int i :: .ref a :: r, h, k, q) H ls locs) (kk : (∀ (H' : Heap) (ls' : Array Slot) (locs' : List Loc), am_J D cl dA b sc H0 nL (pc + 1, lo, r, h', k, q) H' ls' locs' → W p l e R s m args below meth c H' locs' ((pc + 1, lo, r, h', k, q)).2.2.2.2.1 ((pc + 1, lo, r, h', k, q)).2.2.2.2.2 Q (F0 m ((pc + 1, lo, r, h', k, q)).1 ls' (((pc + 1, lo, r, h', k, q)).2.2.1.map (am_v b sc))))) : W p l e R s m args below meth c H locs k q Q (F0 m pc ls ((.long x :: .int i :: .ref a :: r).map (am_v b sc))) := by
  have h1 : H[b + a]? = some (vp_cell (dA 2) (vs.length, .inr (.inl (fun j => am_lng (vs.getD j .null))))) := hJ.1.2 a _ (am_arr_spec ha)
  obtain ⟨hin, hl, rfl⟩ := am_wr_spec hw
  rw [vp_cell_l] at h1
  refine W.last hx hb h1 ((hK.2 2 _ (am_tys_at ht)).1 vs.length _) (fun q => by cases q) (by rw [arrV_size]; exact hin) rfl rfl hd fun H1 e1 z oq => ?_
  have h2 : va_at D cl (b + a, am_e b sc dA (102, vs.set i.toNatClampNeg (.long x))) H1 := by
    show H1[b + a]? = some (vp_cell (dA 2) ((vs.set i.toNatClampNeg (.long x)).length, .inr (.inl (fun j => am_lng ((vs.set i.toNatClampNeg (.long x)).getD j .null)))))
    rw [e1, vp_cell_l, arrV_store, List.length_set]
    congr 2
    funext j
    exact (am_set_get vs i.toNatClampNeg (.long x) hl (fun v => (.long (am_lng v) : Value)) j).symm
  exact kk _ _ _ ⟨hJ.1.put (am_lt (am_arr_spec ha)) h2 z oq, hJ.2.1.put z oq (Nat.le_add_right b a), hJ.2.2⟩
theorem am_x_aald {t : Nat} {v : Value} {ty : FieldType} (hx : p.tables.exec = Jvm.exec) (hb : c.code = cc) (hK : va_K D cl (am_tys dA tyl) s) (h3 : 103 ≤ t) (ht : tyl[t - 100]? = some ty) (hre : ty.isReference = true) (hd : decode cc pc = .ok (.aaload, 1)) (ha : h[a]? = some (t, vs)) (hr : am_rd vs i = some v) (hv : (∃ y, v = .ref y) ∨ v = .null)
    (hJ : am_J D cl dA b sc H0 nL (pc, lo, .int i :: .ref a :: r, h, k, q) H ls locs) (kk : (∀ (H' : Heap) (ls' : Array Slot) (locs' : List Loc), am_J D cl dA b sc H0 nL (pc + 1, lo, v :: r, h, k, q) H' ls' locs' → W p l e R s m args below meth c H' locs' ((pc + 1, lo, v :: r, h, k, q)).2.2.2.2.1 ((pc + 1, lo, v :: r, h, k, q)).2.2.2.2.2 Q (F0 m ((pc + 1, lo, v :: r, h, k, q)).1 ls' (((pc + 1, lo, v :: r, h, k, q)).2.2.1.map (am_v b sc))))) : W p l e R s m args below meth c H locs k q Q (F0 m pc ls ((.int i :: .ref a :: r).map (am_v b sc))) := by
  have h1 : va_at D cl (b + a, am_e b sc dA (t, vs)) H := hJ.1.2 a _ ha
  rw [am_e_ref h3] at h1
  have h1 : H[b + a]? = some (vp_cell (dA (t - 100)) (vs.length, .inr (.inr (.inr (.inr fun j => am_opt b (vs.getD j .null)))))) := h1
  rw [vp_cell_q] at h1
  obtain ⟨hin, -, h4⟩ := am_rd_spec hr
  have hlt : i.toNatClampNeg < vs.length := Nat.not_le.mp fun z => hin (Or.inr z)
  have e1 : va_rf (am_opt b (vs.getD i.toNatClampNeg .null)) = am_v b sc v := by
    rw [h4]
    rcases hv with ⟨y, rfl⟩ | rfl <;> rfl
  refine W.aald (v := am_v b sc v) hx hb h1 ((hK.2 (t - 100) _ (am_tys_at ht)).1 vs.length _) hre (fun z => by cases z) (by rw [arrV_size]; exact hin) (by rw [arrV_read _ _ hlt, e1]) rfl rfl hd ?_
  exact kk _ _ _ hJ
theorem am_x_aast {t v ci : Nat} {ws : List Value} {C : String} {T : u_T} {N : Nat} {h' : am_H} (hx : p.tables.exec = Jvm.exec) (hb : c.code = cc) (hK : va_K D cl (am_tys dA tyl) s) (h3 : 103 ≤ t) (ht : tyl[t - 100]? = some (.object C)) (hci : ci < 100) (hcl : cl[ci]? = some (C, T, N)) (hd : decode cc pc = .ok (.aastore, 1)) (ha : h[a]? = some (t, vs)) (hv : h[v]? = some (ci, ws)) (hw : am_wr h a t vs i (.ref v) = some h')
    (hJ : am_J D cl dA b sc H0 nL (pc, lo, .ref v :: .int i :: .ref a :: r, h, k, q) H ls locs) (kk : (∀ (H' : Heap) (ls' : Array Slot) (locs' : List Loc), am_J D cl dA b sc H0 nL (pc + 1, lo, r, h', k, q) H' ls' locs' → W p l e R s m args below meth c H' locs' ((pc + 1, lo, r, h', k, q)).2.2.2.2.1 ((pc + 1, lo, r, h', k, q)).2.2.2.2.2 Q (F0 m ((pc + 1, lo, r, h', k, q)).1 ls' (((pc + 1, lo, r, h', k, q)).2.2.1.map (am_v b sc))))) : W p l e R s m args below meth c H locs k q Q (F0 m pc ls ((.ref v :: .int i :: .ref a :: r).map (am_v b sc))) := by
  have h1 : va_at D cl (b + a, am_e b sc dA (t, vs)) H := hJ.1.2 a _ ha
  rw [am_e_ref h3] at h1
  have h1 : H[b + a]? = some (vp_cell (dA (t - 100)) (vs.length, .inr (.inr (.inr (.inr fun j => am_opt b (vs.getD j .null)))))) := h1
  rw [vp_cell_q] at h1
  have h2 : va_at D cl (b + v, am_e b sc dA (ci, ws)) H := hJ.1.2 v _ hv
  rw [am_e_obj hci] at h2
  obtain ⟨hin, hl, rfl⟩ := am_wr_spec hw
  have h0 : ¬ i < 0 := fun z => hin (Or.inl z)
  obtain ⟨r', hr', cellV, g1, g2, g3, -⟩ := h2
  have hcls := (hK.1 ci _ hcl).2
  obtain ⟨kA, comp, k1, k2, k3, -⟩ := (hK.2 (t - 100) _ (am_tys_at ht)).2
  have hcomp : comp = D.1 ci := Option.some.inj (k3.symm.trans hcls.1)
  subst hcomp
  obtain ⟨kC, hkC, -⟩ := hcls.2
  refine W.aast hx hb h1 (fun z hz => by cases hz) (fun hz => by cases hz) k1 k2 rfl hkC ⟨h0, by rw [arrV_size]; exact hl⟩ g1 (fun z hz => by rw [g3] at hz; cases hz) (by rw [g2]; exact hkC) (by rw [g2]; exact va_assign hcls) rfl rfl hd fun H1 e1 z oq => ?_
  have h5 : va_at D cl (b + a, am_e b sc dA (t, vs.set i.toNatClampNeg (.ref v))) H1 := by
    rw [am_e_ref h3]
    show H1[b + a]? = some (vp_cell (dA (t - 100)) ((vs.set i.toNatClampNeg (.ref v)).length, .inr (.inr (.inr (.inr fun j => am_opt b ((vs.set i.toNatClampNeg (.ref v)).getD j .null))))))
    rw [e1, vp_cell_q, arrV_store, List.length_set]
    congr 2
    funext j
    exact (am_set_get vs i.toNatClampNeg (.ref v) hl (fun v => va_rf (am_opt b v)) j).symm
  exact kk _ _ _ ⟨hJ.1.put (am_lt ha) h5 z oq, hJ.2.1.put z oq (Nat.le_add_right b a), hJ.2.2⟩
theorem am_x_alen {t : Nat} {ty : FieldType} (hx : p.tables.exec = Jvm.exec) (hb : c.code = cc) (hK : va_K D cl (am_tys dA tyl) s) (h3 : t = 100 ∨ t = 101 ∨ t = 102 ∨ 103 ≤ t) (ht : tyl[t - 100]? = some ty) (hd : decode cc pc = .ok (.arraylength, 1)) (ha : h[a]? = some (t, vs))
    (hJ : am_J D cl dA b sc H0 nL (pc, lo, .ref a :: r, h, k, q) H ls locs) (kk : (∀ (H' : Heap) (ls' : Array Slot) (locs' : List Loc), am_J D cl dA b sc H0 nL (pc + 1, lo, .int (Int32.ofNat vs.length) :: r, h, k, q) H' ls' locs' → W p l e R s m args below meth c H' locs' ((pc + 1, lo, .int (Int32.ofNat vs.length) :: r, h, k, q)).2.2.2.2.1 ((pc + 1, lo, .int (Int32.ofNat vs.length) :: r, h, k, q)).2.2.2.2.2 Q (F0 m ((pc + 1, lo, .int (Int32.ofNat vs.length) :: r, h, k, q)).1 ls' (((pc + 1, lo, .int (Int32.ofNat vs.length) :: r, h, k, q)).2.2.1.map (am_v b sc))))) : W p l e R s m args below meth c H locs k q Q (F0 m pc ls ((.ref a :: r).map (am_v b sc))) := by
  have h1 : va_at D cl (b + a, am_e b sc dA (t, vs)) H := hJ.1.2 a _ ha
  rcases h3 with rfl | rfl | rfl | h3
  · exact va_alen hx hb hK (am_P1 h1) 0 0 rfl (am_tys_at ht) rfl hd (kk _ _ _ hJ)
  · exact va_alen hx hb hK (am_P1 h1) 0 1 rfl (am_tys_at ht) rfl hd (kk _ _ _ hJ)
  · exact va_alen hx hb hK (am_P1 h1) 0 2 rfl (am_tys_at ht) rfl hd (kk _ _ _ hJ)
  · rw [am_e_ref h3] at h1
    exact va_alen hx hb hK (am_P1 h1) 0 (t - 100) rfl (am_tys_at ht) rfl hd (kk _ _ _ hJ)
theorem am_x_newi {x : Int32} (hx : p.tables.exec = Jvm.exec) (hb : c.code = cc) (hK : va_K D cl (am_tys dA tyl) s) (ht : tyl[0]? = some .int) (hw : (Cond.arrayClass .int).before args s = true) (hd : decode cc pc = .ok (.newarray .int, 2)) (h0 : ¬ x < 0) (h9 : x.toNatClampNeg ≤ 1000) (hk : k + 1 ≤ R.cells) (hq : q + x.toNatClampNeg ≤ R.slots)
    (hJ : am_J D cl dA b sc H0 nL (pc, lo, .int x :: r, h, k, q) H ls locs) (kk : (∀ (H' : Heap) (ls' : Array Slot) (locs' : List Loc), am_J D cl dA b sc H0 nL (pc + 2, lo, .ref h.length :: r, h ++ [(100 + 0, List.replicate x.toNatClampNeg (.int 0))], k + 1, q + x.toNatClampNeg) H' ls' locs' → W p l e R s m args below meth c H' locs' ((pc + 2, lo, .ref h.length :: r, h ++ [(100 + 0, List.replicate x.toNatClampNeg (.int 0))], k + 1, q + x.toNatClampNeg)).2.2.2.2.1 ((pc + 2, lo, .ref h.length :: r, h ++ [(100 + 0, List.replicate x.toNatClampNeg (.int 0))], k + 1, q + x.toNatClampNeg)).2.2.2.2.2 Q (F0 m ((pc + 2, lo, .ref h.length :: r, h ++ [(100 + 0, List.replicate x.toNatClampNeg (.int 0))], k + 1, q + x.toNatClampNeg)).1 ls' (((pc + 2, lo, .ref h.length :: r, h ++ [(100 + 0, List.replicate x.toNatClampNeg (.int 0))], k + 1, q + x.toNatClampNeg)).2.2.1.map (am_v b sc))))) : W p l e R s m args below meth c H locs k q Q (F0 m pc ls ((.int x :: r).map (am_v b sc))) := by
  refine va_newaK (atype := .int) hx hb hw rfl hd rfl h0 rfl (by show x.toNatClampNeg * _ ≤ 536870912; simp [componentBytes, newarray.typeOf]; omega) hk hq hJ.1.1 fun H1 cA e1 z1 o1 hAr hNm => ?_
  have hcA : cA = dA 0 := Option.some.inj (hNm.symm.trans (hK.2 0 _ (am_tys_at ht)).2)
  subst hcA
  have h2 : va_at D cl (b + h.length, am_e b sc dA (100 + 0, List.replicate x.toNatClampNeg (.int 0))) H1 := by
    show H1[b + h.length]? = some (vp_cell (dA 0) ((List.replicate x.toNatClampNeg (.int 0 : Value)).length, .inl (fun j => am_int ((List.replicate x.toNatClampNeg (.int 0 : Value)).getD j .null))))
    rw [e1, vp_cell_i, List.length_replicate]
    congr 2
    funext j
    by_cases hj : j < x.toNatClampNeg
    · simp [hj, am_int, defaultValue, newarray.typeOf]
    · simp [hj, am_int, defaultValue, newarray.typeOf]
  exact kk _ _ _ ⟨hJ.1.push h2 (by rw [z1, hJ.1.1]) (fun q hq => o1 q (by rw [← hJ.1.1]; exact hq)), am_S_push hJ.2.1 (by rw [z1, hJ.1.1]; omega) (fun q hq => o1 q (by rw [← hJ.1.1]; exact hq)), hJ.2.2⟩
theorem am_x_newz {x : Int32} (hx : p.tables.exec = Jvm.exec) (hb : c.code = cc) (hK : va_K D cl (am_tys dA tyl) s) (ht : tyl[1]? = some .boolean) (hw : (Cond.arrayClass .boolean).before args s = true) (hd : decode cc pc = .ok (.newarray .boolean, 2)) (h0 : ¬ x < 0) (h9 : x.toNatClampNeg ≤ 1000) (hk : k + 1 ≤ R.cells) (hq : q + x.toNatClampNeg ≤ R.slots)
    (hJ : am_J D cl dA b sc H0 nL (pc, lo, .int x :: r, h, k, q) H ls locs) (kk : (∀ (H' : Heap) (ls' : Array Slot) (locs' : List Loc), am_J D cl dA b sc H0 nL (pc + 2, lo, .ref h.length :: r, h ++ [(100 + 1, List.replicate x.toNatClampNeg (.int 0))], k + 1, q + x.toNatClampNeg) H' ls' locs' → W p l e R s m args below meth c H' locs' ((pc + 2, lo, .ref h.length :: r, h ++ [(100 + 1, List.replicate x.toNatClampNeg (.int 0))], k + 1, q + x.toNatClampNeg)).2.2.2.2.1 ((pc + 2, lo, .ref h.length :: r, h ++ [(100 + 1, List.replicate x.toNatClampNeg (.int 0))], k + 1, q + x.toNatClampNeg)).2.2.2.2.2 Q (F0 m ((pc + 2, lo, .ref h.length :: r, h ++ [(100 + 1, List.replicate x.toNatClampNeg (.int 0))], k + 1, q + x.toNatClampNeg)).1 ls' (((pc + 2, lo, .ref h.length :: r, h ++ [(100 + 1, List.replicate x.toNatClampNeg (.int 0))], k + 1, q + x.toNatClampNeg)).2.2.1.map (am_v b sc))))) : W p l e R s m args below meth c H locs k q Q (F0 m pc ls ((.int x :: r).map (am_v b sc))) := by
  refine va_newaK (atype := .boolean) hx hb hw rfl hd rfl h0 rfl (by show x.toNatClampNeg * _ ≤ 536870912; simp [componentBytes, newarray.typeOf]; omega) hk hq hJ.1.1 fun H1 cA e1 z1 o1 hAr hNm => ?_
  have hcA : cA = dA 1 := Option.some.inj (hNm.symm.trans (hK.2 1 _ (am_tys_at ht)).2)
  subst hcA
  have h2 : va_at D cl (b + h.length, am_e b sc dA (100 + 1, List.replicate x.toNatClampNeg (.int 0))) H1 := by
    show H1[b + h.length]? = some (vp_cell (dA 1) ((List.replicate x.toNatClampNeg (.int 0 : Value)).length, .inl (fun j => am_int ((List.replicate x.toNatClampNeg (.int 0 : Value)).getD j .null))))
    rw [e1, vp_cell_i, List.length_replicate]
    congr 2
    funext j
    by_cases hj : j < x.toNatClampNeg
    · simp [hj, am_int, defaultValue, newarray.typeOf]
    · simp [hj, am_int, defaultValue, newarray.typeOf]
  exact kk _ _ _ ⟨hJ.1.push h2 (by rw [z1, hJ.1.1]) (fun q hq => o1 q (by rw [← hJ.1.1]; exact hq)), am_S_push hJ.2.1 (by rw [z1, hJ.1.1]; omega) (fun q hq => o1 q (by rw [← hJ.1.1]; exact hq)), hJ.2.2⟩
theorem am_x_newl {x : Int32} (hx : p.tables.exec = Jvm.exec) (hb : c.code = cc) (hK : va_K D cl (am_tys dA tyl) s) (ht : tyl[2]? = some .long) (hw : (Cond.arrayClass .long).before args s = true) (hd : decode cc pc = .ok (.newarray .long, 2)) (h0 : ¬ x < 0) (h9 : x.toNatClampNeg ≤ 1000) (hk : k + 1 ≤ R.cells) (hq : q + x.toNatClampNeg ≤ R.slots)
    (hJ : am_J D cl dA b sc H0 nL (pc, lo, .int x :: r, h, k, q) H ls locs) (kk : (∀ (H' : Heap) (ls' : Array Slot) (locs' : List Loc), am_J D cl dA b sc H0 nL (pc + 2, lo, .ref h.length :: r, h ++ [(100 + 2, List.replicate x.toNatClampNeg (.long 0))], k + 1, q + x.toNatClampNeg) H' ls' locs' → W p l e R s m args below meth c H' locs' ((pc + 2, lo, .ref h.length :: r, h ++ [(100 + 2, List.replicate x.toNatClampNeg (.long 0))], k + 1, q + x.toNatClampNeg)).2.2.2.2.1 ((pc + 2, lo, .ref h.length :: r, h ++ [(100 + 2, List.replicate x.toNatClampNeg (.long 0))], k + 1, q + x.toNatClampNeg)).2.2.2.2.2 Q (F0 m ((pc + 2, lo, .ref h.length :: r, h ++ [(100 + 2, List.replicate x.toNatClampNeg (.long 0))], k + 1, q + x.toNatClampNeg)).1 ls' (((pc + 2, lo, .ref h.length :: r, h ++ [(100 + 2, List.replicate x.toNatClampNeg (.long 0))], k + 1, q + x.toNatClampNeg)).2.2.1.map (am_v b sc))))) : W p l e R s m args below meth c H locs k q Q (F0 m pc ls ((.int x :: r).map (am_v b sc))) := by
  refine va_newaK (atype := .long) hx hb hw rfl hd rfl h0 rfl (by show x.toNatClampNeg * _ ≤ 536870912; simp [componentBytes, newarray.typeOf]; omega) hk hq hJ.1.1 fun H1 cA e1 z1 o1 hAr hNm => ?_
  have hcA : cA = dA 2 := Option.some.inj (hNm.symm.trans (hK.2 2 _ (am_tys_at ht)).2)
  subst hcA
  have h2 : va_at D cl (b + h.length, am_e b sc dA (100 + 2, List.replicate x.toNatClampNeg (.long 0))) H1 := by
    show H1[b + h.length]? = some (vp_cell (dA 2) ((List.replicate x.toNatClampNeg (.long 0 : Value)).length, .inr (.inl (fun j => am_lng ((List.replicate x.toNatClampNeg (.long 0 : Value)).getD j .null)))))
    rw [e1, vp_cell_l, List.length_replicate]
    congr 2
    funext j
    by_cases hj : j < x.toNatClampNeg
    · simp [hj, am_lng, defaultValue, newarray.typeOf]
    · simp [hj, am_lng, defaultValue, newarray.typeOf]
  exact kk _ _ _ ⟨hJ.1.push h2 (by rw [z1, hJ.1.1]) (fun q hq => o1 q (by rw [← hJ.1.1]; exact hq)), am_S_push hJ.2.1 (by rw [z1, hJ.1.1]; omega) (fun q hq => o1 q (by rw [← hJ.1.1]; exact hq)), hJ.2.2⟩
theorem am_x_anew {x : Int32} {t ix : Nat} {own C : String} (hx : p.tables.exec = Jvm.exec) (hb : c.code = cc) (hK : va_K D cl (am_tys dA tyl) s) (h3 : 3 ≤ t) (ht : tyl[t]? = some (.object C)) (hown : s.vm.findClass own = some m.cls) (hw1 : (Cond.classLink own ix C).before args s = true) (hw2 : (Cond.arrayOver (.object C)).before args s = true) (hd : decode cc pc = .ok (.anewarray ix, 3)) (h0 : ¬ x < 0) (h9 : x.toNatClampNeg ≤ 1000) (hk : k + 1 ≤ R.cells) (hq : q + x.toNatClampNeg ≤ R.slots)
    (hJ : am_J D cl dA b sc H0 nL (pc, lo, .int x :: r, h, k, q) H ls locs) (kk : (∀ (H' : Heap) (ls' : Array Slot) (locs' : List Loc), am_J D cl dA b sc H0 nL (pc + 3, lo, .ref h.length :: r, h ++ [(100 + t, List.replicate x.toNatClampNeg .null)], k + 1, q + x.toNatClampNeg) H' ls' locs' → W p l e R s m args below meth c H' locs' ((pc + 3, lo, .ref h.length :: r, h ++ [(100 + t, List.replicate x.toNatClampNeg .null)], k + 1, q + x.toNatClampNeg)).2.2.2.2.1 ((pc + 3, lo, .ref h.length :: r, h ++ [(100 + t, List.replicate x.toNatClampNeg .null)], k + 1, q + x.toNatClampNeg)).2.2.2.2.2 Q (F0 m ((pc + 3, lo, .ref h.length :: r, h ++ [(100 + t, List.replicate x.toNatClampNeg .null)], k + 1, q + x.toNatClampNeg)).1 ls' (((pc + 3, lo, .ref h.length :: r, h ++ [(100 + t, List.replicate x.toNatClampNeg .null)], k + 1, q + x.toNatClampNeg)).2.2.1.map (am_v b sc))))) : W p l e R s m args below meth c H locs k q Q (F0 m pc ls ((.int x :: r).map (am_v b sc))) := by
  refine W.anew hx hb hown hw1 hw2 rfl hd rfl h0 (by omega) hk hq fun cA kA comp f1 f2 f3 f4 => ?_
  obtain ⟨-, kA', comp', -, -, -, f5⟩ := (hK.2 t _ (am_tys_at ht))
  have hcA : cA = dA t := Option.some.inj (f1.symm.trans f5)
  subst hcA
  generalize hH1 : H.push ({ cls := dA t, slots := Array.replicate x.toNatClampNeg .null, vm := .none } : Cell) = H1
  have z1 : H1.size = H.size + 1 := by rw [← hH1, Array.size_push]
  have e1 : H1[H.size]? = some (arrV (dA t) x.toNatClampNeg (fun _ => .null)) := by rw [← hH1, Array.getElem?_push_size, ← arrV_new]
  have o1 : ∀ q : Nat, q < H.size → H1[q]? = H[q]? := fun q hq => by rw [← hH1, Array.getElem?_push, if_neg (Nat.ne_of_lt hq)]
  have h2 : va_at D cl (b + h.length, am_e b sc dA (100 + t, List.replicate x.toNatClampNeg .null)) H1 := by
    rw [am_e_ref (show 103 ≤ 100 + t by omega), show 100 + t - 100 = t by omega]
    show H1[b + h.length]? = some (vp_cell (dA t) ((List.replicate x.toNatClampNeg (.null : Value)).length, .inr (.inr (.inr (.inr fun j => am_opt b ((List.replicate x.toNatClampNeg (.null : Value)).getD j .null))))))
    rw [← hJ.1.1, e1, vp_cell_q, List.length_replicate]
    congr 2
    funext j
    by_cases hj : j < x.toNatClampNeg
    · simp [hj, am_opt, va_rf]
    · simp [hj, am_opt, va_rf]
  rw [hJ.1.1]
  exact kk _ _ _ ⟨hJ.1.push h2 z1 o1, am_S_push hJ.2.1 (by rw [z1]; omega) o1, hJ.2.2⟩
end AMA
