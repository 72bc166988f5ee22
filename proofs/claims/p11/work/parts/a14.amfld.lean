/-! ===== fields, new objects ===== -/
section AMF
variable {p : Program} {l : Launch} {e : Env} {R : Room} {s : State} {m : MethodId} {args : Array Value} {below : List Frame} {meth : Method} {c : Code} {Q : State → Prop}
variable {D : va_G} {cl : List vw_C} {dA : Nat → ClassId} {b : Nat} {sc : am_Sy} {H0 : Heap} {nL : Nat} {cc : ByteArray} {tyl : List FieldType} {TS : List Cond}
variable {n pc k q : Nat} {lo : List (Option Value)} {st r : List Value} {h : am_H} {H : Heap} {ls : Array Slot} {locs : List Loc} {a : Nat} {vs : List Value} {v : Value}
variable {own C host : String} {T : u_T} {N ci kf ix : Nat}

theorem am_x_get (hx : p.tables.exec = Jvm.exec) (hb : c.code = cc) (hts : ∀ w ∈ TS, w.before args s = true) (hin : ∀ w ∈ u_ws C T N, w ∈ TS) (hown : s.vm.findClass own = some m.cls) (hK : va_K D cl (am_tys dA tyl) s) (hci : ci < 100) (hc : cl[ci]? = some (C, T, N)) (hk : kf < N) (hT : (T kf).1 = C) (hlink : (Cond.fieldLink own ix C (T kf).2.1 (T kf).2.2.1).before args s = true) (hd : decode cc pc = .ok (.getfield ix, 3)) (ha : am_arr h a ci = some vs) (hv : vs[kf]? = some v)
    (hJ : am_J D cl dA b sc H0 nL (pc, lo, .ref a :: r, h, k, q) H ls locs) (kk : (∀ (H' : Heap) (ls' : Array Slot) (locs' : List Loc), am_J D cl dA b sc H0 nL (pc + 3, lo, v :: r, h, k, q) H' ls' locs' → W p l e R s m args below meth c H' locs' ((pc + 3, lo, v :: r, h, k, q)).2.2.2.2.1 ((pc + 3, lo, v :: r, h, k, q)).2.2.2.2.2 Q (F0 m ((pc + 3, lo, v :: r, h, k, q)).1 ls' (((pc + 3, lo, v :: r, h, k, q)).2.2.1.map (am_v b sc))))) : W p l e R s m args below meth c H locs k q Q (F0 m pc ls ((.ref a :: r).map (am_v b sc))) := by
  have h1 : va_at D cl (b + a, am_e b sc dA (ci, vs)) H := hJ.1.2 a _ (am_arr_spec ha)
  rw [am_e_obj hci] at h1
  exact va_get hx hb hts hin hown hK (am_P1 h1) 0 rfl hc kf hk hlink (fun x hx => by rw [hT] at hx; exact hx) (by rw [List.getElem?_map, hv]; rfl) hd (kk _ _ _ hJ)
theorem am_x_getN (hx : p.tables.exec = Jvm.exec) (hb : c.code = cc) (hts : ∀ w ∈ TS, w.before args s = true) (hin : ∀ w ∈ u_ws C T N, w ∈ TS) (hown : s.vm.findClass own = some m.cls) (hK : va_K D cl (am_tys dA tyl) s) (hci : ci < 100) (hc : cl[ci]? = some (C, T, N)) (hk : kf < N) (hT : (T kf).1 = C) (hlink : (Cond.fieldLinkNest own ix C (T kf).2.1 (T kf).2.2.1 host).before args s = true) (hd : decode cc pc = .ok (.getfield ix, 3)) (ha : am_arr h a ci = some vs) (hv : vs[kf]? = some v)
    (hJ : am_J D cl dA b sc H0 nL (pc, lo, .ref a :: r, h, k, q) H ls locs) (kk : (∀ (H' : Heap) (ls' : Array Slot) (locs' : List Loc), am_J D cl dA b sc H0 nL (pc + 3, lo, v :: r, h, k, q) H' ls' locs' → W p l e R s m args below meth c H' locs' ((pc + 3, lo, v :: r, h, k, q)).2.2.2.2.1 ((pc + 3, lo, v :: r, h, k, q)).2.2.2.2.2 Q (F0 m ((pc + 3, lo, v :: r, h, k, q)).1 ls' (((pc + 3, lo, v :: r, h, k, q)).2.2.1.map (am_v b sc))))) : W p l e R s m args below meth c H locs k q Q (F0 m pc ls ((.ref a :: r).map (am_v b sc))) := by
  have h1 : va_at D cl (b + a, am_e b sc dA (ci, vs)) H := hJ.1.2 a _ (am_arr_spec ha)
  rw [am_e_obj hci] at h1
  exact va_getN hx hb hts hin hown hK (am_P1 h1) 0 rfl hc kf hk hlink (fun x hx => by rw [hT] at hx; exact hx) (by rw [List.getElem?_map, hv]; rfl) hd (kk _ _ _ hJ)
theorem am_x_put {ty : FieldType} (hx : p.tables.exec = Jvm.exec) (hb : c.code = cc) (hts : ∀ w ∈ TS, w.before args s = true) (hin : ∀ w ∈ u_ws C T N, w ∈ TS) (hown : s.vm.findClass own = some m.cls) (hK : va_K D cl (am_tys dA tyl) s) (hci : ci < 100) (hc : cl[ci]? = some (C, T, N)) (hpar : ∀ j, j < N → ∃ t, parseFieldDescriptor (T j).2.2.1 = some t) (hnm : ∀ a, a < N → ∀ b, b < N → a ≠ b → (T a).2.1 ≠ (T b).2.1) (hk : kf < N) (hT : (T kf).1 = C) (hfin : (T kf).2.2.2 = false) (hlink : (Cond.fieldLink own ix C (T kf).2.1 (T kf).2.2.1).before args s = true) (hp : parseFieldDescriptor (T kf).2.2.1 = some ty) (hfit : am_fit ty v = true) (hl : kf < vs.length) (hd : decode cc pc = .ok (.putfield ix, 3)) (ha : am_arr h a ci = some vs)
    (hJ : am_J D cl dA b sc H0 nL (pc, lo, v :: .ref a :: r, h, k, q) H ls locs) (kk : (∀ (H' : Heap) (ls' : Array Slot) (locs' : List Loc), am_J D cl dA b sc H0 nL (pc + 3, lo, r, h.set a (ci, vs.set kf v), k, q) H' ls' locs' → W p l e R s m args below meth c H' locs' ((pc + 3, lo, r, h.set a (ci, vs.set kf v), k, q)).2.2.2.2.1 ((pc + 3, lo, r, h.set a (ci, vs.set kf v), k, q)).2.2.2.2.2 Q (F0 m ((pc + 3, lo, r, h.set a (ci, vs.set kf v), k, q)).1 ls' (((pc + 3, lo, r, h.set a (ci, vs.set kf v), k, q)).2.2.1.map (am_v b sc))))) : W p l e R s m args below meth c H locs k q Q (F0 m pc ls ((v :: .ref a :: r).map (am_v b sc))) := by
  have h1 : va_at D cl (b + a, am_e b sc dA (ci, vs)) H := hJ.1.2 a _ (am_arr_spec ha)
  rw [am_e_obj hci] at h1
  have hty' : ∀ j, j < N → parseFieldDescriptor (T j).2.2.1 = some ((parseFieldDescriptor (T j).2.2.1).getD .int) := fun j hj => by
    obtain ⟨t, ht⟩ := hpar j hj
    rw [ht]
    rfl
  have hap := va_apart (own := own) hts hin _ hty' hnm hK hc
  obtain ⟨r', hr', cell, q1, q2, q3, q4⟩ := h1
  have hr2 : r' = (C, T, N) := Option.some.inj (hr'.symm.trans hc)
  subst hr2
  obtain ⟨hS, hfc, kC, hkC, hkind⟩ := hK.1 ci _ hc
  obtain ⟨cf, kf', fi, f, hi, hsl⟩ := hS kf hk
  have hsame : s.fieldFound? C (T kf).2.1 (T kf).2.2.1 = some (cf, kf', fi, f) := by
    have hi2 := hi
    rw [hT] at hi2
    exact hi2
  have hlay := hts _ (hin _ (u_in_lay hk))
  unfold u_lay at hlay
  rw [if_neg (by rw [hfin]; decide)] at hlay
  have hst := (u_facts hfc hkC (u_lays hts hin hk) hi).1
  have h6 := u_store hfc hkC hkind hlay hi hp (am_fit_spec (b := b) (sc := sc) hfit).1 (am_fit_spec (b := b) (sc := sc) hfit).2
  refine W.putK hx hb (f := f) ⟨hown, hlink, ⟨_, _, _, hsame⟩, hst⟩ (by rw [q2]; exact h6) q1 q3 (by rw [hsl]; exact k2_hasslot (q4 kf hk)) rfl rfl hd fun H1 e1 e2 e3 => ?_
  rw [hsl] at e1 ⊢
  have h9 : va_at D cl (b + a, am_e b sc dA (ci, vs.set kf v)) H1 := by
    rw [am_e_obj hci, List.map_set]
    exact ⟨_, hc, t_OB.to (V := updV (vp_V (vs.map (am_v b sc))) kf (am_v b sc v)) ⟨_, e1, q2, q3, t_set q4 hap hk _⟩ (fun j _ => vp_updV_set (by rw [List.length_map]; exact hl) _ j)⟩
  exact kk _ _ _ ⟨hJ.1.put (am_lt (am_arr_spec ha)) h9 e2 e3, hJ.2.1.put e2 e3 (Nat.le_add_right b a), hJ.2.2⟩
theorem am_x_putN {ty : FieldType} (hx : p.tables.exec = Jvm.exec) (hb : c.code = cc) (hts : ∀ w ∈ TS, w.before args s = true) (hin : ∀ w ∈ u_ws C T N, w ∈ TS) (hown : s.vm.findClass own = some m.cls) (hK : va_K D cl (am_tys dA tyl) s) (hci : ci < 100) (hc : cl[ci]? = some (C, T, N)) (hpar : ∀ j, j < N → ∃ t, parseFieldDescriptor (T j).2.2.1 = some t) (hnm : ∀ a, a < N → ∀ b, b < N → a ≠ b → (T a).2.1 ≠ (T b).2.1) (hk : kf < N) (hT : (T kf).1 = C) (hfin : (T kf).2.2.2 = false) (hlink : (Cond.fieldLinkNest own ix C (T kf).2.1 (T kf).2.2.1 host).before args s = true) (hp : parseFieldDescriptor (T kf).2.2.1 = some ty) (hfit : am_fit ty v = true) (hl : kf < vs.length) (hd : decode cc pc = .ok (.putfield ix, 3)) (ha : am_arr h a ci = some vs)
    (hJ : am_J D cl dA b sc H0 nL (pc, lo, v :: .ref a :: r, h, k, q) H ls locs) (kk : (∀ (H' : Heap) (ls' : Array Slot) (locs' : List Loc), am_J D cl dA b sc H0 nL (pc + 3, lo, r, h.set a (ci, vs.set kf v), k, q) H' ls' locs' → W p l e R s m args below meth c H' locs' ((pc + 3, lo, r, h.set a (ci, vs.set kf v), k, q)).2.2.2.2.1 ((pc + 3, lo, r, h.set a (ci, vs.set kf v), k, q)).2.2.2.2.2 Q (F0 m ((pc + 3, lo, r, h.set a (ci, vs.set kf v), k, q)).1 ls' (((pc + 3, lo, r, h.set a (ci, vs.set kf v), k, q)).2.2.1.map (am_v b sc))))) : W p l e R s m args below meth c H locs k q Q (F0 m pc ls ((v :: .ref a :: r).map (am_v b sc))) := by
  have h1 : va_at D cl (b + a, am_e b sc dA (ci, vs)) H := hJ.1.2 a _ (am_arr_spec ha)
  rw [am_e_obj hci] at h1
  have hty' : ∀ j, j < N → parseFieldDescriptor (T j).2.2.1 = some ((parseFieldDescriptor (T j).2.2.1).getD .int) := fun j hj => by
    obtain ⟨t, ht⟩ := hpar j hj
    rw [ht]
    rfl
  have hap := va_apart (own := own) hts hin _ hty' hnm hK hc
  obtain ⟨r', hr', cell, q1, q2, q3, q4⟩ := h1
  have hr2 : r' = (C, T, N) := Option.some.inj (hr'.symm.trans hc)
  subst hr2
  obtain ⟨hS, hfc, kC, hkC, hkind⟩ := hK.1 ci _ hc
  obtain ⟨cf, kf', fi, f, hi, hsl⟩ := hS kf hk
  have hsame : s.fieldFound? C (T kf).2.1 (T kf).2.2.1 = some (cf, kf', fi, f) := by
    have hi2 := hi
    rw [hT] at hi2
    exact hi2
  have hlay := hts _ (hin _ (u_in_lay hk))
  unfold u_lay at hlay
  rw [if_neg (by rw [hfin]; decide)] at hlay
  have hst := (u_facts hfc hkC (u_lays hts hin hk) hi).1
  have h6 := u_store hfc hkC hkind hlay hi hp (am_fit_spec (b := b) (sc := sc) hfit).1 (am_fit_spec (b := b) (sc := sc) hfit).2
  refine va_WputK hx hb (f := f) hown hlink hsame hst (by rw [q2]; exact h6) q1 q3 (by rw [hsl]; exact k2_hasslot (q4 kf hk)) rfl rfl hd fun H1 e1 e2 e3 => ?_
  rw [hsl] at e1 ⊢
  have h9 : va_at D cl (b + a, am_e b sc dA (ci, vs.set kf v)) H1 := by
    rw [am_e_obj hci, List.map_set]
    exact ⟨_, hc, t_OB.to (V := updV (vp_V (vs.map (am_v b sc))) kf (am_v b sc v)) ⟨_, e1, q2, q3, t_set q4 hap hk _⟩ (fun j _ => vp_updV_set (by rw [List.length_map]; exact hl) _ j)⟩
  exact kk _ _ _ ⟨hJ.1.put (am_lt (am_arr_spec ha)) h9 e2 e3, hJ.2.1.put e2 e3 (Nat.le_add_right b a), hJ.2.2⟩
theorem am_x_putF {ty : FieldType} (hx : p.tables.exec = Jvm.exec) (hb : c.code = cc) (hts : ∀ w ∈ TS, w.before args s = true) (hin : ∀ w ∈ u_ws C T N, w ∈ TS) (hown : s.vm.findClass own = some m.cls) (hK : va_K D cl (am_tys dA tyl) s) (hci : ci < 100) (hc : cl[ci]? = some (C, T, N)) (hpar : ∀ j, j < N → ∃ t, parseFieldDescriptor (T j).2.2.1 = some t) (hnm : ∀ a, a < N → ∀ b, b < N → a ≠ b → (T a).2.1 ≠ (T b).2.1) (hk : kf < N) (hT : (T kf).1 = C) (hfin : (T kf).2.2.2 = true) (hname : meth.name = "<init>") (hCo : C = own) (hlink : (Cond.fieldLink own ix C (T kf).2.1 (T kf).2.2.1).before args s = true) (hp : parseFieldDescriptor (T kf).2.2.1 = some ty) (hfit : am_fit ty v = true) (hl : kf < vs.length) (hd : decode cc pc = .ok (.putfield ix, 3)) (ha : am_arr h a ci = some vs)
    (hJ : am_J D cl dA b sc H0 nL (pc, lo, v :: .ref a :: r, h, k, q) H ls locs) (kk : (∀ (H' : Heap) (ls' : Array Slot) (locs' : List Loc), am_J D cl dA b sc H0 nL (pc + 3, lo, r, h.set a (ci, vs.set kf v), k, q) H' ls' locs' → W p l e R s m args below meth c H' locs' ((pc + 3, lo, r, h.set a (ci, vs.set kf v), k, q)).2.2.2.2.1 ((pc + 3, lo, r, h.set a (ci, vs.set kf v), k, q)).2.2.2.2.2 Q (F0 m ((pc + 3, lo, r, h.set a (ci, vs.set kf v), k, q)).1 ls' (((pc + 3, lo, r, h.set a (ci, vs.set kf v), k, q)).2.2.1.map (am_v b sc))))) : W p l e R s m args below meth c H locs k q Q (F0 m pc ls ((v :: .ref a :: r).map (am_v b sc))) := by
  have h1 : va_at D cl (b + a, am_e b sc dA (ci, vs)) H := hJ.1.2 a _ (am_arr_spec ha)
  rw [am_e_obj hci] at h1
  have hty' : ∀ j, j < N → parseFieldDescriptor (T j).2.2.1 = some ((parseFieldDescriptor (T j).2.2.1).getD .int) := fun j hj => by
    obtain ⟨t, ht⟩ := hpar j hj
    rw [ht]
    rfl
  have hap := va_apart (own := own) hts hin _ hty' hnm hK hc
  obtain ⟨r', hr', cell, q1, q2, q3, q4⟩ := h1
  have hr2 : r' = (C, T, N) := Option.some.inj (hr'.symm.trans hc)
  subst hr2
  obtain ⟨hS, hfc, kC, hkC, hkind⟩ := hK.1 ci _ hc
  obtain ⟨cf, kf', fi, f, hi, hsl⟩ := hS kf hk
  have hsame : s.fieldFound? C (T kf).2.1 (T kf).2.2.1 = some (cf, kf', fi, f) := by
    have hi2 := hi
    rw [hT] at hi2
    exact hi2
  have hlay := hts _ (hin _ (u_in_lay hk))
  unfold u_lay at hlay
  rw [if_pos hfin] at hlay
  have hst := (u_facts hfc hkC (u_lays hts hin hk) hi).1
  have hcf : m.cls = cf := by
    obtain ⟨_, _, c', _, _, _, -, -, hf', -, -, -, hown2, -⟩ := Cond.laysFinal_spec hlay
    have e1 : c' = cf := by have := hi.symm.trans hf'; simp at this; exact this.1.symm
    rw [hT, hCo] at hown2
    rw [← e1]; exact Option.some.inj (hown.symm.trans hown2)
  have h6 := u_fits hfc hkC hkind (Or.inr hlay) hi hp (am_fit_spec (b := b) (sc := sc) hfit).1 (am_fit_spec (b := b) (sc := sc) hfit).2
  refine W.putFinK hx hb hown hlink hsame hst hcf hname (by rw [q2]; exact h6) q1 q3 (by rw [hsl]; exact k2_hasslot (q4 kf hk)) rfl rfl hd fun H1 e1 e2 e3 => ?_
  rw [hsl] at e1 ⊢
  have h9 : va_at D cl (b + a, am_e b sc dA (ci, vs.set kf v)) H1 := by
    rw [am_e_obj hci, List.map_set]
    exact ⟨_, hc, t_OB.to (V := updV (vp_V (vs.map (am_v b sc))) kf (am_v b sc v)) ⟨_, e1, q2, q3, t_set q4 hap hk _⟩ (fun j _ => vp_updV_set (by rw [List.length_map]; exact hl) _ j)⟩
  exact kk _ _ _ ⟨hJ.1.put (am_lt (am_arr_spec ha)) h9 e2 e3, hJ.2.1.put e2 e3 (Nat.le_add_right b a), hJ.2.2⟩
theorem am_x_new (hx : p.tables.exec = Jvm.exec) (hb : c.code = cc) (hts : ∀ w ∈ TS, w.before args s = true) (hin : ∀ w ∈ u_ws C T N, w ∈ TS) (hown : s.vm.findClass own = some m.cls) (hK : va_K D cl (am_tys dA tyl) s) (hci : ci < 100) (hc : cl[ci]? = some (C, T, N)) (hvl : vs.length = N) (hdf : ∀ j, j < N → ∃ t, parseFieldDescriptor (T j).2.2.1 = some t ∧ vs[j]? = some (defaultValue t)) (h1 : (Cond.classLink own ix C).before args s = true) (h2 : (Cond.instantiable C N).before args s = true) (h3 : (Cond.initialized C).before args s = true) (hd : decode cc pc = .ok (.new ix, 3)) (hk : k + 1 ≤ R.cells) (hq : q + vs.length ≤ R.slots)
    (hJ : am_J D cl dA b sc H0 nL (pc, lo, st, h, k, q) H ls locs) (kk : (∀ (H' : Heap) (ls' : Array Slot) (locs' : List Loc), am_J D cl dA b sc H0 nL (pc + 3, lo, .ref h.length :: st, h ++ [(ci, vs)], k + 1, q + vs.length) H' ls' locs' → W p l e R s m args below meth c H' locs' ((pc + 3, lo, .ref h.length :: st, h ++ [(ci, vs)], k + 1, q + vs.length)).2.2.2.2.1 ((pc + 3, lo, .ref h.length :: st, h ++ [(ci, vs)], k + 1, q + vs.length)).2.2.2.2.2 Q (F0 m ((pc + 3, lo, .ref h.length :: st, h ++ [(ci, vs)], k + 1, q + vs.length)).1 ls' (((pc + 3, lo, .ref h.length :: st, h ++ [(ci, vs)], k + 1, q + vs.length)).2.2.1.map (am_v b sc))))) : W p l e R s m args below meth c H locs k q Q (F0 m pc ls ((st).map (am_v b sc))) := by
  subst hvl
  have hKn := hK.1 ci _ hc
  have hty' : ∀ j, j < vs.length → parseFieldDescriptor (T j).2.2.1 = some ((parseFieldDescriptor (T j).2.2.1).getD .int) := fun j hj => by
    obtain ⟨t, ht, -⟩ := hdf j hj
    rw [ht]
    rfl
  refine W.newcK hx hb hown h1 h2 h3 rfl hd hk hq hKn.2.1 hJ.1.1 fun H1 kC hkC e1 z1 o1 => ?_
  have h9 : va_at D cl (b + h.length, am_e b sc dA (ci, vs)) H1 := by
    rw [am_e_obj hci]
    refine ⟨_, hc, (u_born _ hts hin hKn hkC e1 hty').to (fun j hj => ?_)⟩
    obtain ⟨t, ht, hv⟩ := hdf j hj
    rw [ht]
    simp only [vp_V, List.getD_eq_getElem?_getD, List.getElem?_map, hv]
    cases t <;> rfl
  exact kk _ _ _ ⟨hJ.1.push h9 (by rw [z1, hJ.1.1]) (fun q hq => o1 q (by rw [← hJ.1.1]; exact hq)), am_S_push hJ.2.1 (by rw [z1, hJ.1.1]; omega) (fun q hq => o1 q (by rw [← hJ.1.1]; exact hq)), hJ.2.2⟩
end AMF
