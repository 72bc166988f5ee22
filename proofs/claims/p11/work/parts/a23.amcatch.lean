/-! ===== a call that throws, caught by the caller; a static call of a method with handlers ===== -/
section AMV
variable {p : Program} {l : Launch} {e : Env} {R : Room} {s : State} {m : MethodId} {args : Array Value} {below : List Frame} {meth : Method} {c : Code} {Q : State → Prop}
variable {D : va_G} {cl : List vw_C} {dA : Nat → ClassId} {b : Nat} {sc : am_Sy} {nL : Nat} {cc : ByteArray} {tyl : List FieldType} {TS : List Cond} {Zx : State → Prop}
variable {mi mj : am_M} {as : List Value} {h h' : am_H} {v : Option Value} {k q k' q' pc ix na a : Nat} {own host : String} {H : Heap} {ls : Array Slot} {locs : List Loc} {lo : List (Option Value)} {st : List Value}
set_option maxHeartbeats 1000000 in
theorem am_x_cat {C E : String} {T0 TE : u_T} {N NE ci ce x t : Nat} {fs fx : List Value} {cx : Nat → Option Nat} (hx : p.tables.exec = Jvm.exec) (hb : c.code = cc) (hml : c.maxLocals = nL) (hown : s.vm.findClass own = some m.cls) (hts : ∀ w ∈ am_wl TS mi, w.before args s = true) (hg : am_good TS) (hK : va_K D cl (am_tys dA tyl) s) (hZ : am_Zok b Zx) (hz : Zx s) (hM : am_okM TS mj) (hp : am_par mj na) (hR : am_f mj + 1 ≤ R.frames ∧ 8 + (am_L mj + 11) + am_w mj ≤ R.locals) (hn : as.length = na) (hcat : am_cat st ≤ 8) (hf : k + k' ≤ R.cells ∧ q + q' ≤ R.slots)
    (hl : Cond.methodLink own ix (am_y mj) ∈ TS) (hi : Cond.instanceMethod (am_y mj) ∈ TS) (hse : Cond.selects C (am_y mj) (am_y mj) ∈ TS) (hci : ci < 100) (hc : cl[ci]? = some (C, T0, N)) (ha : h[a]? = some (ci, fs)) (hC : am_Con l TS D cl dA tyl b sc Zx mj (.ref a :: as) h (.inr x, h', k', q')) (hd : decode cc pc = .ok (.invokevirtual ix, 3)) (hJ : am_J D cl dA b sc s.heap nL (pc, lo, st, h, k, q) H ls locs)
    (hmc : meth.code = some c) (hxc : h'[x]? = some (ce, fx)) (hce : ce < 100) (hE : cl[ce]? = some (E, TE, NE)) (hct : am_catch cx (am_h mi) pc ce = some t) (hents : c.exceptionTable.toList.map am_ent = am_h mi) (hX : am_okX cx own s args ce (D.1 ce))
    (kk : ∀ (H' : Heap) (ls' : Array Slot) (locs' : List Loc), am_J D cl dA b sc s.heap nL (t, lo, [.ref x], h', k + k', q + q') H' ls' locs' → W p l e R s m args below meth c H' locs' (k + k') (q + q') Q (F0 m t ls' ([.ref x].map (am_v b sc)))) : W p l e R s m args below meth c H locs k q Q (F0 m pc ls ((as.map (am_v b sc)).reverse ++ .ref (b + a) :: st.map (am_v b sc))) := by
  intro T hT X
  have h1 : va_at D cl (b + a, am_e b sc dA (ci, fs)) H := hJ.1.2 a _ ha
  rw [am_e_obj hci] at h1
  obtain ⟨cellB, hcB, hoB, hclB⟩ := va_recv (q0 := 0) hK (am_P1 h1) hc rfl
  have wm := fun w hw => hts w (List.mem_cons_of_mem _ hw)
  have hy : (am_y mj).cls ≠ "java/lang/invoke/MethodHandle" ∧ (am_y mj).cls ≠ "java/lang/invoke/VarHandle" := hM.2.2.2
  obtain ⟨mk, methM, hnamed, hmethM, hstM, habM⟩ := Cond.instanceMethod_spec (wm _ hi)
  obtain ⟨methM', cM, hmethM', hcM, -, hlM, -, -, -, hsigM⟩ := Cond.code_spec hnamed (wm _ hM.2.1)
  cases hmethM.symm.trans hmethM'
  obtain ⟨c2, r2, m2, q1, q2, q3, q4, kP, hkP, hkPi⟩ := Cond.selects_spec (wm _ hse)
  cases hclB.symm.trans q1
  cases (State.methodFound?_of_named hnamed hy).symm.trans q2
  cases hnamed.symm.trans q3
  have hselP : selectMethod e.platform s.vm cellB.cls mk = .method mk := by rw [Launch.admits_selectMethod X.admits]; exact q4
  have hpar : (as.map (am_v b sc)).length = methM.sig.parameters.length := by
    unfold am_par at hp
    rw [hsigM] at hp
    rw [List.length_map, hn]
    exact (Option.some.inj hp).symm
  obtain ⟨vm₁, X₁, hstep₁⟩ := X.invokevirtual hx hown (wm _ hl) hnamed hmethM hstM hkP hkPi hy (a := b + a) (cell := cellB) (by rw [hT]; exact hcB)
    (fun z hz => by rw [hz] at hoB; cases hoB) hselP hmethM habM hkP hkPi (g := F0 m pc ls ((as.map (am_v b sc)).reverse ++ .ref (b + a) :: st.map (am_v b sc))) rfl (argsL := as.map (am_v b sc)) (rest := st.map (am_v b sc)) hpar rfl (by rw [hb]; exact hd)
  have hdg : decode c.code (F0 m pc ls (st.map (am_v b sc))).pc = .ok (.invokevirtual ix, 3) := by rw [hb]; exact hd
  have hnm := X₁.named hnamed
  have hsz : ls.size = c.maxLocals := by rw [hml]; exact hJ.2.2.2.2.1
  have hmY : (T.setVm vm₁).vm.method? mk = some methM := by rw [X₁.warmed.alike.method?]; exact hmethM
  obtain ⟨kY, hkY, -⟩ := className_of_methodNamed hnm
  have hGood := am_wl_in (mi := mi) hg hM.1 hM.2.1
  have pay := pay_in hts hGood
  have hinitY : kY.init = .initialized := Cond.initialized_spec (args := args) (findClass_of_methodNamed hnm) hkY (word_at X₁.warmed (hg _ hM.2.2.1) (wm _ hM.2.2.1))
  have happ : (headSpec (am_wl TS mj) (am_rm mj (.inr x, h', k', q'))).appliesLoose (am_y mj) e.platform ((T.setVm vm₁).calling (F0 m pc ls (st.map (am_v b sc))) mk (Value.ref (b + a) :: as.map (am_v b sc)).toArray) = true :=
    Spec.appliesLoose_calling (g := F0 m pc ls (st.map (am_v b sc))) X₁.here hdg hnm hkY hinitY
      (X₁.room_calling (g := F0 m pc ls (st.map (am_v b sc))) (R' := am_rm mj (.inr x, h', k', q')) hsz hmY hcM hR.1 (by rw [hlM]; show 2 * 0 + _ + (am_L mj + 11) + am_w mj ≤ _; rw [am_v_cats]; have := hR.2; omega) hf.1 hf.2) (atoms_intro fun w hw => pay w hw _ _ X₁.warmed)
  obtain ⟨mid, hmid⟩ := X₁.here.above
  have hfr : ((T.setVm vm₁).setTop (F0 m pc ls (st.map (am_v b sc)))).frames = (.java (F0 m pc ls (st.map (am_v b sc))) :: mid) ++ below := by rw [State.frames_setTop' _ X₁.here.top, hmid]; rfl
  have hPc : am_Pc D cl dA tyl b sc Zx (.ref a :: as) h (Value.ref (b + a) :: as.map (am_v b sc)).toArray (T.setVm vm₁) := am_Pc_at (as := .ref a :: as) hZ hJ.1 hJ.2.1 hK hz (T.setVm vm₁) hT X₁.warmed
  obtain ⟨o, s₂, hsteps, -, hend, hq⟩ := Steps.callFree hC p X.admits X.cas X.clock (acts := []) hfr happ (am_Pc_blind hZ _ _ _ _ (F0 m pc ls (st.map (am_v b sc))) mk hPc) trivial
  have hq : am_Qs D cl dA b sc (.inr x, h', k', q') ((T.setVm vm₁).calling (F0 m pc ls (st.map (am_v b sc))) mk (Value.ref (b + a) :: as.map (am_v b sc)).toArray) o s₂ := hq
  rw [State.frames_setTop' _ X₁.here.top, X₁.tail] at hend
  obtain ⟨ho, ⟨hP', hF'⟩, hW₂, L, hsame, hL⟩ := hq
  have ho : o = .threw (b + x) := ho
  subst ho
  obtain ⟨T', X', hW', hsame', ht⟩ := X₁.outOfThrown (g := F0 m pc ls (st.map (am_v b sc))) rfl hend hW₂ hsame
  have hTh : T'.heap = s₂.heap := by rw [ht, Stand.throwing_heap]
  have hF1 : H.size ≤ s₂.heap.size ∧ ∀ z : Nat, z < H.size → ¬ b ≤ z → s₂.heap[z]? = H[z]? := by
    have e0 : ((T.setVm vm₁).calling (F0 m pc ls (st.map (am_v b sc))) mk (Value.ref (b + a) :: as.map (am_v b sc)).toArray).heap = H := hT
    have g1 := hF'.1
    have g2 := hF'.2
    rw [e0] at g1 g2
    exact ⟨g1, g2⟩
  have hJ' : am_J D cl dA b sc s.heap nL (t, lo, [.ref x], h', k + k', q + q') T'.heap ls (locs ++ L) := by
    refine ⟨by rw [hTh]; exact hP', ⟨Nat.le_trans hJ.2.1.1 (by rw [hTh]; exact hF1.1), fun z z1 z2 => by rw [hTh, hF1.2 z (Nat.lt_of_lt_of_le z1 hJ.2.1.1) z2]; exact hJ.2.1.2.1 z z1 z2, fun z hz => ?_⟩, hJ.2.2⟩
    rcases List.mem_append.mp hz with hz | hz
    · exact hJ.2.1.2.2 z hz
    · exact hL z hz
  have h2 : va_at D cl (b + x, am_e b sc dA (ce, fx)) s₂.heap := hP'.2 x _ hxc
  rw [am_e_obj hce] at h2
  obtain ⟨r', hr', cell, e1, e2, e3, -⟩ := h2
  obtain ⟨kE, hkE, -⟩ := (hK.1 ce _ hE).2.2
  have hpl : e.platform.magicAccessors = ({} : Platform).magicAccessors := by rw [X.admits.platform]
  obtain ⟨vm', hw', hfind⟩ := am_find (e := e) (s := s) (T := (T'.setTop (F0 m pc ls (st.map (am_v b sc)))).pushFrame (.throwing (b + x))) (g := F0 m pc ls (st.map (am_v b sc))) (a := b + x) (cell := cell) (cx := cx) (own := own) (args := args) (ci := ce) hpl hown (by rw [Stand.throwing_heap, hTh]; exact e1) e3 ⟨kE, by rw [e2]; exact hkE⟩ (by rw [e2]; exact hX)
    c.exceptionTable.toList T'.vm t X'.warmed (by rw [hents]; exact hct)
  have hself : ((T'.setTop (F0 m pc ls (st.map (am_v b sc)))).pushFrame (.throwing (b + x))).setVm T'.vm = (T'.setTop (F0 m pc ls (st.map (am_v b sc)))).pushFrame (.throwing (b + x)) := by
    have g1 := State.setVm_self ((T'.setTop (F0 m pc ls (st.map (am_v b sc)))).pushFrame (.throwing (b + x)))
    rw [Stand.throwing_vm] at g1
    exact g1
  rw [hself] at hfind
  obtain ⟨t2, a1, b1⟩ := kk T'.heap ls (locs ++ L) hJ' (T'.setVm vm') rfl (X'.noted hw')
  refine ⟨t2, hstep₁ _ (fun acts => ?_), b1⟩
  rw [doInvoke_state]
  refine hsteps.trans ?_
  rw [ht]
  exact am_caught (m := m) (s := s) X'.here X'.method' hmc hfind a1
end AMV
