/-! ===== a thrown object is caught by a handler whose class may not be resolved yet ===== -/
theorem am_go_cold {e : Env} {s : State} {f : JFrame} {a : Addr} {x : ExceptionTableEntry} {t : List ExceptionTableEntry} {c : ClassId} {vm' : Vm} {cell : Cell} {Q : Handler → Pre} {E : CtlPost} {d : Bool} {acts : List Action} (hx : covers x f.pc = true) (h0 : x.catchType ≠ 0)
    (hg : (Jvm.resolveClass f.method.cls x.catchType).Gives e.toSetting s.vm (.ok c) vm') (hsz : vm'.classes.size ≤ s.vm.classes.size) (hcell : s.heap[a]? = some cell) (hobj : ∀ k, cell.vm ≠ .statics k) (hk : ∃ k, vm'.classes[cell.cls]? = some k) (hc : ∃ k, vm'.classes[c]? = some k) :
    wp (findHandler.go f a (x :: t)) Q E e d acts s ↔ if vm'.assignable cell.cls c = true then Q (.found x.handlerPc) d acts (s.setVm vm') else wp (findHandler.go f a t) Q E e d acts (s.setVm vm') := by
  simp only [covers] at hx
  obtain ⟨ha, ht⟩ := hg.op (op := VmOp.resolveClass f.method.cls x.catchType) rfl
  cases hfit : vm'.assignable cell.cls c <;>
    simp [findHandler.go, hx, h0, ha, ht, hsz, hcell, hobj, hk, hc, hfit, VmOp.dirties, VmOp.acts]
def am_ent (x : ExceptionTableEntry) : Nat × Nat × Nat × Nat := (x.startPc, x.endPc, x.handlerPc, x.catchType)
/-- what the tables must say of the classes that handlers name, where an object of class number cc0 is thrown -/
def am_okX (cx : Nat → Option Nat) (own : String) (s : State) (args : Array Value) (ci : Nat) (cc0 : ClassId) : Prop := ∀ ty cj, cx ty = some cj → ty ≠ 0 ∧ ∃ (nm : String) (c1 : ClassId), (Cond.classLink own ty nm).before args s = true ∧ s.vm.findClass nm = some c1 ∧ (∃ k, s.vm.classes[c1]? = some k) ∧ (cj = ci → s.vm.assignable cc0 c1 = true) ∧ (¬ cj = ci → s.vm.assignable cc0 c1 = false)
theorem am_find {e : Env} {s T : State} {g : JFrame} {a : Addr} {cell : Cell} {cx : Nat → Option Nat} {own : String} {args : Array Value} {ci : Nat} (hpl : e.platform.magicAccessors = ({} : Platform).magicAccessors) (hown : s.vm.findClass own = some g.method.cls) (hcell : T.heap[a]? = some cell) (hobj : cell.vm = .none) (hk0 : ∃ k, s.vm.classes[cell.cls]? = some k) (hX : am_okX cx own s args ci cell.cls) :
    ∀ (ents : List ExceptionTableEntry) (v0 : Vm) (t : Nat), s.WarmedH v0 → am_catch cx (ents.map am_ent) g.pc ci = some t → ∃ vm', s.WarmedH vm' ∧ ∀ (Q : Handler → Pre) (E : CtlPost) (d : Bool) (acts : List Action), wp (findHandler.go g a ents) Q E e d acts (T.setVm v0) ↔ Q (.found t) d acts (T.setVm vm')
  | [], _, _, _, h => by cases h
  | x :: r, v0, t, hW, h => by
    simp only [List.map_cons, am_ent, am_catch] at h
    split at h
    · rename_i hcov
      have hcv : covers x g.pc = true := by simp [covers, hcov.1, hcov.2]
      split at h
      · rename_i cj hcj
        obtain ⟨h0, nm, c1, hl, hf, hk1, hy, hn⟩ := hX _ _ hcj
        obtain ⟨c2, hf2, hcl⟩ := Cond.classLink_spec hown hl e.platform hpl
        cases hf.symm.trans hf2
        obtain ⟨hg1, hw1, -⟩ := State.classEntry (e := e) hW hcl
        generalize v0.noted g.method.cls x.catchType (.cls c1) = vm1 at hg1 hw1
        have hal := hw1.alike
        have hsz : vm1.classes.size ≤ (T.setVm v0).vm.classes.size := by
          have e1 := hw1.alike.2.1
          have e2 := hW.alike.2.1
          show vm1.classes.size ≤ v0.classes.size
          omega
        obtain ⟨k0, hk0⟩ := hk0
        obtain ⟨k1, hk1⟩ := hk1
        obtain ⟨k0', hk0', -⟩ := hal.2.2 _ _ hk0
        obtain ⟨k1', hk1', -⟩ := hal.2.2 _ _ hk1
        have key := fun (Q : Handler → Pre) (E : CtlPost) (d : Bool) (acts : List Action) => am_go_cold (e := e) (s := T.setVm v0) (f := g) (a := a) (x := x) (t := r) (c := c1) (vm' := vm1) (cell := cell) (Q := Q) (E := E) (d := d) (acts := acts) hcv h0 hg1 hsz hcell (fun k hk => by rw [hobj] at hk; cases hk) ⟨k0', hk0'⟩ ⟨k1', hk1'⟩
        split at h
        · rename_i he
          cases h
          refine ⟨vm1, hw1, fun Q E d acts => ?_⟩
          rw [key Q E d acts, if_pos (by rw [hal.assignable]; exact hy he)]
          rfl
        · rename_i he
          obtain ⟨vm', hw', hgo⟩ := am_find hpl hown hcell hobj ⟨k0, hk0⟩ hX r vm1 t hw1 h
          refine ⟨vm', hw', fun Q E d acts => ?_⟩
          rw [key Q E d acts, if_neg (by rw [hal.assignable, hn he]; decide)]
          exact hgo Q E d acts
      · cases h
    · rename_i hcov
      obtain ⟨vm', hw', hgo⟩ := am_find hpl hown hcell hobj hk0 hX r v0 t hW h
      refine ⟨vm', hw', fun Q E d acts => ?_⟩
      rw [W.findHandler_go_skip (by simp only [covers]; simpa using hcov)]
      exact hgo Q E d acts
/-- a thrown object, and the handler that takes it, as steps -/
theorem am_caught {tb : Tables} {e : Env} {s T target : State} {g : JFrame} {m : MethodId} {c : Code} {meth : Method} {below : List Frame} {a : Addr} {t : Nat} {vm' : Vm} (h : At T g.method c below) (hm : T.vm.method? g.method = some meth) (hc : meth.code = some c)
    (hfind : ∀ (Q : Handler → Pre) (E : CtlPost) (d : Bool) (acts : List Action), wp (findHandler.go g a c.exceptionTable.toList) Q E e d acts ((T.setTop g).pushFrame (.throwing a)) ↔ Q (.found t) d acts (((T.setTop g).pushFrame (.throwing a)).setVm vm'))
    (hrest : Steps tb e below ((T.setVm vm').setTop { g with pc := t, stack := [.ref a] }) target) : Steps tb e below ((T.setTop g).pushFrame (.throwing a)) target := by
  obtain ⟨hgo, hw⟩ := h.throwing a
  refine Steps.head hgo hw ?_
  rw [stepThread_throwing (frames_entered h.top _)]
  have hstep : (stepThrowing e ((T.setTop g).pushFrame (.throwing a)) a (.java g :: T.frames.tail)).Is ((((T.setTop g).pushFrame (.throwing a)).setVm vm').setFrames (.java { g with pc := t, stack := [.ref a] } :: T.frames.tail)) [] := by
    simp only [stepThrowing, searchFrame, vmDo]
    generalize hr : Sem.go _ e false [] ((T.setTop g).pushFrame (.throwing a)) = res
    have hmm : ((T.setTop g).pushFrame (.throwing a)).vm.method? g.method = some meth := by
      rw [Stand.throwing_vm]
      exact hm
    have hF : ∀ (Q : Handler → Pre) (E : CtlPost) (d : Bool) (acts : List Action), wp (findHandler g a) Q E e d acts ((T.setTop g).pushFrame (.throwing a)) ↔ Q (.found t) d acts (((T.setTop g).pushFrame (.throwing a)).setVm vm') := fun Q E d acts => by
      rw [W.findHandler_eq hmm hc]
      exact hfind Q E d acts
    obtain ⟨as, rfl, ha⟩ := Sem.eq_ok_of hr (a := Handler.found t) (s' := ((T.setTop g).pushFrame (.throwing a)).setVm vm') (acts' := []) (by simp [hF _ _ _ _])
    exact ⟨rfl, ha⟩
  obtain ⟨g₀, hg⟩ := Option.isSome_iff_exists.mp h.top
  obtain ⟨r, hr⟩ := State.topJava?_eq_some.mp hg
  rw [hr] at hstep ⊢
  rw [hstep.1]
  have hr' : (T.setVm vm').frames = .java g₀ :: r := hr
  rw [State.setTop_of_frames _ hr'] at hrest
  rw [State.pushFrame, State.setTop_of_frames _ hr]
  show Steps tb e below ((((T.setVm vm').setFrames (.java g :: r)).setFrames _).setFrames _) target
  rw [State.setFrames_setFrames, State.setFrames_setFrames]
  exact hrest
