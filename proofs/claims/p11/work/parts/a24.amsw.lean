/-! ===== a static call of a method with handlers, that comes back ===== -/
def am_okW (TS : List Cond) (mj : am_M) : Prop := am_h mj ≠ [] ∧ Cond.codeWith (am_y mj) (am_b mj) (am_L mj) (am_r mj) (am_h mj) ∈ TS ∧ Cond.initialized (am_y mj).cls ∈ TS ∧ (am_y mj).cls ≠ "java/lang/invoke/MethodHandle" ∧ (am_y mj).cls ≠ "java/lang/invoke/VarHandle"
theorem am_wl_cons {TS : List Cond} {mi : am_M} (hh : am_h mi ≠ []) : am_wl TS mi = Cond.codeWith (am_y mi) (am_b mi) (am_L mi) (am_r mi) (am_h mi) :: TS := by
  unfold am_wl
  split
  · rename_i e
    exact absurd e hh
  · rfl
theorem am_wl_inW {TS : List Cond} {mi mj : am_M} (hg : am_good TS) (hM : am_okW TS mj) : GoodIn (am_wl TS mi) (am_wl TS mj) := fun w hw => by
  rw [am_wl_cons hM.1] at hw
  rcases List.mem_cons.mp hw with rfl | hw
  · exact ⟨List.mem_cons_of_mem _ hM.2.1, hg _ hM.2.1⟩
  · exact ⟨List.mem_cons_of_mem _ hw, hg _ hw⟩
section AMY
variable {p : Program} {l : Launch} {e : Env} {R : Room} {s : State} {m : MethodId} {args : Array Value} {below : List Frame} {meth : Method} {c : Code} {Q : State → Prop}
variable {D : va_G} {cl : List vw_C} {dA : Nat → ClassId} {b : Nat} {sc : am_Sy} {nL : Nat} {cc : ByteArray} {tyl : List FieldType} {TS : List Cond} {Zx : State → Prop}
variable {mi mj : am_M} {as : List Value} {h h' : am_H} {v : Option Value} {k q k' q' pc ix na a : Nat} {own host : String} {H : Heap} {ls : Array Slot} {locs : List Loc} {lo : List (Option Value)} {st : List Value}
theorem am_x_cSW (hx : p.tables.exec = Jvm.exec) (hb : c.code = cc) (hml : c.maxLocals = nL) (hown : s.vm.findClass own = some m.cls) (hts : ∀ w ∈ am_wl TS mi, w.before args s = true) (hg : am_good TS) (hK : va_K D cl (am_tys dA tyl) s) (hZ : am_Zok b Zx) (hz : Zx s) (hM : am_okW TS mj) (hp : am_par mj na) (hR : am_f mj + 1 ≤ R.frames ∧ 8 + (am_L mj + 11) + am_w mj ≤ R.locals) (hn : as.length = na) (hcat : am_cat st ≤ 8) (hf : k + k' ≤ R.cells ∧ q + q' ≤ R.slots)
    (hl : Cond.methodLink own ix (am_y mj) ∈ TS) (hi : Cond.static (am_y mj) ∈ TS) (hC : am_Con l TS D cl dA tyl b sc Zx mj as h (.inl v, h', k', q')) (hd : decode cc pc = .ok (.invokestatic ix, 3)) (hJ : am_J D cl dA b sc s.heap nL (pc, lo, st, h, k, q) H ls locs)
    (kk : ∀ (H' : Heap) (ls' : Array Slot) (locs' : List Loc), am_J D cl dA b sc s.heap nL (pc + 3, lo, v.toList ++ st, h', k + k', q + q') H' ls' locs' → W p l e R s m args below meth c H' locs' (k + k') (q + q') Q (F0 m (pc + 3) ls' ((v.toList ++ st).map (am_v b sc)))) : W p l e R s m args below meth c H locs k q Q (F0 m pc ls ((as.map (am_v b sc)).reverse ++ st.map (am_v b sc))) := by
  refine am_back (v := v) (h := h) (h' := h') (lo := lo) (st := st) ?_ hJ kk
  have wm := fun w hw => hts w (List.mem_cons_of_mem _ hw)
  have hpay := pay_in hts (am_wl_inW (mi := mi) hg hM)
  have hini : ∀ a' U, s.WarmedH U.vm → (Cond.initialized (am_y mj).cls).before a' U = true := fun a' U hW => word_at hW (hg _ hM.2.2.1) (wm _ hM.2.2.1)
  have hB : Back l R p e below s args (am_y mj) 3 8 (PreOf R k' q' (am_Pc D cl dA tyl b sc Zx as h)) (PostOf (fun _ st o t => o = .returned (v.map (am_v b sc)) ∧ am_Qh D cl dA b sc (.inl v, h', k', q') st t) k' q' (fun q => b ≤ q)) :=
    va_backW (hh := am_h mj) (bytes := am_b mj) (maxL := am_L mj) (ret := am_r mj) hC.met (am_Pc_blind hZ _ _) rfl rfl hR.1 hR.2 hpay (by rw [am_wl_cons hM.1]; exact List.mem_cons_self) hini
  intro T hT X
  obtain ⟨mk, methM, cM, hnamed, hmethM, -, -, -, -, -, -, hsigM⟩ := Cond.codeWith_spec (wm _ hM.2.1)
  have hstatic : methM.isStatic = true := Cond.static_spec hnamed hmethM (wm _ hi)
  obtain ⟨kP, hkP, -⟩ := className_of_methodNamed hnamed
  have hinitP : kP.init = .initialized := Cond.initialized_spec (findClass_of_methodNamed hnamed) hkP (wm _ hM.2.2.1)
  have hpar : (as.map (am_v b sc)).length = methM.sig.parameters.length := by
    unfold am_par at hp
    rw [hsigM] at hp
    rw [List.length_map, hn]
    exact (Option.some.inj hp).symm
  have hdg : decode c.code pc = .ok (.invokestatic ix, 3) := by rw [hb]; exact hd
  obtain ⟨vm₁, X₁, hstep₁⟩ := X.invokestatic hx hown (wm _ hl) hnamed hmethM hstatic hkP hinitP hM.2.2.2 (g := F0 m pc ls ((as.map (am_v b sc)).reverse ++ st.map (am_v b sc))) rfl (argsL := as.map (am_v b sc)) (rest := st.map (am_v b sc)) hpar rfl hdg
  have hsz : ls.size = c.maxLocals := by rw [hml]; exact hJ.2.2.2.2.1
  obtain ⟨v', ⟨U', l2, c2, s2⟩, X', ⟨g', mk', t, L, e1, e2, hq, h1, hL, h2, h3⟩, hsteps⟩ := hB m meth c ⟨T.setVm vm₁, locs, k, q⟩ (F0 m pc ls (st.map (am_v b sc))) (.invokestatic ix) mk (as.map (am_v b sc)).toArray X₁ rfl hsz hdg (lv_room (by rw [am_v_cats]; exact hcat)) (X₁.named hnamed) ⟨hf.1, hf.2, am_Pc_at hZ hJ.1 hJ.2.1 hK hz (T.setVm vm₁) hT X₁.warmed⟩
  dsimp only [Pt.U, Pt.locs, Pt.cells, Pt.slots] at X' e1 e2 h1 h2 h3 hsteps
  subst h1; subst h2; subst h3
  exact ⟨v', (T.setVm vm₁).calling g' mk' (as.map (am_v b sc)).toArray, t, U', L, hT, X', hL, e1, e2, hq, fun target hh => hstep₁ _ fun acts => by rw [doInvoke_state]; exact hsteps.trans hh⟩
end AMY
