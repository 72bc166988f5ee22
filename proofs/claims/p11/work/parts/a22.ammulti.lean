/-! ===== new int[x][y] ===== -/
theorem am_P.pushes {D : va_G} {cl : List vw_C} {dA : Nat → ClassId} {b : Nat} {sc : am_Sy} {h l : am_H} {H H1 : Heap} (hP : am_P D cl dA b sc h H) (z : H1.size = H.size + l.length) (o : ∀ q, q < H.size → H1[q]? = H[q]?) (e : ∀ (j : Nat) (c : am_C), l[j]? = some c → va_at D cl (b + (h.length + j), am_e b sc dA c) H1) : am_P D cl dA b sc (h ++ l) H1 := by
  refine ⟨by rw [z, hP.1, List.length_append]; omega, fun j c hj => ?_⟩
  by_cases hl : j < h.length
  · rw [List.getElem?_append_left hl] at hj
    exact (hP.2 j c hj).kept (o (b + j) (by rw [hP.1]; omega))
  · rw [List.getElem?_append_right (by omega)] at hj
    have := e (j - h.length) c hj
    rw [show h.length + (j - h.length) = j by omega] at this
    exact this
theorem am_outer (c : ClassId) (N h0 : Nat) : ∀ i : Nat, Jvm.Free.Multi.outerC c N h0 i = arrV c N (fun j => if j < i then .ref (h0 + 1 + j) else .null)
  | 0 => by
    have h1 : Jvm.Free.Multi.outerC c N h0 0 = ({ cls := c, slots := Array.replicate N .null, vm := .none } : Cell) := rfl
    rw [h1, arrV_new]
    congr 1
  | i + 1 => by
    have h1 : Jvm.Free.Multi.outerC c N h0 (i + 1) = (Jvm.Free.Multi.outerC c N h0 i).setSlot i (.ref (h0 + 1 + i)) := rfl
    rw [h1, am_outer c N h0 i, arrV_store]
    congr 1
    funext j
    unfold updV
    by_cases hj : j = i
    · subst hj
      rw [if_pos rfl, if_pos (Nat.lt_succ_self j)]
    · rw [if_neg hj]
      show (if j < i then Value.ref (h0 + 1 + j) else Value.null) = _
      by_cases hl : j < i
      · rw [if_pos hl, if_pos (Nat.lt_succ_of_lt hl)]
      · rw [if_neg hl, if_neg (by omega)]
section AMN
variable {p : Program} {l : Launch} {e : Env} {R : Room} {s : State} {m : MethodId} {args : Array Value} {below : List Frame} {meth : Method} {c : Code} {Q : State → Prop}
variable {D : va_G} {cl : List vw_C} {dA : Nat → ClassId} {b : Nat} {sc : am_Sy} {H0 : Heap} {nL : Nat} {cc : ByteArray} {tyl : List FieldType}
variable {n pc k q : Nat} {lo : List (Option Value)} {st r : List Value} {h : am_H} {H : Heap} {ls : Array Slot} {locs : List Loc}
set_option maxHeartbeats 1000000 in
theorem am_x_multi {x y : Int32} {ix : Nat} {own : String} (hx : p.tables.exec = Jvm.exec) (hb : c.code = cc) (hb0 : b ≤ H.size) (hK : va_K D cl (am_tys dA tyl) s) (t0 : tyl[0]? = some .int) (t3 : tyl[3]? = some (.array .int)) (hown : s.vm.findClass own = some m.cls) (hw1 : (Cond.classLink own ix ("[" ++ (FieldType.array .int).toString)).before args s = true) (hw2 : (Cond.arrayOver (.array .int)).before args s = true) (hw3 : (Cond.arrayClass .int).before args s = true) (hd : decode cc pc = .ok (.multianewarray ix 2, 4)) (h0 : ¬ x < 0) (h1 : ¬ y < 0) (h8 : x.toNatClampNeg ≤ 1000) (h9 : y.toNatClampNeg ≤ 1000) (hk : k + (1 + x.toNatClampNeg) ≤ R.cells) (hq : q + (x.toNatClampNeg + x.toNatClampNeg * y.toNatClampNeg) ≤ R.slots)
    (hJ : am_J D cl dA b sc H0 nL (pc, lo, .int y :: .int x :: r, h, k, q) H ls locs) (kk : (∀ (H' : Heap) (ls' : Array Slot) (locs' : List Loc), am_J D cl dA b sc H0 nL (pc + 4, lo, .ref h.length :: r, h ++ (103, (List.range x.toNatClampNeg).map fun j => .ref (h.length + 1 + j)) :: List.replicate x.toNatClampNeg (100, List.replicate y.toNatClampNeg (.int 0)), k + (1 + x.toNatClampNeg), q + (x.toNatClampNeg + x.toNatClampNeg * y.toNatClampNeg)) H' ls' locs' → W p l e R s m args below meth c H' locs' ((pc + 4, lo, .ref h.length :: r, h ++ (103, (List.range x.toNatClampNeg).map fun j => .ref (h.length + 1 + j)) :: List.replicate x.toNatClampNeg (100, List.replicate y.toNatClampNeg (.int 0)), k + (1 + x.toNatClampNeg), q + (x.toNatClampNeg + x.toNatClampNeg * y.toNatClampNeg))).2.2.2.2.1 ((pc + 4, lo, .ref h.length :: r, h ++ (103, (List.range x.toNatClampNeg).map fun j => .ref (h.length + 1 + j)) :: List.replicate x.toNatClampNeg (100, List.replicate y.toNatClampNeg (.int 0)), k + (1 + x.toNatClampNeg), q + (x.toNatClampNeg + x.toNatClampNeg * y.toNatClampNeg))).2.2.2.2.2 Q (F0 m ((pc + 4, lo, .ref h.length :: r, h ++ (103, (List.range x.toNatClampNeg).map fun j => .ref (h.length + 1 + j)) :: List.replicate x.toNatClampNeg (100, List.replicate y.toNatClampNeg (.int 0)), k + (1 + x.toNatClampNeg), q + (x.toNatClampNeg + x.toNatClampNeg * y.toNatClampNeg))).1 ls' (((pc + 4, lo, .ref h.length :: r, h ++ (103, (List.range x.toNatClampNeg).map fun j => .ref (h.length + 1 + j)) :: List.replicate x.toNatClampNeg (100, List.replicate y.toNatClampNeg (.int 0)), k + (1 + x.toNatClampNeg), q + (x.toNatClampNeg + x.toNatClampNeg * y.toNatClampNeg))).2.2.1.map (am_v b sc))))) : W p l e R s m args below meth c H locs k q Q (F0 m pc ls ((.int y :: .int x :: r).map (am_v b sc))) := by
  intro T hT X
  obtain ⟨vm1, cA, comp, -, f1, f2, X', go⟩ := X.multianewarray2 hx hown hw1 hw2 hw3 (g := F0 m pc ls (.int y :: .int x :: r.map (am_v b sc))) rfl (by rw [hb]; exact hd) (n := x) (k := y) (rest := r.map (am_v b sc)) rfl h0 h1 (by omega) (by show y.toNatClampNeg * 4 ≤ _; omega) (by omega) rfl rfl hk hq
  have hcA : cA = dA 3 := Option.some.inj (f1.symm.trans (hK.2 3 _ (am_tys_at t3)).2)
  have hcI : comp = dA 0 := Option.some.inj (f2.symm.trans (hK.2 0 _ (am_tys_at t0)).2)
  subst hcA
  subst hcI
  obtain ⟨g1, g2, -, -⟩ := Jvm.Free.Multi.fill_facts (T.setVm vm1) (dA 3) (dA 0) x.toNatClampNeg y.toNatClampNeg (defaultValue .int) x.toNatClampNeg
  have g3 := fun a (ha : a < (T.setVm vm1).heap.size) => Jvm.Free.Multi.fill_old (T.setVm vm1) (dA 3) (dA 0) x.toNatClampNeg y.toNatClampNeg (defaultValue .int) ha x.toNatClampNeg
  have g4 := Jvm.Free.Multi.fill_inner (T.setVm vm1) (dA 3) (dA 0) x.toNatClampNeg y.toNatClampNeg (defaultValue .int) x.toNatClampNeg
  generalize hU : Jvm.Free.Multi.fill (T.setVm vm1) (dA 3) (dA 0) x.toNatClampNeg y.toNatClampNeg (defaultValue .int) x.toNatClampNeg = U at X' go g1 g2 g3 g4
  have hTs : (T.setVm vm1).heap = H := hT
  rw [hTs] at g1 g2 g3 g4
  rw [am_outer] at g2
  have hHs : H.size = b + h.length := hJ.1.1
  have hold : ∀ a, a < H.size → U.heap[a]? = H[a]? := g3
  have hP : am_P D cl dA b sc (h ++ (103, (List.range x.toNatClampNeg).map fun j => .ref (h.length + 1 + j)) :: List.replicate x.toNatClampNeg (100, List.replicate y.toNatClampNeg (.int 0))) U.heap := by
    refine hJ.1.pushes (by rw [g1, List.length_cons, List.length_replicate]; omega) hold (fun j c hj => ?_)
    cases j with
    | zero =>
      cases hj
      rw [am_e_ref (Nat.le_refl 103)]
      show U.heap[b + (h.length + 0)]? = some (vp_cell (dA 3) _)
      rw [show b + (h.length + 0) = H.size by omega, g2, vp_cell_q, List.length_map, List.length_range]
      congr 2
      funext j
      by_cases hj : j < x.toNatClampNeg
      · have e9 : H.size + 1 + j = b + (h.length + 1 + j) := by omega
        rw [if_pos hj, e9]
        simp [hj, am_opt, va_rf]
      · rw [if_neg hj]
        simp [hj, am_opt, va_rf]
    | succ j =>
      rw [List.getElem?_cons_succ] at hj
      have hjl : j < x.toNatClampNeg := by
        have := (List.getElem?_eq_some_iff.mp hj).1
        rw [List.length_replicate] at this
        exact this
      have hc := List.eq_of_mem_replicate (List.mem_of_getElem? hj)
      subst hc
      show U.heap[b + (h.length + (j + 1))]? = some (vp_cell (dA 0) ((List.replicate y.toNatClampNeg (.int 0 : Value)).length, .inl (fun j => am_int ((List.replicate y.toNatClampNeg (.int 0 : Value)).getD j .null))))
      rw [show b + (h.length + (j + 1)) = H.size + 1 + j by omega, g4 j hjl, vp_cell_i, List.length_replicate]
      show some ({ cls := dA 0, slots := Array.replicate y.toNatClampNeg (.int 0), vm := .none } : Cell) = _
      rw [arrV_new]
      congr 2
      funext j
      by_cases hj : j < y.toNatClampNeg
      · simp [hj, am_int]
      · simp [hj, am_int]
  have hS : va_S (fun q => b ≤ q) H0 U.heap (locs ++ (List.range x.toNatClampNeg).map fun j => ⟨T.heap.size, j⟩) := by
    refine ⟨Nat.le_trans hJ.2.1.1 (by rw [g1]; omega), fun a a1 a2 => (hold a (Nat.lt_of_lt_of_le a1 hJ.2.1.1)).trans (hJ.2.1.2.1 a a1 a2), fun z hz => ?_⟩
    rcases List.mem_append.mp hz with hz | hz
    · exact hJ.2.1.2.2 z hz
    · obtain ⟨j, -, rfl⟩ := List.mem_map.mp hz
      show b ≤ T.heap.size
      rw [hT]
      exact hb0
  have X2 : Stand p l e R s m args below meth c U (locs ++ (List.range x.toNatClampNeg).map fun j => ⟨T.heap.size, j⟩) (k + (1 + x.toNatClampNeg)) (q + (x.toNatClampNeg + x.toNatClampNeg * y.toNatClampNeg)) := by
    have e1 : k + (1 + x.toNatClampNeg) = k + 1 + x.toNatClampNeg := by omega
    have e2 : q + (x.toNatClampNeg + x.toNatClampNeg * y.toNatClampNeg) = q + x.toNatClampNeg + x.toNatClampNeg * y.toNatClampNeg := by omega
    rw [e1, e2]
    exact X'
  obtain ⟨t, a1, b1⟩ := kk U.heap ls _ ⟨hP, hS, hJ.2.2⟩ U rfl X2
  refine ⟨t, go t ?_, b1⟩
  show Steps p.tables e below (U.setTop (F0 m (pc + 4) ls (.ref T.heap.size :: r.map (am_v b sc)))) t
  rw [show T.heap.size = b + h.length by rw [hT]; exact hHs]
  exact a1
end AMN
