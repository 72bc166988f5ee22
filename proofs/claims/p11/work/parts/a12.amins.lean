/-! ===== each instruction of the abstract machine, on the machine ===== -/
theorem am_P1 {D : va_G} {cl : List vw_C} {H : Heap} {x : Nat × va_E} (h : va_at D cl x H) : va_P D cl [x] H := fun k y hy => by
  cases k with
  | zero => cases hy; exact h
  | succ k => simp at hy
section AMI
variable {p : Program} {l : Launch} {e : Env} {R : Room} {s : State} {m : MethodId} {args : Array Value} {below : List Frame} {meth : Method} {c : Code} {Q : State → Prop}
variable {D : va_G} {cl : List vw_C} {dA : Nat → ClassId} {b : Nat} {sc : am_Sy} {H0 : Heap} {nL : Nat} {cc : ByteArray}
variable {n pc k q : Nat} {lo : List (Option Value)} {st : List Value} {h : am_H} {S' : am_S} {H : Heap} {ls : Array Slot} {locs : List Loc}

theorem am_x_lod {i : Instr} {j len : Nat} {re : Bool} (hx : p.tables.exec = Jvm.exec) (hb : c.code = cc) (hd : decode cc pc = .ok (i, n)) (hi : (re = false ∧ ((len = 2 ∧ i = .iload j) ∨ (len = 1 ∧ ∃ g : Fin 4, g.val = j ∧ i = .iload_n g))) ∨ (re = true ∧ ((len = 2 ∧ i = .aload j) ∨ (len = 1 ∧ ∃ g : Fin 4, g.val = j ∧ i = .aload_n g))))
    (he : am_lod n j len re pc lo st h k q = some (.inl S')) (hJ : am_J D cl dA b sc H0 nL (pc, lo, st, h, k, q) H ls locs) (kk : (∀ (H' : Heap) (ls' : Array Slot) (locs' : List Loc), am_J D cl dA b sc H0 nL S' H' ls' locs' → W p l e R s m args below meth c H' locs' (S').2.2.2.2.1 (S').2.2.2.2.2 Q (F0 m (S').1 ls' ((S').2.2.1.map (am_v b sc))))) : W p l e R s m args below meth c H locs k q Q (F0 m pc ls (st.map (am_v b sc))) := by
  obtain ⟨rfl, v, hv, hS, hre⟩ := am_lod_inv he
  cases hS
  have hl := hJ.2.2.2.2.2.2 j v hv
  rcases hre with ⟨hr, ⟨x, rfl⟩ | ⟨x, rfl⟩⟩ | ⟨hr, ⟨a, rfl⟩ | rfl | rfl⟩
  · rcases hi with ⟨-, ⟨rfl, rfl⟩ | ⟨rfl, g, hg, rfl⟩⟩ | ⟨hr2, -⟩
    · exact lv_iload hx hb hd hl (kk _ _ _ hJ)
    · exact lv_iload_n hx hb hd hg hl (kk _ _ _ hJ)
    · rw [hr] at hr2; cases hr2
  · rcases hi with ⟨-, ⟨rfl, rfl⟩ | ⟨rfl, g, hg, rfl⟩⟩ | ⟨hr2, -⟩
    · exact lv_iload hx hb hd hl (kk _ _ _ hJ)
    · exact lv_iload_n hx hb hd hg hl (kk _ _ _ hJ)
    · rw [hr] at hr2; cases hr2
  all_goals
    rcases hi with ⟨hr2, -⟩ | ⟨-, ⟨rfl, rfl⟩ | ⟨rfl, g, hg, rfl⟩⟩
    · rw [hr] at hr2; cases hr2
    · first | exact lv_aload hx hb hd hl (kk _ _ _ hJ) | exact lv_aloadN hx hb hd hl (kk _ _ _ hJ)
    · first | exact lv_aload_n hx hb hd hg hl (kk _ _ _ hJ) | exact lv_aload_nN hx hb hd hg hl (kk _ _ _ hJ)
theorem am_x_sto {i : Instr} {j len : Nat} {re : Bool} (hx : p.tables.exec = Jvm.exec) (hb : c.code = cc) (hd : decode cc pc = .ok (i, n)) (hi : (re = false ∧ ((len = 2 ∧ i = .istore j) ∨ (len = 1 ∧ ∃ g : Fin 4, g.val = j ∧ i = .istore_n g))) ∨ (re = true ∧ ((len = 2 ∧ i = .astore j) ∨ (len = 1 ∧ ∃ g : Fin 4, g.val = j ∧ i = .astore_n g))))
    (he : am_sto n j len re pc lo st h k q = some (.inl S')) (hJ : am_J D cl dA b sc H0 nL (pc, lo, st, h, k, q) H ls locs) (kk : (∀ (H' : Heap) (ls' : Array Slot) (locs' : List Loc), am_J D cl dA b sc H0 nL S' H' ls' locs' → W p l e R s m args below meth c H' locs' (S').2.2.2.2.1 (S').2.2.2.2.2 Q (F0 m (S').1 ls' ((S').2.2.1.map (am_v b sc))))) : W p l e R s m args below meth c H locs k q Q (F0 m pc ls (st.map (am_v b sc))) := by
  obtain ⟨rfl, hj, v, r, rfl, hS, hre⟩ := am_sto_inv he
  cases hS
  have hj' : j < nL := by rw [← hJ.2.2.1]; exact hj
  have go : ∀ ls' : Array Slot, v.category = 1 → lv_has ls' nL ((j, am_v b sc v) :: (am_lv b sc lo).filter (fun q => !(q.1 == j) && !(q.1 + 1 == j && q.2.category == 2))) → am_J D cl dA b sc H0 nL (pc + n, lo.set j (some v), r, h, k, q) H ls' locs := fun ls' hc h' => ⟨hJ.1, hJ.2.1, hJ.2.2.set hj' hc h'⟩
  rcases hre with ⟨hr, ⟨x, rfl⟩ | ⟨x, rfl⟩⟩ | ⟨hr, ⟨a, rfl⟩ | rfl⟩
  · rcases hi with ⟨-, ⟨rfl, rfl⟩ | ⟨rfl, g, hg, rfl⟩⟩ | ⟨hr2, -⟩
    · exact lv_istore hx hb hd hJ.2.2.has hj' rfl (fun ls' h' => kk _ _ _ (go ls' rfl h'))
    · exact lv_istore_n hx hb hd hg hJ.2.2.has hj' rfl (fun ls' h' => kk _ _ _ (go ls' rfl h'))
    · rw [hr] at hr2; cases hr2
  · rcases hi with ⟨-, ⟨rfl, rfl⟩ | ⟨rfl, g, hg, rfl⟩⟩ | ⟨hr2, -⟩
    · exact lv_istore hx hb hd hJ.2.2.has hj' rfl (fun ls' h' => kk _ _ _ (go ls' rfl h'))
    · exact lv_istore_n hx hb hd hg hJ.2.2.has hj' rfl (fun ls' h' => kk _ _ _ (go ls' rfl h'))
    · rw [hr] at hr2; cases hr2
  all_goals
    rcases hi with ⟨hr2, -⟩ | ⟨-, ⟨rfl, rfl⟩ | ⟨rfl, g, hg, rfl⟩⟩
    · rw [hr] at hr2; cases hr2
    · first | exact lv_astore hx hb hd hJ.2.2.has hj' rfl (fun ls' h' => kk _ _ _ (go ls' rfl h')) | exact lv_astoreN hx hb hd hJ.2.2.has hj' rfl (fun ls' h' => kk _ _ _ (go ls' rfl h'))
    · first | exact lv_astore_n hx hb hd hg hJ.2.2.has hj' rfl (fun ls' h' => kk _ _ _ (go ls' rfl h')) | exact lv_astore_nN hx hb hd hg hJ.2.2.has hj' rfl (fun ls' h' => kk _ _ _ (go ls' rfl h'))
theorem am_x_iinc {j : Nat} {z : Int} (hx : p.tables.exec = Jvm.exec) (hb : c.code = cc) (hd : decode cc pc = .ok (.iinc j z, 3)) {x : Int32} (hv : lo[j]? = some (some (.int x))) (hJ : am_J D cl dA b sc H0 nL (pc, lo, st, h, k, q) H ls locs) (kk : (∀ (H' : Heap) (ls' : Array Slot) (locs' : List Loc), am_J D cl dA b sc H0 nL (pc + 3, lo.set j (some (.int (x + Int32.ofInt z))), st, h, k, q) H' ls' locs' → W p l e R s m args below meth c H' locs' ((pc + 3, lo.set j (some (.int (x + Int32.ofInt z))), st, h, k, q)).2.2.2.2.1 ((pc + 3, lo.set j (some (.int (x + Int32.ofInt z))), st, h, k, q)).2.2.2.2.2 Q (F0 m ((pc + 3, lo.set j (some (.int (x + Int32.ofInt z))), st, h, k, q)).1 ls' (((pc + 3, lo.set j (some (.int (x + Int32.ofInt z))), st, h, k, q)).2.2.1.map (am_v b sc))))) : W p l e R s m args below meth c H locs k q Q (F0 m pc ls (st.map (am_v b sc))) := by
  have hj' : j < nL := by rw [← hJ.2.2.1]; exact (List.getElem?_eq_some_iff.mp hv).1
  obtain ⟨i, hi⟩ := List.getElem?_of_mem (am_lv_mem (b := b) (sc := sc) hv)
  exact lv_iinc hx hb hd hJ.2.2.has hi rfl hj' rfl (fun ls' h' => kk _ _ _ ⟨hJ.1, hJ.2.1, hJ.2.2.set (v := .int (x + Int32.ofInt z)) hj' rfl h'⟩)
theorem am_x_ifc {cd : ClassFile.Cond} {off : Int} {x : Int32} {v : Value} {r : List Value} (hv : am_v b sc v = .int x) (hx : p.tables.exec = Jvm.exec) (hb : c.code = cc) (hd : decode cc pc = .ok (.ifCond cd off, 3))
    (he : am_br (am_cnd cd x 0) pc off lo r h k q = some (.inl S')) (hJ : am_J D cl dA b sc H0 nL (pc, lo, v :: r, h, k, q) H ls locs) (kk : (∀ (H' : Heap) (ls' : Array Slot) (locs' : List Loc), am_J D cl dA b sc H0 nL S' H' ls' locs' → W p l e R s m args below meth c H' locs' (S').2.2.2.2.1 (S').2.2.2.2.2 Q (F0 m (S').1 ls' ((S').2.2.1.map (am_v b sc))))) : W p l e R s m args below meth c H locs k q Q (F0 m pc ls ((v :: r).map (am_v b sc))) := by
  rw [List.map_cons, hv]
  have hJ' : ∀ t, am_J D cl dA b sc H0 nL (t, lo, r, h, k, q) H ls locs := fun t => hJ
  obtain ⟨t, ht, hS⟩ := am_br_inv he
  cases hS
  cases hc : am_cnd cd x 0 with
  | true =>
    rw [hc] at kk
    cases cd <;> simp only [am_cnd, decide_eq_true_eq, Bool.not_eq_true', decide_eq_false_iff_not] at hc
    · exact lv_if_eq hx hb hd ht (fun _ => kk _ _ _ (hJ' t)) (fun g => by first | exact absurd hc g | exact absurd g hc)
    · exact lv_if_ne hx hb hd ht (fun _ => kk _ _ _ (hJ' t)) (fun g => by first | exact absurd hc g | exact absurd g hc)
    · exact lv_if_lt hx hb hd ht (fun _ => kk _ _ _ (hJ' t)) (fun g => by first | exact absurd hc g | exact absurd g hc)
    · exact lv_if_ge hx hb hd ht (fun _ => kk _ _ _ (hJ' t)) (fun g => by first | exact absurd hc g | exact absurd g hc)
    · exact lv_if_gt hx hb hd ht (fun _ => kk _ _ _ (hJ' t)) (fun g => by first | exact absurd hc g | exact absurd g hc)
    · exact lv_if_le hx hb hd ht (fun _ => kk _ _ _ (hJ' t)) (fun g => by first | exact absurd hc g | exact absurd g hc)
  | false =>
    rw [hc] at kk
    cases cd <;> simp only [am_cnd, decide_eq_false_iff_not, Bool.not_eq_false', decide_eq_true_eq] at hc
    · exact lv_if_eq hx hb hd ht (fun g => by first | exact absurd hc g | exact absurd g hc) (fun _ => kk _ _ _ (hJ' (pc + 3)))
    · exact lv_if_ne hx hb hd ht (fun g => by first | exact absurd hc g | exact absurd g hc) (fun _ => kk _ _ _ (hJ' (pc + 3)))
    · exact lv_if_lt hx hb hd ht (fun g => by first | exact absurd hc g | exact absurd g hc) (fun _ => kk _ _ _ (hJ' (pc + 3)))
    · exact lv_if_ge hx hb hd ht (fun g => by first | exact absurd hc g | exact absurd g hc) (fun _ => kk _ _ _ (hJ' (pc + 3)))
    · exact lv_if_gt hx hb hd ht (fun g => by first | exact absurd hc g | exact absurd g hc) (fun _ => kk _ _ _ (hJ' (pc + 3)))
    · exact lv_if_le hx hb hd ht (fun g => by first | exact absurd hc g | exact absurd g hc) (fun _ => kk _ _ _ (hJ' (pc + 3)))
theorem am_x_icm {cd : ClassFile.Cond} {off : Int} {x y : Int32} {v : Value} {r : List Value} (hv : am_v b sc v = .int x) (hx : p.tables.exec = Jvm.exec) (hb : c.code = cc) (hd : decode cc pc = .ok (.if_icmp cd off, 3))
    (he : am_br (am_cnd cd x y) pc off lo r h k q = some (.inl S')) (hJ : am_J D cl dA b sc H0 nL (pc, lo, .int y :: v :: r, h, k, q) H ls locs) (kk : (∀ (H' : Heap) (ls' : Array Slot) (locs' : List Loc), am_J D cl dA b sc H0 nL S' H' ls' locs' → W p l e R s m args below meth c H' locs' (S').2.2.2.2.1 (S').2.2.2.2.2 Q (F0 m (S').1 ls' ((S').2.2.1.map (am_v b sc))))) : W p l e R s m args below meth c H locs k q Q (F0 m pc ls ((.int y :: v :: r).map (am_v b sc))) := by
  rw [List.map_cons, List.map_cons, hv]
  show W p l e R s m args below meth c H locs k q Q (F0 m pc ls (.int y :: .int x :: r.map (am_v b sc)))
  have hJ' : ∀ t, am_J D cl dA b sc H0 nL (t, lo, r, h, k, q) H ls locs := fun t => hJ
  obtain ⟨t, ht, hS⟩ := am_br_inv he
  cases hS
  cases hc : am_cnd cd x y with
  | true =>
    rw [hc] at kk
    cases cd <;> simp only [am_cnd, decide_eq_true_eq, Bool.not_eq_true', decide_eq_false_iff_not] at hc
    · exact lv_icmp_eq hx hb hd ht (fun _ => kk _ _ _ (hJ' t)) (fun g => by first | exact absurd hc g | exact absurd g hc)
    · exact lv_icmp_ne hx hb hd ht (fun _ => kk _ _ _ (hJ' t)) (fun g => by first | exact absurd hc g | exact absurd g hc)
    · exact lv_icmp_lt hx hb hd ht (fun _ => kk _ _ _ (hJ' t)) (fun g => by first | exact absurd hc g | exact absurd g hc)
    · exact lv_icmp_ge hx hb hd ht (fun _ => kk _ _ _ (hJ' t)) (fun g => by first | exact absurd hc g | exact absurd g hc)
    · exact lv_icmp_gt hx hb hd ht (fun _ => kk _ _ _ (hJ' t)) (fun g => by first | exact absurd hc g | exact absurd g hc)
    · exact lv_icmp_le hx hb hd ht (fun _ => kk _ _ _ (hJ' t)) (fun g => by first | exact absurd hc g | exact absurd g hc)
  | false =>
    rw [hc] at kk
    cases cd <;> simp only [am_cnd, decide_eq_false_iff_not, Bool.not_eq_false', decide_eq_true_eq] at hc
    · exact lv_icmp_eq hx hb hd ht (fun g => by first | exact absurd hc g | exact absurd g hc) (fun _ => kk _ _ _ (hJ' (pc + 3)))
    · exact lv_icmp_ne hx hb hd ht (fun g => by first | exact absurd hc g | exact absurd g hc) (fun _ => kk _ _ _ (hJ' (pc + 3)))
    · exact lv_icmp_lt hx hb hd ht (fun g => by first | exact absurd hc g | exact absurd g hc) (fun _ => kk _ _ _ (hJ' (pc + 3)))
    · exact lv_icmp_ge hx hb hd ht (fun g => by first | exact absurd hc g | exact absurd g hc) (fun _ => kk _ _ _ (hJ' (pc + 3)))
    · exact lv_icmp_gt hx hb hd ht (fun g => by first | exact absurd hc g | exact absurd g hc) (fun _ => kk _ _ _ (hJ' (pc + 3)))
    · exact lv_icmp_le hx hb hd ht (fun g => by first | exact absurd hc g | exact absurd g hc) (fun _ => kk _ _ _ (hJ' (pc + 3)))
end AMI
