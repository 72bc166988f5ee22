/-! ===== handlers; all tables together ===== -/
theorem am_cx_inv {ty ce : Nat} (h : am_cx ty = some ce) : (ty = 13 ∧ ce = 10) ∨ (ty = 15 ∧ ce = 11) ∨ (ty = 43 ∧ ce = 12) := by
  unfold am_cx at h
  split at h
  · cases h; exact .inl ⟨rfl, rfl⟩
  · cases h; exact .inr (.inl ⟨rfl, rfl⟩)
  · cases h; exact .inr (.inr ⟨rfl, rfl⟩)
  · cases h
theorem am_asg_y {b : Nat} {s : State} {n : String} {c : ClassId} (hz : am_Zy b s) (hf : s.vm.findClass n = some c) (hw : Cond.castable n n ∈ am_fas) : s.vm.assignable c c = true := by
  obtain ⟨c1, t, g1, g2, g3⟩ := Cond.castable_spec (am_Fa.use am_fas_ok hz.2 hw #[])
  cases hf.symm.trans g1
  cases hf.symm.trans g2
  exact g3
theorem am_asg_n {b : Nat} {s : State} {n1 n2 : String} {c1 c2 : ClassId} (hz : am_Zy b s) (hf1 : s.vm.findClass n1 = some c1) (hf2 : s.vm.findClass n2 = some c2) (hw : (n1, n2) ∈ am_ncs) : s.vm.assignable c1 c2 = false := by
  obtain ⟨c, t, g1, g2, g3⟩ := hz.1.2.2.2.2.2.2 _ hw
  cases hf1.symm.trans g1
  cases hf2.symm.trans g2
  exact g3
theorem am_hand (b : Nat) (D : va_G) (dA : Nat → ClassId) : ∀ (mi : am_M) (s : State) (a : Array Value) (ty ce : Nat), am_o mi = 10 → (∀ w ∈ am_TS, w.before a s = true) → am_Zy b s → va_K D am_cl (am_tys dA am_tyl) s → am_cx ty = some ce → (∃ x, am_cl[ce]? = some x) ∧ am_okX am_cx (am_on (am_o mi)) s a ce (D.1 ce) := by
  intro mi s a ty ce h10 hts hz hK hcx
  have k10 : ClassAt s "java/lang/IllegalArgumentException" (D.1 10) := (hK.1 10 _ rfl).2
  have k11 : ClassAt s "java/lang/IllegalStateException" (D.1 11) := (hK.1 11 _ rfl).2
  have k12 : ClassAt s "java/util/NoSuchElementException" (D.1 12) := (hK.1 12 _ rfl).2
  have w10 : (Cond.classLink (am_on 10) 13 "java/lang/IllegalArgumentException").before a s = true := hts _ am_w_278
  have w11 : (Cond.classLink (am_on 10) 15 "java/lang/IllegalStateException").before a s = true := hts _ am_w_279
  have w12 : (Cond.classLink (am_on 10) 43 "java/util/NoSuchElementException").before a s = true := hts _ am_w_705
  have f10 : Cond.castable "java/lang/IllegalArgumentException" "java/lang/IllegalArgumentException" ∈ am_fas := am_fa 292 (by decide +kernel) rfl
  have f11 : Cond.castable "java/lang/IllegalStateException" "java/lang/IllegalStateException" ∈ am_fas := am_fa 364 (by decide +kernel) rfl
  have f12 : Cond.castable "java/util/NoSuchElementException" "java/util/NoSuchElementException" ∈ am_fas := am_fa 713 (by decide +kernel) rfl
  rw [h10]
  rcases am_cx_inv hcx with ⟨-, rfl⟩ | ⟨-, rfl⟩ | ⟨-, rfl⟩
  · refine ⟨⟨_, rfl⟩, fun ty' cj hcj => ?_⟩
    rcases am_cx_inv hcj with ⟨rfl, rfl⟩ | ⟨rfl, rfl⟩ | ⟨rfl, rfl⟩
    · exact ⟨by decide, _, _, w10, k10.1, k10.2.imp fun _ h => h.1, fun _ => am_asg_y hz k10.1 f10, fun h => absurd rfl h⟩
    · exact ⟨by decide, _, _, w11, k11.1, k11.2.imp fun _ h => h.1, fun h => absurd h (by decide), fun _ => am_asg_n hz k10.1 k11.1 (by decide)⟩
    · exact ⟨by decide, _, _, w12, k12.1, k12.2.imp fun _ h => h.1, fun h => absurd h (by decide), fun _ => am_asg_n hz k10.1 k12.1 (by decide)⟩
  · refine ⟨⟨_, rfl⟩, fun ty' cj hcj => ?_⟩
    rcases am_cx_inv hcj with ⟨rfl, rfl⟩ | ⟨rfl, rfl⟩ | ⟨rfl, rfl⟩
    · exact ⟨by decide, _, _, w10, k10.1, k10.2.imp fun _ h => h.1, fun h => absurd h (by decide), fun _ => am_asg_n hz k11.1 k10.1 (by decide)⟩
    · exact ⟨by decide, _, _, w11, k11.1, k11.2.imp fun _ h => h.1, fun _ => am_asg_y hz k11.1 f11, fun h => absurd rfl h⟩
    · exact ⟨by decide, _, _, w12, k12.1, k12.2.imp fun _ h => h.1, fun h => absurd h (by decide), fun _ => am_asg_n hz k11.1 k12.1 (by decide)⟩
  · refine ⟨⟨_, rfl⟩, fun ty' cj hcj => ?_⟩
    rcases am_cx_inv hcj with ⟨rfl, rfl⟩ | ⟨rfl, rfl⟩ | ⟨rfl, rfl⟩
    · exact ⟨by decide, _, _, w10, k10.1, k10.2.imp fun _ h => h.1, fun h => absurd h (by decide), fun _ => am_asg_n hz k12.1 k10.1 (by decide)⟩
    · exact ⟨by decide, _, _, w11, k11.1, k11.2.imp fun _ h => h.1, fun h => absurd h (by decide), fun _ => am_asg_n hz k12.1 k11.1 (by decide)⟩
    · exact ⟨by decide, _, _, w12, k12.1, k12.2.imp fun _ h => h.1, fun _ => am_asg_y hz k12.1 f12, fun h => absurd rfl h⟩
theorem am_all {l : Launch} (hl : l.stackTraces = false) (D : va_G) (dA : Nat → ClassId) (b : Nat) : am_All l am_TS D am_cl dA am_tyl b (am_Zy b) am_fty am_dfl am_cmp am_lk am_ms am_cx am_on :=
  ⟨am_Ok_ok b, am_TS_good, am_Zy_ok b, hl, am_okK_ok b, am_mul_ok b, am_thr_ok b, am_mets, am_hand b D dA⟩
