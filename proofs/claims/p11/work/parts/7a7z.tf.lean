/-! ===== what leaves the reference's 'thrown' as it was ===== -/
def tf_F (t i : Nat) : Bool := Nat.beq t 9 && Nat.beq i 0
def tf_A (j : Nat) : Bool := [82, 83, 84, 85, 86, 89, 92, 93, 94, 95, 96, 98, 100, 101, 102, 104, 105, 107, 111, 113, 114, 116, 120, 122, 123, 124, 126, 128, 129].contains j
theorem tf_hF : ∀ t i, tf_F t i = true → t < 100 := by
  intro t i h
  have := Nat.eq_of_beq_eq_true (Bool.and_eq_true_iff.mp h).1
  omega
set_option maxRecDepth 100000 in
theorem tf_Ac : (List.range 146).all (fun j => !tf_A j || (match am_ms j with
    | some mj => fz_m tf_F (fun _ => false) tf_A 0 mj
    | none => true)) = true := by decide +kernel
theorem tf_lt {j : Nat} (h : tf_A j = true) : j < 146 := by
  unfold tf_A at h
  have h := List.contains_iff_mem.mp h
  simp only [List.mem_cons, List.not_mem_nil, or_false] at h
  omega
theorem tf_hA : ∀ j mj, tf_A j = true → am_ms j = some mj → fz_m tf_F (fun _ => false) tf_A 0 mj = true := by
  intro j mj h1 h2
  have := List.all_eq_true.mp tf_Ac j (List.mem_range.mpr (tf_lt h1))
  rw [h1, h2] at this
  exact this
theorem tf_Rp {mi : am_M} {p0 : Nat} {S : am_S} {Q : am_R → Prop} (hm : fz_m tf_F (fun _ => false) tf_A p0 mi = true) (hp : p0 ≤ S.1) (h : cl_Rn mi S Q) : cl_Rn mi S (fun r => Q r ∧ fz_eq tf_F (fun _ => false) S.2.2.2.1 r.2.1) := by
  obtain ⟨f, r, hr, hQ⟩ := h
  exact ⟨f, r, hr, hQ, fz_run tf_hF (fun _ h => by cases h) tf_hA f _ p0 mi S r hm hp hr⟩
theorem tf_sl {F : Nat → Nat → Bool} {bt : Nat → Bool} {h h' : am_H} {a t i : Nat} {vs : List Value} (hf : fz_eq F bt h h') (e : h[a]? = some (t, vs)) (hF : F t i = true) : ab_sl h' a i = ab_sl h a i := by
  obtain ⟨vs', e', p, -⟩ := hf a t vs e
  unfold ab_sl
  rw [e, e']
  exact p i hF
set_option maxRecDepth 100000 in
theorem tf_109 : fz_m tf_F (fun _ => false) tf_A 66 am_m109 = true := by decide +kernel
