/-! ===== the code of the fast machine is the methods' ===== -/
def fm_all : List am_M → List fm_M → Prop
  | [], [] => True
  | a :: l, b :: m => fm_mck am_fty am_dfl am_lk fm_tl a b = true ∧ fm_all l m
  | _, _ => False
theorem fm_all_at {l : List am_M} {m : List fm_M} (h : fm_all l m) : ∀ (j : Nat) (mf : fm_M), m[j]? = some mf → ∃ mi, l[j]? = some mi ∧ fm_mck am_fty am_dfl am_lk fm_tl mi mf = true := by
  induction m generalizing l with
  | nil => intro j mf hj; simp at hj
  | cons b m ih =>
    cases l with
    | nil => cases h
    | cons a l =>
      obtain ⟨h1, h2⟩ := h
      intro j mf hj
      cases j with
      | zero => cases hj; exact ⟨a, rfl, h1⟩
      | succ j => exact ih h2 j mf hj
theorem fm_cmp_ok : ∀ t, 103 ≤ t → t ≤ 106 → (am_cmp t).isSome = true := fun t h1 h2 => by
  have : t = 103 ∨ t = 104 ∨ t = 105 ∨ t = 106 := by omega
  rcases this with rfl | rfl | rfl | rfl <;> rfl
set_option maxRecDepth 100000 in
theorem fm_q0 : fm_mck am_fty am_dfl am_lk fm_tl am_m0 fm_m0 = true := by decide +kernel
set_option maxRecDepth 100000 in
theorem fm_q1 : fm_mck am_fty am_dfl am_lk fm_tl am_m1 fm_m1 = true := by decide +kernel
set_option maxRecDepth 100000 in
theorem fm_q2 : fm_mck am_fty am_dfl am_lk fm_tl am_m2 fm_m2 = true := by decide +kernel
set_option maxRecDepth 100000 in
theorem fm_q3 : fm_mck am_fty am_dfl am_lk fm_tl am_m3 fm_m3 = true := by decide +kernel
set_option maxRecDepth 100000 in
theorem fm_q4 : fm_mck am_fty am_dfl am_lk fm_tl am_m4 fm_m4 = true := by decide +kernel
set_option maxRecDepth 100000 in
theorem fm_q5 : fm_mck am_fty am_dfl am_lk fm_tl am_m5 fm_m5 = true := by decide +kernel
set_option maxRecDepth 100000 in
theorem fm_q6 : fm_mck am_fty am_dfl am_lk fm_tl am_m6 fm_m6 = true := by decide +kernel
set_option maxRecDepth 100000 in
theorem fm_q7 : fm_mck am_fty am_dfl am_lk fm_tl am_m7 fm_m7 = true := by decide +kernel
set_option maxRecDepth 100000 in
theorem fm_q8 : fm_mck am_fty am_dfl am_lk fm_tl am_m8 fm_m8 = true := by decide +kernel
set_option maxRecDepth 100000 in
theorem fm_q9 : fm_mck am_fty am_dfl am_lk fm_tl am_m9 fm_m9 = true := by decide +kernel
set_option maxRecDepth 100000 in
theorem fm_q10 : fm_mck am_fty am_dfl am_lk fm_tl am_m10 fm_m10 = true := by decide +kernel
set_option maxRecDepth 100000 in
theorem fm_q11 : fm_mck am_fty am_dfl am_lk fm_tl am_m11 fm_m11 = true := by decide +kernel
set_option maxRecDepth 100000 in
theorem fm_q12 : fm_mck am_fty am_dfl am_lk fm_tl am_m12 fm_m12 = true := by decide +kernel
set_option maxRecDepth 100000 in
theorem fm_q13 : fm_mck am_fty am_dfl am_lk fm_tl am_m13 fm_m13 = true := by decide +kernel
set_option maxRecDepth 100000 in
theorem fm_q14 : fm_mck am_fty am_dfl am_lk fm_tl am_m14 fm_m14 = true := by decide +kernel
set_option maxRecDepth 100000 in
theorem fm_q15 : fm_mck am_fty am_dfl am_lk fm_tl am_m15 fm_m15 = true := by decide +kernel
set_option maxRecDepth 100000 in
theorem fm_q16 : fm_mck am_fty am_dfl am_lk fm_tl am_m16 fm_m16 = true := by decide +kernel
set_option maxRecDepth 100000 in
theorem fm_q17 : fm_mck am_fty am_dfl am_lk fm_tl am_m17 fm_m17 = true := by decide +kernel
set_option maxRecDepth 100000 in
theorem fm_q18 : fm_mck am_fty am_dfl am_lk fm_tl am_m18 fm_m18 = true := by decide +kernel
set_option maxRecDepth 100000 in
theorem fm_q19 : fm_mck am_fty am_dfl am_lk fm_tl am_m19 fm_m19 = true := by decide +kernel
set_option maxRecDepth 100000 in
theorem fm_q20 : fm_mck am_fty am_dfl am_lk fm_tl am_m20 fm_m20 = true := by decide +kernel
set_option maxRecDepth 100000 in
theorem fm_q21 : fm_mck am_fty am_dfl am_lk fm_tl am_m21 fm_m21 = true := by decide +kernel
set_option maxRecDepth 100000 in
theorem fm_q22 : fm_mck am_fty am_dfl am_lk fm_tl am_m22 fm_m22 = true := by decide +kernel
set_option maxRecDepth 100000 in
theorem fm_q23 : fm_mck am_fty am_dfl am_lk fm_tl am_m23 fm_m23 = true := by decide +kernel
set_option maxRecDepth 100000 in
theorem fm_q24 : fm_mck am_fty am_dfl am_lk fm_tl am_m24 fm_m24 = true := by decide +kernel
set_option maxRecDepth 100000 in
theorem fm_q25 : fm_mck am_fty am_dfl am_lk fm_tl am_m25 fm_m25 = true := by decide +kernel
set_option maxRecDepth 100000 in
theorem fm_q26 : fm_mck am_fty am_dfl am_lk fm_tl am_m26 fm_m26 = true := by decide +kernel
set_option maxRecDepth 100000 in
theorem fm_q27 : fm_mck am_fty am_dfl am_lk fm_tl am_m27 fm_m27 = true := by decide +kernel
set_option maxRecDepth 100000 in
theorem fm_q28 : fm_mck am_fty am_dfl am_lk fm_tl am_m28 fm_m28 = true := by decide +kernel
set_option maxRecDepth 100000 in
theorem fm_q29 : fm_mck am_fty am_dfl am_lk fm_tl am_m29 fm_m29 = true := by decide +kernel
set_option maxRecDepth 100000 in
theorem fm_q30 : fm_mck am_fty am_dfl am_lk fm_tl am_m30 fm_m30 = true := by decide +kernel
set_option maxRecDepth 100000 in
theorem fm_q31 : fm_mck am_fty am_dfl am_lk fm_tl am_m31 fm_m31 = true := by decide +kernel
set_option maxRecDepth 100000 in
theorem fm_q32 : fm_mck am_fty am_dfl am_lk fm_tl am_m32 fm_m32 = true := by decide +kernel
set_option maxRecDepth 100000 in
theorem fm_q33 : fm_mck am_fty am_dfl am_lk fm_tl am_m33 fm_m33 = true := by decide +kernel
set_option maxRecDepth 100000 in
theorem fm_q34 : fm_mck am_fty am_dfl am_lk fm_tl am_m34 fm_m34 = true := by decide +kernel
set_option maxRecDepth 100000 in
theorem fm_q35 : fm_mck am_fty am_dfl am_lk fm_tl am_m35 fm_m35 = true := by decide +kernel
set_option maxRecDepth 100000 in
theorem fm_q36 : fm_mck am_fty am_dfl am_lk fm_tl am_m36 fm_m36 = true := by decide +kernel
set_option maxRecDepth 100000 in
theorem fm_q37 : fm_mck am_fty am_dfl am_lk fm_tl am_m37 fm_m37 = true := by decide +kernel
set_option maxRecDepth 100000 in
theorem fm_q38 : fm_mck am_fty am_dfl am_lk fm_tl am_m38 fm_m38 = true := by decide +kernel
set_option maxRecDepth 100000 in
theorem fm_q39 : fm_mck am_fty am_dfl am_lk fm_tl am_m39 fm_m39 = true := by decide +kernel
set_option maxRecDepth 100000 in
theorem fm_q40 : fm_mck am_fty am_dfl am_lk fm_tl am_m40 fm_m40 = true := by decide +kernel
set_option maxRecDepth 100000 in
theorem fm_q41 : fm_mck am_fty am_dfl am_lk fm_tl am_m41 fm_m41 = true := by decide +kernel
set_option maxRecDepth 100000 in
theorem fm_q42 : fm_mck am_fty am_dfl am_lk fm_tl am_m42 fm_m42 = true := by decide +kernel
set_option maxRecDepth 100000 in
theorem fm_q43 : fm_mck am_fty am_dfl am_lk fm_tl am_m43 fm_m43 = true := by decide +kernel
set_option maxRecDepth 100000 in
theorem fm_q44 : fm_mck am_fty am_dfl am_lk fm_tl am_m44 fm_m44 = true := by decide +kernel
set_option maxRecDepth 100000 in
theorem fm_q45 : fm_mck am_fty am_dfl am_lk fm_tl am_m45 fm_m45 = true := by decide +kernel
set_option maxRecDepth 100000 in
theorem fm_q46 : fm_mck am_fty am_dfl am_lk fm_tl am_m46 fm_m46 = true := by decide +kernel
set_option maxRecDepth 100000 in
theorem fm_q47 : fm_mck am_fty am_dfl am_lk fm_tl am_m47 fm_m47 = true := by decide +kernel
