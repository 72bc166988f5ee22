/-! ===== the law, and all ===== -/
set_option maxRecDepth 100000 in
theorem fm_klaw : fm_mck am_fty am_dfl am_lk fm_tl am_law fm_m99 = true := by decide +kernel
theorem fm_alls : fm_all am_msl fm_msl := ⟨fm_q0, fm_q1, fm_q2, fm_q3, fm_q4, fm_q5, fm_q6, fm_q7, fm_q8, fm_q9, fm_q10, fm_q11, fm_q12, fm_q13, fm_q14, fm_q15, fm_q16, fm_q17, fm_q18, fm_q19, fm_q20, fm_q21, fm_q22, fm_q23, fm_q24, fm_q25, fm_q26, fm_q27, fm_q28, fm_q29, fm_q30, fm_q31, fm_q32, fm_q33, fm_q34, fm_q35, fm_q36, fm_q37, fm_q38, fm_q39, fm_q40, fm_q41, fm_q42, fm_q43, fm_q44, fm_q45, fm_q46, fm_q47, fm_q48, fm_q49, fm_q50, fm_q51, fm_q52, fm_q53, fm_q54, fm_q55, fm_q56, fm_q57, fm_q58, fm_q59, fm_q60, fm_q61, fm_q62, fm_q63, fm_q64, fm_q65, fm_q66, fm_q67, fm_q68, fm_q69, fm_q70, fm_q71, fm_q72, fm_q73, fm_q74, fm_q75, fm_q76, fm_q77, fm_q78, fm_q79, fm_q80, fm_q81, fm_q82, fm_q83, fm_q84, fm_q85, fm_q86, fm_q87, fm_q88, fm_q89, fm_q90, fm_q91, fm_q92, fm_q93, fm_q94, fm_q95, fm_q96, fm_q97, fm_q98, trivial⟩
theorem fm_ms_ok : ∀ j mf, fm_ms j = some mf → ∃ mi, am_ms j = some mi ∧ fm_mck am_fty am_dfl am_lk fm_tl mi mf = true := fun j mf h => fm_all_at fm_alls j mf h
theorem fm_bl_ok (c : Nat) : ∀ ci vs, am_dfl ci = some vs → ((List.range vs.length).map fun j => fm_d c (fm_g (fm_bl ci) j)) = vs := by
  intro ci vs h
  unfold am_dfl at h
  split at h
  · cases h; rfl
  · cases h; rfl
  · cases h; rfl
  · cases h; rfl
  · cases h; rfl
  · cases h; rfl
  · cases h; rfl
  · cases h; rfl
  · cases h; rfl
  · cases h; rfl
  · cases h
