/-! ===== the others ===== -/
set_option maxRecDepth 100000 in
theorem fm_q48 : fm_mck am_fty am_dfl am_lk fm_tl am_m48 fm_m48 = true := by decide +kernel
set_option maxRecDepth 100000 in
theorem fm_q49 : fm_mck am_fty am_dfl am_lk fm_tl am_m49 fm_m49 = true := by decide +kernel
set_option maxRecDepth 100000 in
theorem fm_q50 : fm_mck am_fty am_dfl am_lk fm_tl am_m50 fm_m50 = true := by decide +kernel
set_option maxRecDepth 100000 in
theorem fm_q51 : fm_mck am_fty am_dfl am_lk fm_tl am_m51 fm_m51 = true := by decide +kernel
set_option maxRecDepth 100000 in
theorem fm_q52 : fm_mck am_fty am_dfl am_lk fm_tl am_m52 fm_m52 = true := by decide +kernel
set_option maxRecDepth 100000 in
theorem fm_q53 : fm_mck am_fty am_dfl am_lk fm_tl am_m53 fm_m53 = true := by decide +kernel
set_option maxRecDepth 100000 in
theorem fm_q54 : fm_mck am_fty am_dfl am_lk fm_tl am_m54 fm_m54 = true := by decide +kernel
set_option maxRecDepth 100000 in
theorem fm_q55 : fm_mck am_fty am_dfl am_lk fm_tl am_m55 fm_m55 = true := by decide +kernel
set_option maxRecDepth 100000 in
theorem fm_q56 : fm_mck am_fty am_dfl am_lk fm_tl am_m56 fm_m56 = true := by decide +kernel
set_option maxRecDepth 100000 in
theorem fm_q57 : fm_mck am_fty am_dfl am_lk fm_tl am_m57 fm_m57 = true := by decide +kernel
set_option maxRecDepth 100000 in
theorem fm_q58 : fm_mck am_fty am_dfl am_lk fm_tl am_m58 fm_m58 = true := by decide +kernel
set_option maxRecDepth 100000 in
theorem fm_q59 : fm_mck am_fty am_dfl am_lk fm_tl am_m59 fm_m59 = true := by decide +kernel
set_option maxRecDepth 100000 in
theorem fm_q60 : fm_mck am_fty am_dfl am_lk fm_tl am_m60 fm_m60 = true := by decide +kernel
set_option maxRecDepth 100000 in
theorem fm_q61 : fm_mck am_fty am_dfl am_lk fm_tl am_m61 fm_m61 = true := by decide +kernel
set_option maxRecDepth 100000 in
theorem fm_q62 : fm_mck am_fty am_dfl am_lk fm_tl am_m62 fm_m62 = true := by decide +kernel
set_option maxRecDepth 100000 in
theorem fm_q63 : fm_mck am_fty am_dfl am_lk fm_tl am_m63 fm_m63 = true := by decide +kernel
set_option maxRecDepth 100000 in
theorem fm_q64 : fm_mck am_fty am_dfl am_lk fm_tl am_m64 fm_m64 = true := by decide +kernel
set_option maxRecDepth 100000 in
theorem fm_q65 : fm_mck am_fty am_dfl am_lk fm_tl am_m65 fm_m65 = true := by decide +kernel
set_option maxRecDepth 100000 in
theorem fm_q66 : fm_mck am_fty am_dfl am_lk fm_tl am_m66 fm_m66 = true := by decide +kernel
set_option maxRecDepth 100000 in
theorem fm_q67 : fm_mck am_fty am_dfl am_lk fm_tl am_m67 fm_m67 = true := by decide +kernel
set_option maxRecDepth 100000 in
theorem fm_q68 : fm_mck am_fty am_dfl am_lk fm_tl am_m68 fm_m68 = true := by decide +kernel
set_option maxRecDepth 100000 in
theorem fm_q69 : fm_mck am_fty am_dfl am_lk fm_tl am_m69 fm_m69 = true := by decide +kernel
set_option maxRecDepth 100000 in
theorem fm_q70 : fm_mck am_fty am_dfl am_lk fm_tl am_m70 fm_m70 = true := by decide +kernel
set_option maxRecDepth 100000 in
theorem fm_q71 : fm_mck am_fty am_dfl am_lk fm_tl am_m71 fm_m71 = true := by decide +kernel
set_option maxRecDepth 100000 in
theorem fm_q72 : fm_mck am_fty am_dfl am_lk fm_tl am_m72 fm_m72 = true := by decide +kernel
set_option maxRecDepth 100000 in
theorem fm_q73 : fm_mck am_fty am_dfl am_lk fm_tl am_m73 fm_m73 = true := by decide +kernel
set_option maxRecDepth 100000 in
theorem fm_q74 : fm_mck am_fty am_dfl am_lk fm_tl am_m74 fm_m74 = true := by decide +kernel
set_option maxRecDepth 100000 in
theorem fm_q75 : fm_mck am_fty am_dfl am_lk fm_tl am_m75 fm_m75 = true := by decide +kernel
set_option maxRecDepth 100000 in
theorem fm_q76 : fm_mck am_fty am_dfl am_lk fm_tl am_m76 fm_m76 = true := by decide +kernel
set_option maxRecDepth 100000 in
theorem fm_q77 : fm_mck am_fty am_dfl am_lk fm_tl am_m77 fm_m77 = true := by decide +kernel
set_option maxRecDepth 100000 in
theorem fm_q78 : fm_mck am_fty am_dfl am_lk fm_tl am_m78 fm_m78 = true := by decide +kernel
set_option maxRecDepth 100000 in
theorem fm_q79 : fm_mck am_fty am_dfl am_lk fm_tl am_m79 fm_m79 = true := by decide +kernel
set_option maxRecDepth 100000 in
theorem fm_q80 : fm_mck am_fty am_dfl am_lk fm_tl am_m80 fm_m80 = true := by decide +kernel
set_option maxRecDepth 100000 in
theorem fm_q81 : fm_mck am_fty am_dfl am_lk fm_tl am_m81 fm_m81 = true := by decide +kernel
set_option maxRecDepth 100000 in
theorem fm_q82 : fm_mck am_fty am_dfl am_lk fm_tl am_m82 fm_m82 = true := by decide +kernel
set_option maxRecDepth 100000 in
theorem fm_q83 : fm_mck am_fty am_dfl am_lk fm_tl am_m83 fm_m83 = true := by decide +kernel
set_option maxRecDepth 100000 in
theorem fm_q84 : fm_mck am_fty am_dfl am_lk fm_tl am_m84 fm_m84 = true := by decide +kernel
set_option maxRecDepth 100000 in
theorem fm_q85 : fm_mck am_fty am_dfl am_lk fm_tl am_m85 fm_m85 = true := by decide +kernel
set_option maxRecDepth 100000 in
theorem fm_q86 : fm_mck am_fty am_dfl am_lk fm_tl am_m86 fm_m86 = true := by decide +kernel
set_option maxRecDepth 100000 in
theorem fm_q87 : fm_mck am_fty am_dfl am_lk fm_tl am_m87 fm_m87 = true := by decide +kernel
set_option maxRecDepth 100000 in
theorem fm_q88 : fm_mck am_fty am_dfl am_lk fm_tl am_m88 fm_m88 = true := by decide +kernel
set_option maxRecDepth 100000 in
theorem fm_q89 : fm_mck am_fty am_dfl am_lk fm_tl am_m89 fm_m89 = true := by decide +kernel
set_option maxRecDepth 100000 in
theorem fm_q90 : fm_mck am_fty am_dfl am_lk fm_tl am_m90 fm_m90 = true := by decide +kernel
set_option maxRecDepth 100000 in
theorem fm_q91 : fm_mck am_fty am_dfl am_lk fm_tl am_m91 fm_m91 = true := by decide +kernel
set_option maxRecDepth 100000 in
theorem fm_q92 : fm_mck am_fty am_dfl am_lk fm_tl am_m92 fm_m92 = true := by decide +kernel
set_option maxRecDepth 100000 in
theorem fm_q93 : fm_mck am_fty am_dfl am_lk fm_tl am_m93 fm_m93 = true := by decide +kernel
set_option maxRecDepth 100000 in
theorem fm_q94 : fm_mck am_fty am_dfl am_lk fm_tl am_m94 fm_m94 = true := by decide +kernel
set_option maxRecDepth 100000 in
theorem fm_q95 : fm_mck am_fty am_dfl am_lk fm_tl am_m95 fm_m95 = true := by decide +kernel
set_option maxRecDepth 100000 in
theorem fm_q96 : fm_mck am_fty am_dfl am_lk fm_tl am_m96 fm_m96 = true := by decide +kernel
set_option maxRecDepth 100000 in
theorem fm_q97 : fm_mck am_fty am_dfl am_lk fm_tl am_m97 fm_m97 = true := by decide +kernel
set_option maxRecDepth 100000 in
theorem fm_q98 : fm_mck am_fty am_dfl am_lk fm_tl am_m98 fm_m98 = true := by decide +kernel
