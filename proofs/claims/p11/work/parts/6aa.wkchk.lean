/-! ===== the words are the methods' ===== -/
set_option maxRecDepth 100000 in
theorem wk_q0 : wk_mck am_fty am_lk wk_tls am_m0 wk_m0 = true := by decide +kernel
set_option maxRecDepth 100000 in
theorem wk_q3 : wk_mck am_fty am_lk wk_tls am_m3 wk_m3 = true := by decide +kernel
set_option maxRecDepth 100000 in
theorem wk_q6 : wk_mck am_fty am_lk wk_tls am_m6 wk_m6 = true := by decide +kernel
set_option maxRecDepth 100000 in
theorem wk_q9 : wk_mck am_fty am_lk wk_tls am_m9 wk_m9 = true := by decide +kernel
set_option maxRecDepth 100000 in
theorem wk_q12 : wk_mck am_fty am_lk wk_tls am_m12 wk_m12 = true := by decide +kernel
set_option maxRecDepth 100000 in
theorem wk_q15 : wk_mck am_fty am_lk wk_tls am_m15 wk_m15 = true := by decide +kernel
set_option maxRecDepth 100000 in
theorem wk_q18 : wk_mck am_fty am_lk wk_tls am_m18 wk_m18 = true := by decide +kernel
set_option maxRecDepth 100000 in
theorem wk_q21 : wk_mck am_fty am_lk wk_tls am_m21 wk_m21 = true := by decide +kernel
set_option maxRecDepth 100000 in
theorem wk_q24 : wk_mck am_fty am_lk wk_tls am_m24 wk_m24 = true := by decide +kernel
set_option maxRecDepth 100000 in
theorem wk_q27 : wk_mck am_fty am_lk wk_tls am_m27 wk_m27 = true := by decide +kernel
set_option maxRecDepth 100000 in
theorem wk_q30 : wk_mck am_fty am_lk wk_tls am_m30 wk_m30 = true := by decide +kernel
set_option maxRecDepth 100000 in
theorem wk_q33 : wk_mck am_fty am_lk wk_tls am_m33 wk_m33 = true := by decide +kernel
set_option maxRecDepth 100000 in
theorem wk_q36 : wk_mck am_fty am_lk wk_tls am_m36 wk_m36 = true := by decide +kernel
set_option maxRecDepth 100000 in
theorem wk_q39 : wk_mck am_fty am_lk wk_tls am_m39 wk_m39 = true := by decide +kernel
set_option maxRecDepth 100000 in
theorem wk_q42 : wk_mck am_fty am_lk wk_tls am_m42 wk_m42 = true := by decide +kernel
set_option maxRecDepth 100000 in
theorem wk_q45 : wk_mck am_fty am_lk wk_tls am_m45 wk_m45 = true := by decide +kernel
set_option maxRecDepth 100000 in
theorem wk_q48 : wk_mck am_fty am_lk wk_tls am_m48 wk_m48 = true := by decide +kernel
set_option maxRecDepth 100000 in
theorem wk_q51 : wk_mck am_fty am_lk wk_tls am_m51 wk_m51 = true := by decide +kernel
set_option maxRecDepth 100000 in
theorem wk_q54 : wk_mck am_fty am_lk wk_tls am_m54 wk_m54 = true := by decide +kernel
set_option maxRecDepth 100000 in
theorem wk_q57 : wk_mck am_fty am_lk wk_tls am_m57 wk_m57 = true := by decide +kernel
set_option maxRecDepth 100000 in
theorem wk_q60 : wk_mck am_fty am_lk wk_tls am_m60 wk_m60 = true := by decide +kernel
set_option maxRecDepth 100000 in
theorem wk_q63 : wk_mck am_fty am_lk wk_tls am_m63 wk_m63 = true := by decide +kernel
set_option maxRecDepth 100000 in
theorem wk_q66 : wk_mck am_fty am_lk wk_tls am_m66 wk_m66 = true := by decide +kernel
set_option maxRecDepth 100000 in
theorem wk_q69 : wk_mck am_fty am_lk wk_tls am_m69 wk_m69 = true := by decide +kernel
set_option maxRecDepth 100000 in
theorem wk_q72 : wk_mck am_fty am_lk wk_tls am_m72 wk_m72 = true := by decide +kernel
set_option maxRecDepth 100000 in
theorem wk_q75 : wk_mck am_fty am_lk wk_tls am_m75 wk_m75 = true := by decide +kernel
set_option maxRecDepth 100000 in
theorem wk_q78 : wk_mck am_fty am_lk wk_tls am_m78 wk_m78 = true := by decide +kernel
set_option maxRecDepth 100000 in
theorem wk_q81 : wk_mck am_fty am_lk wk_tls am_m81 wk_m81 = true := by decide +kernel
set_option maxRecDepth 100000 in
theorem wk_q84 : wk_mck am_fty am_lk wk_tls am_m84 wk_m84 = true := by decide +kernel
set_option maxRecDepth 100000 in
theorem wk_q87 : wk_mck am_fty am_lk wk_tls am_m87 wk_m87 = true := by decide +kernel
set_option maxRecDepth 100000 in
theorem wk_q90 : wk_mck am_fty am_lk wk_tls am_m90 wk_m90 = true := by decide +kernel
set_option maxRecDepth 100000 in
theorem wk_q93 : wk_mck am_fty am_lk wk_tls am_m93 wk_m93 = true := by decide +kernel
set_option maxRecDepth 100000 in
theorem wk_q96 : wk_mck am_fty am_lk wk_tls am_m96 wk_m96 = true := by decide +kernel
set_option maxRecDepth 100000 in
theorem wk_q99 : wk_mck am_fty am_lk wk_tls am_m99 wk_m99 = true := by decide +kernel
set_option maxRecDepth 100000 in
theorem wk_q102 : wk_mck am_fty am_lk wk_tls am_m102 wk_m102 = true := by decide +kernel
set_option maxRecDepth 100000 in
theorem wk_q105 : wk_mck am_fty am_lk wk_tls am_m105 wk_m105 = true := by decide +kernel
set_option maxRecDepth 100000 in
theorem wk_q108 : wk_mck am_fty am_lk wk_tls am_m108 wk_m108 = true := by decide +kernel
set_option maxRecDepth 100000 in
theorem wk_q111 : wk_mck am_fty am_lk wk_tls am_m111 wk_m111 = true := by decide +kernel
set_option maxRecDepth 100000 in
theorem wk_q114 : wk_mck am_fty am_lk wk_tls am_m114 wk_m114 = true := by decide +kernel
set_option maxRecDepth 100000 in
theorem wk_q117 : wk_mck am_fty am_lk wk_tls am_m117 wk_m117 = true := by decide +kernel
set_option maxRecDepth 100000 in
theorem wk_q120 : wk_mck am_fty am_lk wk_tls am_m120 wk_m120 = true := by decide +kernel
set_option maxRecDepth 100000 in
theorem wk_q123 : wk_mck am_fty am_lk wk_tls am_m123 wk_m123 = true := by decide +kernel
set_option maxRecDepth 100000 in
theorem wk_q126 : wk_mck am_fty am_lk wk_tls am_m126 wk_m126 = true := by decide +kernel
set_option maxRecDepth 100000 in
theorem wk_q129 : wk_mck am_fty am_lk wk_tls am_m129 wk_m129 = true := by decide +kernel
set_option maxRecDepth 100000 in
theorem wk_q132 : wk_mck am_fty am_lk wk_tls am_m132 wk_m132 = true := by decide +kernel
set_option maxRecDepth 100000 in
theorem wk_q135 : wk_mck am_fty am_lk wk_tls am_m135 wk_m135 = true := by decide +kernel
set_option maxRecDepth 100000 in
theorem wk_q138 : wk_mck am_fty am_lk wk_tls am_m138 wk_m138 = true := by decide +kernel
set_option maxRecDepth 100000 in
theorem wk_q141 : wk_mck am_fty am_lk wk_tls am_m141 wk_m141 = true := by decide +kernel
set_option maxRecDepth 100000 in
theorem wk_q144 : wk_mck am_fty am_lk wk_tls am_m144 wk_m144 = true := by decide +kernel
