/-! ===== the words are the methods' ===== -/
set_option maxRecDepth 100000 in
theorem wk_q2 : wk_mck am_fty am_lk wk_tls am_m2 wk_m2 = true := by decide +kernel
set_option maxRecDepth 100000 in
theorem wk_q5 : wk_mck am_fty am_lk wk_tls am_m5 wk_m5 = true := by decide +kernel
set_option maxRecDepth 100000 in
theorem wk_q8 : wk_mck am_fty am_lk wk_tls am_m8 wk_m8 = true := by decide +kernel
set_option maxRecDepth 100000 in
theorem wk_q11 : wk_mck am_fty am_lk wk_tls am_m11 wk_m11 = true := by decide +kernel
set_option maxRecDepth 100000 in
theorem wk_q14 : wk_mck am_fty am_lk wk_tls am_m14 wk_m14 = true := by decide +kernel
set_option maxRecDepth 100000 in
theorem wk_q17 : wk_mck am_fty am_lk wk_tls am_m17 wk_m17 = true := by decide +kernel
set_option maxRecDepth 100000 in
theorem wk_q20 : wk_mck am_fty am_lk wk_tls am_m20 wk_m20 = true := by decide +kernel
set_option maxRecDepth 100000 in
theorem wk_q23 : wk_mck am_fty am_lk wk_tls am_m23 wk_m23 = true := by decide +kernel
set_option maxRecDepth 100000 in
theorem wk_q26 : wk_mck am_fty am_lk wk_tls am_m26 wk_m26 = true := by decide +kernel
set_option maxRecDepth 100000 in
theorem wk_q29 : wk_mck am_fty am_lk wk_tls am_m29 wk_m29 = true := by decide +kernel
set_option maxRecDepth 100000 in
theorem wk_q32 : wk_mck am_fty am_lk wk_tls am_m32 wk_m32 = true := by decide +kernel
set_option maxRecDepth 100000 in
theorem wk_q35 : wk_mck am_fty am_lk wk_tls am_m35 wk_m35 = true := by decide +kernel
set_option maxRecDepth 100000 in
theorem wk_q38 : wk_mck am_fty am_lk wk_tls am_m38 wk_m38 = true := by decide +kernel
set_option maxRecDepth 100000 in
theorem wk_q41 : wk_mck am_fty am_lk wk_tls am_m41 wk_m41 = true := by decide +kernel
set_option maxRecDepth 100000 in
theorem wk_q44 : wk_mck am_fty am_lk wk_tls am_m44 wk_m44 = true := by decide +kernel
set_option maxRecDepth 100000 in
theorem wk_q47 : wk_mck am_fty am_lk wk_tls am_m47 wk_m47 = true := by decide +kernel
set_option maxRecDepth 100000 in
theorem wk_q50 : wk_mck am_fty am_lk wk_tls am_m50 wk_m50 = true := by decide +kernel
set_option maxRecDepth 100000 in
theorem wk_q53 : wk_mck am_fty am_lk wk_tls am_m53 wk_m53 = true := by decide +kernel
set_option maxRecDepth 100000 in
theorem wk_q56 : wk_mck am_fty am_lk wk_tls am_m56 wk_m56 = true := by decide +kernel
set_option maxRecDepth 100000 in
theorem wk_q59 : wk_mck am_fty am_lk wk_tls am_m59 wk_m59 = true := by decide +kernel
set_option maxRecDepth 100000 in
theorem wk_q62 : wk_mck am_fty am_lk wk_tls am_m62 wk_m62 = true := by decide +kernel
set_option maxRecDepth 100000 in
theorem wk_q65 : wk_mck am_fty am_lk wk_tls am_m65 wk_m65 = true := by decide +kernel
set_option maxRecDepth 100000 in
theorem wk_q68 : wk_mck am_fty am_lk wk_tls am_m68 wk_m68 = true := by decide +kernel
set_option maxRecDepth 100000 in
theorem wk_q71 : wk_mck am_fty am_lk wk_tls am_m71 wk_m71 = true := by decide +kernel
set_option maxRecDepth 100000 in
theorem wk_q74 : wk_mck am_fty am_lk wk_tls am_m74 wk_m74 = true := by decide +kernel
set_option maxRecDepth 100000 in
theorem wk_q77 : wk_mck am_fty am_lk wk_tls am_m77 wk_m77 = true := by decide +kernel
set_option maxRecDepth 100000 in
theorem wk_q80 : wk_mck am_fty am_lk wk_tls am_m80 wk_m80 = true := by decide +kernel
set_option maxRecDepth 100000 in
theorem wk_q83 : wk_mck am_fty am_lk wk_tls am_m83 wk_m83 = true := by decide +kernel
set_option maxRecDepth 100000 in
theorem wk_q86 : wk_mck am_fty am_lk wk_tls am_m86 wk_m86 = true := by decide +kernel
set_option maxRecDepth 100000 in
theorem wk_q89 : wk_mck am_fty am_lk wk_tls am_m89 wk_m89 = true := by decide +kernel
set_option maxRecDepth 100000 in
theorem wk_q92 : wk_mck am_fty am_lk wk_tls am_m92 wk_m92 = true := by decide +kernel
set_option maxRecDepth 100000 in
theorem wk_q95 : wk_mck am_fty am_lk wk_tls am_m95 wk_m95 = true := by decide +kernel
set_option maxRecDepth 100000 in
theorem wk_q98 : wk_mck am_fty am_lk wk_tls am_m98 wk_m98 = true := by decide +kernel
set_option maxRecDepth 100000 in
theorem wk_q101 : wk_mck am_fty am_lk wk_tls am_m101 wk_m101 = true := by decide +kernel
set_option maxRecDepth 100000 in
theorem wk_q104 : wk_mck am_fty am_lk wk_tls am_m104 wk_m104 = true := by decide +kernel
set_option maxRecDepth 100000 in
theorem wk_q107 : wk_mck am_fty am_lk wk_tls am_m107 wk_m107 = true := by decide +kernel
set_option maxRecDepth 100000 in
theorem wk_q110 : wk_mck am_fty am_lk wk_tls am_m110 wk_m110 = true := by decide +kernel
set_option maxRecDepth 100000 in
theorem wk_q113 : wk_mck am_fty am_lk wk_tls am_m113 wk_m113 = true := by decide +kernel
set_option maxRecDepth 100000 in
theorem wk_q116 : wk_mck am_fty am_lk wk_tls am_m116 wk_m116 = true := by decide +kernel
set_option maxRecDepth 100000 in
theorem wk_q119 : wk_mck am_fty am_lk wk_tls am_m119 wk_m119 = true := by decide +kernel
set_option maxRecDepth 100000 in
theorem wk_q122 : wk_mck am_fty am_lk wk_tls am_m122 wk_m122 = true := by decide +kernel
set_option maxRecDepth 100000 in
theorem wk_q125 : wk_mck am_fty am_lk wk_tls am_m125 wk_m125 = true := by decide +kernel
set_option maxRecDepth 100000 in
theorem wk_q128 : wk_mck am_fty am_lk wk_tls am_m128 wk_m128 = true := by decide +kernel
set_option maxRecDepth 100000 in
theorem wk_q131 : wk_mck am_fty am_lk wk_tls am_m131 wk_m131 = true := by decide +kernel
set_option maxRecDepth 100000 in
theorem wk_q134 : wk_mck am_fty am_lk wk_tls am_m134 wk_m134 = true := by decide +kernel
set_option maxRecDepth 100000 in
theorem wk_q137 : wk_mck am_fty am_lk wk_tls am_m137 wk_m137 = true := by decide +kernel
set_option maxRecDepth 100000 in
theorem wk_q140 : wk_mck am_fty am_lk wk_tls am_m140 wk_m140 = true := by decide +kernel
set_option maxRecDepth 100000 in
theorem wk_q143 : wk_mck am_fty am_lk wk_tls am_m143 wk_m143 = true := by decide +kernel
