/-! ===== the words are the methods' ===== -/
set_option maxRecDepth 100000 in
theorem wk_q1 : wk_mck am_fty am_lk wk_tls am_m1 wk_m1 = true := by decide +kernel
set_option maxRecDepth 100000 in
theorem wk_q4 : wk_mck am_fty am_lk wk_tls am_m4 wk_m4 = true := by decide +kernel
set_option maxRecDepth 100000 in
theorem wk_q7 : wk_mck am_fty am_lk wk_tls am_m7 wk_m7 = true := by decide +kernel
set_option maxRecDepth 100000 in
theorem wk_q10 : wk_mck am_fty am_lk wk_tls am_m10 wk_m10 = true := by decide +kernel
set_option maxRecDepth 100000 in
theorem wk_q13 : wk_mck am_fty am_lk wk_tls am_m13 wk_m13 = true := by decide +kernel
set_option maxRecDepth 100000 in
theorem wk_q16 : wk_mck am_fty am_lk wk_tls am_m16 wk_m16 = true := by decide +kernel
set_option maxRecDepth 100000 in
theorem wk_q19 : wk_mck am_fty am_lk wk_tls am_m19 wk_m19 = true := by decide +kernel
set_option maxRecDepth 100000 in
theorem wk_q22 : wk_mck am_fty am_lk wk_tls am_m22 wk_m22 = true := by decide +kernel
set_option maxRecDepth 100000 in
theorem wk_q25 : wk_mck am_fty am_lk wk_tls am_m25 wk_m25 = true := by decide +kernel
set_option maxRecDepth 100000 in
theorem wk_q28 : wk_mck am_fty am_lk wk_tls am_m28 wk_m28 = true := by decide +kernel
set_option maxRecDepth 100000 in
theorem wk_q31 : wk_mck am_fty am_lk wk_tls am_m31 wk_m31 = true := by decide +kernel
set_option maxRecDepth 100000 in
theorem wk_q34 : wk_mck am_fty am_lk wk_tls am_m34 wk_m34 = true := by decide +kernel
set_option maxRecDepth 100000 in
theorem wk_q37 : wk_mck am_fty am_lk wk_tls am_m37 wk_m37 = true := by decide +kernel
set_option maxRecDepth 100000 in
theorem wk_q40 : wk_mck am_fty am_lk wk_tls am_m40 wk_m40 = true := by decide +kernel
set_option maxRecDepth 100000 in
theorem wk_q43 : wk_mck am_fty am_lk wk_tls am_m43 wk_m43 = true := by decide +kernel
set_option maxRecDepth 100000 in
theorem wk_q46 : wk_mck am_fty am_lk wk_tls am_m46 wk_m46 = true := by decide +kernel
set_option maxRecDepth 100000 in
theorem wk_q49 : wk_mck am_fty am_lk wk_tls am_m49 wk_m49 = true := by decide +kernel
set_option maxRecDepth 100000 in
theorem wk_q52 : wk_mck am_fty am_lk wk_tls am_m52 wk_m52 = true := by decide +kernel
set_option maxRecDepth 100000 in
theorem wk_q55 : wk_mck am_fty am_lk wk_tls am_m55 wk_m55 = true := by decide +kernel
set_option maxRecDepth 100000 in
theorem wk_q58 : wk_mck am_fty am_lk wk_tls am_m58 wk_m58 = true := by decide +kernel
set_option maxRecDepth 100000 in
theorem wk_q61 : wk_mck am_fty am_lk wk_tls am_m61 wk_m61 = true := by decide +kernel
set_option maxRecDepth 100000 in
theorem wk_q64 : wk_mck am_fty am_lk wk_tls am_m64 wk_m64 = true := by decide +kernel
set_option maxRecDepth 100000 in
theorem wk_q67 : wk_mck am_fty am_lk wk_tls am_m67 wk_m67 = true := by decide +kernel
set_option maxRecDepth 100000 in
theorem wk_q70 : wk_mck am_fty am_lk wk_tls am_m70 wk_m70 = true := by decide +kernel
set_option maxRecDepth 100000 in
theorem wk_q73 : wk_mck am_fty am_lk wk_tls am_m73 wk_m73 = true := by decide +kernel
set_option maxRecDepth 100000 in
theorem wk_q76 : wk_mck am_fty am_lk wk_tls am_m76 wk_m76 = true := by decide +kernel
set_option maxRecDepth 100000 in
theorem wk_q79 : wk_mck am_fty am_lk wk_tls am_m79 wk_m79 = true := by decide +kernel
set_option maxRecDepth 100000 in
theorem wk_q82 : wk_mck am_fty am_lk wk_tls am_m82 wk_m82 = true := by decide +kernel
set_option maxRecDepth 100000 in
theorem wk_q85 : wk_mck am_fty am_lk wk_tls am_m85 wk_m85 = true := by decide +kernel
set_option maxRecDepth 100000 in
theorem wk_q88 : wk_mck am_fty am_lk wk_tls am_m88 wk_m88 = true := by decide +kernel
set_option maxRecDepth 100000 in
theorem wk_q91 : wk_mck am_fty am_lk wk_tls am_m91 wk_m91 = true := by decide +kernel
set_option maxRecDepth 100000 in
theorem wk_q94 : wk_mck am_fty am_lk wk_tls am_m94 wk_m94 = true := by decide +kernel
set_option maxRecDepth 100000 in
theorem wk_q97 : wk_mck am_fty am_lk wk_tls am_m97 wk_m97 = true := by decide +kernel
set_option maxRecDepth 100000 in
theorem wk_q100 : wk_mck am_fty am_lk wk_tls am_m100 wk_m100 = true := by decide +kernel
set_option maxRecDepth 100000 in
theorem wk_q103 : wk_mck am_fty am_lk wk_tls am_m103 wk_m103 = true := by decide +kernel
set_option maxRecDepth 100000 in
theorem wk_q106 : wk_mck am_fty am_lk wk_tls am_m106 wk_m106 = true := by decide +kernel
set_option maxRecDepth 100000 in
theorem wk_q109 : wk_mck am_fty am_lk wk_tls am_m109 wk_m109 = true := by decide +kernel
set_option maxRecDepth 100000 in
theorem wk_q112 : wk_mck am_fty am_lk wk_tls am_m112 wk_m112 = true := by decide +kernel
set_option maxRecDepth 100000 in
theorem wk_q115 : wk_mck am_fty am_lk wk_tls am_m115 wk_m115 = true := by decide +kernel
set_option maxRecDepth 100000 in
theorem wk_q118 : wk_mck am_fty am_lk wk_tls am_m118 wk_m118 = true := by decide +kernel
set_option maxRecDepth 100000 in
theorem wk_q121 : wk_mck am_fty am_lk wk_tls am_m121 wk_m121 = true := by decide +kernel
set_option maxRecDepth 100000 in
theorem wk_q124 : wk_mck am_fty am_lk wk_tls am_m124 wk_m124 = true := by decide +kernel
set_option maxRecDepth 100000 in
theorem wk_q127 : wk_mck am_fty am_lk wk_tls am_m127 wk_m127 = true := by decide +kernel
set_option maxRecDepth 100000 in
theorem wk_q130 : wk_mck am_fty am_lk wk_tls am_m130 wk_m130 = true := by decide +kernel
set_option maxRecDepth 100000 in
theorem wk_q133 : wk_mck am_fty am_lk wk_tls am_m133 wk_m133 = true := by decide +kernel
set_option maxRecDepth 100000 in
theorem wk_q136 : wk_mck am_fty am_lk wk_tls am_m136 wk_m136 = true := by decide +kernel
set_option maxRecDepth 100000 in
theorem wk_q139 : wk_mck am_fty am_lk wk_tls am_m139 wk_m139 = true := by decide +kernel
set_option maxRecDepth 100000 in
theorem wk_q142 : wk_mck am_fty am_lk wk_tls am_m142 wk_m142 = true := by decide +kernel
set_option maxRecDepth 100000 in
theorem wk_q145 : wk_mck am_fty am_lk wk_tls am_m145 wk_m145 = true := by decide +kernel
