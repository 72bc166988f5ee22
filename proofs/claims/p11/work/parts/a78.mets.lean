/-! ===== every method of the tables ===== -/
set_option maxRecDepth 100000
def am_MF (mj : am_M) : Prop := am_okD am_TS am_on mj ∧ (am_h mj = [] → Cond.code (am_y mj) (am_b mj) (am_L mj) (am_r mj) ∈ am_TS)
theorem am_od0 : am_MF am_m0 := ⟨⟨am_d0, by decide +kernel, rfl, fun h => absurd rfl h⟩, fun _ => am_w_25⟩
theorem am_od1 : am_MF am_m1 := ⟨⟨am_d1, by decide +kernel, rfl, fun h => absurd rfl h⟩, fun _ => am_w_661⟩
theorem am_od2 : am_MF am_m2 := ⟨⟨am_d2, by decide +kernel, rfl, fun h => absurd rfl h⟩, fun _ => am_w_262⟩
theorem am_od3 : am_MF am_m3 := ⟨⟨am_d3, by decide +kernel, rfl, fun h => absurd rfl h⟩, fun _ => am_w_700⟩
theorem am_od4 : am_MF am_m4 := ⟨⟨am_d4, by decide +kernel, rfl, fun h => absurd rfl h⟩, fun _ => am_w_274⟩
theorem am_od5 : am_MF am_m5 := ⟨⟨am_d5, by decide +kernel, rfl, fun h => absurd rfl h⟩, fun _ => am_w_756⟩
theorem am_od6 : am_MF am_m6 := ⟨⟨am_d6, by decide +kernel, rfl, fun h => absurd rfl h⟩, fun _ => am_w_510⟩
theorem am_od7 : am_MF am_m7 := ⟨⟨am_d7, by decide +kernel, rfl, fun h => absurd rfl h⟩, fun _ => am_w_502⟩
theorem am_od8 : am_MF am_m8 := ⟨⟨am_d8, by decide +kernel, rfl, fun h => absurd rfl h⟩, fun _ => am_w_514⟩
theorem am_od9 : am_MF am_m9 := ⟨⟨am_d9, by decide +kernel, rfl, fun h => absurd rfl h⟩, fun _ => am_w_480⟩
theorem am_od10 : am_MF am_m10 := ⟨⟨am_d10, by decide +kernel, rfl, fun h => absurd rfl h⟩, fun _ => am_w_733⟩
theorem am_od11 : am_MF am_m11 := ⟨⟨am_d11, by decide +kernel, rfl, fun h => absurd rfl h⟩, fun _ => am_w_709⟩
theorem am_od12 : am_MF am_m12 := ⟨⟨am_d12, by decide +kernel, rfl, fun h => absurd rfl h⟩, fun _ => am_w_484⟩
theorem am_od13 : am_MF am_m13 := ⟨⟨am_d13, by decide +kernel, rfl, fun h => absurd rfl h⟩, fun _ => am_w_289⟩
theorem am_od14 : am_MF am_m14 := ⟨⟨am_d14, by decide +kernel, rfl, fun h => absurd rfl h⟩, fun _ => am_w_286⟩
theorem am_od15 : am_MF am_m15 := ⟨⟨am_d15, by decide +kernel, rfl, fun h => absurd rfl h⟩, fun _ => am_w_457⟩
theorem am_od16 : am_MF am_m16 := ⟨⟨am_d16, by decide +kernel, rfl, fun h => absurd rfl h⟩, fun _ => am_w_506⟩
theorem am_od17 : am_MF am_m17 := ⟨⟨am_d17, by decide +kernel, rfl, fun h => absurd rfl h⟩, fun _ => am_w_765⟩
theorem am_od18 : am_MF am_m18 := ⟨⟨am_d18, by decide +kernel, rfl, fun h => absurd rfl h⟩, fun _ => am_w_601⟩
theorem am_od19 : am_MF am_m19 := ⟨⟨am_d19, by decide +kernel, rfl, fun h => absurd rfl h⟩, fun _ => am_w_640⟩
theorem am_od20 : am_MF am_m20 := ⟨⟨am_d20, by decide +kernel, rfl, fun h => absurd rfl h⟩, fun _ => am_w_283⟩
theorem am_od21 : am_MF am_m21 := ⟨⟨am_d21, by decide +kernel, rfl, fun h => absurd rfl h⟩, fun _ => am_w_361⟩
theorem am_od22 : am_MF am_m22 := ⟨⟨am_d22, by decide +kernel, rfl, fun h => absurd rfl h⟩, fun _ => am_w_453⟩
theorem am_od23 : am_MF am_m23 := ⟨⟨am_d23, by decide +kernel, rfl, fun h => absurd rfl h⟩, fun _ => am_w_266⟩
theorem am_od24 : am_MF am_m24 := ⟨⟨am_d24, by decide +kernel, rfl, fun h => absurd rfl h⟩, fun _ => am_w_665⟩
theorem am_od25 : am_MF am_m25 := ⟨⟨am_d25, by decide +kernel, rfl, fun h => absurd rfl h⟩, fun _ => am_w_270⟩
theorem am_od26 : am_MF am_m26 := ⟨⟨am_d26, by decide +kernel, rfl, fun h => absurd rfl h⟩, fun _ => am_w_529⟩
theorem am_od27 : am_MF am_m27 := ⟨⟨am_d27, by decide +kernel, rfl, fun h => absurd rfl h⟩, fun _ => am_w_782⟩
theorem am_od28 : am_MF am_m28 := ⟨⟨am_d28, by decide +kernel, rfl, fun h => absurd rfl h⟩, fun _ => am_w_774⟩
theorem am_od29 : am_MF am_m29 := ⟨⟨am_d29, by decide +kernel, rfl, fun h => absurd rfl h⟩, fun _ => am_w_648⟩
theorem am_od30 : am_MF am_m30 := ⟨⟨am_d30, by decide +kernel, rfl, fun h => absurd rfl h⟩, fun _ => am_w_588⟩
theorem am_od31 : am_MF am_m31 := ⟨⟨am_d31, by decide +kernel, rfl, fun h => absurd rfl h⟩, fun _ => am_w_471⟩
theorem am_od32 : am_MF am_m32 := ⟨⟨am_d32, by decide +kernel, rfl, fun h => absurd rfl h⟩, fun _ => am_w_680⟩
theorem am_od33 : am_MF am_m33 := ⟨⟨am_d33, by decide +kernel, rfl, fun h => absurd rfl h⟩, fun _ => am_w_653⟩
theorem am_od34 : am_MF am_m34 := ⟨⟨am_d34, by decide +kernel, rfl, fun h => absurd rfl h⟩, fun _ => am_w_790⟩
theorem am_od35 : am_MF am_m35 := ⟨⟨am_d35, by decide +kernel, rfl, fun h => absurd rfl h⟩, fun _ => am_w_197⟩
theorem am_od36 : am_MF am_m36 := ⟨⟨am_d36, by decide +kernel, rfl, fun h => absurd rfl h⟩, fun _ => am_w_684⟩
theorem am_od37 : am_MF am_m37 := ⟨⟨am_d37, by decide +kernel, rfl, fun h => absurd rfl h⟩, fun _ => am_w_33⟩
theorem am_od38 : am_MF am_m38 := ⟨⟨am_d38, by decide +kernel, rfl, fun h => absurd rfl h⟩, fun _ => am_w_633⟩
theorem am_od39 : am_MF am_m39 := ⟨⟨am_d39, by decide +kernel, rfl, fun h => absurd rfl h⟩, fun _ => am_w_541⟩
theorem am_od40 : am_MF am_m40 := ⟨⟨am_d40, by decide +kernel, rfl, fun h => absurd rfl h⟩, fun _ => am_w_555⟩
theorem am_od41 : am_MF am_m41 := ⟨⟨am_d41, by decide +kernel, rfl, fun h => absurd rfl h⟩, fun _ => am_w_533⟩
theorem am_od42 : am_MF am_m42 := ⟨⟨am_d42, by decide +kernel, rfl, fun h => absurd rfl h⟩, fun _ => am_w_657⟩
theorem am_od43 : am_MF am_m43 := ⟨⟨am_d43, by decide +kernel, rfl, fun h => absurd rfl h⟩, fun _ => am_w_73⟩
theorem am_od44 : am_MF am_m44 := ⟨⟨am_d44, by decide +kernel, rfl, fun h => absurd rfl h⟩, fun _ => am_w_537⟩
theorem am_od45 : am_MF am_m45 := ⟨⟨am_d45, by decide +kernel, rfl, fun h => absurd rfl h⟩, fun _ => am_w_216⟩
theorem am_od46 : am_MF am_m46 := ⟨⟨am_d46, by decide +kernel, rfl, fun h => absurd rfl h⟩, fun _ => am_w_476⟩
theorem am_od47 : am_MF am_m47 := ⟨⟨am_d47, by decide +kernel, rfl, fun h => absurd rfl h⟩, fun _ => am_w_467⟩
theorem am_od48 : am_MF am_m48 := ⟨⟨am_d48, by decide +kernel, rfl, fun h => absurd rfl h⟩, fun _ => am_w_581⟩
theorem am_od49 : am_MF am_m49 := ⟨⟨am_d49, by decide +kernel, rfl, fun h => absurd rfl h⟩, fun _ => am_w_381⟩
theorem am_od50 : am_MF am_m50 := ⟨⟨am_d50, by decide +kernel, rfl, fun h => absurd rfl h⟩, fun _ => am_w_594⟩
theorem am_od51 : am_MF am_m51 := ⟨⟨am_d51, by decide +kernel, rfl, fun h => absurd rfl h⟩, fun _ => am_w_493⟩
theorem am_od52 : am_MF am_m52 := ⟨⟨am_d52, by decide +kernel, rfl, fun h => absurd rfl h⟩, fun _ => am_w_498⟩
theorem am_od53 : am_MF am_m53 := ⟨⟨am_d53, by decide +kernel, rfl, fun h => absurd rfl h⟩, fun _ => am_w_693⟩
theorem am_od54 : am_MF am_m54 := ⟨⟨am_d54, by decide +kernel, rfl, fun h => absurd rfl h⟩, fun _ => am_w_489⟩
theorem am_od55 : am_MF am_m55 := ⟨⟨am_d55, by decide +kernel, rfl, fun h => absurd rfl h⟩, fun _ => am_w_518⟩
theorem am_od56 : am_MF am_m56 := ⟨⟨am_d56, by decide +kernel, rfl, fun h => absurd rfl h⟩, fun _ => am_w_522⟩
theorem am_od57 : am_MF am_m57 := ⟨⟨am_d57, by decide +kernel, rfl, fun h => absurd rfl h⟩, fun _ => am_w_67⟩
theorem am_od58 : am_MF am_m58 := ⟨⟨am_d58, by decide +kernel, rfl, fun h => absurd rfl h⟩, fun _ => am_w_743⟩
theorem am_od59 : am_MF am_m59 := ⟨⟨am_d59, by decide +kernel, rfl, fun h => absurd rfl h⟩, fun _ => am_w_567⟩
theorem am_od60 : am_MF am_m60 := ⟨⟨am_d60, by decide +kernel, rfl, fun h => absurd rfl h⟩, fun _ => am_w_739⟩
theorem am_od61 : am_MF am_m61 := ⟨⟨am_d61, by decide +kernel, rfl, fun h => absurd rfl h⟩, fun _ => am_w_747⟩
theorem am_od62 : am_MF am_m62 := ⟨⟨am_d62, by decide +kernel, rfl, fun h => absurd rfl h⟩, fun _ => am_w_39⟩
theorem am_od63 : am_MF am_m63 := ⟨⟨am_d63, by decide +kernel, rfl, fun h => absurd rfl h⟩, fun _ => am_w_670⟩
theorem am_od64 : am_MF am_m64 := ⟨⟨am_d64, by decide +kernel, rfl, fun h => absurd rfl h⟩, fun _ => am_w_623⟩
theorem am_od65 : am_MF am_m65 := ⟨⟨am_d65, by decide +kernel, rfl, fun h => absurd rfl h⟩, fun _ => am_w_619⟩
theorem am_od66 : am_MF am_m66 := ⟨⟨am_d66, by decide +kernel, rfl, fun h => absurd rfl h⟩, fun _ => am_w_629⟩
theorem am_od67 : am_MF am_m67 := ⟨⟨am_d67, by decide +kernel, rfl, fun h => absurd rfl h⟩, fun _ => am_w_615⟩
theorem am_od68 : am_MF am_m68 := ⟨⟨am_d68, by decide +kernel, rfl, fun h => absurd rfl h⟩, fun _ => am_w_559⟩
theorem am_od69 : am_MF am_m69 := ⟨⟨am_d69, by decide +kernel, rfl, fun h => absurd rfl h⟩, fun _ => am_w_545⟩
theorem am_od70 : am_MF am_m70 := ⟨⟨am_d70, by decide +kernel, rfl, fun h => absurd rfl h⟩, fun _ => am_w_563⟩
theorem am_od71 : am_MF am_m71 := ⟨⟨am_d71, by decide +kernel, rfl, fun h => absurd rfl h⟩, fun _ => am_w_606⟩
theorem am_od72 : am_MF am_m72 := ⟨⟨am_d72, by decide +kernel, rfl, fun h => absurd rfl h⟩, fun _ => am_w_571⟩
theorem am_od73 : am_MF am_m73 := ⟨⟨am_d73, by decide +kernel, rfl, fun h => absurd rfl h⟩, fun _ => am_w_626⟩
theorem am_od74 : am_MF am_m74 := ⟨⟨am_d74, by decide +kernel, rfl, fun h => absurd rfl h⟩, fun _ => am_w_676⟩
theorem am_od75 : am_MF am_m75 := ⟨⟨am_d75, by decide +kernel, rfl, fun h => absurd rfl h⟩, fun _ => am_w_611⟩
theorem am_od76 : am_MF am_m76 := ⟨⟨am_d76, by decide +kernel, rfl, fun h => absurd rfl h⟩, fun _ => am_w_176⟩
theorem am_od77 : am_MF am_m77 := ⟨⟨am_d77, by decide +kernel, rfl, fun h => absurd rfl h⟩, fun _ => am_w_463⟩
theorem am_od78 : am_MF am_m78 := ⟨⟨am_d78, by decide +kernel, rfl, fun h => absurd rfl h⟩, fun _ => am_w_688⟩
theorem am_od79 : am_MF am_m79 := ⟨⟨am_d79, by decide +kernel, rfl, fun h => absurd rfl h⟩, fun _ => am_w_446⟩
theorem am_od80 : am_MF am_m80 := ⟨⟨am_d80, by decide +kernel, rfl, fun h => absurd rfl h⟩, fun _ => am_w_442⟩
theorem am_od81 : am_MF am_m81 := ⟨⟨am_d81, by decide +kernel, rfl, fun h => absurd rfl h⟩, fun _ => am_w_796⟩
theorem am_od82 : am_MF am_m82 := ⟨⟨am_d82, by decide +kernel, rfl, fun h => absurd rfl h⟩, fun _ => am_w_1065⟩
theorem am_od83 : am_MF am_m83 := ⟨⟨am_d83, by decide +kernel, rfl, fun h => absurd rfl h⟩, fun _ => am_w_971⟩
theorem am_od84 : am_MF am_m84 := ⟨⟨am_d84, by decide +kernel, rfl, fun h => absurd rfl h⟩, fun _ => am_w_1057⟩
theorem am_od85 : am_MF am_m85 := ⟨⟨am_d85, by decide +kernel, rfl, fun h => absurd rfl h⟩, fun _ => am_w_979⟩
theorem am_od86 : am_MF am_m86 := ⟨⟨am_d86, by decide +kernel, rfl, fun h => absurd rfl h⟩, fun _ => am_w_1029⟩
theorem am_od87 : am_MF am_m87 := ⟨⟨am_d87, by decide +kernel, rfl, fun h => absurd rfl h⟩, fun _ => am_w_1041⟩
theorem am_od88 : am_MF am_m88 := ⟨⟨am_d88, by decide +kernel, rfl, fun h => absurd rfl h⟩, fun _ => am_w_1077⟩
theorem am_od89 : am_MF am_m89 := ⟨⟨am_d89, by decide +kernel, rfl, fun h => absurd rfl h⟩, fun _ => am_w_1014⟩
theorem am_od90 : am_MF am_m90 := ⟨⟨am_d90, by decide +kernel, rfl, fun h => absurd rfl h⟩, fun _ => am_w_1089⟩
theorem am_od91 : am_MF am_m91 := ⟨⟨am_d91, by decide +kernel, rfl, fun h => absurd rfl h⟩, fun _ => am_w_1103⟩
theorem am_od92 : am_MF am_m92 := ⟨⟨am_d92, by decide +kernel, rfl, fun h => absurd rfl h⟩, fun _ => am_w_987⟩
theorem am_od93 : am_MF am_m93 := ⟨⟨am_d93, by decide +kernel, rfl, fun h => absurd rfl h⟩, fun _ => am_w_995⟩
theorem am_od94 : am_MF am_m94 := ⟨⟨am_d94, by decide +kernel, rfl, fun h => absurd rfl h⟩, fun _ => am_w_967⟩
theorem am_od95 : am_MF am_m95 := ⟨⟨am_d95, by decide +kernel, rfl, fun h => absurd rfl h⟩, fun _ => am_w_983⟩
theorem am_od96 : am_MF am_m96 := ⟨⟨am_d96, by decide +kernel, rfl, fun h => absurd rfl h⟩, fun _ => am_w_963⟩
theorem am_od97 : am_MF am_m97 := ⟨⟨am_d97, by decide +kernel, rfl, fun h => absurd rfl h⟩, fun _ => am_w_1093⟩
theorem am_od98 : am_MF am_m98 := ⟨⟨am_d98, by decide +kernel, rfl, fun h => absurd rfl h⟩, fun _ => am_w_1018⟩
theorem am_od99 : am_MF am_m99 := ⟨⟨am_d99, by decide +kernel, rfl, fun h => absurd rfl h⟩, fun _ => am_w_1081⟩
theorem am_od100 : am_MF am_m100 := ⟨⟨am_d100, by decide +kernel, rfl, fun h => absurd rfl h⟩, fun _ => am_w_1003⟩
theorem am_od101 : am_MF am_m101 := ⟨⟨am_d101, by decide +kernel, rfl, fun h => absurd rfl h⟩, fun _ => am_w_999⟩
theorem am_od102 : am_MF am_m102 := ⟨⟨am_d102, by decide +kernel, rfl, fun h => absurd rfl h⟩, fun _ => am_w_1010⟩
theorem am_od103 : am_MF am_m103 := ⟨⟨am_d103, by decide +kernel, rfl, fun h => absurd rfl h⟩, fun _ => am_w_1107⟩
theorem am_od104 : am_MF am_m104 := ⟨⟨am_d104, by decide +kernel, rfl, fun h => absurd rfl h⟩, fun _ => am_w_1061⟩
theorem am_od105 : am_MF am_m105 := ⟨⟨am_d105, by decide +kernel, rfl, fun h => absurd rfl h⟩, fun _ => am_w_975⟩
theorem am_od106 : am_MF am_m106 := ⟨⟨am_d106, by decide +kernel, rfl, fun h => absurd rfl h⟩, fun _ => am_w_1037⟩
theorem am_od107 : am_MF am_m107 := ⟨⟨am_d107, by decide +kernel, rfl, fun h => absurd rfl h⟩, fun _ => am_w_1006⟩
theorem am_od108 : am_MF am_m108 := ⟨⟨am_d108, by decide +kernel, rfl, fun h => absurd rfl h⟩, fun _ => am_w_1045⟩
theorem am_od109 : am_MF am_m109 := ⟨⟨am_d109, by decide +kernel, rfl, fun h => absurd rfl h⟩, fun _ => am_w_932⟩
theorem am_od110 : am_MF am_m110 := ⟨⟨am_d110, by decide +kernel, rfl, fun h => absurd rfl h⟩, fun _ => am_w_951⟩
theorem am_od111 : am_MF am_m111 := ⟨⟨am_d111, by decide +kernel, rfl, fun h => absurd rfl h⟩, fun _ => am_w_1025⟩
theorem am_od112 : am_MF am_m112 := ⟨⟨am_d112, by decide +kernel, rfl, fun h => absurd rfl h⟩, fun _ => am_w_1073⟩
theorem am_od113 : am_MF am_m113 := ⟨⟨am_d113, by decide +kernel, rfl, fun h => absurd rfl h⟩, fun _ => am_w_935⟩
theorem am_od114 : am_MF am_m114 := ⟨⟨am_d114, by decide +kernel, rfl, fun h => absurd rfl h⟩, fun _ => am_w_991⟩
theorem am_od115 : am_MF am_m115 := ⟨⟨am_d115, by decide +kernel, rfl, fun h => absurd rfl h⟩, fun _ => am_w_1085⟩
theorem am_od116 : am_MF am_m116 := ⟨⟨am_d116, by decide +kernel, rfl, fun h => absurd rfl h⟩, fun _ => am_w_1022⟩
theorem am_od117 : am_MF am_m117 := ⟨⟨am_d117, by decide +kernel, rfl, fun h => absurd rfl h⟩, fun _ => am_w_1115⟩
theorem am_od118 : am_MF am_m118 := ⟨⟨am_d118, by decide +kernel, rfl, fun h => absurd rfl h⟩, fun _ => am_w_1111⟩
theorem am_od119 : am_MF am_m119 := ⟨⟨am_d119, by decide +kernel, rfl, fun h => absurd rfl h⟩, fun _ => am_w_1049⟩
theorem am_od120 : am_MF am_m120 := ⟨⟨am_d120, by decide +kernel, rfl, fun h => absurd rfl h⟩, fun _ => am_w_955⟩
theorem am_od121 : am_MF am_m121 := ⟨⟨am_d121, by decide +kernel, rfl, fun h => absurd rfl h⟩, fun _ => am_w_1033⟩
theorem am_od122 : am_MF am_m122 := ⟨⟨am_d122, by decide +kernel, rfl, fun h => absurd rfl h⟩, fun _ => am_w_959⟩
theorem am_od123 : am_MF am_m123 := ⟨⟨am_d123, by decide +kernel, rfl, fun h => absurd rfl h⟩, fun _ => am_w_947⟩
theorem am_od124 : am_MF am_m124 := ⟨⟨am_d124, by decide +kernel, rfl, fun h => absurd rfl h⟩, fun _ => am_w_1069⟩
theorem am_od125 : am_MF am_m125 := ⟨⟨am_d125, by decide +kernel, rfl, fun h => absurd rfl h⟩, fun _ => am_w_943⟩
theorem am_od126 : am_MF am_m126 := ⟨⟨am_d126, by decide +kernel, rfl, fun h => absurd rfl h⟩, fun _ => am_w_1053⟩
theorem am_od127 : am_MF am_m127 := ⟨⟨am_d127, by decide +kernel, rfl, fun h => absurd rfl h⟩, fun _ => am_w_1119⟩
theorem am_od128 : am_MF am_m128 := ⟨⟨am_d128, by decide +kernel, rfl, fun h => absurd rfl h⟩, fun _ => am_w_939⟩
theorem am_od129 : am_MF am_m129 := ⟨⟨am_d129, by decide +kernel, rfl, fun h => absurd rfl h⟩, fun _ => am_w_1097⟩
theorem am_od130 : am_MF am_m130 := ⟨⟨am_d130, by decide +kernel, rfl, fun _ => rfl⟩, fun h => by simp [am_m130] at h⟩
theorem am_od131 : am_MF am_m131 := ⟨⟨am_d131, by decide +kernel, rfl, fun _ => rfl⟩, fun h => by simp [am_m131] at h⟩
theorem am_od132 : am_MF am_m132 := ⟨⟨am_d132, by decide +kernel, rfl, fun _ => rfl⟩, fun h => by simp [am_m132] at h⟩
theorem am_od133 : am_MF am_m133 := ⟨⟨am_d133, by decide +kernel, rfl, fun _ => rfl⟩, fun h => by simp [am_m133] at h⟩
theorem am_od134 : am_MF am_m134 := ⟨⟨am_d134, by decide +kernel, rfl, fun _ => rfl⟩, fun h => by simp [am_m134] at h⟩
theorem am_od135 : am_MF am_m135 := ⟨⟨am_d135, by decide +kernel, rfl, fun _ => rfl⟩, fun h => by simp [am_m135] at h⟩
theorem am_od136 : am_MF am_m136 := ⟨⟨am_d136, by decide +kernel, rfl, fun _ => rfl⟩, fun h => by simp [am_m136] at h⟩
theorem am_od137 : am_MF am_m137 := ⟨⟨am_d137, by decide +kernel, rfl, fun _ => rfl⟩, fun h => by simp [am_m137] at h⟩
theorem am_od138 : am_MF am_m138 := ⟨⟨am_d138, by decide +kernel, rfl, fun _ => rfl⟩, fun h => by simp [am_m138] at h⟩
theorem am_od139 : am_MF am_m139 := ⟨⟨am_d139, by decide +kernel, rfl, fun _ => rfl⟩, fun h => by simp [am_m139] at h⟩
theorem am_od140 : am_MF am_m140 := ⟨⟨am_d140, by decide +kernel, rfl, fun _ => rfl⟩, fun h => by simp [am_m140] at h⟩
theorem am_od141 : am_MF am_m141 := ⟨⟨am_d141, by decide +kernel, rfl, fun _ => rfl⟩, fun h => by simp [am_m141] at h⟩
theorem am_od142 : am_MF am_m142 := ⟨⟨am_d142, by decide +kernel, rfl, fun _ => rfl⟩, fun h => by simp [am_m142] at h⟩
theorem am_od143 : am_MF am_m143 := ⟨⟨am_d143, by decide +kernel, rfl, fun _ => rfl⟩, fun h => by simp [am_m143] at h⟩
theorem am_od144 : am_MF am_m144 := ⟨⟨am_d144, by decide +kernel, rfl, fun h => absurd rfl h⟩, fun _ => am_w_45⟩
theorem am_od145 : am_MF am_m145 := ⟨⟨am_d145, by decide +kernel, rfl, fun h => absurd rfl h⟩, fun _ => am_w_548⟩
theorem am_od146 : am_MF am_m146 := ⟨⟨am_d146, by decide +kernel, rfl, fun h => absurd rfl h⟩, fun _ => am_w_928⟩
theorem am_mets : ∀ (j : Nat) (mj : am_M), am_ms j = some mj → am_okD am_TS am_on mj ∧ (am_h mj = [] → Cond.code (am_y mj) (am_b mj) (am_L mj) (am_r mj) ∈ am_TS) := fun j mj h => (am_ix_cons (P := fun _ mj => am_MF mj) am_od0 (am_ix_cons (P := fun _ mj => am_MF mj) am_od1 (am_ix_cons (P := fun _ mj => am_MF mj) am_od2 (am_ix_cons (P := fun _ mj => am_MF mj) am_od3 (am_ix_cons (P := fun _ mj => am_MF mj) am_od4 (am_ix_cons (P := fun _ mj => am_MF mj) am_od5 (am_ix_cons (P := fun _ mj => am_MF mj) am_od6 (am_ix_cons (P := fun _ mj => am_MF mj) am_od7 (am_ix_cons (P := fun _ mj => am_MF mj) am_od8 (am_ix_cons (P := fun _ mj => am_MF mj) am_od9 (am_ix_cons (P := fun _ mj => am_MF mj) am_od10 (am_ix_cons (P := fun _ mj => am_MF mj) am_od11 (am_ix_cons (P := fun _ mj => am_MF mj) am_od12 (am_ix_cons (P := fun _ mj => am_MF mj) am_od13 (am_ix_cons (P := fun _ mj => am_MF mj) am_od14 (am_ix_cons (P := fun _ mj => am_MF mj) am_od15 (am_ix_cons (P := fun _ mj => am_MF mj) am_od16 (am_ix_cons (P := fun _ mj => am_MF mj) am_od17 (am_ix_cons (P := fun _ mj => am_MF mj) am_od18 (am_ix_cons (P := fun _ mj => am_MF mj) am_od19 (am_ix_cons (P := fun _ mj => am_MF mj) am_od20 (am_ix_cons (P := fun _ mj => am_MF mj) am_od21 (am_ix_cons (P := fun _ mj => am_MF mj) am_od22 (am_ix_cons (P := fun _ mj => am_MF mj) am_od23 (am_ix_cons (P := fun _ mj => am_MF mj) am_od24 (am_ix_cons (P := fun _ mj => am_MF mj) am_od25 (am_ix_cons (P := fun _ mj => am_MF mj) am_od26 (am_ix_cons (P := fun _ mj => am_MF mj) am_od27 (am_ix_cons (P := fun _ mj => am_MF mj) am_od28 (am_ix_cons (P := fun _ mj => am_MF mj) am_od29 (am_ix_cons (P := fun _ mj => am_MF mj) am_od30 (am_ix_cons (P := fun _ mj => am_MF mj) am_od31 (am_ix_cons (P := fun _ mj => am_MF mj) am_od32 (am_ix_cons (P := fun _ mj => am_MF mj) am_od33 (am_ix_cons (P := fun _ mj => am_MF mj) am_od34 (am_ix_cons (P := fun _ mj => am_MF mj) am_od35 (am_ix_cons (P := fun _ mj => am_MF mj) am_od36 (am_ix_cons (P := fun _ mj => am_MF mj) am_od37 (am_ix_cons (P := fun _ mj => am_MF mj) am_od38 (am_ix_cons (P := fun _ mj => am_MF mj) am_od39 (am_ix_cons (P := fun _ mj => am_MF mj) am_od40 (am_ix_cons (P := fun _ mj => am_MF mj) am_od41 (am_ix_cons (P := fun _ mj => am_MF mj) am_od42 (am_ix_cons (P := fun _ mj => am_MF mj) am_od43 (am_ix_cons (P := fun _ mj => am_MF mj) am_od44 (am_ix_cons (P := fun _ mj => am_MF mj) am_od45 (am_ix_cons (P := fun _ mj => am_MF mj) am_od46 (am_ix_cons (P := fun _ mj => am_MF mj) am_od47 (am_ix_cons (P := fun _ mj => am_MF mj) am_od48 (am_ix_cons (P := fun _ mj => am_MF mj) am_od49 (am_ix_cons (P := fun _ mj => am_MF mj) am_od50 (am_ix_cons (P := fun _ mj => am_MF mj) am_od51 (am_ix_cons (P := fun _ mj => am_MF mj) am_od52 (am_ix_cons (P := fun _ mj => am_MF mj) am_od53 (am_ix_cons (P := fun _ mj => am_MF mj) am_od54 (am_ix_cons (P := fun _ mj => am_MF mj) am_od55 (am_ix_cons (P := fun _ mj => am_MF mj) am_od56 (am_ix_cons (P := fun _ mj => am_MF mj) am_od57 (am_ix_cons (P := fun _ mj => am_MF mj) am_od58 (am_ix_cons (P := fun _ mj => am_MF mj) am_od59 (am_ix_cons (P := fun _ mj => am_MF mj) am_od60 (am_ix_cons (P := fun _ mj => am_MF mj) am_od61 (am_ix_cons (P := fun _ mj => am_MF mj) am_od62 (am_ix_cons (P := fun _ mj => am_MF mj) am_od63 (am_ix_cons (P := fun _ mj => am_MF mj) am_od64 (am_ix_cons (P := fun _ mj => am_MF mj) am_od65 (am_ix_cons (P := fun _ mj => am_MF mj) am_od66 (am_ix_cons (P := fun _ mj => am_MF mj) am_od67 (am_ix_cons (P := fun _ mj => am_MF mj) am_od68 (am_ix_cons (P := fun _ mj => am_MF mj) am_od69 (am_ix_cons (P := fun _ mj => am_MF mj) am_od70 (am_ix_cons (P := fun _ mj => am_MF mj) am_od71 (am_ix_cons (P := fun _ mj => am_MF mj) am_od72 (am_ix_cons (P := fun _ mj => am_MF mj) am_od73 (am_ix_cons (P := fun _ mj => am_MF mj) am_od74 (am_ix_cons (P := fun _ mj => am_MF mj) am_od75 (am_ix_cons (P := fun _ mj => am_MF mj) am_od76 (am_ix_cons (P := fun _ mj => am_MF mj) am_od77 (am_ix_cons (P := fun _ mj => am_MF mj) am_od78 (am_ix_cons (P := fun _ mj => am_MF mj) am_od79 (am_ix_cons (P := fun _ mj => am_MF mj) am_od80 (am_ix_cons (P := fun _ mj => am_MF mj) am_od81 (am_ix_cons (P := fun _ mj => am_MF mj) am_od82 (am_ix_cons (P := fun _ mj => am_MF mj) am_od83 (am_ix_cons (P := fun _ mj => am_MF mj) am_od84 (am_ix_cons (P := fun _ mj => am_MF mj) am_od85 (am_ix_cons (P := fun _ mj => am_MF mj) am_od86 (am_ix_cons (P := fun _ mj => am_MF mj) am_od87 (am_ix_cons (P := fun _ mj => am_MF mj) am_od88 (am_ix_cons (P := fun _ mj => am_MF mj) am_od89 (am_ix_cons (P := fun _ mj => am_MF mj) am_od90 (am_ix_cons (P := fun _ mj => am_MF mj) am_od91 (am_ix_cons (P := fun _ mj => am_MF mj) am_od92 (am_ix_cons (P := fun _ mj => am_MF mj) am_od93 (am_ix_cons (P := fun _ mj => am_MF mj) am_od94 (am_ix_cons (P := fun _ mj => am_MF mj) am_od95 (am_ix_cons (P := fun _ mj => am_MF mj) am_od96 (am_ix_cons (P := fun _ mj => am_MF mj) am_od97 (am_ix_cons (P := fun _ mj => am_MF mj) am_od98 (am_ix_cons (P := fun _ mj => am_MF mj) am_od99 (am_ix_cons (P := fun _ mj => am_MF mj) am_od100 (am_ix_cons (P := fun _ mj => am_MF mj) am_od101 (am_ix_cons (P := fun _ mj => am_MF mj) am_od102 (am_ix_cons (P := fun _ mj => am_MF mj) am_od103 (am_ix_cons (P := fun _ mj => am_MF mj) am_od104 (am_ix_cons (P := fun _ mj => am_MF mj) am_od105 (am_ix_cons (P := fun _ mj => am_MF mj) am_od106 (am_ix_cons (P := fun _ mj => am_MF mj) am_od107 (am_ix_cons (P := fun _ mj => am_MF mj) am_od108 (am_ix_cons (P := fun _ mj => am_MF mj) am_od109 (am_ix_cons (P := fun _ mj => am_MF mj) am_od110 (am_ix_cons (P := fun _ mj => am_MF mj) am_od111 (am_ix_cons (P := fun _ mj => am_MF mj) am_od112 (am_ix_cons (P := fun _ mj => am_MF mj) am_od113 (am_ix_cons (P := fun _ mj => am_MF mj) am_od114 (am_ix_cons (P := fun _ mj => am_MF mj) am_od115 (am_ix_cons (P := fun _ mj => am_MF mj) am_od116 (am_ix_cons (P := fun _ mj => am_MF mj) am_od117 (am_ix_cons (P := fun _ mj => am_MF mj) am_od118 (am_ix_cons (P := fun _ mj => am_MF mj) am_od119 (am_ix_cons (P := fun _ mj => am_MF mj) am_od120 (am_ix_cons (P := fun _ mj => am_MF mj) am_od121 (am_ix_cons (P := fun _ mj => am_MF mj) am_od122 (am_ix_cons (P := fun _ mj => am_MF mj) am_od123 (am_ix_cons (P := fun _ mj => am_MF mj) am_od124 (am_ix_cons (P := fun _ mj => am_MF mj) am_od125 (am_ix_cons (P := fun _ mj => am_MF mj) am_od126 (am_ix_cons (P := fun _ mj => am_MF mj) am_od127 (am_ix_cons (P := fun _ mj => am_MF mj) am_od128 (am_ix_cons (P := fun _ mj => am_MF mj) am_od129 (am_ix_cons (P := fun _ mj => am_MF mj) am_od130 (am_ix_cons (P := fun _ mj => am_MF mj) am_od131 (am_ix_cons (P := fun _ mj => am_MF mj) am_od132 (am_ix_cons (P := fun _ mj => am_MF mj) am_od133 (am_ix_cons (P := fun _ mj => am_MF mj) am_od134 (am_ix_cons (P := fun _ mj => am_MF mj) am_od135 (am_ix_cons (P := fun _ mj => am_MF mj) am_od136 (am_ix_cons (P := fun _ mj => am_MF mj) am_od137 (am_ix_cons (P := fun _ mj => am_MF mj) am_od138 (am_ix_cons (P := fun _ mj => am_MF mj) am_od139 (am_ix_cons (P := fun _ mj => am_MF mj) am_od140 (am_ix_cons (P := fun _ mj => am_MF mj) am_od141 (am_ix_cons (P := fun _ mj => am_MF mj) am_od142 (am_ix_cons (P := fun _ mj => am_MF mj) am_od143 (am_ix_cons (P := fun _ mj => am_MF mj) am_od144 (am_ix_cons (P := fun _ mj => am_MF mj) am_od145 (am_ix_cons (P := fun _ mj => am_MF mj) am_od146 (am_ix_nil))))))))))))))))))))))))))))))))))))))))))))))))))))))))))))))))))))))))))))))))))))))))))))))))))))))))))))))))))))))))))))))))))))))))))))))))))) : ∀ (j : Nat) (mj : am_M), am_msl[j]? = some mj → am_MF mj) j mj h
theorem am_odlaw : am_okD am_TS am_on am_law := ⟨am_d147, by decide +kernel, rfl, fun h => absurd rfl h⟩
