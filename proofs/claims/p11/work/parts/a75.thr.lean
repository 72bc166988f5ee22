/-! ===== throws ===== -/
set_option maxRecDepth 100000
def am_cov (w : Cond) : Bool := decide (w ∈ am_TS) || decide (w ∈ am_fas) || decide (w = .laysStatic Bundle.tN "UNASSIGNED_STACK" Bundle.steD) || decide (w = .isRef (.static Bundle.tN "UNASSIGNED_STACK" Bundle.steD)) || decide (w = .laysStatic Bundle.tN "SUPPRESSED_SENTINEL" Bundle.listD) || decide (w = .isRef (.static Bundle.tN "SUPPRESSED_SENTINEL" Bundle.listD))
theorem am_cov_use {b : Nat} {w : Cond} {U : State} {a' : Array Value} (h : am_cov w = true) (ht : ∀ w ∈ am_TS, w.before a' U = true) (hz : am_Zy b U) : w.before a' U = true := by
  simp only [am_cov, Bool.or_eq_true, decide_eq_true_eq] at h
  rcases h with ((((h | h) | h) | h) | h) | h
  · exact ht w h
  · exact am_Fa.use am_fas_ok hz.2 h a'
  · subst h; exact am_St.lays hz.1.2.2.2.2.1 a'
  · subst h; exact am_St.ref hz.1.2.2.2.2.1 a'
  · subst h; exact am_St.lays hz.1.2.2.2.2.2.1 a'
  · subst h; exact am_St.ref hz.1.2.2.2.2.2.1 a'
theorem am_okT_of {b ix is ic ci jx : Nat} {own C text : String} {rx : ByteArray} {T : u_T} {names : List String} (h1 : am_cl[ci]? = some (C, T, 0)) (w1 : Cond.classLink own ix C ∈ am_TS) (w2 : Cond.instantiable C 6 ∈ am_TS) (w3 : Cond.initialized C ∈ am_TS) (h2 : Bundle.fit C = true) (h3 : ∀ x ∈ names, Bundle.fit x = true) (h4 : names.length ≤ 3) (h5 : decode rx 0 = .ok (.aload_n 0, 1) ∧ decode rx 1 = .ok (.aload_n 1, 1) ∧ decode rx 2 = .ok (.invokespecial jx, 3) ∧ decode rx 5 = .ok (.return_, 1)) (h6 : (Bundle.ownAtomsX own ic C jx rx names).all am_cov = true) (h7 : (own, is, text) ∈ am_sts) : am_okT am_TS am_cl (am_Zy b) own ix is ic ci :=
  ⟨C, text, T, names, jx, rx, h1, w1, w2, w3, h2, h3, h4, h5, fun U a' ht hz w hw => am_cov_use (List.all_eq_true.mp h6 w hw) ht hz, fun U hz => hz.1.1 _ h7⟩
theorem am_cv10 : (Bundle.ownAtomsX "OverlayNet" 55 "java/lang/IllegalArgumentException" 7 prog_13_method_2_code ["java/lang/RuntimeException", "java/lang/Exception"]).all am_cov = true := by decide +kernel
theorem am_ot10 (b : Nat) {is : Nat} {text : String} (h7 : ("OverlayNet", is, text) ∈ am_sts) : am_okT am_TS am_cl (am_Zy b) "OverlayNet" 51 is 55 10 := am_okT_of (C := "java/lang/IllegalArgumentException") (names := ["java/lang/RuntimeException", "java/lang/Exception"]) (jx := 7) (rx := prog_13_method_2_code) rfl am_w_290 am_w_291 am_w_14 (by decide +kernel) (by decide +kernel) (by decide) (by decide +kernel) am_cv10 h7
theorem am_cv11 : (Bundle.ownAtomsX "OverlayNet" 70 "java/lang/IllegalStateException" 7 prog_14_method_2_code ["java/lang/RuntimeException", "java/lang/Exception"]).all am_cov = true := by decide +kernel
theorem am_ot11 (b : Nat) {is : Nat} {text : String} (h7 : ("OverlayNet", is, text) ∈ am_sts) : am_okT am_TS am_cl (am_Zy b) "OverlayNet" 66 is 70 11 := am_okT_of (C := "java/lang/IllegalStateException") (names := ["java/lang/RuntimeException", "java/lang/Exception"]) (jx := 7) (rx := prog_14_method_2_code) rfl am_w_362 am_w_363 am_w_15 (by decide +kernel) (by decide +kernel) (by decide) (by decide +kernel) am_cv11 h7
theorem am_cv12 : (Bundle.ownAtomsX "OverlayNet" 173 "java/util/NoSuchElementException" 13 prog_22_method_4_code ["java/lang/RuntimeException", "java/lang/Exception"]).all am_cov = true := by decide +kernel
theorem am_ot12 (b : Nat) {is : Nat} {text : String} (h7 : ("OverlayNet", is, text) ∈ am_sts) : am_okT am_TS am_cl (am_Zy b) "OverlayNet" 169 is 173 12 := am_okT_of (C := "java/util/NoSuchElementException") (names := ["java/lang/RuntimeException", "java/lang/Exception"]) (jx := 13) (rx := prog_22_method_4_code) rfl am_w_711 am_w_712 am_w_20 (by decide +kernel) (by decide +kernel) (by decide) (by decide +kernel) am_cv12 h7
