/-! ===== what the tables say of the methods and of the links ===== -/
set_option maxRecDepth 100000
def am_LL (b : Nat) (own : String) (ix : Nat) (kk : am_K) : Prop := am_okL am_TS am_cl am_tyl (am_Zy b) own ix kk ∧ am_okK am_TS am_cl am_ms (am_Zy b) own ix kk
section AMLL
variable {b : Nat} {own : String} {ix a j : Nat} {d : Int}
theorem am_LL0 {C : String} {T : u_T} {N : Nat} (h1 : am_cl[a]? = some (C, T, N)) (h2 : j < N) (h3 : (T j).1 = C) (hw : Cond.fieldLink own ix C (T j).2.1 (T j).2.2.1 ∈ am_TS) (h4 : (T j).2.2.2 = false) : am_LL b own ix (0, a, j, d) :=
  ⟨⟨fun _ => ⟨C, T, N, h1, h2, h3, fun _ => hw, fun h => by simp at h, fun _ => h4, fun h => by simp at h⟩, fun h => by simp at h, fun h => by simp at h, fun h => by simp at h, fun h => by simp at h, fun h => by simp at h, fun h => by simp at h, fun h => by simp at h⟩, ⟨fun h => by simp at h, fun h => by simp at h, fun h => by simp at h⟩⟩
theorem am_LL2 {T : u_T} {N : Nat} (h1 : am_cl[a]? = some (own, T, N)) (h2 : j < N) (h3 : (T j).1 = own) (hw : Cond.fieldLink own ix own (T j).2.1 (T j).2.2.1 ∈ am_TS) (h4 : (T j).2.2.2 = true) : am_LL b own ix (2, a, j, d) :=
  ⟨⟨fun _ => ⟨own, T, N, h1, h2, h3, fun _ => hw, fun h => by simp at h, fun h => by simp at h, fun _ => ⟨h4, rfl⟩⟩, fun h => by simp at h, fun h => by simp at h, fun h => by simp at h, fun h => by simp at h, fun h => by simp at h, fun h => by simp at h, fun h => by simp at h⟩, ⟨fun h => by simp at h, fun h => by simp at h, fun h => by simp at h⟩⟩
theorem am_LL3 {C : String} {T : u_T} {N : Nat} (h1 : am_cl[a]? = some (C, T, N)) (h2 : j < N) (h3 : (T j).1 = C) (hw : Cond.fieldLink own ix C (T j).2.1 (T j).2.2.1 ∈ am_TS) : am_LL b own ix (3, a, j, d) :=
  ⟨⟨fun _ => ⟨C, T, N, h1, h2, h3, fun _ => hw, fun h => by simp at h, fun h => by simp at h, fun h => by simp at h⟩, fun h => by simp at h, fun h => by simp at h, fun h => by simp at h, fun h => by simp at h, fun h => by simp at h, fun h => by simp at h, fun h => by simp at h⟩, ⟨fun h => by simp at h, fun h => by simp at h, fun h => by simp at h⟩⟩
theorem am_LL9 {C : String} {T : u_T} {N : Nat} (h1 : am_cl[a]? = some (C, T, N)) (w1 : Cond.classLink own ix C ∈ am_TS) (w2 : Cond.instantiable C N ∈ am_TS) (w3 : Cond.initialized C ∈ am_TS) (h2 : 3 ≤ j → am_tyl[j]? = some (.object C) ∧ C ∈ am_aos) : am_LL b own ix (9, a, j, d) :=
  ⟨⟨fun h => by simp at h, fun _ => ⟨C, T, N, h1, w1, w2, w3⟩, fun _ h => ⟨C, (h2 h).1, w1, fun s hz => hz.1.2.2.1 C (h2 h).2⟩, fun h => by simp at h, fun h => by simp at h, fun h => by simp at h, fun h => by simp at h, fun h => by simp at h⟩, ⟨fun h => by simp at h, fun h => by simp at h, fun h => by simp at h⟩⟩
theorem am_LL12 (hw : Cond.constant own ix (Int32.ofInt d) ∈ am_TS) : am_LL b own ix (12, a, j, d) :=
  ⟨⟨fun h => by simp at h, fun h => by simp at h, fun h => by simp at h, fun _ => hw, fun h => by simp at h, fun h => by simp at h, fun h => by simp at h, fun h => by simp at h⟩, ⟨fun h => by simp at h, fun h => by simp at h, fun h => by simp at h⟩⟩
theorem am_LL26 (w1 : Cond.methodLink own ix objectInit ∈ am_TS) (w2 : Cond.instanceMethod objectInit ∈ am_TS) (w3 : Cond.code objectInit ⟨#[0xb1]⟩ 1 none ∈ am_TS) : am_LL b own ix (26, a, j, d) :=
  ⟨⟨fun h => by simp at h, fun h => by simp at h, fun h => by simp at h, fun h => by simp at h, fun _ => ⟨w1, w2, w3⟩, fun h => by simp at h, fun h => by simp at h, fun h => by simp at h⟩, ⟨fun h => by simp at h, fun h => by simp at h, fun h => by simp at h⟩⟩
theorem am_LL27 (w1 : Cond.methodLink own ix Lib.Math.min.name ∈ am_TS) (w2 : Cond.static Lib.Math.min.name ∈ am_TS) (w3 : Cond.initialized "java/lang/Math" ∈ am_TS) (w4 : Cond.code Lib.Math.min.name Lib.Math.min.code 2 (some .int) ∈ am_TS) : am_LL b own ix (27, a, j, d) :=
  ⟨⟨fun h => by simp at h, fun h => by simp at h, fun h => by simp at h, fun h => by simp at h, fun h => by simp at h, fun _ => ⟨w1, w2, w3, w4⟩, fun h => by simp at h, fun h => by simp at h⟩, ⟨fun h => by simp at h, fun h => by simp at h, fun h => by simp at h⟩⟩
theorem am_LL28 (w1 : Cond.methodLink own ix Lib.Math.max.name ∈ am_TS) (w2 : Cond.static Lib.Math.max.name ∈ am_TS) (w3 : Cond.initialized "java/lang/Math" ∈ am_TS) (w4 : Cond.code Lib.Math.max.name Lib.Math.max.code 2 (some .int) ∈ am_TS) : am_LL b own ix (28, a, j, d) :=
  ⟨⟨fun h => by simp at h, fun h => by simp at h, fun h => by simp at h, fun h => by simp at h, fun h => by simp at h, fun h => by simp at h, fun _ => ⟨w1, w2, w3, w4⟩, fun h => by simp at h⟩, ⟨fun h => by simp at h, fun h => by simp at h, fun h => by simp at h⟩⟩
theorem am_LL20 {mj : am_M} {C : String} {T : u_T} {N ci : Nat} (h1 : am_ms a = some mj) (h2 : am_okM am_TS mj) (h3 : am_par mj j) (w1 : Cond.instanceMethod (am_y mj) ∈ am_TS) (w2 : Cond.selects C (am_y mj) (am_y mj) ∈ am_TS) (h4 : am_cl[ci]? = some (C, T, N)) (w3 : Cond.methodLink own ix (am_y mj) ∈ am_TS) : am_LL b own ix (20, a, j, (ci : Int)) :=
  ⟨⟨fun h => by simp at h, fun h => by simp at h, fun h => by simp at h, fun h => by simp at h, fun h => by simp at h, fun h => by simp at h, fun h => by simp at h, fun h => by simp at h⟩, ⟨fun _ => ⟨mj, C, T, N, ci, h1, h2, h3, w1, w2, rfl, h4, fun _ => w3, fun h => by simp at h⟩, fun h => by simp at h, fun h => by simp at h⟩⟩
theorem am_LL22 {mj : am_M} (h1 : am_ms a = some mj) (h2 : am_okM am_TS mj ∨ am_okW am_TS mj) (h3 : am_par mj j) (w1 : Cond.static (am_y mj) ∈ am_TS) (w3 : Cond.methodLink own ix (am_y mj) ∈ am_TS) : am_LL b own ix (22, a, j, d) :=
  ⟨⟨fun h => by simp at h, fun h => by simp at h, fun h => by simp at h, fun h => by simp at h, fun h => by simp at h, fun h => by simp at h, fun h => by simp at h, fun h => by simp at h⟩, ⟨fun h => by simp at h, fun _ => ⟨mj, h1, h3, w1, fun _ => ⟨h2, w3⟩, fun h => by simp at h⟩, fun h => by simp at h⟩⟩
theorem am_LL24 {mj : am_M} (h1 : am_ms a = some mj) (h2 : am_okM am_TS mj) (h3 : am_par mj j) (w1 : Cond.instanceMethod (am_y mj) ∈ am_TS) (h4 : (am_y mj).name = "<init>") (h5 : am_r mj = none) (w3 : Cond.methodLink own ix (am_y mj) ∈ am_TS) : am_LL b own ix (24, a, j, d) :=
  ⟨⟨fun h => by simp at h, fun h => by simp at h, fun h => by simp at h, fun h => by simp at h, fun h => by simp at h, fun h => by simp at h, fun h => by simp at h, fun h => by simp at h⟩, ⟨fun h => by simp at h, fun h => by simp at h, fun _ => ⟨mj, h1, h2, h3, w1, h4, h5, fun _ => w3, fun h => by simp at h⟩⟩⟩
theorem am_LL25 {mj : am_M} {host : String} (h1 : am_ms a = some mj) (h2 : am_okM am_TS mj) (h3 : am_par mj j) (w1 : Cond.instanceMethod (am_y mj) ∈ am_TS) (h4 : (am_y mj).name = "<init>") (h5 : am_r mj = none) (w3 : Cond.methodLinkNest own ix (am_y mj) host ∈ am_nws) : am_LL b own ix (25, a, j, d) :=
  ⟨⟨fun h => by simp at h, fun h => by simp at h, fun h => by simp at h, fun h => by simp at h, fun h => by simp at h, fun h => by simp at h, fun h => by simp at h, fun h => by simp at h⟩, ⟨fun h => by simp at h, fun h => by simp at h, fun _ => ⟨mj, h1, h2, h3, w1, h4, h5, fun h => by simp at h, fun _ => ⟨host, fun s hz => hz.1.2.1 _ w3⟩⟩⟩⟩
/-- kinds that am_okL and am_okK say nothing of -/
theorem am_LLo {n : Nat} (hn : n = 11 ∨ n = 13 ∨ n = 14 ∨ n = 15) : am_LL b own ix (n, a, j, d) := by
  rcases hn with rfl | rfl | rfl | rfl <;> exact ⟨⟨fun h => by simp at h, fun h => by simp at h, fun h => by simp at h, fun h => by simp at h, fun h => by simp at h, fun h => by simp at h, fun h => by simp at h, fun h => by simp at h⟩, ⟨fun h => by simp at h, fun h => by simp at h, fun h => by simp at h⟩⟩
theorem am_LL29 (w1 : Cond.methodLink own ix arraycopyName ∈ am_TS) (w2 : Cond.native arraycopyName ∈ am_TS) (w3 : Cond.static arraycopyName ∈ am_TS) (w4 : Cond.initialized "java/lang/System" ∈ am_TS) : am_LL b own ix (29, a, j, d) :=
  ⟨⟨fun h => by simp at h, fun h => by simp at h, fun h => by simp at h, fun h => by simp at h, fun h => by simp at h, fun h => by simp at h, fun h => by simp at h, fun _ => ⟨w1, w2, w3, w4⟩⟩, ⟨fun h => by simp at h, fun h => by simp at h, fun h => by simp at h⟩⟩
end AMLL
theorem am_om0 : am_okM am_TS am_m0 := ⟨rfl, am_w_25, am_w_1, by decide, by decide⟩
theorem am_op0 : am_par am_m0 0 := by unfold am_par; decide +kernel
theorem am_om1 : am_okM am_TS am_m1 := ⟨rfl, am_w_661, am_w_1, by decide, by decide⟩
theorem am_op1 : am_par am_m1 1 := by unfold am_par; decide +kernel
theorem am_om2 : am_okM am_TS am_m2 := ⟨rfl, am_w_262, am_w_1, by decide, by decide⟩
theorem am_op2 : am_par am_m2 1 := by unfold am_par; decide +kernel
theorem am_om3 : am_okM am_TS am_m3 := ⟨rfl, am_w_700, am_w_1, by decide, by decide⟩
theorem am_op3 : am_par am_m3 2 := by unfold am_par; decide +kernel
theorem am_om4 : am_okM am_TS am_m4 := ⟨rfl, am_w_274, am_w_1, by decide, by decide⟩
theorem am_op4 : am_par am_m4 0 := by unfold am_par; decide +kernel
theorem am_om5 : am_okM am_TS am_m5 := ⟨rfl, am_w_756, am_w_1, by decide, by decide⟩
theorem am_op5 : am_par am_m5 3 := by unfold am_par; decide +kernel
theorem am_om6 : am_okM am_TS am_m6 := ⟨rfl, am_w_510, am_w_1, by decide, by decide⟩
theorem am_op6 : am_par am_m6 2 := by unfold am_par; decide +kernel
theorem am_om7 : am_okM am_TS am_m7 := ⟨rfl, am_w_502, am_w_1, by decide, by decide⟩
theorem am_op7 : am_par am_m7 2 := by unfold am_par; decide +kernel
theorem am_om8 : am_okM am_TS am_m8 := ⟨rfl, am_w_514, am_w_1, by decide, by decide⟩
theorem am_op8 : am_par am_m8 2 := by unfold am_par; decide +kernel
theorem am_om9 : am_okM am_TS am_m9 := ⟨rfl, am_w_480, am_w_1, by decide, by decide⟩
theorem am_op9 : am_par am_m9 1 := by unfold am_par; decide +kernel
theorem am_om10 : am_okM am_TS am_m10 := ⟨rfl, am_w_733, am_w_1, by decide, by decide⟩
theorem am_op10 : am_par am_m10 2 := by unfold am_par; decide +kernel
theorem am_om11 : am_okM am_TS am_m11 := ⟨rfl, am_w_709, am_w_1, by decide, by decide⟩
theorem am_op11 : am_par am_m11 3 := by unfold am_par; decide +kernel
theorem am_om12 : am_okM am_TS am_m12 := ⟨rfl, am_w_484, am_w_1, by decide, by decide⟩
theorem am_op12 : am_par am_m12 2 := by unfold am_par; decide +kernel
theorem am_om13 : am_okM am_TS am_m13 := ⟨rfl, am_w_289, am_w_1, by decide, by decide⟩
theorem am_op13 : am_par am_m13 2 := by unfold am_par; decide +kernel
theorem am_om14 : am_okM am_TS am_m14 := ⟨rfl, am_w_286, am_w_1, by decide, by decide⟩
theorem am_op14 : am_par am_m14 1 := by unfold am_par; decide +kernel
theorem am_om15 : am_okM am_TS am_m15 := ⟨rfl, am_w_457, am_w_1, by decide, by decide⟩
theorem am_op15 : am_par am_m15 1 := by unfold am_par; decide +kernel
theorem am_om16 : am_okM am_TS am_m16 := ⟨rfl, am_w_506, am_w_1, by decide, by decide⟩
theorem am_op16 : am_par am_m16 2 := by unfold am_par; decide +kernel
theorem am_om17 : am_okM am_TS am_m17 := ⟨rfl, am_w_765, am_w_1, by decide, by decide⟩
theorem am_op17 : am_par am_m17 2 := by unfold am_par; decide +kernel
theorem am_om18 : am_okM am_TS am_m18 := ⟨rfl, am_w_601, am_w_1, by decide, by decide⟩
theorem am_op18 : am_par am_m18 2 := by unfold am_par; decide +kernel
theorem am_om19 : am_okM am_TS am_m19 := ⟨rfl, am_w_640, am_w_1, by decide, by decide⟩
theorem am_op19 : am_par am_m19 1 := by unfold am_par; decide +kernel
theorem am_om20 : am_okM am_TS am_m20 := ⟨rfl, am_w_283, am_w_1, by decide, by decide⟩
theorem am_op20 : am_par am_m20 3 := by unfold am_par; decide +kernel
theorem am_om21 : am_okM am_TS am_m21 := ⟨rfl, am_w_361, am_w_1, by decide, by decide⟩
theorem am_op21 : am_par am_m21 2 := by unfold am_par; decide +kernel
theorem am_om22 : am_okM am_TS am_m22 := ⟨rfl, am_w_453, am_w_1, by decide, by decide⟩
theorem am_op22 : am_par am_m22 2 := by unfold am_par; decide +kernel
theorem am_om23 : am_okM am_TS am_m23 := ⟨rfl, am_w_266, am_w_1, by decide, by decide⟩
theorem am_op23 : am_par am_m23 0 := by unfold am_par; decide +kernel
theorem am_om24 : am_okM am_TS am_m24 := ⟨rfl, am_w_665, am_w_1, by decide, by decide⟩
theorem am_op24 : am_par am_m24 1 := by unfold am_par; decide +kernel
theorem am_om25 : am_okM am_TS am_m25 := ⟨rfl, am_w_270, am_w_1, by decide, by decide⟩
theorem am_op25 : am_par am_m25 0 := by unfold am_par; decide +kernel
theorem am_om26 : am_okM am_TS am_m26 := ⟨rfl, am_w_529, am_w_1, by decide, by decide⟩
theorem am_op26 : am_par am_m26 2 := by unfold am_par; decide +kernel
theorem am_om27 : am_okM am_TS am_m27 := ⟨rfl, am_w_782, am_w_1, by decide, by decide⟩
theorem am_op27 : am_par am_m27 2 := by unfold am_par; decide +kernel
theorem am_om28 : am_okM am_TS am_m28 := ⟨rfl, am_w_774, am_w_1, by decide, by decide⟩
theorem am_op28 : am_par am_m28 1 := by unfold am_par; decide +kernel
theorem am_om29 : am_okM am_TS am_m29 := ⟨rfl, am_w_648, am_w_1, by decide, by decide⟩
theorem am_op29 : am_par am_m29 1 := by unfold am_par; decide +kernel
theorem am_om30 : am_okM am_TS am_m30 := ⟨rfl, am_w_588, am_w_1, by decide, by decide⟩
theorem am_op30 : am_par am_m30 3 := by unfold am_par; decide +kernel
theorem am_om31 : am_okM am_TS am_m31 := ⟨rfl, am_w_471, am_w_1, by decide, by decide⟩
theorem am_op31 : am_par am_m31 0 := by unfold am_par; decide +kernel
theorem am_om32 : am_okM am_TS am_m32 := ⟨rfl, am_w_680, am_w_1, by decide, by decide⟩
theorem am_op32 : am_par am_m32 0 := by unfold am_par; decide +kernel
theorem am_om33 : am_okM am_TS am_m33 := ⟨rfl, am_w_653, am_w_1, by decide, by decide⟩
theorem am_op33 : am_par am_m33 0 := by unfold am_par; decide +kernel
theorem am_om34 : am_okM am_TS am_m34 := ⟨rfl, am_w_790, am_w_1, by decide, by decide⟩
theorem am_op34 : am_par am_m34 2 := by unfold am_par; decide +kernel
theorem am_om35 : am_okM am_TS am_m35 := ⟨rfl, am_w_197, am_w_8, by decide, by decide⟩
theorem am_op35 : am_par am_m35 0 := by unfold am_par; decide +kernel
theorem am_om36 : am_okM am_TS am_m36 := ⟨rfl, am_w_684, am_w_8, by decide, by decide⟩
theorem am_op36 : am_par am_m36 1 := by unfold am_par; decide +kernel
theorem am_om37 : am_okM am_TS am_m37 := ⟨rfl, am_w_33, am_w_2, by decide, by decide⟩
theorem am_op37 : am_par am_m37 0 := by unfold am_par; decide +kernel
theorem am_om38 : am_okM am_TS am_m38 := ⟨rfl, am_w_633, am_w_2, by decide, by decide⟩
theorem am_op38 : am_par am_m38 1 := by unfold am_par; decide +kernel
theorem am_om39 : am_okM am_TS am_m39 := ⟨rfl, am_w_541, am_w_2, by decide, by decide⟩
theorem am_op39 : am_par am_m39 2 := by unfold am_par; decide +kernel
theorem am_om40 : am_okM am_TS am_m40 := ⟨rfl, am_w_555, am_w_2, by decide, by decide⟩
theorem am_op40 : am_par am_m40 0 := by unfold am_par; decide +kernel
theorem am_om41 : am_okM am_TS am_m41 := ⟨rfl, am_w_533, am_w_2, by decide, by decide⟩
theorem am_op41 : am_par am_m41 3 := by unfold am_par; decide +kernel
theorem am_om42 : am_okM am_TS am_m42 := ⟨rfl, am_w_657, am_w_2, by decide, by decide⟩
theorem am_op42 : am_par am_m42 0 := by unfold am_par; decide +kernel
theorem am_om43 : am_okM am_TS am_m43 := ⟨rfl, am_w_73, am_w_6, by decide, by decide⟩
theorem am_op43 : am_par am_m43 0 := by unfold am_par; decide +kernel
theorem am_om44 : am_okM am_TS am_m44 := ⟨rfl, am_w_537, am_w_6, by decide, by decide⟩
theorem am_op44 : am_par am_m44 1 := by unfold am_par; decide +kernel
theorem am_om45 : am_okM am_TS am_m45 := ⟨rfl, am_w_216, am_w_9, by decide, by decide⟩
theorem am_op45 : am_par am_m45 0 := by unfold am_par; decide +kernel
theorem am_om46 : am_okM am_TS am_m46 := ⟨rfl, am_w_476, am_w_9, by decide, by decide⟩
theorem am_op46 : am_par am_m46 0 := by unfold am_par; decide +kernel
theorem am_om47 : am_okM am_TS am_m47 := ⟨rfl, am_w_467, am_w_9, by decide, by decide⟩
theorem am_op47 : am_par am_m47 5 := by unfold am_par; decide +kernel
theorem am_om48 : am_okM am_TS am_m48 := ⟨rfl, am_w_581, am_w_9, by decide, by decide⟩
theorem am_op48 : am_par am_m48 0 := by unfold am_par; decide +kernel
theorem am_om49 : am_okM am_TS am_m49 := ⟨rfl, am_w_381, am_w_16, by decide, by decide⟩
theorem am_op49 : am_par am_m49 4 := by unfold am_par; decide +kernel
theorem am_om50 : am_okM am_TS am_m50 := ⟨rfl, am_w_594, am_w_16, by decide, by decide⟩
theorem am_op50 : am_par am_m50 2 := by unfold am_par; decide +kernel
theorem am_om51 : am_okM am_TS am_m51 := ⟨rfl, am_w_493, am_w_16, by decide, by decide⟩
theorem am_op51 : am_par am_m51 2 := by unfold am_par; decide +kernel
theorem am_om52 : am_okM am_TS am_m52 := ⟨rfl, am_w_498, am_w_16, by decide, by decide⟩
theorem am_op52 : am_par am_m52 0 := by unfold am_par; decide +kernel
theorem am_om53 : am_okM am_TS am_m53 := ⟨rfl, am_w_693, am_w_16, by decide, by decide⟩
theorem am_op53 : am_par am_m53 1 := by unfold am_par; decide +kernel
theorem am_om54 : am_okM am_TS am_m54 := ⟨rfl, am_w_489, am_w_16, by decide, by decide⟩
theorem am_op54 : am_par am_m54 2 := by unfold am_par; decide +kernel
theorem am_om55 : am_okM am_TS am_m55 := ⟨rfl, am_w_518, am_w_16, by decide, by decide⟩
theorem am_op55 : am_par am_m55 3 := by unfold am_par; decide +kernel
theorem am_om56 : am_okM am_TS am_m56 := ⟨rfl, am_w_522, am_w_16, by decide, by decide⟩
theorem am_op56 : am_par am_m56 2 := by unfold am_par; decide +kernel
theorem am_om57 : am_okM am_TS am_m57 := ⟨rfl, am_w_67, am_w_5, by decide, by decide⟩
theorem am_op57 : am_par am_m57 0 := by unfold am_par; decide +kernel
theorem am_om58 : am_okM am_TS am_m58 := ⟨rfl, am_w_743, am_w_5, by decide, by decide⟩
theorem am_op58 : am_par am_m58 0 := by unfold am_par; decide +kernel
theorem am_om59 : am_okM am_TS am_m59 := ⟨rfl, am_w_567, am_w_5, by decide, by decide⟩
theorem am_op59 : am_par am_m59 1 := by unfold am_par; decide +kernel
theorem am_om60 : am_okM am_TS am_m60 := ⟨rfl, am_w_739, am_w_5, by decide, by decide⟩
theorem am_op60 : am_par am_m60 1 := by unfold am_par; decide +kernel
theorem am_om61 : am_okM am_TS am_m61 := ⟨rfl, am_w_747, am_w_5, by decide, by decide⟩
theorem am_op61 : am_par am_m61 1 := by unfold am_par; decide +kernel
theorem am_om62 : am_okM am_TS am_m62 := ⟨rfl, am_w_39, am_w_3, by decide, by decide⟩
theorem am_op62 : am_par am_m62 0 := by unfold am_par; decide +kernel
theorem am_om63 : am_okM am_TS am_m63 := ⟨rfl, am_w_670, am_w_3, by decide, by decide⟩
theorem am_op63 : am_par am_m63 1 := by unfold am_par; decide +kernel
theorem am_om64 : am_okM am_TS am_m64 := ⟨rfl, am_w_623, am_w_3, by decide, by decide⟩
theorem am_op64 : am_par am_m64 2 := by unfold am_par; decide +kernel
theorem am_om65 : am_okM am_TS am_m65 := ⟨rfl, am_w_619, am_w_3, by decide, by decide⟩
theorem am_op65 : am_par am_m65 1 := by unfold am_par; decide +kernel
theorem am_om66 : am_okM am_TS am_m66 := ⟨rfl, am_w_629, am_w_3, by decide, by decide⟩
theorem am_op66 : am_par am_m66 1 := by unfold am_par; decide +kernel
theorem am_om67 : am_okM am_TS am_m67 := ⟨rfl, am_w_615, am_w_3, by decide, by decide⟩
theorem am_op67 : am_par am_m67 2 := by unfold am_par; decide +kernel
theorem am_om68 : am_okM am_TS am_m68 := ⟨rfl, am_w_559, am_w_3, by decide, by decide⟩
theorem am_op68 : am_par am_m68 3 := by unfold am_par; decide +kernel
theorem am_om69 : am_okM am_TS am_m69 := ⟨rfl, am_w_545, am_w_3, by decide, by decide⟩
theorem am_op69 : am_par am_m69 2 := by unfold am_par; decide +kernel
theorem am_om70 : am_okM am_TS am_m70 := ⟨rfl, am_w_563, am_w_3, by decide, by decide⟩
theorem am_op70 : am_par am_m70 3 := by unfold am_par; decide +kernel
theorem am_om71 : am_okM am_TS am_m71 := ⟨rfl, am_w_606, am_w_3, by decide, by decide⟩
theorem am_op71 : am_par am_m71 1 := by unfold am_par; decide +kernel
theorem am_om72 : am_okM am_TS am_m72 := ⟨rfl, am_w_571, am_w_3, by decide, by decide⟩
theorem am_op72 : am_par am_m72 2 := by unfold am_par; decide +kernel
theorem am_om73 : am_okM am_TS am_m73 := ⟨rfl, am_w_626, am_w_3, by decide, by decide⟩
theorem am_op73 : am_par am_m73 1 := by unfold am_par; decide +kernel
theorem am_om74 : am_okM am_TS am_m74 := ⟨rfl, am_w_676, am_w_3, by decide, by decide⟩
theorem am_op74 : am_par am_m74 2 := by unfold am_par; decide +kernel
theorem am_om75 : am_okM am_TS am_m75 := ⟨rfl, am_w_611, am_w_3, by decide, by decide⟩
theorem am_op75 : am_par am_m75 2 := by unfold am_par; decide +kernel
theorem am_om76 : am_okM am_TS am_m76 := ⟨rfl, am_w_176, am_w_7, by decide, by decide⟩
theorem am_op76 : am_par am_m76 0 := by unfold am_par; decide +kernel
theorem am_om77 : am_okM am_TS am_m77 := ⟨rfl, am_w_463, am_w_7, by decide, by decide⟩
theorem am_op77 : am_par am_m77 2 := by unfold am_par; decide +kernel
theorem am_om78 : am_okM am_TS am_m78 := ⟨rfl, am_w_688, am_w_7, by decide, by decide⟩
theorem am_op78 : am_par am_m78 1 := by unfold am_par; decide +kernel
theorem am_om79 : am_okM am_TS am_m79 := ⟨rfl, am_w_446, am_w_7, by decide, by decide⟩
theorem am_op79 : am_par am_m79 2 := by unfold am_par; decide +kernel
theorem am_om80 : am_okM am_TS am_m80 := ⟨rfl, am_w_442, am_w_7, by decide, by decide⟩
theorem am_op80 : am_par am_m80 5 := by unfold am_par; decide +kernel
theorem am_om81 : am_okM am_TS am_m81 := ⟨rfl, am_w_796, am_w_10, by decide, by decide⟩
theorem am_op81 : am_par am_m81 0 := by unfold am_par; decide +kernel
theorem am_om82 : am_okM am_TS am_m82 := ⟨rfl, am_w_1065, am_w_10, by decide, by decide⟩
theorem am_op82 : am_par am_m82 1 := by unfold am_par; decide +kernel
theorem am_om83 : am_okM am_TS am_m83 := ⟨rfl, am_w_971, am_w_10, by decide, by decide⟩
theorem am_op83 : am_par am_m83 1 := by unfold am_par; decide +kernel
theorem am_om84 : am_okM am_TS am_m84 := ⟨rfl, am_w_1057, am_w_10, by decide, by decide⟩
theorem am_op84 : am_par am_m84 0 := by unfold am_par; decide +kernel
theorem am_om85 : am_okM am_TS am_m85 := ⟨rfl, am_w_979, am_w_10, by decide, by decide⟩
theorem am_op85 : am_par am_m85 1 := by unfold am_par; decide +kernel
theorem am_om86 : am_okM am_TS am_m86 := ⟨rfl, am_w_1029, am_w_10, by decide, by decide⟩
theorem am_op86 : am_par am_m86 2 := by unfold am_par; decide +kernel
theorem am_om87 : am_okM am_TS am_m87 := ⟨rfl, am_w_1041, am_w_10, by decide, by decide⟩
theorem am_op87 : am_par am_m87 1 := by unfold am_par; decide +kernel
theorem am_om88 : am_okM am_TS am_m88 := ⟨rfl, am_w_1077, am_w_10, by decide, by decide⟩
theorem am_op88 : am_par am_m88 2 := by unfold am_par; decide +kernel
theorem am_om89 : am_okM am_TS am_m89 := ⟨rfl, am_w_1014, am_w_10, by decide, by decide⟩
theorem am_op89 : am_par am_m89 2 := by unfold am_par; decide +kernel
theorem am_om90 : am_okM am_TS am_m90 := ⟨rfl, am_w_1089, am_w_10, by decide, by decide⟩
theorem am_op90 : am_par am_m90 0 := by unfold am_par; decide +kernel
theorem am_om91 : am_okM am_TS am_m91 := ⟨rfl, am_w_1103, am_w_10, by decide, by decide⟩
theorem am_op91 : am_par am_m91 3 := by unfold am_par; decide +kernel
theorem am_om92 : am_okM am_TS am_m92 := ⟨rfl, am_w_987, am_w_10, by decide, by decide⟩
theorem am_op92 : am_par am_m92 5 := by unfold am_par; decide +kernel
theorem am_om93 : am_okM am_TS am_m93 := ⟨rfl, am_w_995, am_w_10, by decide, by decide⟩
theorem am_op93 : am_par am_m93 2 := by unfold am_par; decide +kernel
theorem am_om94 : am_okM am_TS am_m94 := ⟨rfl, am_w_967, am_w_10, by decide, by decide⟩
theorem am_op94 : am_par am_m94 5 := by unfold am_par; decide +kernel
theorem am_om95 : am_okM am_TS am_m95 := ⟨rfl, am_w_983, am_w_10, by decide, by decide⟩
theorem am_op95 : am_par am_m95 5 := by unfold am_par; decide +kernel
theorem am_om96 : am_okM am_TS am_m96 := ⟨rfl, am_w_963, am_w_10, by decide, by decide⟩
theorem am_op96 : am_par am_m96 5 := by unfold am_par; decide +kernel
theorem am_om97 : am_okM am_TS am_m97 := ⟨rfl, am_w_1093, am_w_10, by decide, by decide⟩
theorem am_op97 : am_par am_m97 2 := by unfold am_par; decide +kernel
theorem am_om98 : am_okM am_TS am_m98 := ⟨rfl, am_w_1018, am_w_10, by decide, by decide⟩
theorem am_op98 : am_par am_m98 3 := by unfold am_par; decide +kernel
theorem am_om99 : am_okM am_TS am_m99 := ⟨rfl, am_w_1081, am_w_10, by decide, by decide⟩
theorem am_op99 : am_par am_m99 3 := by unfold am_par; decide +kernel
theorem am_om100 : am_okM am_TS am_m100 := ⟨rfl, am_w_1003, am_w_10, by decide, by decide⟩
theorem am_op100 : am_par am_m100 3 := by unfold am_par; decide +kernel
theorem am_om101 : am_okM am_TS am_m101 := ⟨rfl, am_w_999, am_w_10, by decide, by decide⟩
theorem am_op101 : am_par am_m101 2 := by unfold am_par; decide +kernel
theorem am_om102 : am_okM am_TS am_m102 := ⟨rfl, am_w_1010, am_w_10, by decide, by decide⟩
theorem am_op102 : am_par am_m102 3 := by unfold am_par; decide +kernel
theorem am_om103 : am_okM am_TS am_m103 := ⟨rfl, am_w_1107, am_w_10, by decide, by decide⟩
theorem am_op103 : am_par am_m103 2 := by unfold am_par; decide +kernel
theorem am_om104 : am_okM am_TS am_m104 := ⟨rfl, am_w_1061, am_w_10, by decide, by decide⟩
theorem am_op104 : am_par am_m104 4 := by unfold am_par; decide +kernel
theorem am_om105 : am_okM am_TS am_m105 := ⟨rfl, am_w_975, am_w_10, by decide, by decide⟩
theorem am_op105 : am_par am_m105 2 := by unfold am_par; decide +kernel
theorem am_om106 : am_okM am_TS am_m106 := ⟨rfl, am_w_1037, am_w_10, by decide, by decide⟩
theorem am_op106 : am_par am_m106 2 := by unfold am_par; decide +kernel
theorem am_om107 : am_okM am_TS am_m107 := ⟨rfl, am_w_1006, am_w_10, by decide, by decide⟩
theorem am_op107 : am_par am_m107 2 := by unfold am_par; decide +kernel
theorem am_om108 : am_okM am_TS am_m108 := ⟨rfl, am_w_1045, am_w_10, by decide, by decide⟩
theorem am_op108 : am_par am_m108 1 := by unfold am_par; decide +kernel
theorem am_om109 : am_okM am_TS am_m109 := ⟨rfl, am_w_932, am_w_10, by decide, by decide⟩
theorem am_op109 : am_par am_m109 3 := by unfold am_par; decide +kernel
theorem am_om110 : am_okM am_TS am_m110 := ⟨rfl, am_w_951, am_w_10, by decide, by decide⟩
theorem am_op110 : am_par am_m110 2 := by unfold am_par; decide +kernel
theorem am_om111 : am_okM am_TS am_m111 := ⟨rfl, am_w_1025, am_w_10, by decide, by decide⟩
theorem am_op111 : am_par am_m111 2 := by unfold am_par; decide +kernel
theorem am_om112 : am_okM am_TS am_m112 := ⟨rfl, am_w_1073, am_w_10, by decide, by decide⟩
theorem am_op112 : am_par am_m112 0 := by unfold am_par; decide +kernel
theorem am_om113 : am_okM am_TS am_m113 := ⟨rfl, am_w_935, am_w_10, by decide, by decide⟩
theorem am_op113 : am_par am_m113 2 := by unfold am_par; decide +kernel
theorem am_om114 : am_okM am_TS am_m114 := ⟨rfl, am_w_991, am_w_10, by decide, by decide⟩
theorem am_op114 : am_par am_m114 6 := by unfold am_par; decide +kernel
theorem am_om115 : am_okM am_TS am_m115 := ⟨rfl, am_w_1085, am_w_10, by decide, by decide⟩
theorem am_op115 : am_par am_m115 0 := by unfold am_par; decide +kernel
theorem am_om116 : am_okM am_TS am_m116 := ⟨rfl, am_w_1022, am_w_10, by decide, by decide⟩
theorem am_op116 : am_par am_m116 1 := by unfold am_par; decide +kernel
theorem am_om117 : am_okM am_TS am_m117 := ⟨rfl, am_w_1115, am_w_10, by decide, by decide⟩
theorem am_op117 : am_par am_m117 2 := by unfold am_par; decide +kernel
theorem am_om118 : am_okM am_TS am_m118 := ⟨rfl, am_w_1111, am_w_10, by decide, by decide⟩
theorem am_op118 : am_par am_m118 1 := by unfold am_par; decide +kernel
theorem am_om119 : am_okM am_TS am_m119 := ⟨rfl, am_w_1049, am_w_10, by decide, by decide⟩
theorem am_op119 : am_par am_m119 1 := by unfold am_par; decide +kernel
theorem am_om120 : am_okM am_TS am_m120 := ⟨rfl, am_w_955, am_w_10, by decide, by decide⟩
theorem am_op120 : am_par am_m120 5 := by unfold am_par; decide +kernel
theorem am_om121 : am_okM am_TS am_m121 := ⟨rfl, am_w_1033, am_w_10, by decide, by decide⟩
theorem am_op121 : am_par am_m121 3 := by unfold am_par; decide +kernel
theorem am_om122 : am_okM am_TS am_m122 := ⟨rfl, am_w_959, am_w_10, by decide, by decide⟩
theorem am_op122 : am_par am_m122 0 := by unfold am_par; decide +kernel
theorem am_om123 : am_okM am_TS am_m123 := ⟨rfl, am_w_947, am_w_10, by decide, by decide⟩
theorem am_op123 : am_par am_m123 1 := by unfold am_par; decide +kernel
theorem am_om124 : am_okM am_TS am_m124 := ⟨rfl, am_w_1069, am_w_10, by decide, by decide⟩
theorem am_op124 : am_par am_m124 0 := by unfold am_par; decide +kernel
theorem am_om125 : am_okM am_TS am_m125 := ⟨rfl, am_w_943, am_w_10, by decide, by decide⟩
theorem am_op125 : am_par am_m125 2 := by unfold am_par; decide +kernel
theorem am_om126 : am_okM am_TS am_m126 := ⟨rfl, am_w_1053, am_w_10, by decide, by decide⟩
theorem am_op126 : am_par am_m126 0 := by unfold am_par; decide +kernel
theorem am_om127 : am_okM am_TS am_m127 := ⟨rfl, am_w_1119, am_w_10, by decide, by decide⟩
theorem am_op127 : am_par am_m127 2 := by unfold am_par; decide +kernel
theorem am_om128 : am_okM am_TS am_m128 := ⟨rfl, am_w_939, am_w_10, by decide, by decide⟩
theorem am_op128 : am_par am_m128 2 := by unfold am_par; decide +kernel
theorem am_om129 : am_okM am_TS am_m129 := ⟨rfl, am_w_1097, am_w_10, by decide, by decide⟩
theorem am_op129 : am_par am_m129 2 := by unfold am_par; decide +kernel
theorem am_om130 : am_okW am_TS am_m130 := ⟨by simp [am_m130], am_w_696, am_w_0, by decide, by decide⟩
theorem am_op130 : am_par am_m130 4 := by unfold am_par; decide +kernel
theorem am_om131 : am_okW am_TS am_m131 := ⟨by simp [am_m131], am_w_752, am_w_0, by decide, by decide⟩
theorem am_op131 : am_par am_m131 5 := by unfold am_par; decide +kernel
theorem am_om132 : am_okW am_TS am_m132 := ⟨by simp [am_m132], am_w_729, am_w_0, by decide, by decide⟩
theorem am_op132 : am_par am_m132 4 := by unfold am_par; decide +kernel
theorem am_om133 : am_okW am_TS am_m133 := ⟨by simp [am_m133], am_w_704, am_w_0, by decide, by decide⟩
theorem am_op133 : am_par am_m133 5 := by unfold am_par; decide +kernel
theorem am_om134 : am_okW am_TS am_m134 := ⟨by simp [am_m134], am_w_761, am_w_0, by decide, by decide⟩
theorem am_op134 : am_par am_m134 4 := by unfold am_par; decide +kernel
theorem am_om135 : am_okW am_TS am_m135 := ⟨by simp [am_m135], am_w_597, am_w_0, by decide, by decide⟩
theorem am_op135 : am_par am_m135 3 := by unfold am_par; decide +kernel
theorem am_om136 : am_okW am_TS am_m136 := ⟨by simp [am_m136], am_w_636, am_w_0, by decide, by decide⟩
theorem am_op136 : am_par am_m136 3 := by unfold am_par; decide +kernel
theorem am_om137 : am_okW am_TS am_m137 := ⟨by simp [am_m137], am_w_277, am_w_0, by decide, by decide⟩
theorem am_op137 : am_par am_m137 5 := by unfold am_par; decide +kernel
theorem am_om138 : am_okW am_TS am_m138 := ⟨by simp [am_m138], am_w_449, am_w_0, by decide, by decide⟩
theorem am_op138 : am_par am_m138 3 := by unfold am_par; decide +kernel
theorem am_om139 : am_okW am_TS am_m139 := ⟨by simp [am_m139], am_w_778, am_w_0, by decide, by decide⟩
theorem am_op139 : am_par am_m139 4 := by unfold am_par; decide +kernel
theorem am_om140 : am_okW am_TS am_m140 := ⟨by simp [am_m140], am_w_770, am_w_0, by decide, by decide⟩
theorem am_op140 : am_par am_m140 3 := by unfold am_par; decide +kernel
theorem am_om141 : am_okW am_TS am_m141 := ⟨by simp [am_m141], am_w_644, am_w_0, by decide, by decide⟩
theorem am_op141 : am_par am_m141 3 := by unfold am_par; decide +kernel
theorem am_om142 : am_okW am_TS am_m142 := ⟨by simp [am_m142], am_w_584, am_w_0, by decide, by decide⟩
theorem am_op142 : am_par am_m142 4 := by unfold am_par; decide +kernel
theorem am_om143 : am_okW am_TS am_m143 := ⟨by simp [am_m143], am_w_786, am_w_0, by decide, by decide⟩
theorem am_op143 : am_par am_m143 4 := by unfold am_par; decide +kernel
theorem am_om144 : am_okM am_TS am_m144 := ⟨rfl, am_w_45, am_w_4, by decide, by decide⟩
theorem am_op144 : am_par am_m144 2 := by unfold am_par; decide +kernel
theorem am_om145 : am_okM am_TS am_m145 := ⟨rfl, am_w_548, am_w_18, by decide, by decide⟩
theorem am_op145 : am_par am_m145 1 := by unfold am_par; decide +kernel
theorem am_om146 : am_okM am_TS am_m146 := ⟨rfl, am_w_928, am_w_10, by decide, by decide⟩
theorem am_op146 : am_par am_m146 0 := by unfold am_par; decide +kernel
theorem am_ll0 (b : Nat) : ∀ x ∈ am_l0, am_LL b "OverlayNet" x.1 x.2 := List.forall_mem_cons.mpr ⟨am_LL26 am_w_26 am_w_27 am_w_28, List.forall_mem_cons.mpr ⟨am_LL9 (C := "OverlayNet$Fabric") rfl am_w_29 am_w_30 am_w_2 (fun h => absurd h (by decide)), List.forall_mem_cons.mpr ⟨am_LL24 rfl am_om37 am_op37 am_w_32 rfl rfl am_w_31, List.forall_mem_cons.mpr ⟨am_LL2 rfl (by decide) rfl am_w_234 rfl, List.forall_mem_cons.mpr ⟨am_LL9 (C := "OverlayNet$Tables") rfl am_w_172 am_w_173 am_w_7 (fun h => absurd h (by decide)), List.forall_mem_cons.mpr ⟨am_LL24 rfl am_om76 am_op76 am_w_175 rfl rfl am_w_174, List.forall_mem_cons.mpr ⟨am_LL2 rfl (by decide) rfl am_w_235 rfl, List.forall_mem_cons.mpr ⟨am_LL9 (C := "OverlayNet$Directory") rfl am_w_193 am_w_194 am_w_8 (fun h => absurd h (by decide)), List.forall_mem_cons.mpr ⟨am_LL25 (host := "OverlayNet") rfl am_om35 am_op35 am_w_196 rfl rfl (by simp [am_nws, am_m35]), List.forall_mem_cons.mpr ⟨am_LL2 rfl (by decide) rfl am_w_236 rfl, List.forall_mem_cons.mpr ⟨am_LL9 (C := "OverlayNet$FrameQueue") rfl am_w_212 am_w_213 am_w_9 (fun h => absurd h (by decide)), List.forall_mem_cons.mpr ⟨am_LL24 rfl am_om45 am_op45 am_w_215 rfl rfl am_w_214, List.forall_mem_cons.mpr ⟨am_LL2 rfl (by decide) rfl am_w_237 rfl, List.forall_mem_cons.mpr ⟨am_LL9 (C := "OverlayNet$Machine") rfl am_w_232 am_w_378 am_w_16 (fun _ => ⟨rfl, by simp [am_aos]⟩), List.forall_mem_cons.mpr ⟨am_LL2 rfl (by decide) rfl am_w_238 rfl, List.forall_mem_cons.mpr ⟨am_LL22 rfl (Or.inl am_om14) am_op14 am_w_285 am_w_284, List.forall_mem_cons.mpr ⟨am_LL22 rfl (Or.inl am_om13) am_op13 am_w_288 am_w_287, List.forall_mem_cons.mpr ⟨am_LLo (by decide), List.forall_mem_cons.mpr ⟨am_LLo (by decide), List.forall_mem_cons.mpr ⟨am_LLo (by decide), List.forall_mem_cons.mpr ⟨am_LL0 rfl (by decide) rfl am_w_239 rfl, List.forall_mem_cons.mpr ⟨am_LL20 (ci := 0) rfl am_om21 am_op21 am_w_360 am_s_1 rfl am_w_358, List.forall_mem_cons.mpr ⟨am_LLo (by decide), List.forall_mem_cons.mpr ⟨am_LLo (by decide), List.forall_mem_cons.mpr ⟨am_LLo (by decide), List.forall_mem_cons.mpr ⟨am_LL24 rfl am_om49 am_op49 am_w_380 rfl rfl am_w_379, List.forall_mem_cons.mpr ⟨am_LL0 rfl (by decide) rfl am_w_398 rfl, List.forall_mem_cons.mpr ⟨am_LL0 rfl (by decide) rfl am_w_240 rfl, List.forall_mem_cons.mpr ⟨am_LL20 (ci := 8) rfl am_om80 am_op80 am_w_440 am_w_441 rfl am_w_439, List.forall_mem_cons.mpr ⟨am_LL20 (ci := 0) rfl am_om15 am_op15 am_w_456 am_s_2 rfl am_w_454, List.forall_mem_cons.mpr ⟨am_LLo (by decide), List.forall_mem_cons.mpr ⟨am_LL0 rfl (by decide) rfl am_w_394 rfl, List.forall_mem_cons.mpr ⟨am_LLo (by decide), List.forall_mem_cons.mpr ⟨am_LL20 (ci := 8) rfl am_om77 am_op77 am_w_461 am_w_462 rfl am_w_460, List.forall_mem_cons.mpr ⟨am_LL3 rfl (by decide) rfl am_w_391, List.forall_mem_cons.mpr ⟨am_LL20 (ci := 4) rfl am_om47 am_op47 am_w_465 am_w_466 rfl am_w_464, List.forall_mem_cons.mpr ⟨am_LL20 (ci := 0) rfl am_om31 am_op31 am_w_470 am_s_3 rfl am_w_468, List.forall_mem_cons.mpr ⟨am_LLo (by decide), List.forall_mem_cons.mpr ⟨am_LL0 rfl (by decide) rfl am_w_403 rfl, List.forall_mem_cons.mpr ⟨am_LLo (by decide), List.forall_mem_cons.mpr ⟨am_LL20 (ci := 5) rfl am_om50 am_op50 am_w_592 am_w_593 rfl am_w_591, List.forall_mem_cons.mpr ⟨am_LL20 (ci := 5) rfl am_om51 am_op51 am_w_491 am_w_492 rfl am_w_490, List.forall_mem_cons.mpr ⟨am_LLo (by decide), List.forall_mem_cons.mpr ⟨am_LL3 rfl (by decide) rfl am_w_145, List.forall_mem_cons.mpr ⟨am_LL20 (ci := 7) rfl am_om71 am_op71 am_w_604 am_w_605 rfl am_w_603, List.forall_mem_cons.mpr ⟨am_LLo (by decide), List.forall_mem_cons.mpr ⟨am_LL20 (ci := 7) rfl am_om75 am_op75 am_w_609 am_w_610 rfl am_w_608, List.forall_mem_cons.mpr ⟨am_LL20 (ci := 2) rfl am_om38 am_op38 am_w_631 am_w_632 rfl am_w_630, List.forall_mem_cons.mpr ⟨am_LL0 rfl (by decide) rfl am_w_204 rfl, List.forall_mem_cons.mpr ⟨am_LL0 rfl (by decide) rfl am_w_154 rfl, List.forall_mem_cons.mpr ⟨am_LLo (by decide), List.forall_mem_cons.mpr ⟨am_LLo (by decide), List.forall_mem_cons.mpr ⟨am_LL0 rfl (by decide) rfl am_w_241 rfl, List.forall_mem_cons.mpr ⟨am_LL20 (ci := 0) rfl am_om33 am_op33 am_w_652 am_s_17 rfl am_w_650, List.forall_mem_cons.mpr ⟨am_LLo (by decide), List.forall_mem_cons.mpr ⟨am_LL3 rfl (by decide) rfl am_w_49, List.forall_mem_cons.mpr ⟨am_LL20 (ci := 7) rfl am_om68 am_op68 am_w_557 am_w_558 rfl am_w_710, List.forall_mem_cons.mpr ⟨am_LLo (by decide), List.forall_mem_cons.mpr ⟨am_LLo (by decide), List.forall_mem_cons.mpr ⟨am_LLo (by decide), List.forall_mem_cons.mpr ⟨am_LL0 rfl (by decide) rfl am_w_152 rfl, List.forall_mem_cons.mpr ⟨am_LL0 rfl (by decide) rfl am_w_156 rfl, List.forall_mem_cons.mpr ⟨am_LLo (by decide), List.forall_mem_cons.mpr ⟨am_LLo (by decide), List.forall_mem_cons.mpr ⟨am_LL0 rfl (by decide) rfl am_w_147 rfl, List.forall_mem_cons.mpr ⟨am_LL20 (ci := 6) rfl am_om60 am_op60 am_w_737 am_w_738 rfl am_w_736, List.forall_mem_cons.mpr ⟨am_LLo (by decide), List.forall_mem_cons.mpr ⟨am_LL20 (ci := 8) rfl am_om79 am_op79 am_w_444 am_w_445 rfl am_w_485, List.forall_mem_cons.mpr ⟨am_LLo (by decide), List.forall_mem_cons.mpr ⟨am_LL3 rfl (by decide) rfl am_w_181, List.forall_mem_cons.mpr ⟨am_LL3 rfl (by decide) rfl am_w_183, List.forall_mem_cons.mpr ⟨am_LL3 rfl (by decide) rfl am_w_185, List.forall_mem_cons.mpr ⟨am_LLo (by decide), List.forall_mem_cons.mpr ⟨am_LL3 rfl (by decide) rfl am_w_406, List.forall_mem_cons.mpr ⟨am_LLo (by decide), List.forall_mem_cons.mpr ⟨am_LLo (by decide), List.forall_mem_cons.mpr ⟨am_LLo (by decide), List.forall_mem_cons.mpr ⟨am_LL3 rfl (by decide) rfl am_w_408, List.forall_mem_cons.mpr ⟨am_LLo (by decide), List.forall_mem_cons.mpr ⟨am_LL3 rfl (by decide) rfl am_w_410, List.forall_mem_cons.mpr ⟨am_LL3 rfl (by decide) rfl am_w_389, List.forall_mem_cons.mpr ⟨am_LL20 (ci := 2) rfl am_om42 am_op42 am_w_655 am_w_656 rfl am_w_654, List.forall_mem_cons.mpr ⟨am_LL0 rfl (by decide) rfl am_w_149 rfl, List.forall_mem_cons.mpr ⟨am_LL20 (ci := 0) rfl am_om1 am_op1 am_w_660 am_s_18 rfl am_w_658, List.forall_mem_cons.mpr ⟨am_LL20 (ci := 7) rfl am_om63 am_op63 am_w_668 am_w_669 rfl am_w_667, List.forall_mem_cons.mpr ⟨am_LL20 (ci := 0) rfl am_om32 am_op32 am_w_679 am_s_21 rfl am_w_677, List.forall_mem_cons.mpr ⟨am_LL20 (ci := 8) rfl am_om78 am_op78 am_w_686 am_w_687 rfl am_w_685, List.forall_mem_cons.mpr ⟨am_LL20 (ci := 5) rfl am_om53 am_op53 am_w_691 am_w_692 rfl am_w_690, List.forall_mem_cons.mpr ⟨am_LL0 rfl (by decide) rfl am_w_124 rfl, List.forall_mem_cons.mpr ⟨am_LL0 rfl (by decide) rfl am_w_116 rfl, List.forall_mem_cons.mpr ⟨am_LL20 (ci := 0) rfl am_om24 am_op24 am_w_664 am_s_19 rfl am_w_662, List.forall_mem_cons.mpr ⟨am_LL0 rfl (by decide) rfl am_w_121 rfl, List.forall_mem_cons.mpr ⟨am_LL20 (ci := 2) rfl am_om39 am_op39 am_w_539 am_w_540 rfl am_w_666, List.forall_mem_cons.mpr ⟨am_LL3 rfl (by decide) rfl am_w_105, List.forall_mem_cons.mpr ⟨am_LL0 rfl (by decide) rfl am_w_81 rfl, List.forall_mem_cons.mpr ⟨am_LL0 rfl (by decide) rfl am_w_113 rfl, List.forall_mem_cons.mpr ⟨am_LL0 rfl (by decide) rfl am_w_110 rfl, List.forall_mem_cons.mpr ⟨am_LL20 (ci := 0) rfl am_om7 am_op7 am_w_501 am_s_7 rfl am_w_499, List.forall_mem_cons.mpr ⟨am_LL20 (ci := 1) rfl am_om36 am_op36 am_w_682 am_w_683 rfl am_w_681, List.forall_mem_cons.mpr ⟨am_LL3 rfl (by decide) rfl am_w_200, List.forall_mem_cons.mpr ⟨am_LL3 rfl (by decide) rfl am_w_202, List.forall_mem_cons.mpr ⟨am_LL12 am_w_472, List.forall_mem_cons.mpr ⟨am_LL0 rfl (by decide) rfl am_w_224 rfl, List.forall_mem_cons.mpr ⟨am_LL20 (ci := 4) rfl am_om46 am_op46 am_w_474 am_w_475 rfl am_w_473, List.forall_mem_cons.mpr ⟨am_LL20 (ci := 0) rfl am_om9 am_op9 am_w_479 am_s_4 rfl am_w_477, List.forall_mem_cons.mpr ⟨am_LL20 (ci := 4) rfl am_om48 am_op48 am_w_579 am_w_580 rfl am_w_578, List.forall_mem_cons.mpr ⟨am_LL0 rfl (by decide) rfl am_w_77 rfl, List.forall_mem_cons.mpr ⟨am_LL0 rfl (by decide) rfl am_w_88 rfl, List.forall_mem_cons.mpr ⟨am_LL20 (ci := 0) rfl am_om12 am_op12 am_w_483 am_s_5 rfl am_w_481, List.forall_mem_cons.mpr ⟨am_LL0 rfl (by decide) rfl am_w_85 rfl, List.forall_mem_cons.mpr ⟨am_LL20 (ci := 0) rfl am_om26 am_op26 am_w_528 am_s_11 rfl am_w_526, List.forall_mem_cons.mpr ⟨am_LL20 (ci := 2) rfl am_om41 am_op41 am_w_531 am_w_532 rfl am_w_530, List.forall_mem_cons.mpr ⟨am_LL20 (ci := 5) rfl am_om54 am_op54 am_w_487 am_w_488 rfl am_w_486, List.forall_mem_cons.mpr ⟨am_LL20 (ci := 0) rfl am_om16 am_op16 am_w_505 am_s_8 rfl am_w_503, List.forall_mem_cons.mpr ⟨am_LL20 (ci := 0) rfl am_om6 am_op6 am_w_509 am_s_9 rfl am_w_507, List.forall_mem_cons.mpr ⟨am_LL3 rfl (by decide) rfl am_w_386, List.forall_mem_cons.mpr ⟨am_LL20 (ci := 0) rfl am_om8 am_op8 am_w_513 am_s_10 rfl am_w_511, List.forall_mem_cons.mpr ⟨am_LL20 (ci := 5) rfl am_om56 am_op56 am_w_520 am_w_521 rfl am_w_519, List.forall_mem_cons.mpr ⟨am_LL0 rfl (by decide) rfl am_w_91 rfl, List.forall_mem_cons.mpr ⟨am_LL20 (ci := 5) rfl am_om55 am_op55 am_w_516 am_w_517 rfl am_w_515, (fun x hx => nomatch hx)⟩⟩⟩⟩⟩⟩⟩⟩⟩⟩⟩⟩⟩⟩⟩⟩⟩⟩⟩⟩⟩⟩⟩⟩⟩⟩⟩⟩⟩⟩⟩⟩⟩⟩⟩⟩⟩⟩⟩⟩⟩⟩⟩⟩⟩⟩⟩⟩⟩⟩⟩⟩⟩⟩⟩⟩⟩⟩⟩⟩⟩⟩⟩⟩⟩⟩⟩⟩⟩⟩⟩⟩⟩⟩⟩⟩⟩⟩⟩⟩⟩⟩⟩⟩⟩⟩⟩⟩⟩⟩⟩⟩⟩⟩⟩⟩⟩⟩⟩⟩⟩⟩⟩⟩⟩⟩⟩⟩⟩⟩⟩⟩⟩⟩⟩⟩⟩⟩⟩⟩
theorem am_ll1 (b : Nat) : ∀ x ∈ am_l1, am_LL b "OverlayNet$Directory" x.1 x.2 := List.forall_mem_cons.mpr ⟨am_LL26 am_w_198 am_w_27 am_w_28, List.forall_mem_cons.mpr ⟨am_LL2 rfl (by decide) rfl am_w_199 rfl, List.forall_mem_cons.mpr ⟨am_LL2 rfl (by decide) rfl am_w_201 rfl, List.forall_mem_cons.mpr ⟨am_LL0 rfl (by decide) rfl am_w_203 rfl, List.forall_mem_cons.mpr ⟨am_LL3 rfl (by decide) rfl am_w_385, List.forall_mem_cons.mpr ⟨am_LL0 rfl (by decide) rfl am_w_397 rfl, List.forall_mem_cons.mpr ⟨am_LL0 rfl (by decide) rfl am_w_393 rfl, (fun x hx => nomatch hx)⟩⟩⟩⟩⟩⟩⟩
theorem am_ll2 (b : Nat) : ∀ x ∈ am_l2, am_LL b "OverlayNet$Fabric" x.1 x.2 := List.forall_mem_cons.mpr ⟨am_LL26 am_w_34 am_w_27 am_w_28, List.forall_mem_cons.mpr ⟨am_LL9 (C := "OverlayNet$Routes") rfl am_w_35 am_w_36 am_w_3 (fun h => absurd h (by decide)), List.forall_mem_cons.mpr ⟨am_LL24 rfl am_om62 am_op62 am_w_38 rfl rfl am_w_37, List.forall_mem_cons.mpr ⟨am_LL2 rfl (by decide) rfl am_w_144 rfl, List.forall_mem_cons.mpr ⟨am_LL9 (C := "OverlayNet$Packet") rfl am_w_62 am_w_64 am_w_5 (fun _ => ⟨rfl, by simp [am_aos]⟩), List.forall_mem_cons.mpr ⟨am_LL0 rfl (by decide) rfl am_w_146 rfl, List.forall_mem_cons.mpr ⟨am_LL0 rfl (by decide) rfl am_w_148 rfl, List.forall_mem_cons.mpr ⟨am_LL25 (host := "OverlayNet") rfl am_om57 am_op57 am_w_66 rfl rfl (by simp [am_nws, am_m57]), List.forall_mem_cons.mpr ⟨am_LL2 rfl (by decide) rfl am_w_150 rfl, List.forall_mem_cons.mpr ⟨am_LL0 rfl (by decide) rfl am_w_151 rfl, List.forall_mem_cons.mpr ⟨am_LL3 rfl (by decide) rfl am_w_104, List.forall_mem_cons.mpr ⟨am_LL20 (ci := 3) rfl am_om44 am_op44 am_w_535 am_w_536 rfl am_w_534, List.forall_mem_cons.mpr ⟨am_LL3 rfl (by decide) rfl am_w_388, List.forall_mem_cons.mpr ⟨am_LL0 rfl (by decide) rfl am_w_107 rfl, List.forall_mem_cons.mpr ⟨am_LL0 rfl (by decide) rfl am_w_399 rfl, List.forall_mem_cons.mpr ⟨am_LL0 rfl (by decide) rfl am_w_109 rfl, List.forall_mem_cons.mpr ⟨am_LL0 rfl (by decide) rfl am_w_395 rfl, List.forall_mem_cons.mpr ⟨am_LL0 rfl (by decide) rfl am_w_112 rfl, List.forall_mem_cons.mpr ⟨am_LL0 rfl (by decide) rfl am_w_115 rfl, List.forall_mem_cons.mpr ⟨am_LL0 rfl (by decide) rfl am_w_80 rfl, List.forall_mem_cons.mpr ⟨am_LL0 rfl (by decide) rfl am_w_84 rfl, List.forall_mem_cons.mpr ⟨am_LL0 rfl (by decide) rfl am_w_118 rfl, List.forall_mem_cons.mpr ⟨am_LL0 rfl (by decide) rfl am_w_120 rfl, List.forall_mem_cons.mpr ⟨am_LL20 (ci := 2) rfl am_om39 am_op39 am_w_539 am_w_540 rfl am_w_538, List.forall_mem_cons.mpr ⟨am_LL20 (ci := 7) rfl am_om69 am_op69 am_w_543 am_w_544 rfl am_w_542, List.forall_mem_cons.mpr ⟨am_LL20 (ci := 2) rfl am_om40 am_op40 am_w_554 am_s_12 rfl am_w_552, List.forall_mem_cons.mpr ⟨am_LL0 rfl (by decide) rfl am_w_155 rfl, List.forall_mem_cons.mpr ⟨am_LL20 (ci := 7) rfl am_om68 am_op68 am_w_557 am_w_558 rfl am_w_556, List.forall_mem_cons.mpr ⟨am_LL20 (ci := 6) rfl am_om59 am_op59 am_w_565 am_w_566 rfl am_w_564, List.forall_mem_cons.mpr ⟨am_LL22 rfl (Or.inl am_om72) am_op72 am_w_570 am_w_569, List.forall_mem_cons.mpr ⟨am_LL0 rfl (by decide) rfl am_w_122 rfl, List.forall_mem_cons.mpr ⟨am_LL0 rfl (by decide) rfl am_w_123 rfl, List.forall_mem_cons.mpr ⟨am_LL0 rfl (by decide) rfl am_w_153 rfl, (fun x hx => nomatch hx)⟩⟩⟩⟩⟩⟩⟩⟩⟩⟩⟩⟩⟩⟩⟩⟩⟩⟩⟩⟩⟩⟩⟩⟩⟩⟩⟩⟩⟩⟩⟩⟩⟩
theorem am_ll3 (b : Nat) : ∀ x ∈ am_l3, am_LL b "OverlayNet$Frame" x.1 x.2 := List.forall_mem_cons.mpr ⟨am_LL26 am_w_74 am_w_27 am_w_28, List.forall_mem_cons.mpr ⟨am_LL0 rfl (by decide) rfl am_w_75 rfl, List.forall_mem_cons.mpr ⟨am_LL0 rfl (by decide) rfl am_w_78 rfl, List.forall_mem_cons.mpr ⟨am_LL0 rfl (by decide) rfl am_w_82 rfl, List.forall_mem_cons.mpr ⟨am_LL0 rfl (by decide) rfl am_w_86 rfl, List.forall_mem_cons.mpr ⟨am_LL0 rfl (by decide) rfl am_w_89 rfl, (fun x hx => nomatch hx)⟩⟩⟩⟩⟩⟩
theorem am_ll4 (b : Nat) : ∀ x ∈ am_l4, am_LL b "OverlayNet$FrameQueue" x.1 x.2 := List.forall_mem_cons.mpr ⟨am_LL26 am_w_217 am_w_27 am_w_28, List.forall_mem_cons.mpr ⟨am_LL9 (C := "OverlayNet$Frame") rfl am_w_218 am_w_70 am_w_6 (fun _ => ⟨rfl, by simp [am_aos]⟩), List.forall_mem_cons.mpr ⟨am_LL2 rfl (by decide) rfl am_w_221 rfl, List.forall_mem_cons.mpr ⟨am_LL25 (host := "OverlayNet") rfl am_om43 am_op43 am_w_72 rfl rfl (by simp [am_nws, am_m43]), List.forall_mem_cons.mpr ⟨am_LL0 rfl (by decide) rfl am_w_223 rfl, List.forall_mem_cons.mpr ⟨am_LL0 rfl (by decide) rfl am_w_222 rfl, List.forall_mem_cons.mpr ⟨am_LL0 rfl (by decide) rfl am_w_76 rfl, List.forall_mem_cons.mpr ⟨am_LL0 rfl (by decide) rfl am_w_79 rfl, List.forall_mem_cons.mpr ⟨am_LL0 rfl (by decide) rfl am_w_83 rfl, List.forall_mem_cons.mpr ⟨am_LL0 rfl (by decide) rfl am_w_87 rfl, List.forall_mem_cons.mpr ⟨am_LL0 rfl (by decide) rfl am_w_90 rfl, (fun x hx => nomatch hx)⟩⟩⟩⟩⟩⟩⟩⟩⟩⟩⟩
theorem am_ll5 (b : Nat) : ∀ x ∈ am_l5, am_LL b "OverlayNet$Machine" x.1 x.2 := List.forall_mem_cons.mpr ⟨am_LL26 am_w_382 am_w_27 am_w_28, List.forall_mem_cons.mpr ⟨am_LL0 rfl (by decide) rfl am_w_396 rfl, List.forall_mem_cons.mpr ⟨am_LL2 rfl (by decide) rfl am_w_400 rfl, List.forall_mem_cons.mpr ⟨am_LL2 rfl (by decide) rfl am_w_401 rfl, List.forall_mem_cons.mpr ⟨am_LL2 rfl (by decide) rfl am_w_404 rfl, List.forall_mem_cons.mpr ⟨am_LL2 rfl (by decide) rfl am_w_405 rfl, List.forall_mem_cons.mpr ⟨am_LL2 rfl (by decide) rfl am_w_407 rfl, List.forall_mem_cons.mpr ⟨am_LL2 rfl (by decide) rfl am_w_409 rfl, List.forall_mem_cons.mpr ⟨am_LL0 rfl (by decide) rfl am_w_411 rfl, List.forall_mem_cons.mpr ⟨am_LL2 rfl (by decide) rfl am_w_384 rfl, List.forall_mem_cons.mpr ⟨am_LL2 rfl (by decide) rfl am_w_387 rfl, List.forall_mem_cons.mpr ⟨am_LL2 rfl (by decide) rfl am_w_390 rfl, List.forall_mem_cons.mpr ⟨am_LL0 rfl (by decide) rfl am_w_392 rfl, List.forall_mem_cons.mpr ⟨am_LL22 rfl (Or.inl am_om144) am_op144 am_w_44 am_w_383, List.forall_mem_cons.mpr ⟨am_LL0 rfl (by decide) rfl am_w_402 rfl, List.forall_mem_cons.mpr ⟨am_LL20 (ci := 4) rfl am_om47 am_op47 am_w_465 am_w_466 rfl am_w_494, List.forall_mem_cons.mpr ⟨am_LL20 (ci := 5) rfl am_om52 am_op52 am_w_497 am_s_6 rfl am_w_495, List.forall_mem_cons.mpr ⟨am_LL29 am_w_523 am_w_525 am_w_524 am_w_17, (fun x hx => nomatch hx)⟩⟩⟩⟩⟩⟩⟩⟩⟩⟩⟩⟩⟩⟩⟩⟩⟩⟩
theorem am_ll6 (b : Nat) : ∀ x ∈ am_l6, am_LL b "OverlayNet$Packet" x.1 x.2 := List.forall_mem_cons.mpr ⟨am_LL26 am_w_68 am_w_27 am_w_28, List.forall_mem_cons.mpr ⟨am_LL9 (C := "OverlayNet$Frame") rfl am_w_69 am_w_70 am_w_6 (fun h => absurd h (by decide)), List.forall_mem_cons.mpr ⟨am_LL25 (host := "OverlayNet") rfl am_om43 am_op43 am_w_72 rfl rfl (by simp [am_nws, am_m43]), List.forall_mem_cons.mpr ⟨am_LL2 rfl (by decide) rfl am_w_103 rfl, List.forall_mem_cons.mpr ⟨am_LL20 (ci := 3) rfl am_om44 am_op44 am_w_535 am_w_536 rfl am_w_568, List.forall_mem_cons.mpr ⟨am_LL0 rfl (by decide) rfl am_w_106 rfl, List.forall_mem_cons.mpr ⟨am_LL0 rfl (by decide) rfl am_w_108 rfl, List.forall_mem_cons.mpr ⟨am_LL0 rfl (by decide) rfl am_w_111 rfl, List.forall_mem_cons.mpr ⟨am_LL0 rfl (by decide) rfl am_w_114 rfl, List.forall_mem_cons.mpr ⟨am_LL0 rfl (by decide) rfl am_w_117 rfl, List.forall_mem_cons.mpr ⟨am_LL0 rfl (by decide) rfl am_w_119 rfl, List.forall_mem_cons.mpr ⟨am_LL20 (ci := 6) rfl am_om58 am_op58 am_w_742 am_s_22 rfl am_w_740, List.forall_mem_cons.mpr ⟨am_LL20 (ci := 6) rfl am_om61 am_op61 am_w_746 am_s_23 rfl am_w_744, List.forall_mem_cons.mpr ⟨am_LL12 am_w_748, List.forall_mem_cons.mpr ⟨am_LL12 am_w_749, (fun x hx => nomatch hx)⟩⟩⟩⟩⟩⟩⟩⟩⟩⟩⟩⟩⟩⟩⟩
theorem am_ll7 (b : Nat) : ∀ x ∈ am_l7, am_LL b "OverlayNet$Routes" x.1 x.2 := List.forall_mem_cons.mpr ⟨am_LL26 am_w_40 am_w_27 am_w_28, List.forall_mem_cons.mpr ⟨am_LL2 rfl (by decide) rfl am_w_46 rfl, List.forall_mem_cons.mpr ⟨am_LLo (by decide), List.forall_mem_cons.mpr ⟨am_LL2 rfl (by decide) rfl am_w_47 rfl, List.forall_mem_cons.mpr ⟨am_LL2 rfl (by decide) rfl am_w_48 rfl, List.forall_mem_cons.mpr ⟨am_LL2 rfl (by decide) rfl am_w_50 rfl, List.forall_mem_cons.mpr ⟨am_LL22 rfl (Or.inl am_om144) am_op144 am_w_44 am_w_43, List.forall_mem_cons.mpr ⟨am_LL27 am_w_572 am_w_573 am_w_19 am_w_574, List.forall_mem_cons.mpr ⟨am_LL28 am_w_575 am_w_576 am_w_19 am_w_577, List.forall_mem_cons.mpr ⟨am_LL20 (ci := 7) rfl am_om67 am_op67 am_w_614 am_s_14 rfl am_w_612, List.forall_mem_cons.mpr ⟨am_LL20 (ci := 7) rfl am_om65 am_op65 am_w_618 am_s_15 rfl am_w_616, List.forall_mem_cons.mpr ⟨am_LL22 rfl (Or.inl am_om73) am_op73 am_w_625 am_w_624, List.forall_mem_cons.mpr ⟨am_LL22 rfl (Or.inl am_om66) am_op66 am_w_628 am_w_627, List.forall_mem_cons.mpr ⟨am_LL22 rfl (Or.inl am_om72) am_op72 am_w_570 am_w_671, List.forall_mem_cons.mpr ⟨am_LL20 (ci := 7) rfl am_om71 am_op71 am_w_604 am_w_605 rfl am_w_672, List.forall_mem_cons.mpr ⟨am_LL20 (ci := 7) rfl am_om74 am_op74 am_w_675 am_s_20 rfl am_w_673, List.forall_mem_cons.mpr ⟨am_LL20 (ci := 7) rfl am_om70 am_op70 am_w_562 am_s_13 rfl am_w_560, List.forall_mem_cons.mpr ⟨am_LL20 (ci := 7) rfl am_om64 am_op64 am_w_622 am_s_16 rfl am_w_620, List.forall_mem_cons.mpr ⟨am_LL22 rfl (Or.inl am_om145) am_op145 am_w_547 am_w_546, (fun x hx => nomatch hx)⟩⟩⟩⟩⟩⟩⟩⟩⟩⟩⟩⟩⟩⟩⟩⟩⟩⟩⟩
theorem am_ll8 (b : Nat) : ∀ x ∈ am_l8, am_LL b "OverlayNet$Tables" x.1 x.2 := List.forall_mem_cons.mpr ⟨am_LL26 am_w_177 am_w_27 am_w_28, List.forall_mem_cons.mpr ⟨am_LLo (by decide), List.forall_mem_cons.mpr ⟨am_LL2 rfl (by decide) rfl am_w_180 rfl, List.forall_mem_cons.mpr ⟨am_LL2 rfl (by decide) rfl am_w_182 rfl, List.forall_mem_cons.mpr ⟨am_LL2 rfl (by decide) rfl am_w_184 rfl, List.forall_mem_cons.mpr ⟨am_LL22 rfl (Or.inl am_om144) am_op144 am_w_44 am_w_179, List.forall_mem_cons.mpr ⟨am_LL20 (ci := 8) rfl am_om79 am_op79 am_w_444 am_w_445 rfl am_w_443, List.forall_mem_cons.mpr ⟨am_LL20 (ci := 8) rfl am_om77 am_op77 am_w_461 am_w_462 rfl am_w_689, (fun x hx => nomatch hx)⟩⟩⟩⟩⟩⟩⟩⟩
theorem am_ll9 (b : Nat) : ∀ x ∈ am_l9, am_LL b "OverlayNetModel" x.1 x.2 := List.forall_mem_cons.mpr ⟨am_LL26 am_w_797 am_w_27 am_w_28, List.forall_mem_cons.mpr ⟨am_LL2 rfl (by decide) rfl am_w_803 rfl, List.forall_mem_cons.mpr ⟨am_LL2 rfl (by decide) rfl am_w_804 rfl, List.forall_mem_cons.mpr ⟨am_LL2 rfl (by decide) rfl am_w_806 rfl, List.forall_mem_cons.mpr ⟨am_LL2 rfl (by decide) rfl am_w_807 rfl, List.forall_mem_cons.mpr ⟨am_LL2 rfl (by decide) rfl am_w_808 rfl, List.forall_mem_cons.mpr ⟨am_LL2 rfl (by decide) rfl am_w_809 rfl, List.forall_mem_cons.mpr ⟨am_LL2 rfl (by decide) rfl am_w_810 rfl, List.forall_mem_cons.mpr ⟨am_LL2 rfl (by decide) rfl am_w_811 rfl, List.forall_mem_cons.mpr ⟨am_LL2 rfl (by decide) rfl am_w_812 rfl, List.forall_mem_cons.mpr ⟨am_LL2 rfl (by decide) rfl am_w_813 rfl, List.forall_mem_cons.mpr ⟨am_LL2 rfl (by decide) rfl am_w_814 rfl, List.forall_mem_cons.mpr ⟨am_LL2 rfl (by decide) rfl am_w_815 rfl, List.forall_mem_cons.mpr ⟨am_LL2 rfl (by decide) rfl am_w_816 rfl, List.forall_mem_cons.mpr ⟨am_LL2 rfl (by decide) rfl am_w_818 rfl, List.forall_mem_cons.mpr ⟨am_LL2 rfl (by decide) rfl am_w_819 rfl, List.forall_mem_cons.mpr ⟨am_LL2 rfl (by decide) rfl am_w_820 rfl, List.forall_mem_cons.mpr ⟨am_LL2 rfl (by decide) rfl am_w_821 rfl, List.forall_mem_cons.mpr ⟨am_LL2 rfl (by decide) rfl am_w_822 rfl, List.forall_mem_cons.mpr ⟨am_LL2 rfl (by decide) rfl am_w_824 rfl, List.forall_mem_cons.mpr ⟨am_LL2 rfl (by decide) rfl am_w_825 rfl, List.forall_mem_cons.mpr ⟨am_LL2 rfl (by decide) rfl am_w_826 rfl, List.forall_mem_cons.mpr ⟨am_LL2 rfl (by decide) rfl am_w_827 rfl, List.forall_mem_cons.mpr ⟨am_LL2 rfl (by decide) rfl am_w_828 rfl, List.forall_mem_cons.mpr ⟨am_LL2 rfl (by decide) rfl am_w_829 rfl, List.forall_mem_cons.mpr ⟨am_LL2 rfl (by decide) rfl am_w_830 rfl, List.forall_mem_cons.mpr ⟨am_LL2 rfl (by decide) rfl am_w_831 rfl, List.forall_mem_cons.mpr ⟨am_LL2 rfl (by decide) rfl am_w_832 rfl, List.forall_mem_cons.mpr ⟨am_LL2 rfl (by decide) rfl am_w_833 rfl, List.forall_mem_cons.mpr ⟨am_LL2 rfl (by decide) rfl am_w_834 rfl, List.forall_mem_cons.mpr ⟨am_LL2 rfl (by decide) rfl am_w_835 rfl, List.forall_mem_cons.mpr ⟨am_LL2 rfl (by decide) rfl am_w_836 rfl, List.forall_mem_cons.mpr ⟨am_LL2 rfl (by decide) rfl am_w_837 rfl, List.forall_mem_cons.mpr ⟨am_LL2 rfl (by decide) rfl am_w_838 rfl, List.forall_mem_cons.mpr ⟨am_LL0 rfl (by decide) rfl am_w_798 rfl, List.forall_mem_cons.mpr ⟨am_LL22 rfl (Or.inl am_om107) am_op107 am_w_1005 am_w_1004, List.forall_mem_cons.mpr ⟨am_LL20 (ci := 9) rfl am_om98 am_op98 am_w_1017 am_s_42 rfl am_w_1015, List.forall_mem_cons.mpr ⟨am_LL20 (ci := 9) rfl am_om89 am_op89 am_w_1013 am_s_41 rfl am_w_1011, List.forall_mem_cons.mpr ⟨am_LL20 (ci := 9) rfl am_om102 am_op102 am_w_1009 am_s_40 rfl am_w_1007, List.forall_mem_cons.mpr ⟨am_LL20 (ci := 9) rfl am_om100 am_op100 am_w_1002 am_s_39 rfl am_w_1000, List.forall_mem_cons.mpr ⟨am_LL20 (ci := 9) rfl am_om101 am_op101 am_w_998 am_s_38 rfl am_w_996, List.forall_mem_cons.mpr ⟨am_LL0 rfl (by decide) rfl am_w_805 rfl, List.forall_mem_cons.mpr ⟨am_LL0 rfl (by decide) rfl am_w_801 rfl, List.forall_mem_cons.mpr ⟨am_LL0 rfl (by decide) rfl am_w_800 rfl, List.forall_mem_cons.mpr ⟨am_LL20 (ci := 9) rfl am_om116 am_op116 am_w_1021 am_s_43 rfl am_w_1019, List.forall_mem_cons.mpr ⟨am_LL22 rfl (Or.inl am_om111) am_op111 am_w_1024 am_w_1023, List.forall_mem_cons.mpr ⟨am_LL20 (ci := 9) rfl am_om86 am_op86 am_w_1028 am_s_44 rfl am_w_1026, List.forall_mem_cons.mpr ⟨am_LL20 (ci := 9) rfl am_om93 am_op93 am_w_994 am_s_37 rfl am_w_992, List.forall_mem_cons.mpr ⟨am_LL20 (ci := 9) rfl am_om104 am_op104 am_w_1060 am_s_47 rfl am_w_1058, List.forall_mem_cons.mpr ⟨am_LL20 (ci := 9) rfl am_om95 am_op95 am_w_982 am_s_34 rfl am_w_980, List.forall_mem_cons.mpr ⟨am_LL20 (ci := 9) rfl am_om94 am_op94 am_w_966 am_s_30 rfl am_w_964, List.forall_mem_cons.mpr ⟨am_LL0 rfl (by decide) rfl am_w_799 rfl, List.forall_mem_cons.mpr ⟨am_LL20 (ci := 9) rfl am_om114 am_op114 am_w_990 am_s_36 rfl am_w_988, List.forall_mem_cons.mpr ⟨am_LL0 rfl (by decide) rfl am_w_817 rfl, List.forall_mem_cons.mpr ⟨am_LL20 (ci := 9) rfl am_om96 am_op96 am_w_962 am_s_29 rfl am_w_960, List.forall_mem_cons.mpr ⟨am_LL0 rfl (by decide) rfl am_w_823 rfl, List.forall_mem_cons.mpr ⟨am_LL20 (ci := 9) rfl am_om128 am_op128 am_w_938 am_s_24 rfl am_w_936, List.forall_mem_cons.mpr ⟨am_LL20 (ci := 9) rfl am_om92 am_op92 am_w_986 am_s_35 rfl am_w_984, List.forall_mem_cons.mpr ⟨am_LL20 (ci := 9) rfl am_om83 am_op83 am_w_970 am_s_31 rfl am_w_968, List.forall_mem_cons.mpr ⟨am_LL20 (ci := 9) rfl am_om120 am_op120 am_w_954 am_s_27 rfl am_w_952, List.forall_mem_cons.mpr ⟨am_LL0 rfl (by decide) rfl am_w_802 rfl, List.forall_mem_cons.mpr ⟨am_LL20 (ci := 9) rfl am_om105 am_op105 am_w_974 am_s_32 rfl am_w_972, List.forall_mem_cons.mpr ⟨am_LL20 (ci := 9) rfl am_om85 am_op85 am_w_978 am_s_33 rfl am_w_976, List.forall_mem_cons.mpr ⟨am_LL22 rfl (Or.inl am_om113) am_op113 am_w_934 am_w_933, List.forall_mem_cons.mpr ⟨am_LL20 (ci := 9) rfl am_om125 am_op125 am_w_942 am_s_25 rfl am_w_940, List.forall_mem_cons.mpr ⟨am_LL20 (ci := 9) rfl am_om123 am_op123 am_w_946 am_s_26 rfl am_w_944, List.forall_mem_cons.mpr ⟨am_LL20 (ci := 9) rfl am_om122 am_op122 am_w_958 am_s_28 rfl am_w_956, List.forall_mem_cons.mpr ⟨am_LL0 rfl (by decide) rfl am_w_839 rfl, List.forall_mem_cons.mpr ⟨am_LL20 (ci := 9) rfl am_om126 am_op126 am_w_1052 am_s_45 rfl am_w_1050, List.forall_mem_cons.mpr ⟨am_LL20 (ci := 9) rfl am_om84 am_op84 am_w_1056 am_s_46 rfl am_w_1054, List.forall_mem_cons.mpr ⟨am_LL20 (ci := 9) rfl am_om82 am_op82 am_w_1064 am_s_48 rfl am_w_1062, List.forall_mem_cons.mpr ⟨am_LL20 (ci := 9) rfl am_om124 am_op124 am_w_1068 am_s_49 rfl am_w_1066, List.forall_mem_cons.mpr ⟨am_LL12 am_w_1098, List.forall_mem_cons.mpr ⟨am_LL20 (ci := 9) rfl am_om129 am_op129 am_w_1096 am_s_50 rfl am_w_1094, List.forall_mem_cons.mpr ⟨am_LL12 am_w_1099, (fun x hx => nomatch hx)⟩⟩⟩⟩⟩⟩⟩⟩⟩⟩⟩⟩⟩⟩⟩⟩⟩⟩⟩⟩⟩⟩⟩⟩⟩⟩⟩⟩⟩⟩⟩⟩⟩⟩⟩⟩⟩⟩⟩⟩⟩⟩⟩⟩⟩⟩⟩⟩⟩⟩⟩⟩⟩⟩⟩⟩⟩⟩⟩⟩⟩⟩⟩⟩⟩⟩⟩⟩⟩⟩⟩⟩⟩⟩⟩
theorem am_ll10 (b : Nat) : ∀ x ∈ am_l10, am_LL b "OverlayNetLaw" x.1 x.2 := List.forall_mem_cons.mpr ⟨am_LL20 (ci := 0) rfl am_om20 am_op20 am_w_281 am_w_282 rfl am_w_280, List.forall_mem_cons.mpr ⟨am_LL9 (C := "OverlayNet") rfl am_w_21 am_w_22 am_w_1 (fun h => absurd h (by decide)), List.forall_mem_cons.mpr ⟨am_LL20 (ci := 0) rfl am_om22 am_op22 am_w_451 am_w_452 rfl am_w_450, List.forall_mem_cons.mpr ⟨am_LL20 (ci := 0) rfl am_om30 am_op30 am_w_586 am_w_587 rfl am_w_585, List.forall_mem_cons.mpr ⟨am_LL20 (ci := 0) rfl am_om18 am_op18 am_w_599 am_w_600 rfl am_w_598, List.forall_mem_cons.mpr ⟨am_LL20 (ci := 0) rfl am_om19 am_op19 am_w_638 am_w_639 rfl am_w_637, List.forall_mem_cons.mpr ⟨am_LL20 (ci := 0) rfl am_om29 am_op29 am_w_646 am_w_647 rfl am_w_645, List.forall_mem_cons.mpr ⟨am_LL20 (ci := 0) rfl am_om3 am_op3 am_w_698 am_w_699 rfl am_w_697, List.forall_mem_cons.mpr ⟨am_LL20 (ci := 0) rfl am_om11 am_op11 am_w_707 am_w_708 rfl am_w_706, List.forall_mem_cons.mpr ⟨am_LL20 (ci := 0) rfl am_om10 am_op10 am_w_731 am_w_732 rfl am_w_730, List.forall_mem_cons.mpr ⟨am_LL20 (ci := 0) rfl am_om5 am_op5 am_w_754 am_w_755 rfl am_w_753, List.forall_mem_cons.mpr ⟨am_LL20 (ci := 0) rfl am_om17 am_op17 am_w_763 am_w_764 rfl am_w_762, List.forall_mem_cons.mpr ⟨am_LL20 (ci := 0) rfl am_om28 am_op28 am_w_772 am_w_773 rfl am_w_771, List.forall_mem_cons.mpr ⟨am_LL20 (ci := 0) rfl am_om27 am_op27 am_w_780 am_w_781 rfl am_w_779, List.forall_mem_cons.mpr ⟨am_LL20 (ci := 0) rfl am_om34 am_op34 am_w_788 am_w_789 rfl am_w_787, List.forall_mem_cons.mpr ⟨am_LL24 rfl am_om0 am_op0 am_w_24 rfl rfl am_w_23, List.forall_mem_cons.mpr ⟨am_LL9 (C := "OverlayNetModel") rfl am_w_792 am_w_793 am_w_10 (fun h => absurd h (by decide)), List.forall_mem_cons.mpr ⟨am_LL24 rfl am_om81 am_op81 am_w_795 rfl rfl am_w_794, List.forall_mem_cons.mpr ⟨am_LL22 rfl (Or.inr am_om137) am_op137 am_w_276 am_w_275, List.forall_mem_cons.mpr ⟨am_LL20 (ci := 9) rfl am_om109 am_op109 am_w_930 am_w_931 rfl am_w_929, List.forall_mem_cons.mpr ⟨am_LL22 rfl (Or.inr am_om138) am_op138 am_w_448 am_w_447, List.forall_mem_cons.mpr ⟨am_LL20 (ci := 9) rfl am_om110 am_op110 am_w_949 am_w_950 rfl am_w_948, List.forall_mem_cons.mpr ⟨am_LL22 rfl (Or.inr am_om142) am_op142 am_w_583 am_w_582, List.forall_mem_cons.mpr ⟨am_LL20 (ci := 9) rfl am_om121 am_op121 am_w_1031 am_w_1032 rfl am_w_1030, List.forall_mem_cons.mpr ⟨am_LL22 rfl (Or.inr am_om135) am_op135 am_w_596 am_w_595, List.forall_mem_cons.mpr ⟨am_LL20 (ci := 9) rfl am_om106 am_op106 am_w_1035 am_w_1036 rfl am_w_1034, List.forall_mem_cons.mpr ⟨am_LL20 (ci := 0) rfl am_om2 am_op2 am_w_260 am_w_261 rfl am_w_259, List.forall_mem_cons.mpr ⟨am_LL20 (ci := 9) rfl am_om87 am_op87 am_w_1039 am_w_1040 rfl am_w_1038, List.forall_mem_cons.mpr ⟨am_LL22 rfl (Or.inr am_om136) am_op136 am_w_635 am_w_634, List.forall_mem_cons.mpr ⟨am_LL20 (ci := 9) rfl am_om108 am_op108 am_w_1043 am_w_1044 rfl am_w_1042, List.forall_mem_cons.mpr ⟨am_LL22 rfl (Or.inr am_om141) am_op141 am_w_643 am_w_642, List.forall_mem_cons.mpr ⟨am_LL20 (ci := 9) rfl am_om119 am_op119 am_w_1047 am_w_1048 rfl am_w_1046, List.forall_mem_cons.mpr ⟨am_LL20 (ci := 0) rfl am_om23 am_op23 am_w_264 am_w_265 rfl am_w_263, List.forall_mem_cons.mpr ⟨am_LL20 (ci := 9) rfl am_om112 am_op112 am_w_1071 am_w_1072 rfl am_w_1070, List.forall_mem_cons.mpr ⟨am_LL22 rfl (Or.inr am_om130) am_op130 am_w_695 am_w_694, List.forall_mem_cons.mpr ⟨am_LL20 (ci := 9) rfl am_om88 am_op88 am_w_1075 am_w_1076 rfl am_w_1074, List.forall_mem_cons.mpr ⟨am_LL22 rfl (Or.inr am_om133) am_op133 am_w_703 am_w_702, List.forall_mem_cons.mpr ⟨am_LL20 (ci := 9) rfl am_om99 am_op99 am_w_1079 am_w_1080 rfl am_w_1078, List.forall_mem_cons.mpr ⟨am_LL20 (ci := 9) rfl am_om146 am_op146 am_w_926 am_w_927 rfl am_w_925, List.forall_mem_cons.mpr ⟨am_LL20 (ci := 0) rfl am_om25 am_op25 am_w_268 am_w_269 rfl am_w_267, List.forall_mem_cons.mpr ⟨am_LL20 (ci := 9) rfl am_om115 am_op115 am_w_1083 am_w_1084 rfl am_w_1082, List.forall_mem_cons.mpr ⟨am_LL20 (ci := 0) rfl am_om4 am_op4 am_w_272 am_w_273 rfl am_w_271, List.forall_mem_cons.mpr ⟨am_LL20 (ci := 9) rfl am_om90 am_op90 am_w_1087 am_w_1088 rfl am_w_1086, List.forall_mem_cons.mpr ⟨am_LL22 rfl (Or.inr am_om132) am_op132 am_w_728 am_w_727, List.forall_mem_cons.mpr ⟨am_LL20 (ci := 9) rfl am_om97 am_op97 am_w_1091 am_w_1092 rfl am_w_1090, List.forall_mem_cons.mpr ⟨am_LL22 rfl (Or.inr am_om131) am_op131 am_w_751 am_w_750, List.forall_mem_cons.mpr ⟨am_LL20 (ci := 9) rfl am_om91 am_op91 am_w_1101 am_w_1102 rfl am_w_1100, List.forall_mem_cons.mpr ⟨am_LL22 rfl (Or.inr am_om134) am_op134 am_w_760 am_w_759, List.forall_mem_cons.mpr ⟨am_LL20 (ci := 9) rfl am_om103 am_op103 am_w_1105 am_w_1106 rfl am_w_1104, List.forall_mem_cons.mpr ⟨am_LL22 rfl (Or.inr am_om140) am_op140 am_w_769 am_w_768, List.forall_mem_cons.mpr ⟨am_LL20 (ci := 9) rfl am_om118 am_op118 am_w_1109 am_w_1110 rfl am_w_1108, List.forall_mem_cons.mpr ⟨am_LL22 rfl (Or.inr am_om139) am_op139 am_w_777 am_w_776, List.forall_mem_cons.mpr ⟨am_LL20 (ci := 9) rfl am_om117 am_op117 am_w_1113 am_w_1114 rfl am_w_1112, List.forall_mem_cons.mpr ⟨am_LL22 rfl (Or.inr am_om143) am_op143 am_w_785 am_w_784, List.forall_mem_cons.mpr ⟨am_LL20 (ci := 9) rfl am_om127 am_op127 am_w_1117 am_w_1118 rfl am_w_1116, (fun x hx => nomatch hx)⟩⟩⟩⟩⟩⟩⟩⟩⟩⟩⟩⟩⟩⟩⟩⟩⟩⟩⟩⟩⟩⟩⟩⟩⟩⟩⟩⟩⟩⟩⟩⟩⟩⟩⟩⟩⟩⟩⟩⟩⟩⟩⟩⟩⟩⟩⟩⟩⟩⟩⟩⟩⟩⟩⟩
theorem am_ll11 (b : Nat) : ∀ x ∈ am_l11, am_LL b "java/util/Arrays" x.1 x.2 := (fun x hx => nomatch hx)
theorem am_ll12 (b : Nat) : ∀ x ∈ am_l12, am_LL b "java/lang/Integer" x.1 x.2 := List.forall_mem_cons.mpr ⟨am_LL12 am_w_549, List.forall_mem_cons.mpr ⟨am_LL12 am_w_550, List.forall_mem_cons.mpr ⟨am_LL12 am_w_551, (fun x hx => nomatch hx)⟩⟩⟩
