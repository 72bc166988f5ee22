/-! ===== what a run leaves as it was, seen from its instructions alone ===== -/
section FZ
variable (F : Nat → Nat → Bool) (bt : Nat → Bool)
/-- fields of classes that F names, and rows of the kinds that bt names (booleans 101, longs 102) -/
def fz_eq (h h' : am_H) : Prop := ∀ (a t : Nat) (vs : List Value), h[a]? = some (t, vs) → ∃ vs', h'[a]? = some (t, vs') ∧ (∀ i, F t i = true → vs'[i]? = vs[i]?) ∧ (bt t = true → vs' = vs)
/-- where an instruction may go on, but for the next -/
def fz_ts (pc : Nat) : Instr → List Int
  | .goto off => [(pc : Int) + off]
  | .ifCond _ off => [(pc : Int) + off]
  | .if_icmp _ off => [(pc : Int) + off]
  | .tableswitch d _ _ offs => ((pc : Int) + d) :: offs.toList.map (fun o => (pc : Int) + o)
  | _ => []
def fz_i (A : Nat → Bool) (p0 : Nat) (mi : am_M) : Instr → Bool
  | .putfield ix => match am_lk (am_o mi) ix with
    | some kk => !F kk.2.1 kk.2.2.1
    | none => true
  | .bastore => !bt 101
  | .lastore => !bt 102
  | .lookupswitch _ _ => Nat.beq p0 0
  | .invokevirtual ix => match am_lk (am_o mi) ix with
    | some kk => A kk.2.1
    | none => true
  | .invokestatic ix => match am_lk (am_o mi) ix with
    | some kk => Nat.ble 27 kk.1 || A kk.2.1
    | none => true
  | .invokespecial ix => match am_lk (am_o mi) ix with
    | some kk => Nat.beq kk.1 26 || Nat.beq kk.1 15 || A kk.2.1
    | none => true
  | _ => true
def fz_m (A : Nat → Bool) (p0 : Nat) (mi : am_M) : Bool := (am_c mi).all (fun x => Nat.blt x.1 p0 || (fz_i F bt A p0 mi x.2.1 && (fz_ts x.1 x.2.1).all (fun t => decide ((p0 : Int) ≤ t)))) && (am_h mi).all (fun y => Nat.ble p0 y.2.2.1)
variable {F bt}
theorem fz_refl (h : am_H) : fz_eq F bt h h := fun _ _ vs e => ⟨vs, e, fun _ _ => rfl, fun _ => rfl⟩
theorem fz_trans {h1 h2 h3 : am_H} (a : fz_eq F bt h1 h2) (b : fz_eq F bt h2 h3) : fz_eq F bt h1 h3 := fun x t vs e => by
  obtain ⟨v2, e2, p2, q2⟩ := a x t vs e
  obtain ⟨v3, e3, p3, q3⟩ := b x t v2 e2
  exact ⟨v3, e3, fun i hi => (p3 i hi).trans (p2 i hi), fun g1 => (q3 g1).trans (q2 g1)⟩
theorem fz_app (h l : am_H) : fz_eq F bt h (h ++ l) := fun a t vs e => ⟨vs, by rw [List.getElem?_append_left (List.getElem?_eq_some_iff.mp e).1]; exact e, fun _ _ => rfl, fun _ => rfl⟩
theorem fz_set {h : am_H} {a t : Nat} {vs vs' : List Value} (e : h[a]? = some (t, vs)) (h1 : ∀ i, F t i = true → vs'[i]? = vs[i]?) (h2 : bt t = true → vs' = vs) : fz_eq F bt h (h.set a (t, vs')) := by
  intro x t1 v1 e1
  by_cases hx : x = a
  · subst hx
    rw [e] at e1
    cases e1
    exact ⟨vs', List.getElem?_set_self (List.getElem?_eq_some_iff.mp e).1, h1, h2⟩
  · exact ⟨v1, by rw [List.getElem?_set_ne (Ne.symm hx)]; exact e1, fun _ _ => rfl, fun _ => rfl⟩
theorem fz_arr {h : am_H} {a t : Nat} {vs : List Value} (e : am_arr h a t = some vs) : h[a]? = some (t, vs) := by
  unfold am_arr at e
  split at e
  · rename_i c hc
    split at e
    · rename_i ht
      cases e
      rw [hc, ← ht]
    · cases e
  · cases e
theorem fz_wr {h h' : am_H} {a t : Nat} {vs : List Value} {i : Int32} {v : Value} (hF : ∀ t i, F t i = true → t < 100) (ht : 100 ≤ t) (hb : bt t = false) (e : h[a]? = some (t, vs)) (w : am_wr h a t vs i v = some h') : fz_eq F bt h h' := by
  unfold am_wr at w
  split at w
  · cases w
  · split at w
    · cases w
      exact fz_set e (fun i hi => absurd (hF t i hi) (by omega)) (fun g1 => by rw [hb] at g1; cases g1)
    · cases w
theorem fz_cmp {t : Nat} {oo : Option Nat} (h : am_cmp t = some oo) : 103 ≤ t := by
  unfold am_cmp at h
  split at h <;> first | omega | cases h
def fz_P (F : Nat → Nat → Bool) (bt : Nat → Bool) (p0 : Nat) (h : am_H) (S : am_S) : Prop := p0 ≤ S.1 ∧ fz_eq F bt h S.2.2.2.1
set_option maxHeartbeats 4000000 in
set_option maxRecDepth 100000 in
theorem fz_exec (hF : ∀ t i, F t i = true → t < 100) (hB : ∀ t, bt t = true → t = 101 ∨ t = 102) {A : Nat → Bool} {xs : am_O} {mi : am_M} {i : Instr} {n pc k q p0 : Nat} {lo : List (Option Value)} {st : List Value} {h : am_H} {S' : am_S} (hp : p0 ≤ pc) (hi : fz_i F bt A p0 mi i = true) (ht : (fz_ts pc i).all (fun t => decide ((p0 : Int) ≤ t)) = true) (he : am_exec am_fty am_dfl am_cmp am_lk xs mi i n pc lo st h k q = some (.inl S')) : fz_P F bt p0 h S' := by
  have nb : ∀ t, t ≠ 101 → t ≠ 102 → bt t = false := fun t h1 h2 => by
    cases e : bt t with
    | false => rfl
    | true => rcases hB t e with e | e; exact absurd e h1; exact absurd e h2
  have go : ∀ (S : am_S), pc ≤ S.1 → S.2.2.2.1 = h → am_go S = some (.inl S') → fz_P F bt p0 h S' := by
    intro S h1 h2 h3
    cases h3
    exact ⟨Nat.le_trans hp h1, by rw [h2]; exact fz_refl h⟩
  have goa : ∀ (S : am_S) (l : am_H), pc ≤ S.1 → S.2.2.2.1 = h ++ l → am_go S = some (.inl S') → fz_P F bt p0 h S' := by
    intro S l h1 h2 h3
    cases h3
    exact ⟨Nat.le_trans hp h1, by rw [h2]; exact fz_app h l⟩
  have gow : ∀ (S : am_S), pc ≤ S.1 → fz_eq F bt h S.2.2.2.1 → am_go S = some (.inl S') → fz_P F bt p0 h S' := by
    intro S h1 h2 h3
    cases h3
    exact ⟨Nat.le_trans hp h1, h2⟩
  have bin : ∀ f, am_bin n f pc lo st h k q = some (.inl S') → fz_P F bt p0 h S' := by
    intro f h1
    obtain ⟨-, x, y, z, r, -, -, hX⟩ := am_bin_inv h1
    cases hX
    exact ⟨Nat.le_trans hp (Nat.le_add_right _ _), fz_refl h⟩
  have lod : ∀ j len re, am_lod n j len re pc lo st h k q = some (.inl S') → fz_P F bt p0 h S' := by
    intro j len re h1
    obtain ⟨-, v, -, hX, -⟩ := am_lod_inv h1
    cases hX
    exact ⟨Nat.le_trans hp (Nat.le_add_right _ _), fz_refl h⟩
  have sto : ∀ j len re, am_sto n j len re pc lo st h k q = some (.inl S') → fz_P F bt p0 h S' := by
    intro j len re h1
    obtain ⟨-, -, v, r, -, hX, -⟩ := am_sto_inv h1
    cases hX
    exact ⟨Nat.le_trans hp (Nat.le_add_right _ _), fz_refl h⟩
  have new : ∀ t dv len, am_new n t dv len pc lo st h k q = some (.inl S') → fz_P F bt p0 h S' := by
    intro t dv len h1
    obtain ⟨-, x, r, -, -, -, hX⟩ := am_new_inv h1
    cases hX
    exact ⟨Nat.le_trans hp (Nat.le_add_right _ _), fz_app h _⟩
  have to' : ∀ off st', (p0 : Int) ≤ (pc : Int) + off → am_to pc off lo st' h k q = some (.inl S') → fz_P F bt p0 h S' := by
    intro off st' h0 h1
    obtain ⟨t, h2, hX⟩ := am_to_inv h1
    cases hX
    exact ⟨by show p0 ≤ t; omega, fz_refl h⟩
  have br : ∀ b off st', (p0 : Int) ≤ (pc : Int) + off → am_br b pc off lo st' h k q = some (.inl S') → fz_P F bt p0 h S' := by
    intro b off st' h0 h1
    obtain ⟨t, h2, hX⟩ := am_br_inv h1
    cases hX
    refine ⟨?_, fz_refl h⟩
    show p0 ≤ (bif b then t else pc + 3)
    cases b
    · show p0 ≤ pc + 3; omega
    · show p0 ≤ t; omega
  cases i
  case iload j => exact lod _ _ _ he
  case iload_n j => exact lod _ _ _ he
  case aload j => exact lod _ _ _ he
  case aload_n j => exact lod _ _ _ he
  case istore j => exact sto _ _ _ he
  case istore_n j => exact sto _ _ _ he
  case astore j => exact sto _ _ _ he
  case astore_n j => exact sto _ _ _ he
  case iadd => simp only [am_exec] at he; exact bin _ he
  case isub => simp only [am_exec] at he; exact bin _ he
  case imul => simp only [am_exec] at he; exact bin _ he
  case iand =>
    simp only [am_exec] at he
    obtain ⟨-, y, z, v, r, -, hS, -⟩ := am_and_inv he
    cases hS
    exact ⟨Nat.le_trans hp (Nat.le_add_right _ _), fz_refl h⟩
  case ior => simp only [am_exec] at he; exact bin _ he
  case idiv => simp only [am_exec] at he; exact bin _ he
  case irem => simp only [am_exec] at he; exact bin _ he
  case ishl => simp only [am_exec] at he; exact bin _ he
  case ishr => simp only [am_exec] at he; exact bin _ he
  case iushr => simp only [am_exec] at he; exact bin _ he
  case newarray ty =>
    cases ty
    case int => exact new _ _ _ he
    case boolean => exact new _ _ _ he
    case long => exact new _ _ _ he
    all_goals exact nomatch (show (none : Option am_X) = some (.inl S') from he)
  case goto off =>
    simp only [am_exec] at he
    split at he
    · exact to' _ _ (by simpa [fz_ts] using ht) he
    · cases he
  case ifCond c off =>
    simp only [am_exec] at he
    repeat' (split at he)
    all_goals (first | (cases he; done) | exact br _ _ _ (by simpa [fz_ts] using ht) he)
  case if_icmp c off =>
    simp only [am_exec] at he
    repeat' (split at he)
    all_goals (first | (cases he; done) | exact br _ _ _ (by simpa [fz_ts] using ht) he)
  case tableswitch d a b offs =>
    have h0 : (p0 : Int) ≤ (pc : Int) + d := of_decide_eq_true (List.all_eq_true.mp ht _ List.mem_cons_self)
    have h1 : ∀ o ∈ offs.toList, (p0 : Int) ≤ (pc : Int) + o := fun o ho => of_decide_eq_true (List.all_eq_true.mp ht _ (List.mem_cons_of_mem _ (List.mem_map.mpr ⟨o, ho, rfl⟩)))
    simp only [am_exec] at he
    split at he
    · split at he
      · exact to' _ _ h0 he
      · split at he
        · rename_i off hoff
          exact to' _ _ (h1 off (Array.mem_toList_iff.mpr (Array.mem_of_getElem? hoff))) he
        · cases he
    · cases he
  case lookupswitch d ps =>
    have h0 : p0 = 0 := Nat.eq_of_beq_eq_true hi
    subst h0
    simp only [am_exec] at he
    split at he
    · split at he
      · exact to' _ _ (by
          obtain ⟨t, h2, -⟩ := am_to_inv he
          rw [h2]
          exact Int.natCast_nonneg t) he
      · cases he
    · cases he
  case putfield ix =>
    simp only [am_exec] at he
    split at he
    · split at he
      · rename_i kk hl
        have hi : (!F kk.2.1 kk.2.2.1) = true := by
          have hi : (match am_lk (am_o mi) ix with
            | some kk => !F kk.2.1 kk.2.2.1
            | none => true) = true := hi
          rw [hl] at hi
          exact hi
        unfold am_putf at he
        split at he
        · split at he
          · split at he
            · rename_i vs ty ha hty
              split at he
              · refine gow _ (Nat.le_add_right _ _) (fz_set (fz_arr ha) (fun i hF1 => ?_) (fun e => ?_)) he
                · rw [List.getElem?_set_ne]
                  intro e
                  rw [← e] at hF1
                  rw [hF1] at hi
                  cases hi
                · exfalso
                  unfold am_fty at hty
                  rcases hB _ e with e | e <;> rw [e] at hty <;> cases hty
              · cases he
            · cases he
          · cases he
        · cases he
      · cases he
    · cases he
  case getfield ix =>
    simp only [am_exec, am_getf] at he
    repeat' (split at he)
    all_goals (first | (cases he; done) | exact go _ (Nat.le_add_right _ _) rfl he)
  case iastore =>
    simp only [am_exec] at he
    split at he
    · split at he
      · split at he
        · rename_i vs ha
          split at he
          · rename_i h' hw
            exact gow _ (Nat.le_add_right _ _) (fz_wr hF (by omega) (nb _ (by decide) (by decide)) (fz_arr ha) hw) he
          · cases he
        · cases he
      · cases he
    · cases he
  case bastore =>
    have hi : (!bt 101) = true := hi
    simp only [am_exec] at he
    split at he
    · split at he
      · split at he
        · rename_i vs ha
          split at he
          · split at he
            · rename_i h' hw
              exact gow _ (Nat.le_add_right _ _) (fz_wr hF (by omega) (by cases e : bt 101 with
                | false => rfl
                | true => rw [e] at hi; cases hi) (fz_arr ha) hw) he
            · cases he
          · cases he
        · cases he
      · cases he
    · cases he
  case lastore =>
    have hi : (!bt 102) = true := hi
    simp only [am_exec] at he
    split at he
    · split at he
      · split at he
        · rename_i vs ha
          split at he
          · rename_i h' hw
            exact gow _ (Nat.le_add_right _ _) (fz_wr hF (by omega) (by cases e : bt 102 with
              | false => rfl
              | true => rw [e] at hi; cases hi) (fz_arr ha) hw) he
          · cases he
        · cases he
      · cases he
    · cases he
  case aastore =>
    simp only [am_exec] at he
    split at he
    · split at he
      · split at he
        · rename_i c cv hc hcv
          split at he
          · rename_i hcm
            split at he
            · rename_i h' hw
              have h3 := fz_cmp hcm
              exact gow _ (Nat.le_add_right _ _) (fz_wr hF (by omega) (nb _ (by omega) (by omega)) hc hw) he
            · cases he
          · cases he
        · cases he
      · cases he
    · cases he
  case multianewarray ix d =>
    simp only [am_exec] at he
    repeat' (split at he)
    all_goals (first | (cases he; done) | exact goa _ _ (Nat.le_add_right _ _) rfl he)
  case anewarray ix =>
    simp only [am_exec] at he
    repeat' (split at he)
    all_goals (first | (cases he; done) | exact new _ _ _ he)
  case new ix =>
    simp only [am_exec] at he
    split at he
    · split at he
      · split at he
        · split at he
          · exact goa _ _ (Nat.le_add_right _ _) rfl he
          · cases he
        · split at he
          · exfalso
            obtain ⟨-, -, -, is, ic, d, ks, kc, -, -, -, -, -, -, -, -, hX⟩ := am_thr_inv he
            cases hX
          · cases he
      · cases he
    · cases he
  case invokevirtual ix =>
    exfalso
    simp only [am_exec] at he
    repeat' (split at he)
    all_goals (first | (cases he; done) | (obtain ⟨as, r, -, -, -, ⟨-, -, hX⟩ | ⟨-, a, c, -, -, -, hX⟩⟩ := am_ask_inv he <;> cases hX))
  case invokestatic ix =>
    simp only [am_exec] at he
    split at he
    · split at he
      · split at he
        · exfalso
          obtain ⟨as, r, -, -, -, ⟨-, -, hX⟩ | ⟨-, a, c, -, -, -, hX⟩⟩ := am_ask_inv he <;> cases hX
        · split at he
          · split at he
            · split at he
              · exact go _ (Nat.le_add_right _ _) rfl he
              · cases he
            · cases he
          · split at he
            · unfold am_cpyi at he
              split at he
              · split at he
                · split at he
                  · rename_i us vs ha hb
                    split at he
                    · exact gow _ (Nat.le_add_right _ _) (fz_set (fz_arr hb) (fun i hF1 => absurd (hF _ _ hF1) (by omega)) (fun e => by rw [nb 100 (by decide) (by decide)] at e; cases e)) he
                    · cases he
                  · cases he
                · cases he
              · cases he
            · cases he
      · cases he
    · cases he
  case invokespecial ix =>
    simp only [am_exec] at he
    split at he
    · split at he
      · split at he
        · exfalso
          obtain ⟨as, r, -, -, -, ⟨-, -, hX⟩ | ⟨-, a, c, -, -, -, hX⟩⟩ := am_ask_inv he <;> cases hX
        · repeat' (split at he)
          all_goals (first | (cases he; done) | exact go _ (Nat.le_add_right _ _) rfl he)
      · cases he
    · cases he
  all_goals (first | exact nomatch (show (none : Option am_X) = some (.inl S') from he) | simp only [am_exec] at he)
  all_goals (repeat' (split at he))
  all_goals (first | (cases he; done) | exact go _ (Nat.le_add_right _ _) rfl he)
theorem fz_exr {A : Nat → Bool} {xs : am_O} {mi : am_M} {i : Instr} {n pc k q p0 : Nat} {lo : List (Option Value)} {st : List Value} {h : am_H} {Y : am_R ⊕ (Nat × List Value × am_S)} (hi : fz_i F bt A p0 mi i = true) (he : am_exec am_fty am_dfl am_cmp am_lk xs mi i n pc lo st h k q = some (.inr Y)) : match Y with
    | .inl r => fz_eq F bt h r.2.1
    | .inr c => A c.1 = true ∧ c.2.2.1 = pc ∧ c.2.2.2.2.2.1 = h := by
  rcases am_exec_inr he with ⟨ix, kf, rc, hl, -, hask, hk⟩ | ⟨-, ⟨-, x, -, -, rfl⟩ | ⟨-, a, C, -, -, rfl⟩ | ⟨-, -, -, rfl⟩⟩ | ⟨ix, kf, -, -, -, -, -, ht⟩
  · have hA : A kf.2.1 = true := by
      rcases hk with ⟨rfl, -, h1⟩ | ⟨rfl, -, h1⟩ | ⟨rfl, -, h1⟩
      · have hi : (match am_lk (am_o mi) ix with
          | some kk => A kk.2.1
          | none => true) = true := hi
        rw [hl] at hi
        exact hi
      · have hi : (match am_lk (am_o mi) ix with
          | some kk => Nat.ble 27 kk.1 || A kk.2.1
          | none => true) = true := hi
        rw [hl] at hi
        rcases Bool.or_eq_true_iff.mp hi with e | e
        · have := Nat.le_of_ble_eq_true e
          omega
        · exact e
      · have hi : (match am_lk (am_o mi) ix with
          | some kk => Nat.beq kk.1 26 || Nat.beq kk.1 15 || A kk.2.1
          | none => true) = true := hi
        rw [hl] at hi
        rcases Bool.or_eq_true_iff.mp hi with e | e
        · rcases Bool.or_eq_true_iff.mp e with e | e
          · have := Nat.eq_of_beq_eq_true e
            omega
          · have := Nat.eq_of_beq_eq_true e
            omega
        · exact e
    obtain ⟨as, r, -, -, -, ⟨-, -, hX⟩ | ⟨-, a, c, -, -, -, hX⟩⟩ := am_ask_inv hask
    · cases hX
      exact ⟨hA, rfl, rfl⟩
    · cases hX
      exact ⟨hA, rfl, rfl⟩
  · exact fz_refl h
  · exact fz_refl h
  · exact fz_refl h
  · obtain ⟨-, -, -, is, ic, d, ks, kc, -, -, -, -, -, -, -, -, hX⟩ := am_thr_inv ht
    cases hX
    exact fz_app h _
theorem fz_cat {cx : Nat → Option Nat} {p0 pc ci t : Nat} : ∀ {l : List (Nat × Nat × Nat × Nat)}, l.all (fun y => Nat.ble p0 y.2.2.1) = true → am_catch cx l pc ci = some t → p0 ≤ t
  | [], _, h => by cases h
  | (a, b, t1, ty) :: r, hl, h => by
    rw [List.all_cons] at hl
    obtain ⟨l1, l2⟩ := Bool.and_eq_true_iff.mp hl
    unfold am_catch at h
    split at h
    · split at h
      · split at h
        · cases h
          exact Nat.le_of_ble_eq_true l1
        · exact fz_cat l2 h
      · cases h
    · exact fz_cat l2 h
theorem fz_run (hF : ∀ t i, F t i = true → t < 100) (hB : ∀ t, bt t = true → t = 101 ∨ t = 102) {A : Nat → Bool} (hA : ∀ j mj, A j = true → am_ms j = some mj → fz_m F bt A 0 mj = true) : ∀ (f : Nat) (xs : am_O) (p0 : Nat) (mi : am_M) (S : am_S) (r : am_R), fz_m F bt A p0 mi = true → p0 ≤ S.1 → am_run am_fty am_dfl am_cmp am_lk am_ms am_cx xs f mi S = some r → fz_eq F bt S.2.2.2.1 r.2.1
  | 0, _, _, _, _, _, _, _, h => by cases h
  | f + 1, xs, p0, mi, S, r, hm, hp, h => by
    have hins : ∀ i n, am_ins (am_c mi) S.1 = some (i, n) → fz_i F bt A p0 mi i = true ∧ (fz_ts S.1 i).all (fun t => decide ((p0 : Int) ≤ t)) = true := fun i n hi => by
      have := List.all_eq_true.mp (Bool.and_eq_true_iff.mp hm).1 _ (am_ins_mem hi)
      rcases Bool.or_eq_true_iff.mp this with e | e
      · have := Nat.le_of_ble_eq_true e
        exact absurd this (by show ¬ S.1 + 1 ≤ p0; omega)
      · exact Bool.and_eq_true_iff.mp e
    have stp : ∀ X, am_step am_fty am_dfl am_cmp am_lk xs mi S = some X → ∃ i n, am_ins (am_c mi) S.1 = some (i, n) ∧ am_exec am_fty am_dfl am_cmp am_lk xs mi i n S.1 S.2.1 S.2.2.1 S.2.2.2.1 S.2.2.2.2.1 S.2.2.2.2.2 = some X := fun X hX => by
      unfold am_step at hX
      split at hX
      · rename_i i n hi
        exact ⟨i, n, hi, hX⟩
      · cases hX
    unfold am_run at h
    split at h
    · cases h
    · rename_i S' hs
      obtain ⟨i, n, h1, h2⟩ := stp _ hs
      obtain ⟨g1, g2⟩ := fz_exec hF hB hp (hins i n h1).1 (hins i n h1).2 h2
      exact fz_trans g2 (fz_run hF hB hA f xs p0 mi S' r hm g1 h)
    · rename_i r' hs
      cases h
      obtain ⟨i, n, h1, h2⟩ := stp _ hs
      exact fz_exr (hins i n h1).1 h2
    · rename_i j as pc lo st h0 k q hs
      obtain ⟨i, n, h1, h2⟩ := stp _ hs
      obtain ⟨g1, g2, g3⟩ := fz_exr (hins i n h1).1 h2
      have g2 : pc = S.1 := g2
      have g3 : h0 = S.2.2.2.1 := g3
      split at h
      · cases h
      · rename_i mj hmj
        have hmm := hA j mj g1 hmj
        split at h
        · split at h
          · rename_i v h' k' q' hr
            have e1 := fz_run hF hB hA f _ 0 mj _ _ hmm (Nat.zero_le _) hr
            have e2 := fz_run hF hB hA f _ p0 mi _ _ hm (show p0 ≤ pc + 3 by omega) h
            rw [← g3]
            exact fz_trans e1 e2
          · rename_i x h' k' q' hr
            have e1 := fz_run hF hB hA f _ 0 mj _ _ hmm (Nat.zero_le _) hr
            split at h
            · split at h
              · split at h
                · split at h
                  · rename_i t ht
                    have e2 := fz_run hF hB hA f _ p0 mi _ _ hm (fz_cat (Bool.and_eq_true_iff.mp hm).2 ht) h
                    rw [← g3]
                    exact fz_trans e1 e2
                  · cases h
                · cases h
              · cases h
            · cases h
          · cases h
        · cases h
end FZ
