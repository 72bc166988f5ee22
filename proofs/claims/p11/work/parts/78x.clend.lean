/-! ===== the class: all contracts hold ===== -/
theorem cl_all {τ u : Nat → Nat} {tv mc : Nat} (hmc : mc < 9) (htv : 2147483648 ≤ tv ∧ tv ≤ 2147523647) (hU : ab_U w_uq τ u) (hut : ∀ k, w_uq k = true → τ (u k) = k) : ∀ j as C, C ∈ w_Ct mc j as → cl_Vd mc τ u tv j C := by
  match mc, hmc with
  | 0, _ => exact ab_ind2 (fun j as C hC => wk_lt (fun hj => by have e : w_Ct 0 j as = [] := wk_b146 hj; rw [e] at hC; cases hC)) (fun n ih => cl_v0 htv hU hut n ih)
  | 1, _ => exact ab_ind2 (fun j as C hC => wk_lt (fun hj => by have e : w_Ct 1 j as = [] := wk_b146 hj; rw [e] at hC; cases hC)) (fun n ih => cl_v1 htv hU hut n ih)
  | 2, _ => exact ab_ind2 (fun j as C hC => wk_lt (fun hj => by have e : w_Ct 2 j as = [] := wk_b146 hj; rw [e] at hC; cases hC)) (fun n ih => cl_v2 htv hU hut n ih)
  | 3, _ => exact ab_ind2 (fun j as C hC => wk_lt (fun hj => by have e : w_Ct 3 j as = [] := wk_b146 hj; rw [e] at hC; cases hC)) (fun n ih => cl_v3 htv hU hut n ih)
  | 4, _ => exact ab_ind2 (fun j as C hC => wk_lt (fun hj => by have e : w_Ct 4 j as = [] := wk_b146 hj; rw [e] at hC; cases hC)) (fun n ih => cl_v4 htv hU hut n ih)
  | 5, _ => exact ab_ind2 (fun j as C hC => wk_lt (fun hj => by have e : w_Ct 5 j as = [] := wk_b146 hj; rw [e] at hC; cases hC)) (fun n ih => cl_v5 htv hU hut n ih)
  | 6, _ => exact ab_ind2 (fun j as C hC => wk_lt (fun hj => by have e : w_Ct 6 j as = [] := wk_b146 hj; rw [e] at hC; cases hC)) (fun n ih => cl_v6 htv hU hut n ih)
  | 7, _ => exact ab_ind2 (fun j as C hC => wk_lt (fun hj => by have e : w_Ct 7 j as = [] := wk_b146 hj; rw [e] at hC; cases hC)) (fun n ih => cl_v7 htv hU hut n ih)
  | 8, _ => exact ab_ind2 (fun j as C hC => wk_lt (fun hj => by have e : w_Ct 8 j as = [] := wk_b146 hj; rw [e] at hC; cases hC)) (fun n ih => cl_v8 htv hU hut n ih)
