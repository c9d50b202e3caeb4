/-! the cells that both constructors leave are the first small state's -/
def fin_L (g k : Nat) (u v : Nat → Nat) : List Nat := [g, (u 0), (u 1), (u 2), (u 3), (u 4), (u 5), (u 6), (u 7), (u 8), (u 9), (u 10), (u 11), (u 12), (u 13), (u 14), (u 15), (u 16), (u 17), (u 18), (u 19), (u 20), (u 21), (u 22), (u 23), (u 24), (u 25), (u 25) + 1 + 0, (u 25) + 1 + 1, (u 25) + 1 + 2, (u 25) + 1 + 3, (u 25) + 1 + 4, (u 25) + 1 + 5, (u 25) + 1 + 6, (u 25) + 1 + 7, (u 25) + 1 + 8, (u 25) + 1 + 9, (u 26), (u 27), (u 28), (u 29), (u 29) + 1 + 0, (u 29) + 1 + 1, (u 29) + 1 + 2, (u 29) + 1 + 3, (u 30), (u 31), (u 31) + 1 + 0, (u 31) + 1 + 1, (u 31) + 1 + 2, (u 31) + 1 + 3, (u 31) + 1 + 4, (u 32), (u 33), (u 34), (u 35), (u 36), (u 36) + 1 + 0, (u 36) + 1 + 1, (u 36) + 1 + 2, (u 36) + 1 + 3, (u 36) + 1 + 4, (u 37), (u 38), (u 39), (u 40), (u 41), (u 42), (u 43), (u 44), (u 45), (u 46), (u 47), (u 48), (u 49), (u 50), (u 51), (u 52), (u 53), (u 54), (u 55), (u 56), (u 57), (u 58), (u 59), (u 60), (u 61), (u 62), (u 63), (u 64), (u 65), (u 66), (u 67), (u 68), (u 69), (u 70), (u 71), (u 72), (u 73), (u 74), k, (v 0), (v 1), (v 2), (v 3), (v 4), (v 5), (v 6), (v 7), (v 8), (v 9), (v 10), (v 11), (v 12), (v 13), (v 14), (v 15), (v 16), (v 17), (v 18), (v 19), (v 20), (v 21), (v 22), (v 23)]
def fin_ad (g k : Nat) (u v : Nat → Nat) (f : Nat → Nat × Nat) (t3 n : Nat) : Nat := match (fin_L g k u v)[n]? with
  | some x => x
  | none => if n < 2000 then (f (n - 1000)).1 else if n < 3000 then (f (n - 2000)).2 else t3
section FIN
variable {g k t3 : Nat} {u v : Nat → Nat} {f : Nat → Nat × Nat} {cA : Nat → ClassId} {ad : Nat → Nat}
theorem fin_hi {n : Nat} (h : 125 ≤ n) : fin_ad g k u v f t3 n = if n < 2000 then (f (n - 1000)).1 else if n < 3000 then (f (n - 2000)).2 else t3 := by
  unfold fin_ad
  rw [List.getElem?_eq_none (show (fin_L g k u v).length ≤ n from h)]
theorem fin_K {i : Nat} (h : i < 28) : fin_ad g k u v f t3 (1000 + i) = (f i).1 := by
  rw [fin_hi (by omega), if_pos (by omega), Nat.add_sub_cancel_left]
theorem fin_V {i : Nat} (h : i < 28) : fin_ad g k u v f t3 (2000 + i) = (f i).2 := by
  rw [fin_hi (by omega), if_neg (by omega), if_pos (by omega), Nat.add_sub_cancel_left]
theorem fin_3 : fin_ad g k u v f t3 3000 = t3 := by
  rw [fin_hi (by omega), if_neg (by omega), if_neg (by omega)]
theorem fin_pair {x x' : Nat} {y y' : va_E} (h1 : x = x') (h2 : y = y') : (x, y) = (x', y') := by rw [h1, h2]
theorem fin_i {n t j0 : Nat} (ht : ¬ t = 2) (h : j0 ≠ 3 ∧ j0 ≠ 13 ∧ j0 ≠ 77 ∧ j0 ≠ 88 ∧ j0 ≠ 1 ∧ j0 ≠ 38 ∧ j0 ≠ 122 ∧ j0 ≠ 100 ∧ j0 ≠ 101) : (Sum.inl (cA t, n, .inl (fun _ => 0)) : va_E) = mw_ce ad cA mw_s0 j0 (.inr (.inl (t, n))) := by
  have e : (fun j => i32 (mw_s0 j0 j)) = fun _ => (0 : Int32) := funext fun j => by
    rw [mw_s0_z h]
    exact i32_0
  simp only [mw_ce]
  rw [if_neg ht, e]
theorem fin_l {n j0 : Nat} (h : j0 ≠ 3 ∧ j0 ≠ 13 ∧ j0 ≠ 77 ∧ j0 ≠ 88 ∧ j0 ≠ 1 ∧ j0 ≠ 38 ∧ j0 ≠ 122 ∧ j0 ≠ 100 ∧ j0 ≠ 101) : (Sum.inl (cA 2, n, .inr (.inl (fun _ => 0))) : va_E) = mw_ce ad cA mw_s0 j0 (.inr (.inl (2, n))) := by
  have e : (fun j => i64 (mw_s0 j0 j)) = fun _ => (0 : Int64) := funext fun j => by
    rw [mw_s0_z h]
    decide
  show _ = (Sum.inl (cA 2, n, Sum.inr (Sum.inl (fun j => i64 (mw_s0 j0 j)))) : va_E)
  rw [e]
theorem fin_r {j0 t N q : Nat} {ids : List Nat} (hl : ids.length = N) (h : ∀ i, i < N → (ids[i]?).map ad = some (q + 1 + i)) : (Sum.inl (cA t, N, .inr (.inr (.inr (.inr (fun i => if i < N then some (q + 1 + i) else none))))) : va_E) = mw_ce ad cA mw_s0 j0 (.inr (.inr (t, ids))) := by
  have e : (fun i => (ids[i]?).map ad) = (fun i => if i < N then some (q + 1 + i) else none) := by
    funext i
    by_cases hi : i < N
    · rw [if_pos hi]
      exact h i hi
    · rw [if_neg hi, List.getElem?_eq_none (by omega)]
      rfl
  simp only [mw_ce]
  rw [e, hl]
theorem fin_f {n j0 : Nat} {F : Nat → Int32} (h : F = fun j => i32 (mw_s0 j0 j)) : (Sum.inl (cA 0, n, .inl F) : va_E) = mw_ce ad cA mw_s0 j0 (.inr (.inl (0, n))) := by
  simp only [mw_ce]
  rw [if_neg (by decide), h]
theorem fin_4 {j0 : Nat} (h : j0 = 38 ∨ j0 = 122) : (upd (upd (upd (upd (fun _ => 0) (0 : Int32).toNatClampNeg (-1)) (1 : Int32).toNatClampNeg (-1)) (2 : Int32).toNatClampNeg (-1)) (3 : Int32).toNatClampNeg (-1) : Nat → Int32) = fun j => i32 (mw_s0 j0 j) := by
  have e0 : (0 : Int32).toNatClampNeg = 0 := by decide
  have e1 : (1 : Int32).toNatClampNeg = 1 := by decide
  have e2 : (2 : Int32).toNatClampNeg = 2 := by decide
  have e3 : (3 : Int32).toNatClampNeg = 3 := by decide
  rw [e0, e1, e2, e3]
  funext j
  have e : mw_s0 j0 j = if j < 4 then -1 else 0 := by
    rcases h with rfl | rfl <;> rfl
  rw [e]
  simp only [upd]
  (repeat' split) <;> first | omega | decide
def fin_P (g k t3 : Nat) (u v : Nat → Nat) (f : Nat → Nat × Nat) (cA : Nat → ClassId) (n : Nat) : Prop := (WX11 cA g u ++ WX12 cA k v)[n]? = (mw_ws (fin_ad g k u v f t3) cA mw_s0)[n]?
theorem fu_0 {P : Nat → Prop} : ∀ n, n < 0 → P n := fun n h => absurd h (Nat.not_lt_zero n)
theorem fu_s {P : Nat → Prop} {m : Nat} (h : ∀ n, n < m → P n) (hn : P m) : ∀ n, n < m + 1 → P n := fun n hk => by
  rcases Nat.lt_succ_iff_lt_or_eq.mp hk with h1 | rfl
  · exact h n h1
  · exact hn
set_option maxRecDepth 100000 in
theorem fe_0 : fin_P g k t3 u v f cA 0 := by
  show some ((g : Nat), (.inr (10, [.ref (u 0), .ref (u 12), .ref (u 21), .ref (u 24), .ref (u 26), .ref (u 30), .ref (u 35), .ref (u 40), .ref (u 49), .ref (u 51), .ref (u 62), .ref (u 73), .ref (u 74)]) : va_E)) = _
  rw [mw_ws_at (c := .inl (10, [3, 15, 24, 27, 39, 47, 57, 67, 76, 78, 89, 100, 101])) rfl]
  exact congrArg some (fin_pair rfl rfl)
set_option maxRecDepth 100000 in
theorem fo_1 {ad : Nat → Nat} {σ : mw_S} : mw_ce ad cA σ 1 (.inl (6, [4, 5, 0, 0, 0, 0, 0, 0, 0, 0, 14, 0, 0, 0, 0, 1, 1, 1, 1])) = (.inr (6, [.ref (ad 2), .ref (ad 3), .int (i32 (σ 1 2)), .int (i32 (σ 1 3)), .int (i32 (σ 1 4)), .int (i32 (σ 1 5)), .int (i32 (σ 1 6)), .int (i32 (σ 1 7)), .int (i32 (σ 1 8)), .int (i32 (σ 1 9)), .ref (ad 12), .int (i32 (σ 1 11)), .int (i32 (σ 1 12)), .int (i32 (σ 1 13)), .int (i32 (σ 1 14)), .int (i32 (σ 1 15)), .int (i32 (σ 1 16)), .int (i32 (σ 1 17)), .int (i32 (σ 1 18))]) : va_E) := by
  simp only [mw_ce, List.mapIdx_cons, List.mapIdx_nil]
  rfl
theorem fz_1 {j : Nat} (h : j ≠ 4) : i32 (mw_s0 1 j) = 0 := by
  have e : mw_s0 1 j = 0 := by
    unfold mw_s0
    rw [if_neg (by decide), if_pos rfl, if_neg h]
  rw [e]
  exact i32_0
set_option maxRecDepth 100000 in
theorem fe_1 : fin_P g k t3 u v f cA 1 := by
  show some (((u 0) : Nat), (.inr (6, [.ref (u 1), .ref (u 2), .int 0, .int 0, .int (-1), .int 0, .int 0, .int 0, .int 0, .int 0, .ref (u 11), .int 0, .int 0, .int 0, .int 0, .int 0, .int 0, .int 0, .int 0]) : va_E)) = _
  rw [mw_ws_at (c := .inl (6, [4, 5, 0, 0, 0, 0, 0, 0, 0, 0, 14, 0, 0, 0, 0, 1, 1, 1, 1])) rfl]
  rw [fo_1, show i32 (mw_s0 1 4) = (-1 : Int32) from by decide, fz_1 (j := 2) (by decide), fz_1 (j := 3) (by decide), fz_1 (j := 5) (by decide), fz_1 (j := 6) (by decide), fz_1 (j := 7) (by decide), fz_1 (j := 8) (by decide), fz_1 (j := 9) (by decide), fz_1 (j := 11) (by decide), fz_1 (j := 12) (by decide), fz_1 (j := 13) (by decide), fz_1 (j := 14) (by decide), fz_1 (j := 15) (by decide), fz_1 (j := 16) (by decide), fz_1 (j := 17) (by decide), fz_1 (j := 18) (by decide)]
  exact congrArg some (fin_pair rfl rfl)
set_option maxRecDepth 100000 in
theorem fe_2 : fin_P g k t3 u v f cA 2 := by
  show some (((u 1) : Nat), (.inl (cA 0, 900, .inl (fun _ => 0)) : va_E)) = _
  rw [mw_ws_at (c := .inr (.inl (0, 900))) rfl]
  exact congrArg some (fin_pair rfl (fin_i (by decide) (by decide)))
set_option maxRecDepth 100000 in
theorem fe_3 : fin_P g k t3 u v f cA 3 := by
  show some (((u 2) : Nat), (.inr (0, [.int 5, .int 0, .int 0, .int 0, .int 0, .int 0, .int 0, .ref (u 3), .ref (u 4), .ref (u 5), .ref (u 6), .ref (u 7), .ref (u 8), .ref (u 9), .ref (u 10)]) : va_E)) = _
  rw [mw_ws_at (c := .inl (0, [0, 0, 0, 0, 0, 0, 0, 6, 7, 8, 9, 10, 11, 12, 13])) rfl]
  exact congrArg some (fin_pair rfl rfl)
set_option maxRecDepth 100000 in
theorem fe_4 : fin_P g k t3 u v f cA 4 := by
  show some (((u 3) : Nat), (.inl (cA 0, 3, .inl (fun _ => 0)) : va_E)) = _
  rw [mw_ws_at (c := .inr (.inl (0, 3))) rfl]
  exact congrArg some (fin_pair rfl (fin_i (by decide) (by decide)))
set_option maxRecDepth 100000 in
theorem fe_5 : fin_P g k t3 u v f cA 5 := by
  show some (((u 4) : Nat), (.inl (cA 0, 3, .inl (fun _ => 0)) : va_E)) = _
  rw [mw_ws_at (c := .inr (.inl (0, 3))) rfl]
  exact congrArg some (fin_pair rfl (fin_i (by decide) (by decide)))
set_option maxRecDepth 100000 in
theorem fe_6 : fin_P g k t3 u v f cA 6 := by
  show some (((u 5) : Nat), (.inl (cA 0, 4, .inl (fun _ => 0)) : va_E)) = _
  rw [mw_ws_at (c := .inr (.inl (0, 4))) rfl]
  exact congrArg some (fin_pair rfl (fin_i (by decide) (by decide)))
set_option maxRecDepth 100000 in
theorem fe_7 : fin_P g k t3 u v f cA 7 := by
  show some (((u 6) : Nat), (.inl (cA 0, 8, .inl (fun _ => 0)) : va_E)) = _
  rw [mw_ws_at (c := .inr (.inl (0, 8))) rfl]
  exact congrArg some (fin_pair rfl (fin_i (by decide) (by decide)))
set_option maxRecDepth 100000 in
theorem fe_8 : fin_P g k t3 u v f cA 8 := by
  show some (((u 7) : Nat), (.inl (cA 0, 8, .inl (fun _ => 0)) : va_E)) = _
  rw [mw_ws_at (c := .inr (.inl (0, 8))) rfl]
  exact congrArg some (fin_pair rfl (fin_i (by decide) (by decide)))
set_option maxRecDepth 100000 in
theorem fe_9 : fin_P g k t3 u v f cA 9 := by
  show some (((u 8) : Nat), (.inl (cA 0, 8, .inl (fun _ => 0)) : va_E)) = _
  rw [mw_ws_at (c := .inr (.inl (0, 8))) rfl]
  exact congrArg some (fin_pair rfl (fin_i (by decide) (by decide)))
set_option maxRecDepth 100000 in
theorem fe_10 : fin_P g k t3 u v f cA 10 := by
  show some (((u 9) : Nat), (.inl (cA 0, 8, .inl (fun _ => 0)) : va_E)) = _
  rw [mw_ws_at (c := .inr (.inl (0, 8))) rfl]
  exact congrArg some (fin_pair rfl (fin_i (by decide) (by decide)))
set_option maxRecDepth 100000 in
theorem fe_11 : fin_P g k t3 u v f cA 11 := by
  show some (((u 10) : Nat), (.inl (cA 0, 900, .inl (fun _ => 0)) : va_E)) = _
  rw [mw_ws_at (c := .inr (.inl (0, 900))) rfl]
  exact congrArg some (fin_pair rfl (fin_i (by decide) (by decide)))
set_option maxRecDepth 100000 in
theorem fe_12 : fin_P g k t3 u v f cA 12 := by
  show some (((u 11) : Nat), (.inl (cA 0, 64, .inl (fun _ => 0)) : va_E)) = _
  rw [mw_ws_at (c := .inr (.inl (0, 64))) rfl]
  exact congrArg some (fin_pair rfl (fin_i (by decide) (by decide)))
set_option maxRecDepth 100000 in
theorem fe_13 : fin_P g k t3 u v f cA 13 := by
  show some (((u 12) : Nat), (.inr (0, [.int 5, .int 0, .int 0, .int 0, .int 0, .int 0, .int 0, .ref (u 13), .ref (u 14), .ref (u 15), .ref (u 16), .ref (u 17), .ref (u 18), .ref (u 19), .ref (u 20)]) : va_E)) = _
  rw [mw_ws_at (c := .inl (0, [0, 0, 0, 0, 0, 0, 0, 16, 17, 18, 19, 20, 21, 22, 23])) rfl]
  exact congrArg some (fin_pair rfl rfl)
set_option maxRecDepth 100000 in
theorem fe_14 : fin_P g k t3 u v f cA 14 := by
  show some (((u 13) : Nat), (.inl (cA 0, 3, .inl (fun _ => 0)) : va_E)) = _
  rw [mw_ws_at (c := .inr (.inl (0, 3))) rfl]
  exact congrArg some (fin_pair rfl (fin_i (by decide) (by decide)))
set_option maxRecDepth 100000 in
theorem fe_15 : fin_P g k t3 u v f cA 15 := by
  show some (((u 14) : Nat), (.inl (cA 0, 3, .inl (fun _ => 0)) : va_E)) = _
  rw [mw_ws_at (c := .inr (.inl (0, 3))) rfl]
  exact congrArg some (fin_pair rfl (fin_i (by decide) (by decide)))
set_option maxRecDepth 100000 in
theorem fe_16 : fin_P g k t3 u v f cA 16 := by
  show some (((u 15) : Nat), (.inl (cA 0, 4, .inl (fun _ => 0)) : va_E)) = _
  rw [mw_ws_at (c := .inr (.inl (0, 4))) rfl]
  exact congrArg some (fin_pair rfl (fin_i (by decide) (by decide)))
set_option maxRecDepth 100000 in
theorem fe_17 : fin_P g k t3 u v f cA 17 := by
  show some (((u 16) : Nat), (.inl (cA 0, 8, .inl (fun _ => 0)) : va_E)) = _
  rw [mw_ws_at (c := .inr (.inl (0, 8))) rfl]
  exact congrArg some (fin_pair rfl (fin_i (by decide) (by decide)))
set_option maxRecDepth 100000 in
theorem fe_18 : fin_P g k t3 u v f cA 18 := by
  show some (((u 17) : Nat), (.inl (cA 0, 8, .inl (fun _ => 0)) : va_E)) = _
  rw [mw_ws_at (c := .inr (.inl (0, 8))) rfl]
  exact congrArg some (fin_pair rfl (fin_i (by decide) (by decide)))
set_option maxRecDepth 100000 in
theorem fe_19 : fin_P g k t3 u v f cA 19 := by
  show some (((u 18) : Nat), (.inl (cA 0, 8, .inl (fun _ => 0)) : va_E)) = _
  rw [mw_ws_at (c := .inr (.inl (0, 8))) rfl]
  exact congrArg some (fin_pair rfl (fin_i (by decide) (by decide)))
set_option maxRecDepth 100000 in
theorem fe_20 : fin_P g k t3 u v f cA 20 := by
  show some (((u 19) : Nat), (.inl (cA 0, 8, .inl (fun _ => 0)) : va_E)) = _
  rw [mw_ws_at (c := .inr (.inl (0, 8))) rfl]
  exact congrArg some (fin_pair rfl (fin_i (by decide) (by decide)))
set_option maxRecDepth 100000 in
theorem fe_21 : fin_P g k t3 u v f cA 21 := by
  show some (((u 20) : Nat), (.inl (cA 0, 900, .inl (fun _ => 0)) : va_E)) = _
  rw [mw_ws_at (c := .inr (.inl (0, 900))) rfl]
  exact congrArg some (fin_pair rfl (fin_i (by decide) (by decide)))
set_option maxRecDepth 100000 in
theorem fe_22 : fin_P g k t3 u v f cA 22 := by
  show some (((u 21) : Nat), (.inr (8, [.ref (u 12), .int 0, .int 0, .int 0, .int 0, .int 0, .ref (u 22), .ref (u 23)]) : va_E)) = _
  rw [mw_ws_at (c := .inl (8, [15, 0, 0, 0, 0, 0, 25, 26])) rfl]
  exact congrArg some (fin_pair rfl rfl)
set_option maxRecDepth 100000 in
theorem fe_23 : fin_P g k t3 u v f cA 23 := by
  show some (((u 22) : Nat), (.inl (cA 0, 64, .inl (fun _ => 0)) : va_E)) = _
  rw [mw_ws_at (c := .inr (.inl (0, 64))) rfl]
  exact congrArg some (fin_pair rfl (fin_i (by decide) (by decide)))
set_option maxRecDepth 100000 in
theorem fe_24 : fin_P g k t3 u v f cA 24 := by
  show some (((u 23) : Nat), (.inl (cA 0, 6, .inl (fun _ => 0)) : va_E)) = _
  rw [mw_ws_at (c := .inr (.inl (0, 6))) rfl]
  exact congrArg some (fin_pair rfl (fin_i (by decide) (by decide)))
set_option maxRecDepth 100000 in
theorem fe_25 : fin_P g k t3 u v f cA 25 := by
  show some (((u 24) : Nat), (.inr (5, [.int 0, .int 0, .ref (u 25)]) : va_E)) = _
  rw [mw_ws_at (c := .inl (5, [0, 0, 28])) rfl]
  exact congrArg some (fin_pair rfl rfl)
set_option maxRecDepth 100000 in
theorem fe_26 : fin_P g k t3 u v f cA 26 := by
  show some (((u 25) : Nat), (.inl (cA 3, 10, .inr (.inr (.inr (.inr (fun i => if i < 10 then some ((u 25) + 1 + i) else none))))) : va_E)) = _
  rw [mw_ws_at (c := .inr (.inr (3, [27, 28, 29, 30, 31, 32, 33, 34, 35, 36]))) rfl]
  exact congrArg some (fin_pair rfl (fin_r rfl (fun i hi => by rcases (show i = 0 ∨ i = 1 ∨ i = 2 ∨ i = 3 ∨ i = 4 ∨ i = 5 ∨ i = 6 ∨ i = 7 ∨ i = 8 ∨ i = 9 by omega) with rfl | rfl | rfl | rfl | rfl | rfl | rfl | rfl | rfl | rfl <;> rfl)))
set_option maxRecDepth 100000 in
theorem fe_27 : fin_P g k t3 u v f cA 27 := by
  show some (((u 25) + 1 + 0 : Nat), (.inl (cA 0, 35, .inl (fun _ => 0)) : va_E)) = _
  rw [mw_ws_at (c := .inr (.inl (0, 35))) rfl]
  exact congrArg some (fin_pair rfl (fin_i (by decide) (by decide)))
set_option maxRecDepth 100000 in
theorem fe_28 : fin_P g k t3 u v f cA 28 := by
  show some (((u 25) + 1 + 1 : Nat), (.inl (cA 0, 35, .inl (fun _ => 0)) : va_E)) = _
  rw [mw_ws_at (c := .inr (.inl (0, 35))) rfl]
  exact congrArg some (fin_pair rfl (fin_i (by decide) (by decide)))
set_option maxRecDepth 100000 in
theorem fe_29 : fin_P g k t3 u v f cA 29 := by
  show some (((u 25) + 1 + 2 : Nat), (.inl (cA 0, 35, .inl (fun _ => 0)) : va_E)) = _
  rw [mw_ws_at (c := .inr (.inl (0, 35))) rfl]
  exact congrArg some (fin_pair rfl (fin_i (by decide) (by decide)))
set_option maxRecDepth 100000 in
theorem fe_30 : fin_P g k t3 u v f cA 30 := by
  show some (((u 25) + 1 + 3 : Nat), (.inl (cA 0, 35, .inl (fun _ => 0)) : va_E)) = _
  rw [mw_ws_at (c := .inr (.inl (0, 35))) rfl]
  exact congrArg some (fin_pair rfl (fin_i (by decide) (by decide)))
set_option maxRecDepth 100000 in
theorem fe_31 : fin_P g k t3 u v f cA 31 := by
  show some (((u 25) + 1 + 4 : Nat), (.inl (cA 0, 35, .inl (fun _ => 0)) : va_E)) = _
  rw [mw_ws_at (c := .inr (.inl (0, 35))) rfl]
  exact congrArg some (fin_pair rfl (fin_i (by decide) (by decide)))
set_option maxRecDepth 100000 in
theorem fe_32 : fin_P g k t3 u v f cA 32 := by
  show some (((u 25) + 1 + 5 : Nat), (.inl (cA 0, 35, .inl (fun _ => 0)) : va_E)) = _
  rw [mw_ws_at (c := .inr (.inl (0, 35))) rfl]
  exact congrArg some (fin_pair rfl (fin_i (by decide) (by decide)))
set_option maxRecDepth 100000 in
theorem fe_33 : fin_P g k t3 u v f cA 33 := by
  show some (((u 25) + 1 + 6 : Nat), (.inl (cA 0, 35, .inl (fun _ => 0)) : va_E)) = _
  rw [mw_ws_at (c := .inr (.inl (0, 35))) rfl]
  exact congrArg some (fin_pair rfl (fin_i (by decide) (by decide)))
set_option maxRecDepth 100000 in
theorem fe_34 : fin_P g k t3 u v f cA 34 := by
  show some (((u 25) + 1 + 7 : Nat), (.inl (cA 0, 35, .inl (fun _ => 0)) : va_E)) = _
  rw [mw_ws_at (c := .inr (.inl (0, 35))) rfl]
  exact congrArg some (fin_pair rfl (fin_i (by decide) (by decide)))
set_option maxRecDepth 100000 in
theorem fe_35 : fin_P g k t3 u v f cA 35 := by
  show some (((u 25) + 1 + 8 : Nat), (.inl (cA 0, 35, .inl (fun _ => 0)) : va_E)) = _
  rw [mw_ws_at (c := .inr (.inl (0, 35))) rfl]
  exact congrArg some (fin_pair rfl (fin_i (by decide) (by decide)))
set_option maxRecDepth 100000 in
theorem fe_36 : fin_P g k t3 u v f cA 36 := by
  show some (((u 25) + 1 + 9 : Nat), (.inl (cA 0, 35, .inl (fun _ => 0)) : va_E)) = _
  rw [mw_ws_at (c := .inr (.inl (0, 35))) rfl]
  exact congrArg some (fin_pair rfl (fin_i (by decide) (by decide)))
set_option maxRecDepth 100000 in
theorem fe_37 : fin_P g k t3 u v f cA 37 := by
  show some (((u 26) : Nat), (.inr (9, [.ref (u 27), .ref (u 28), .ref (u 29)]) : va_E)) = _
  rw [mw_ws_at (c := .inl (9, [40, 41, 42])) rfl]
  exact congrArg some (fin_pair rfl rfl)
set_option maxRecDepth 100000 in
theorem fe_38 : fin_P g k t3 u v f cA 38 := by
  show some (((u 27) : Nat), (.inl (cA 0, 4, .inl (upd (upd (upd (upd (fun _ => 0) (0 : Int32).toNatClampNeg (-1)) (1 : Int32).toNatClampNeg (-1)) (2 : Int32).toNatClampNeg (-1)) (3 : Int32).toNatClampNeg (-1))) : va_E)) = _
  rw [mw_ws_at (c := .inr (.inl (0, 4))) rfl]
  exact congrArg some (fin_pair rfl (fin_f (fin_4 (by decide))))
set_option maxRecDepth 100000 in
theorem fe_39 : fin_P g k t3 u v f cA 39 := by
  show some (((u 28) : Nat), (.inl (cA 0, 4, .inl (fun _ => 0)) : va_E)) = _
  rw [mw_ws_at (c := .inr (.inl (0, 4))) rfl]
  exact congrArg some (fin_pair rfl (fin_i (by decide) (by decide)))
set_option maxRecDepth 100000 in
theorem fe_40 : fin_P g k t3 u v f cA 40 := by
  show some (((u 29) : Nat), (.inl (cA 4, 4, .inr (.inr (.inr (.inr (fun i => if i < 4 then some ((u 29) + 1 + i) else none))))) : va_E)) = _
  rw [mw_ws_at (c := .inr (.inr (4, [41, 42, 43, 44]))) rfl]
  exact congrArg some (fin_pair rfl (fin_r rfl (fun i hi => by rcases (show i = 0 ∨ i = 1 ∨ i = 2 ∨ i = 3 by omega) with rfl | rfl | rfl | rfl <;> rfl)))
set_option maxRecDepth 100000 in
theorem fe_41 : fin_P g k t3 u v f cA 41 := by
  show some (((u 29) + 1 + 0 : Nat), (.inl (cA 2, 40, .inr (.inl (fun _ => 0))) : va_E)) = _
  rw [mw_ws_at (c := .inr (.inl (2, 40))) rfl]
  exact congrArg some (fin_pair rfl (fin_l (by decide)))
set_option maxRecDepth 100000 in
theorem fe_42 : fin_P g k t3 u v f cA 42 := by
  show some (((u 29) + 1 + 1 : Nat), (.inl (cA 2, 40, .inr (.inl (fun _ => 0))) : va_E)) = _
  rw [mw_ws_at (c := .inr (.inl (2, 40))) rfl]
  exact congrArg some (fin_pair rfl (fin_l (by decide)))
set_option maxRecDepth 100000 in
theorem fe_43 : fin_P g k t3 u v f cA 43 := by
  show some (((u 29) + 1 + 2 : Nat), (.inl (cA 2, 40, .inr (.inl (fun _ => 0))) : va_E)) = _
  rw [mw_ws_at (c := .inr (.inl (2, 40))) rfl]
  exact congrArg some (fin_pair rfl (fin_l (by decide)))
set_option maxRecDepth 100000 in
theorem fe_44 : fin_P g k t3 u v f cA 44 := by
  show some (((u 29) + 1 + 3 : Nat), (.inl (cA 2, 40, .inr (.inl (fun _ => 0))) : va_E)) = _
  rw [mw_ws_at (c := .inr (.inl (2, 40))) rfl]
  exact congrArg some (fin_pair rfl (fin_l (by decide)))
set_option maxRecDepth 100000 in
theorem fe_45 : fin_P g k t3 u v f cA 45 := by
  show some (((u 30) : Nat), (.inr (7, [.int 0, .int 0, .ref (u 21), .ref (u 31), .ref (u 32), .ref (u 33), .ref (u 34), .int 0, .int 0, .int 0]) : va_E)) = _
  rw [mw_ws_at (c := .inl (7, [0, 0, 24, 48, 54, 55, 56, 0, 0, 0])) rfl]
  exact congrArg some (fin_pair rfl rfl)
set_option maxRecDepth 100000 in
theorem fe_46 : fin_P g k t3 u v f cA 46 := by
  show some (((u 31) : Nat), (.inl (cA 3, 5, .inr (.inr (.inr (.inr (fun i => if i < 5 then some ((u 31) + 1 + i) else none))))) : va_E)) = _
  rw [mw_ws_at (c := .inr (.inr (3, [47, 48, 49, 50, 51]))) rfl]
  exact congrArg some (fin_pair rfl (fin_r rfl (fun i hi => by rcases (show i = 0 ∨ i = 1 ∨ i = 2 ∨ i = 3 ∨ i = 4 by omega) with rfl | rfl | rfl | rfl | rfl <;> rfl)))
set_option maxRecDepth 100000 in
theorem fe_47 : fin_P g k t3 u v f cA 47 := by
  show some (((u 31) + 1 + 0 : Nat), (.inl (cA 0, 35, .inl (fun _ => 0)) : va_E)) = _
  rw [mw_ws_at (c := .inr (.inl (0, 35))) rfl]
  exact congrArg some (fin_pair rfl (fin_i (by decide) (by decide)))
set_option maxRecDepth 100000 in
theorem fe_48 : fin_P g k t3 u v f cA 48 := by
  show some (((u 31) + 1 + 1 : Nat), (.inl (cA 0, 35, .inl (fun _ => 0)) : va_E)) = _
  rw [mw_ws_at (c := .inr (.inl (0, 35))) rfl]
  exact congrArg some (fin_pair rfl (fin_i (by decide) (by decide)))
set_option maxRecDepth 100000 in
theorem fe_49 : fin_P g k t3 u v f cA 49 := by
  show some (((u 31) + 1 + 2 : Nat), (.inl (cA 0, 35, .inl (fun _ => 0)) : va_E)) = _
  rw [mw_ws_at (c := .inr (.inl (0, 35))) rfl]
  exact congrArg some (fin_pair rfl (fin_i (by decide) (by decide)))
set_option maxRecDepth 100000 in
theorem fe_50 : fin_P g k t3 u v f cA 50 := by
  show some (((u 31) + 1 + 3 : Nat), (.inl (cA 0, 35, .inl (fun _ => 0)) : va_E)) = _
  rw [mw_ws_at (c := .inr (.inl (0, 35))) rfl]
  exact congrArg some (fin_pair rfl (fin_i (by decide) (by decide)))
set_option maxRecDepth 100000 in
theorem fe_51 : fin_P g k t3 u v f cA 51 := by
  show some (((u 31) + 1 + 4 : Nat), (.inl (cA 0, 35, .inl (fun _ => 0)) : va_E)) = _
  rw [mw_ws_at (c := .inr (.inl (0, 35))) rfl]
  exact congrArg some (fin_pair rfl (fin_i (by decide) (by decide)))
set_option maxRecDepth 100000 in
theorem fe_52 : fin_P g k t3 u v f cA 52 := by
  show some (((u 32) : Nat), (.inl (cA 0, 4, .inl (fun _ => 0)) : va_E)) = _
  rw [mw_ws_at (c := .inr (.inl (0, 4))) rfl]
  exact congrArg some (fin_pair rfl (fin_i (by decide) (by decide)))
set_option maxRecDepth 100000 in
theorem fe_53 : fin_P g k t3 u v f cA 53 := by
  show some (((u 33) : Nat), (.inl (cA 2, 201, .inr (.inl (fun _ => 0))) : va_E)) = _
  rw [mw_ws_at (c := .inr (.inl (2, 201))) rfl]
  exact congrArg some (fin_pair rfl (fin_l (by decide)))
set_option maxRecDepth 100000 in
theorem fe_54 : fin_P g k t3 u v f cA 54 := by
  show some (((u 34) : Nat), (.inl (cA 2, 201, .inr (.inl (fun _ => 0))) : va_E)) = _
  rw [mw_ws_at (c := .inr (.inl (2, 201))) rfl]
  exact congrArg some (fin_pair rfl (fin_l (by decide)))
set_option maxRecDepth 100000 in
theorem fe_55 : fin_P g k t3 u v f cA 55 := by
  show some (((u 35) : Nat), (.inr (2, [.int 0, .int 0, .int 0, .ref (u 21), .ref (u 36), .ref (u 37), .ref (u 38), .ref (u 39), .int 0, .int 0, .int 0, .int 0, .int 0]) : va_E)) = _
  rw [mw_ws_at (c := .inl (2, [0, 0, 0, 24, 58, 64, 65, 66, 0, 0, 0, 0, 0])) rfl]
  exact congrArg some (fin_pair rfl rfl)
set_option maxRecDepth 100000 in
theorem fe_56 : fin_P g k t3 u v f cA 56 := by
  show some (((u 36) : Nat), (.inl (cA 3, 5, .inr (.inr (.inr (.inr (fun i => if i < 5 then some ((u 36) + 1 + i) else none))))) : va_E)) = _
  rw [mw_ws_at (c := .inr (.inr (3, [57, 58, 59, 60, 61]))) rfl]
  exact congrArg some (fin_pair rfl (fin_r rfl (fun i hi => by rcases (show i = 0 ∨ i = 1 ∨ i = 2 ∨ i = 3 ∨ i = 4 by omega) with rfl | rfl | rfl | rfl | rfl <;> rfl)))
set_option maxRecDepth 100000 in
theorem fe_57 : fin_P g k t3 u v f cA 57 := by
  show some (((u 36) + 1 + 0 : Nat), (.inl (cA 0, 35, .inl (fun _ => 0)) : va_E)) = _
  rw [mw_ws_at (c := .inr (.inl (0, 35))) rfl]
  exact congrArg some (fin_pair rfl (fin_i (by decide) (by decide)))
set_option maxRecDepth 100000 in
theorem fe_58 : fin_P g k t3 u v f cA 58 := by
  show some (((u 36) + 1 + 1 : Nat), (.inl (cA 0, 35, .inl (fun _ => 0)) : va_E)) = _
  rw [mw_ws_at (c := .inr (.inl (0, 35))) rfl]
  exact congrArg some (fin_pair rfl (fin_i (by decide) (by decide)))
set_option maxRecDepth 100000 in
theorem fe_59 : fin_P g k t3 u v f cA 59 := by
  show some (((u 36) + 1 + 2 : Nat), (.inl (cA 0, 35, .inl (fun _ => 0)) : va_E)) = _
  rw [mw_ws_at (c := .inr (.inl (0, 35))) rfl]
  exact congrArg some (fin_pair rfl (fin_i (by decide) (by decide)))
set_option maxRecDepth 100000 in
theorem fe_60 : fin_P g k t3 u v f cA 60 := by
  show some (((u 36) + 1 + 3 : Nat), (.inl (cA 0, 35, .inl (fun _ => 0)) : va_E)) = _
  rw [mw_ws_at (c := .inr (.inl (0, 35))) rfl]
  exact congrArg some (fin_pair rfl (fin_i (by decide) (by decide)))
set_option maxRecDepth 100000 in
theorem fe_61 : fin_P g k t3 u v f cA 61 := by
  show some (((u 36) + 1 + 4 : Nat), (.inl (cA 0, 35, .inl (fun _ => 0)) : va_E)) = _
  rw [mw_ws_at (c := .inr (.inl (0, 35))) rfl]
  exact congrArg some (fin_pair rfl (fin_i (by decide) (by decide)))
set_option maxRecDepth 100000 in
theorem fe_62 : fin_P g k t3 u v f cA 62 := by
  show some (((u 37) : Nat), (.inl (cA 0, 5, .inl (fun _ => 0)) : va_E)) = _
  rw [mw_ws_at (c := .inr (.inl (0, 5))) rfl]
  exact congrArg some (fin_pair rfl (fin_i (by decide) (by decide)))
set_option maxRecDepth 100000 in
theorem fe_63 : fin_P g k t3 u v f cA 63 := by
  show some (((u 38) : Nat), (.inl (cA 2, 9, .inr (.inl (fun _ => 0))) : va_E)) = _
  rw [mw_ws_at (c := .inr (.inl (2, 9))) rfl]
  exact congrArg some (fin_pair rfl (fin_l (by decide)))
set_option maxRecDepth 100000 in
theorem fe_64 : fin_P g k t3 u v f cA 64 := by
  show some (((u 39) : Nat), (.inl (cA 2, 9, .inr (.inl (fun _ => 0))) : va_E)) = _
  rw [mw_ws_at (c := .inr (.inl (2, 9))) rfl]
  exact congrArg some (fin_pair rfl (fin_l (by decide)))
set_option maxRecDepth 100000 in
theorem fe_65 : fin_P g k t3 u v f cA 65 := by
  show some (((u 40) : Nat), (.inr (4, [.ref (u 41), .int 0, .int 0, .ref (u 42), .ref (u 43), .ref (u 44), .ref (u 45), .ref (u 46), .ref (u 47), .ref (u 48), .int 0, .int 0]) : va_E)) = _
  rw [mw_ws_at (c := .inl (4, [68, 0, 0, 69, 70, 71, 72, 73, 74, 75, 0, 0])) rfl]
  exact congrArg some (fin_pair rfl rfl)
set_option maxRecDepth 100000 in
theorem fe_66 : fin_P g k t3 u v f cA 66 := by
  show some (((u 41) : Nat), (.inl (cA 0, 5, .inl (fun _ => 0)) : va_E)) = _
  rw [mw_ws_at (c := .inr (.inl (0, 5))) rfl]
  exact congrArg some (fin_pair rfl (fin_i (by decide) (by decide)))
set_option maxRecDepth 100000 in
theorem fe_67 : fin_P g k t3 u v f cA 67 := by
  show some (((u 42) : Nat), (.inl (cA 0, 5, .inl (fun _ => 0)) : va_E)) = _
  rw [mw_ws_at (c := .inr (.inl (0, 5))) rfl]
  exact congrArg some (fin_pair rfl (fin_i (by decide) (by decide)))
set_option maxRecDepth 100000 in
theorem fe_68 : fin_P g k t3 u v f cA 68 := by
  show some (((u 43) : Nat), (.inl (cA 1, 5, .inl (fun _ => 0)) : va_E)) = _
  rw [mw_ws_at (c := .inr (.inl (1, 5))) rfl]
  exact congrArg some (fin_pair rfl (fin_i (by decide) (by decide)))
set_option maxRecDepth 100000 in
theorem fe_69 : fin_P g k t3 u v f cA 69 := by
  show some (((u 44) : Nat), (.inl (cA 0, 35, .inl (fun _ => 0)) : va_E)) = _
  rw [mw_ws_at (c := .inr (.inl (0, 35))) rfl]
  exact congrArg some (fin_pair rfl (fin_i (by decide) (by decide)))
set_option maxRecDepth 100000 in
theorem fe_70 : fin_P g k t3 u v f cA 70 := by
  show some (((u 45) : Nat), (.inl (cA 0, 30, .inl (fun _ => 0)) : va_E)) = _
  rw [mw_ws_at (c := .inr (.inl (0, 30))) rfl]
  exact congrArg some (fin_pair rfl (fin_i (by decide) (by decide)))
set_option maxRecDepth 100000 in
theorem fe_71 : fin_P g k t3 u v f cA 71 := by
  show some (((u 46) : Nat), (.inl (cA 0, 5, .inl (fun _ => 0)) : va_E)) = _
  rw [mw_ws_at (c := .inr (.inl (0, 5))) rfl]
  exact congrArg some (fin_pair rfl (fin_i (by decide) (by decide)))
set_option maxRecDepth 100000 in
theorem fe_72 : fin_P g k t3 u v f cA 72 := by
  show some (((u 47) : Nat), (.inl (cA 0, 160, .inl (fun _ => 0)) : va_E)) = _
  rw [mw_ws_at (c := .inr (.inl (0, 160))) rfl]
  exact congrArg some (fin_pair rfl (fin_i (by decide) (by decide)))
set_option maxRecDepth 100000 in
theorem fe_73 : fin_P g k t3 u v f cA 73 := by
  show some (((u 48) : Nat), (.inl (cA 0, 160, .inl (fun _ => 0)) : va_E)) = _
  rw [mw_ws_at (c := .inr (.inl (0, 160))) rfl]
  exact congrArg some (fin_pair rfl (fin_i (by decide) (by decide)))
set_option maxRecDepth 100000 in
theorem fe_74 : fin_P g k t3 u v f cA 74 := by
  show some (((u 49) : Nat), (.inr (1, [.ref (u 50), .int 0, .int 0, .int 0]) : va_E)) = _
  rw [mw_ws_at (c := .inl (1, [77, 0, 0, 0])) rfl]
  exact congrArg some (fin_pair rfl rfl)
set_option maxRecDepth 100000 in
theorem fe_75 : fin_P g k t3 u v f cA 75 := by
  show some (((u 50) : Nat), (.inl (cA 2, 125, .inr (.inl (fun _ => 0))) : va_E)) = _
  rw [mw_ws_at (c := .inr (.inl (2, 125))) rfl]
  exact congrArg some (fin_pair rfl (fin_l (by decide)))
set_option maxRecDepth 100000 in
theorem fe_76 : fin_P g k t3 u v f cA 76 := by
  show some (((u 51) : Nat), (.inr (3, [.int 0, .ref (u 52), .ref (u 61)]) : va_E)) = _
  rw [mw_ws_at (c := .inl (3, [1, 79, 88])) rfl]
  exact congrArg some (fin_pair rfl rfl)
set_option maxRecDepth 100000 in
theorem fe_77 : fin_P g k t3 u v f cA 77 := by
  show some (((u 52) : Nat), (.inr (0, [.int 5, .int 0, .int 0, .int 0, .int 0, .int 0, .int 0, .ref (u 53), .ref (u 54), .ref (u 55), .ref (u 56), .ref (u 57), .ref (u 58), .ref (u 59), .ref (u 60)]) : va_E)) = _
  rw [mw_ws_at (c := .inl (0, [0, 0, 0, 0, 0, 0, 0, 80, 81, 82, 83, 84, 85, 86, 87])) rfl]
  exact congrArg some (fin_pair rfl rfl)
set_option maxRecDepth 100000 in
theorem fe_78 : fin_P g k t3 u v f cA 78 := by
  show some (((u 53) : Nat), (.inl (cA 0, 3, .inl (fun _ => 0)) : va_E)) = _
  rw [mw_ws_at (c := .inr (.inl (0, 3))) rfl]
  exact congrArg some (fin_pair rfl (fin_i (by decide) (by decide)))
set_option maxRecDepth 100000 in
theorem fe_79 : fin_P g k t3 u v f cA 79 := by
  show some (((u 54) : Nat), (.inl (cA 0, 3, .inl (fun _ => 0)) : va_E)) = _
  rw [mw_ws_at (c := .inr (.inl (0, 3))) rfl]
  exact congrArg some (fin_pair rfl (fin_i (by decide) (by decide)))
set_option maxRecDepth 100000 in
theorem fe_80 : fin_P g k t3 u v f cA 80 := by
  show some (((u 55) : Nat), (.inl (cA 0, 4, .inl (fun _ => 0)) : va_E)) = _
  rw [mw_ws_at (c := .inr (.inl (0, 4))) rfl]
  exact congrArg some (fin_pair rfl (fin_i (by decide) (by decide)))
set_option maxRecDepth 100000 in
theorem fe_81 : fin_P g k t3 u v f cA 81 := by
  show some (((u 56) : Nat), (.inl (cA 0, 8, .inl (fun _ => 0)) : va_E)) = _
  rw [mw_ws_at (c := .inr (.inl (0, 8))) rfl]
  exact congrArg some (fin_pair rfl (fin_i (by decide) (by decide)))
set_option maxRecDepth 100000 in
theorem fe_82 : fin_P g k t3 u v f cA 82 := by
  show some (((u 57) : Nat), (.inl (cA 0, 8, .inl (fun _ => 0)) : va_E)) = _
  rw [mw_ws_at (c := .inr (.inl (0, 8))) rfl]
  exact congrArg some (fin_pair rfl (fin_i (by decide) (by decide)))
set_option maxRecDepth 100000 in
theorem fe_83 : fin_P g k t3 u v f cA 83 := by
  show some (((u 58) : Nat), (.inl (cA 0, 8, .inl (fun _ => 0)) : va_E)) = _
  rw [mw_ws_at (c := .inr (.inl (0, 8))) rfl]
  exact congrArg some (fin_pair rfl (fin_i (by decide) (by decide)))
set_option maxRecDepth 100000 in
theorem fe_84 : fin_P g k t3 u v f cA 84 := by
  show some (((u 59) : Nat), (.inl (cA 0, 8, .inl (fun _ => 0)) : va_E)) = _
  rw [mw_ws_at (c := .inr (.inl (0, 8))) rfl]
  exact congrArg some (fin_pair rfl (fin_i (by decide) (by decide)))
set_option maxRecDepth 100000 in
theorem fe_85 : fin_P g k t3 u v f cA 85 := by
  show some (((u 60) : Nat), (.inl (cA 0, 900, .inl (fun _ => 0)) : va_E)) = _
  rw [mw_ws_at (c := .inr (.inl (0, 900))) rfl]
  exact congrArg some (fin_pair rfl (fin_i (by decide) (by decide)))
set_option maxRecDepth 100000 in
theorem fe_86 : fin_P g k t3 u v f cA 86 := by
  show some (((u 61) : Nat), (.inl (cA 0, 35, .inl (fun _ => 0)) : va_E)) = _
  rw [mw_ws_at (c := .inr (.inl (0, 35))) rfl]
  exact congrArg some (fin_pair rfl (fin_i (by decide) (by decide)))
set_option maxRecDepth 100000 in
theorem fe_87 : fin_P g k t3 u v f cA 87 := by
  show some (((u 62) : Nat), (.inr (3, [.int 0, .ref (u 63), .ref (u 72)]) : va_E)) = _
  rw [mw_ws_at (c := .inl (3, [1, 90, 99])) rfl]
  exact congrArg some (fin_pair rfl rfl)
set_option maxRecDepth 100000 in
theorem fe_88 : fin_P g k t3 u v f cA 88 := by
  show some (((u 63) : Nat), (.inr (0, [.int 5, .int 0, .int 0, .int 0, .int 0, .int 0, .int 0, .ref (u 64), .ref (u 65), .ref (u 66), .ref (u 67), .ref (u 68), .ref (u 69), .ref (u 70), .ref (u 71)]) : va_E)) = _
  rw [mw_ws_at (c := .inl (0, [0, 0, 0, 0, 0, 0, 0, 91, 92, 93, 94, 95, 96, 97, 98])) rfl]
  exact congrArg some (fin_pair rfl rfl)
set_option maxRecDepth 100000 in
theorem fe_89 : fin_P g k t3 u v f cA 89 := by
  show some (((u 64) : Nat), (.inl (cA 0, 3, .inl (fun _ => 0)) : va_E)) = _
  rw [mw_ws_at (c := .inr (.inl (0, 3))) rfl]
  exact congrArg some (fin_pair rfl (fin_i (by decide) (by decide)))
set_option maxRecDepth 100000 in
theorem fe_90 : fin_P g k t3 u v f cA 90 := by
  show some (((u 65) : Nat), (.inl (cA 0, 3, .inl (fun _ => 0)) : va_E)) = _
  rw [mw_ws_at (c := .inr (.inl (0, 3))) rfl]
  exact congrArg some (fin_pair rfl (fin_i (by decide) (by decide)))
set_option maxRecDepth 100000 in
theorem fe_91 : fin_P g k t3 u v f cA 91 := by
  show some (((u 66) : Nat), (.inl (cA 0, 4, .inl (fun _ => 0)) : va_E)) = _
  rw [mw_ws_at (c := .inr (.inl (0, 4))) rfl]
  exact congrArg some (fin_pair rfl (fin_i (by decide) (by decide)))
set_option maxRecDepth 100000 in
theorem fe_92 : fin_P g k t3 u v f cA 92 := by
  show some (((u 67) : Nat), (.inl (cA 0, 8, .inl (fun _ => 0)) : va_E)) = _
  rw [mw_ws_at (c := .inr (.inl (0, 8))) rfl]
  exact congrArg some (fin_pair rfl (fin_i (by decide) (by decide)))
set_option maxRecDepth 100000 in
theorem fe_93 : fin_P g k t3 u v f cA 93 := by
  show some (((u 68) : Nat), (.inl (cA 0, 8, .inl (fun _ => 0)) : va_E)) = _
  rw [mw_ws_at (c := .inr (.inl (0, 8))) rfl]
  exact congrArg some (fin_pair rfl (fin_i (by decide) (by decide)))
set_option maxRecDepth 100000 in
theorem fe_94 : fin_P g k t3 u v f cA 94 := by
  show some (((u 69) : Nat), (.inl (cA 0, 8, .inl (fun _ => 0)) : va_E)) = _
  rw [mw_ws_at (c := .inr (.inl (0, 8))) rfl]
  exact congrArg some (fin_pair rfl (fin_i (by decide) (by decide)))
set_option maxRecDepth 100000 in
theorem fe_95 : fin_P g k t3 u v f cA 95 := by
  show some (((u 70) : Nat), (.inl (cA 0, 8, .inl (fun _ => 0)) : va_E)) = _
  rw [mw_ws_at (c := .inr (.inl (0, 8))) rfl]
  exact congrArg some (fin_pair rfl (fin_i (by decide) (by decide)))
set_option maxRecDepth 100000 in
theorem fe_96 : fin_P g k t3 u v f cA 96 := by
  show some (((u 71) : Nat), (.inl (cA 0, 900, .inl (fun _ => 0)) : va_E)) = _
  rw [mw_ws_at (c := .inr (.inl (0, 900))) rfl]
  exact congrArg some (fin_pair rfl (fin_i (by decide) (by decide)))
set_option maxRecDepth 100000 in
theorem fe_97 : fin_P g k t3 u v f cA 97 := by
  show some (((u 72) : Nat), (.inl (cA 0, 35, .inl (fun _ => 0)) : va_E)) = _
  rw [mw_ws_at (c := .inr (.inl (0, 35))) rfl]
  exact congrArg some (fin_pair rfl (fin_i (by decide) (by decide)))
set_option maxRecDepth 100000 in
theorem fe_98 : fin_P g k t3 u v f cA 98 := by
  show some (((u 73) : Nat), (.inl (cA 0, 35, .inl (fun _ => 0)) : va_E)) = _
  rw [mw_ws_at (c := .inr (.inl (0, 35))) rfl]
  exact congrArg some (fin_pair rfl (fin_i (by decide) (by decide)))
set_option maxRecDepth 100000 in
theorem fe_99 : fin_P g k t3 u v f cA 99 := by
  show some (((u 74) : Nat), (.inl (cA 0, 35, .inl (fun _ => 0)) : va_E)) = _
  rw [mw_ws_at (c := .inr (.inl (0, 35))) rfl]
  exact congrArg some (fin_pair rfl (fin_i (by decide) (by decide)))
set_option maxRecDepth 100000 in
theorem fo_100 {ad : Nat → Nat} {σ : mw_S} : mw_ce ad cA σ 100 (.inl (11, [0, 103, 104, 105, 106, 0, 0, 0, 0, 0, 0, 0, 0, 0, 0, 1, 107, 108, 0, 0, 109, 0, 0, 0, 0, 0, 110, 111, 112, 113, 114, 115, 0, 0, 116, 117, 0, 118, 119, 120, 0, 0, 0, 121, 122, 123, 0, 0, 124, 125, 126])) = (.inr (11, [.int (i32 (σ 100 0)), .ref (ad 101), .ref (ad 102), .ref (ad 103), .ref (ad 104), .int (i32 (σ 100 5)), .int (i32 (σ 100 6)), .int (i32 (σ 100 7)), .int (i32 (σ 100 8)), .int (i32 (σ 100 9)), .int (i32 (σ 100 10)), .int (i32 (σ 100 11)), .int (i32 (σ 100 12)), .int (i32 (σ 100 13)), .int (i32 (σ 100 14)), .int (i32 (σ 100 15)), .ref (ad 105), .ref (ad 106), .int (i32 (σ 100 18)), .int (i32 (σ 100 19)), .ref (ad 107), .int (i32 (σ 100 21)), .int (i32 (σ 100 22)), .int (i32 (σ 100 23)), .int (i32 (σ 100 24)), .int (i32 (σ 100 25)), .ref (ad 108), .ref (ad 109), .ref (ad 110), .ref (ad 111), .ref (ad 112), .ref (ad 113), .int (i32 (σ 100 32)), .int (i32 (σ 100 33)), .ref (ad 114), .ref (ad 115), .int (i32 (σ 100 36)), .ref (ad 116), .ref (ad 117), .ref (ad 118), .int (i32 (σ 100 40)), .int (i32 (σ 100 41)), .int (i32 (σ 100 42)), .ref (ad 119), .ref (ad 120), .ref (ad 121), .int (i32 (σ 100 46)), .int (i32 (σ 100 47)), .ref (ad 122), .ref (ad 123), .ref (ad 124)]) : va_E) := by
  simp only [mw_ce, List.mapIdx_cons, List.mapIdx_nil]
  rfl
theorem fz_100 {j : Nat} (h : j ≠ 14) : i32 (mw_s0 100 j) = 0 := by
  have e : mw_s0 100 j = 0 := by
    unfold mw_s0
    rw [if_neg (by decide), if_neg (by decide), if_neg (by decide), if_pos rfl, if_neg h]
  rw [e]
  exact i32_0
set_option maxRecDepth 100000 in
theorem fe_100 : fin_P g k t3 u v f cA 100 := by
  show some ((k : Nat), (.inr (11, [.int 0, .ref (v 0), .ref (v 1), .ref (v 2), .ref (v 3), .int 0, .int 0, .int 0, .int 0, .int 0, .int 0, .int 0, .int 0, .int 0, .int (-1), .int 0, .ref (v 4), .ref (v 5), .int 0, .int 0, .ref (v 6), .int 0, .int 0, .int 0, .int 0, .int 0, .ref (v 7), .ref (v 8), .ref (v 9), .ref (v 10), .ref (v 11), .ref (v 12), .int 0, .int 0, .ref (v 13), .ref (v 14), .int 0, .ref (v 15), .ref (v 16), .ref (v 17), .int 0, .int 0, .int 0, .ref (v 18), .ref (v 19), .ref (v 20), .int 0, .int 0, .ref (v 21), .ref (v 22), .ref (v 23)]) : va_E)) = _
  rw [mw_ws_at (c := .inl (11, [0, 103, 104, 105, 106, 0, 0, 0, 0, 0, 0, 0, 0, 0, 0, 1, 107, 108, 0, 0, 109, 0, 0, 0, 0, 0, 110, 111, 112, 113, 114, 115, 0, 0, 116, 117, 0, 118, 119, 120, 0, 0, 0, 121, 122, 123, 0, 0, 124, 125, 126])) rfl]
  rw [fo_100, show i32 (mw_s0 100 14) = (-1 : Int32) from by decide, fz_100 (j := 0) (by decide), fz_100 (j := 5) (by decide), fz_100 (j := 6) (by decide), fz_100 (j := 7) (by decide), fz_100 (j := 8) (by decide), fz_100 (j := 9) (by decide), fz_100 (j := 10) (by decide), fz_100 (j := 11) (by decide), fz_100 (j := 12) (by decide), fz_100 (j := 13) (by decide), fz_100 (j := 15) (by decide), fz_100 (j := 18) (by decide), fz_100 (j := 19) (by decide), fz_100 (j := 21) (by decide), fz_100 (j := 22) (by decide), fz_100 (j := 23) (by decide), fz_100 (j := 24) (by decide), fz_100 (j := 25) (by decide), fz_100 (j := 32) (by decide), fz_100 (j := 33) (by decide), fz_100 (j := 36) (by decide), fz_100 (j := 40) (by decide), fz_100 (j := 41) (by decide), fz_100 (j := 42) (by decide), fz_100 (j := 46) (by decide), fz_100 (j := 47) (by decide)]
  exact congrArg some (fin_pair rfl rfl)
set_option maxRecDepth 100000 in
theorem fe_101 : fin_P g k t3 u v f cA 101 := by
  show some (((v 0) : Nat), (.inl (cA 0, 4380, .inl kp_f) : va_E)) = _
  rw [mw_ws_at (c := .inr (.inl (0, 4380))) rfl]
  exact congrArg some (fin_pair rfl (fin_f rfl))
set_option maxRecDepth 100000 in
theorem fe_102 : fin_P g k t3 u v f cA 102 := by
  show some (((v 1) : Nat), (.inl (cA 1, 2, .inl (fun _ => 0)) : va_E)) = _
  rw [mw_ws_at (c := .inr (.inl (1, 2))) rfl]
  exact congrArg some (fin_pair rfl (fin_i (by decide) (by decide)))
set_option maxRecDepth 100000 in
theorem fe_103 : fin_P g k t3 u v f cA 103 := by
  show some (((v 2) : Nat), (.inl (cA 0, 900, .inl (fun _ => 0)) : va_E)) = _
  rw [mw_ws_at (c := .inr (.inl (0, 900))) rfl]
  exact congrArg some (fin_pair rfl (fin_i (by decide) (by decide)))
set_option maxRecDepth 100000 in
theorem fe_104 : fin_P g k t3 u v f cA 104 := by
  show some (((v 3) : Nat), (.inl (cA 0, 1460, .inl (fun _ => 0)) : va_E)) = _
  rw [mw_ws_at (c := .inr (.inl (0, 1460))) rfl]
  exact congrArg some (fin_pair rfl (fin_i (by decide) (by decide)))
set_option maxRecDepth 100000 in
theorem fe_105 : fin_P g k t3 u v f cA 105 := by
  show some (((v 4) : Nat), (.inl (cA 0, 900, .inl (fun _ => 0)) : va_E)) = _
  rw [mw_ws_at (c := .inr (.inl (0, 900))) rfl]
  exact congrArg some (fin_pair rfl (fin_i (by decide) (by decide)))
set_option maxRecDepth 100000 in
theorem fe_106 : fin_P g k t3 u v f cA 106 := by
  show some (((v 5) : Nat), (.inl (cA 0, 3, .inl (fun _ => 0)) : va_E)) = _
  rw [mw_ws_at (c := .inr (.inl (0, 3))) rfl]
  exact congrArg some (fin_pair rfl (fin_i (by decide) (by decide)))
set_option maxRecDepth 100000 in
theorem fe_107 : fin_P g k t3 u v f cA 107 := by
  show some (((v 6) : Nat), (.inl (cA 0, 47, .inl (fun _ => 0)) : va_E)) = _
  rw [mw_ws_at (c := .inr (.inl (0, 47))) rfl]
  exact congrArg some (fin_pair rfl (fin_i (by decide) (by decide)))
set_option maxRecDepth 100000 in
theorem fe_108 : fin_P g k t3 u v f cA 108 := by
  show some (((v 7) : Nat), (.inl (cA 0, 6834, .inl (fun _ => 0)) : va_E)) = _
  rw [mw_ws_at (c := .inr (.inl (0, 6834))) rfl]
  exact congrArg some (fin_pair rfl (fin_i (by decide) (by decide)))
set_option maxRecDepth 100000 in
theorem fe_109 : fin_P g k t3 u v f cA 109 := by
  show some (((v 8) : Nat), (.inl (cA 0, 164500, .inl (fun _ => 0)) : va_E)) = _
  rw [mw_ws_at (c := .inr (.inl (0, 164500))) rfl]
  exact congrArg some (fin_pair rfl (fin_i (by decide) (by decide)))
set_option maxRecDepth 100000 in
theorem fe_110 : fin_P g k t3 u v f cA 110 := by
  show some (((v 9) : Nat), (.inl (cA 0, 164500, .inl (fun _ => 0)) : va_E)) = _
  rw [mw_ws_at (c := .inr (.inl (0, 164500))) rfl]
  exact congrArg some (fin_pair rfl (fin_i (by decide) (by decide)))
set_option maxRecDepth 100000 in
theorem fe_111 : fin_P g k t3 u v f cA 111 := by
  show some (((v 10) : Nat), (.inl (cA 0, 6580, .inl (fun _ => 0)) : va_E)) = _
  rw [mw_ws_at (c := .inr (.inl (0, 6580))) rfl]
  exact congrArg some (fin_pair rfl (fin_i (by decide) (by decide)))
set_option maxRecDepth 100000 in
theorem fe_112 : fin_P g k t3 u v f cA 112 := by
  show some (((v 11) : Nat), (.inl (cA 0, 6580, .inl (fun _ => 0)) : va_E)) = _
  rw [mw_ws_at (c := .inr (.inl (0, 6580))) rfl]
  exact congrArg some (fin_pair rfl (fin_i (by decide) (by decide)))
set_option maxRecDepth 100000 in
theorem fe_113 : fin_P g k t3 u v f cA 113 := by
  show some (((v 12) : Nat), (.inl (cA 0, 16384, .inl (fun _ => 0)) : va_E)) = _
  rw [mw_ws_at (c := .inr (.inl (0, 16384))) rfl]
  exact congrArg some (fin_pair rfl (fin_i (by decide) (by decide)))
set_option maxRecDepth 100000 in
theorem fe_114 : fin_P g k t3 u v f cA 114 := by
  show some (((v 13) : Nat), (.inl (cA 0, 8, .inl (fun _ => 0)) : va_E)) = _
  rw [mw_ws_at (c := .inr (.inl (0, 8))) rfl]
  exact congrArg some (fin_pair rfl (fin_i (by decide) (by decide)))
set_option maxRecDepth 100000 in
theorem fe_115 : fin_P g k t3 u v f cA 115 := by
  show some (((v 14) : Nat), (.inl (cA 0, 1280, .inl (fun _ => 0)) : va_E)) = _
  rw [mw_ws_at (c := .inr (.inl (0, 1280))) rfl]
  exact congrArg some (fin_pair rfl (fin_i (by decide) (by decide)))
set_option maxRecDepth 100000 in
theorem fe_116 : fin_P g k t3 u v f cA 116 := by
  show some (((v 15) : Nat), (.inl (cA 0, 59049, .inl (fun _ => 0)) : va_E)) = _
  rw [mw_ws_at (c := .inr (.inl (0, 59049))) rfl]
  exact congrArg some (fin_pair rfl (fin_i (by decide) (by decide)))
set_option maxRecDepth 100000 in
theorem fe_117 : fin_P g k t3 u v f cA 117 := by
  show some (((v 16) : Nat), (.inl (cA 0, 282, .inl (fun _ => 0)) : va_E)) = _
  rw [mw_ws_at (c := .inr (.inl (0, 282))) rfl]
  exact congrArg some (fin_pair rfl (fin_i (by decide) (by decide)))
set_option maxRecDepth 100000 in
theorem fe_118 : fin_P g k t3 u v f cA 118 := by
  show some (((v 17) : Nat), (.inl (cA 0, 5, .inl (fun _ => 0)) : va_E)) = _
  rw [mw_ws_at (c := .inr (.inl (0, 5))) rfl]
  exact congrArg some (fin_pair rfl (fin_i (by decide) (by decide)))
set_option maxRecDepth 100000 in
theorem fe_119 : fin_P g k t3 u v f cA 119 := by
  show some (((v 18) : Nat), (.inl (cA 2, 9, .inr (.inl (fun _ => 0))) : va_E)) = _
  rw [mw_ws_at (c := .inr (.inl (2, 9))) rfl]
  exact congrArg some (fin_pair rfl (fin_l (by decide)))
set_option maxRecDepth 100000 in
theorem fe_120 : fin_P g k t3 u v f cA 120 := by
  show some (((v 19) : Nat), (.inl (cA 2, 9, .inr (.inl (fun _ => 0))) : va_E)) = _
  rw [mw_ws_at (c := .inr (.inl (2, 9))) rfl]
  exact congrArg some (fin_pair rfl (fin_l (by decide)))
set_option maxRecDepth 100000 in
theorem fe_121 : fin_P g k t3 u v f cA 121 := by
  show some (((v 20) : Nat), (.inl (cA 0, 7625, .inl (fun _ => 0)) : va_E)) = _
  rw [mw_ws_at (c := .inr (.inl (0, 7625))) rfl]
  exact congrArg some (fin_pair rfl (fin_i (by decide) (by decide)))
set_option maxRecDepth 100000 in
theorem fe_122 : fin_P g k t3 u v f cA 122 := by
  show some (((v 21) : Nat), (.inl (cA 0, 4, .inl (upd (upd (upd (upd (fun _ => 0) (0 : Int32).toNatClampNeg (-1)) (1 : Int32).toNatClampNeg (-1)) (2 : Int32).toNatClampNeg (-1)) (3 : Int32).toNatClampNeg (-1))) : va_E)) = _
  rw [mw_ws_at (c := .inr (.inl (0, 4))) rfl]
  exact congrArg some (fin_pair rfl (fin_f (fin_4 (by decide))))
set_option maxRecDepth 100000 in
theorem fe_123 : fin_P g k t3 u v f cA 123 := by
  show some (((v 22) : Nat), (.inl (cA 0, 4, .inl (fun _ => 0)) : va_E)) = _
  rw [mw_ws_at (c := .inr (.inl (0, 4))) rfl]
  exact congrArg some (fin_pair rfl (fin_i (by decide) (by decide)))
set_option maxRecDepth 100000 in
theorem fe_124 : fin_P g k t3 u v f cA 124 := by
  show some (((v 23) : Nat), (.inl (cA 2, 160, .inr (.inl (fun _ => 0))) : va_E)) = _
  rw [mw_ws_at (c := .inr (.inl (2, 160))) rfl]
  exact congrArg some (fin_pair rfl (fin_l (by decide)))
theorem fin_all : ∀ n, n < 125 → fin_P g k t3 u v f cA n := by
  have h0 : ∀ n, n < 0 → fin_P g k t3 u v f cA n := fu_0
  have h1 : ∀ n, n < 1 → fin_P g k t3 u v f cA n := fu_s h0 fe_0
  have h2 : ∀ n, n < 2 → fin_P g k t3 u v f cA n := fu_s h1 fe_1
  have h3 : ∀ n, n < 3 → fin_P g k t3 u v f cA n := fu_s h2 fe_2
  have h4 : ∀ n, n < 4 → fin_P g k t3 u v f cA n := fu_s h3 fe_3
  have h5 : ∀ n, n < 5 → fin_P g k t3 u v f cA n := fu_s h4 fe_4
  have h6 : ∀ n, n < 6 → fin_P g k t3 u v f cA n := fu_s h5 fe_5
  have h7 : ∀ n, n < 7 → fin_P g k t3 u v f cA n := fu_s h6 fe_6
  have h8 : ∀ n, n < 8 → fin_P g k t3 u v f cA n := fu_s h7 fe_7
  have h9 : ∀ n, n < 9 → fin_P g k t3 u v f cA n := fu_s h8 fe_8
  have h10 : ∀ n, n < 10 → fin_P g k t3 u v f cA n := fu_s h9 fe_9
  have h11 : ∀ n, n < 11 → fin_P g k t3 u v f cA n := fu_s h10 fe_10
  have h12 : ∀ n, n < 12 → fin_P g k t3 u v f cA n := fu_s h11 fe_11
  have h13 : ∀ n, n < 13 → fin_P g k t3 u v f cA n := fu_s h12 fe_12
  have h14 : ∀ n, n < 14 → fin_P g k t3 u v f cA n := fu_s h13 fe_13
  have h15 : ∀ n, n < 15 → fin_P g k t3 u v f cA n := fu_s h14 fe_14
  have h16 : ∀ n, n < 16 → fin_P g k t3 u v f cA n := fu_s h15 fe_15
  have h17 : ∀ n, n < 17 → fin_P g k t3 u v f cA n := fu_s h16 fe_16
  have h18 : ∀ n, n < 18 → fin_P g k t3 u v f cA n := fu_s h17 fe_17
  have h19 : ∀ n, n < 19 → fin_P g k t3 u v f cA n := fu_s h18 fe_18
  have h20 : ∀ n, n < 20 → fin_P g k t3 u v f cA n := fu_s h19 fe_19
  have h21 : ∀ n, n < 21 → fin_P g k t3 u v f cA n := fu_s h20 fe_20
  have h22 : ∀ n, n < 22 → fin_P g k t3 u v f cA n := fu_s h21 fe_21
  have h23 : ∀ n, n < 23 → fin_P g k t3 u v f cA n := fu_s h22 fe_22
  have h24 : ∀ n, n < 24 → fin_P g k t3 u v f cA n := fu_s h23 fe_23
  have h25 : ∀ n, n < 25 → fin_P g k t3 u v f cA n := fu_s h24 fe_24
  have h26 : ∀ n, n < 26 → fin_P g k t3 u v f cA n := fu_s h25 fe_25
  have h27 : ∀ n, n < 27 → fin_P g k t3 u v f cA n := fu_s h26 fe_26
  have h28 : ∀ n, n < 28 → fin_P g k t3 u v f cA n := fu_s h27 fe_27
  have h29 : ∀ n, n < 29 → fin_P g k t3 u v f cA n := fu_s h28 fe_28
  have h30 : ∀ n, n < 30 → fin_P g k t3 u v f cA n := fu_s h29 fe_29
  have h31 : ∀ n, n < 31 → fin_P g k t3 u v f cA n := fu_s h30 fe_30
  have h32 : ∀ n, n < 32 → fin_P g k t3 u v f cA n := fu_s h31 fe_31
  have h33 : ∀ n, n < 33 → fin_P g k t3 u v f cA n := fu_s h32 fe_32
  have h34 : ∀ n, n < 34 → fin_P g k t3 u v f cA n := fu_s h33 fe_33
  have h35 : ∀ n, n < 35 → fin_P g k t3 u v f cA n := fu_s h34 fe_34
  have h36 : ∀ n, n < 36 → fin_P g k t3 u v f cA n := fu_s h35 fe_35
  have h37 : ∀ n, n < 37 → fin_P g k t3 u v f cA n := fu_s h36 fe_36
  have h38 : ∀ n, n < 38 → fin_P g k t3 u v f cA n := fu_s h37 fe_37
  have h39 : ∀ n, n < 39 → fin_P g k t3 u v f cA n := fu_s h38 fe_38
  have h40 : ∀ n, n < 40 → fin_P g k t3 u v f cA n := fu_s h39 fe_39
  have h41 : ∀ n, n < 41 → fin_P g k t3 u v f cA n := fu_s h40 fe_40
  have h42 : ∀ n, n < 42 → fin_P g k t3 u v f cA n := fu_s h41 fe_41
  have h43 : ∀ n, n < 43 → fin_P g k t3 u v f cA n := fu_s h42 fe_42
  have h44 : ∀ n, n < 44 → fin_P g k t3 u v f cA n := fu_s h43 fe_43
  have h45 : ∀ n, n < 45 → fin_P g k t3 u v f cA n := fu_s h44 fe_44
  have h46 : ∀ n, n < 46 → fin_P g k t3 u v f cA n := fu_s h45 fe_45
  have h47 : ∀ n, n < 47 → fin_P g k t3 u v f cA n := fu_s h46 fe_46
  have h48 : ∀ n, n < 48 → fin_P g k t3 u v f cA n := fu_s h47 fe_47
  have h49 : ∀ n, n < 49 → fin_P g k t3 u v f cA n := fu_s h48 fe_48
  have h50 : ∀ n, n < 50 → fin_P g k t3 u v f cA n := fu_s h49 fe_49
  have h51 : ∀ n, n < 51 → fin_P g k t3 u v f cA n := fu_s h50 fe_50
  have h52 : ∀ n, n < 52 → fin_P g k t3 u v f cA n := fu_s h51 fe_51
  have h53 : ∀ n, n < 53 → fin_P g k t3 u v f cA n := fu_s h52 fe_52
  have h54 : ∀ n, n < 54 → fin_P g k t3 u v f cA n := fu_s h53 fe_53
  have h55 : ∀ n, n < 55 → fin_P g k t3 u v f cA n := fu_s h54 fe_54
  have h56 : ∀ n, n < 56 → fin_P g k t3 u v f cA n := fu_s h55 fe_55
  have h57 : ∀ n, n < 57 → fin_P g k t3 u v f cA n := fu_s h56 fe_56
  have h58 : ∀ n, n < 58 → fin_P g k t3 u v f cA n := fu_s h57 fe_57
  have h59 : ∀ n, n < 59 → fin_P g k t3 u v f cA n := fu_s h58 fe_58
  have h60 : ∀ n, n < 60 → fin_P g k t3 u v f cA n := fu_s h59 fe_59
  have h61 : ∀ n, n < 61 → fin_P g k t3 u v f cA n := fu_s h60 fe_60
  have h62 : ∀ n, n < 62 → fin_P g k t3 u v f cA n := fu_s h61 fe_61
  have h63 : ∀ n, n < 63 → fin_P g k t3 u v f cA n := fu_s h62 fe_62
  have h64 : ∀ n, n < 64 → fin_P g k t3 u v f cA n := fu_s h63 fe_63
  have h65 : ∀ n, n < 65 → fin_P g k t3 u v f cA n := fu_s h64 fe_64
  have h66 : ∀ n, n < 66 → fin_P g k t3 u v f cA n := fu_s h65 fe_65
  have h67 : ∀ n, n < 67 → fin_P g k t3 u v f cA n := fu_s h66 fe_66
  have h68 : ∀ n, n < 68 → fin_P g k t3 u v f cA n := fu_s h67 fe_67
  have h69 : ∀ n, n < 69 → fin_P g k t3 u v f cA n := fu_s h68 fe_68
  have h70 : ∀ n, n < 70 → fin_P g k t3 u v f cA n := fu_s h69 fe_69
  have h71 : ∀ n, n < 71 → fin_P g k t3 u v f cA n := fu_s h70 fe_70
  have h72 : ∀ n, n < 72 → fin_P g k t3 u v f cA n := fu_s h71 fe_71
  have h73 : ∀ n, n < 73 → fin_P g k t3 u v f cA n := fu_s h72 fe_72
  have h74 : ∀ n, n < 74 → fin_P g k t3 u v f cA n := fu_s h73 fe_73
  have h75 : ∀ n, n < 75 → fin_P g k t3 u v f cA n := fu_s h74 fe_74
  have h76 : ∀ n, n < 76 → fin_P g k t3 u v f cA n := fu_s h75 fe_75
  have h77 : ∀ n, n < 77 → fin_P g k t3 u v f cA n := fu_s h76 fe_76
  have h78 : ∀ n, n < 78 → fin_P g k t3 u v f cA n := fu_s h77 fe_77
  have h79 : ∀ n, n < 79 → fin_P g k t3 u v f cA n := fu_s h78 fe_78
  have h80 : ∀ n, n < 80 → fin_P g k t3 u v f cA n := fu_s h79 fe_79
  have h81 : ∀ n, n < 81 → fin_P g k t3 u v f cA n := fu_s h80 fe_80
  have h82 : ∀ n, n < 82 → fin_P g k t3 u v f cA n := fu_s h81 fe_81
  have h83 : ∀ n, n < 83 → fin_P g k t3 u v f cA n := fu_s h82 fe_82
  have h84 : ∀ n, n < 84 → fin_P g k t3 u v f cA n := fu_s h83 fe_83
  have h85 : ∀ n, n < 85 → fin_P g k t3 u v f cA n := fu_s h84 fe_84
  have h86 : ∀ n, n < 86 → fin_P g k t3 u v f cA n := fu_s h85 fe_85
  have h87 : ∀ n, n < 87 → fin_P g k t3 u v f cA n := fu_s h86 fe_86
  have h88 : ∀ n, n < 88 → fin_P g k t3 u v f cA n := fu_s h87 fe_87
  have h89 : ∀ n, n < 89 → fin_P g k t3 u v f cA n := fu_s h88 fe_88
  have h90 : ∀ n, n < 90 → fin_P g k t3 u v f cA n := fu_s h89 fe_89
  have h91 : ∀ n, n < 91 → fin_P g k t3 u v f cA n := fu_s h90 fe_90
  have h92 : ∀ n, n < 92 → fin_P g k t3 u v f cA n := fu_s h91 fe_91
  have h93 : ∀ n, n < 93 → fin_P g k t3 u v f cA n := fu_s h92 fe_92
  have h94 : ∀ n, n < 94 → fin_P g k t3 u v f cA n := fu_s h93 fe_93
  have h95 : ∀ n, n < 95 → fin_P g k t3 u v f cA n := fu_s h94 fe_94
  have h96 : ∀ n, n < 96 → fin_P g k t3 u v f cA n := fu_s h95 fe_95
  have h97 : ∀ n, n < 97 → fin_P g k t3 u v f cA n := fu_s h96 fe_96
  have h98 : ∀ n, n < 98 → fin_P g k t3 u v f cA n := fu_s h97 fe_97
  have h99 : ∀ n, n < 99 → fin_P g k t3 u v f cA n := fu_s h98 fe_98
  have h100 : ∀ n, n < 100 → fin_P g k t3 u v f cA n := fu_s h99 fe_99
  have h101 : ∀ n, n < 101 → fin_P g k t3 u v f cA n := fu_s h100 fe_100
  have h102 : ∀ n, n < 102 → fin_P g k t3 u v f cA n := fu_s h101 fe_101
  have h103 : ∀ n, n < 103 → fin_P g k t3 u v f cA n := fu_s h102 fe_102
  have h104 : ∀ n, n < 104 → fin_P g k t3 u v f cA n := fu_s h103 fe_103
  have h105 : ∀ n, n < 105 → fin_P g k t3 u v f cA n := fu_s h104 fe_104
  have h106 : ∀ n, n < 106 → fin_P g k t3 u v f cA n := fu_s h105 fe_105
  have h107 : ∀ n, n < 107 → fin_P g k t3 u v f cA n := fu_s h106 fe_106
  have h108 : ∀ n, n < 108 → fin_P g k t3 u v f cA n := fu_s h107 fe_107
  have h109 : ∀ n, n < 109 → fin_P g k t3 u v f cA n := fu_s h108 fe_108
  have h110 : ∀ n, n < 110 → fin_P g k t3 u v f cA n := fu_s h109 fe_109
  have h111 : ∀ n, n < 111 → fin_P g k t3 u v f cA n := fu_s h110 fe_110
  have h112 : ∀ n, n < 112 → fin_P g k t3 u v f cA n := fu_s h111 fe_111
  have h113 : ∀ n, n < 113 → fin_P g k t3 u v f cA n := fu_s h112 fe_112
  have h114 : ∀ n, n < 114 → fin_P g k t3 u v f cA n := fu_s h113 fe_113
  have h115 : ∀ n, n < 115 → fin_P g k t3 u v f cA n := fu_s h114 fe_114
  have h116 : ∀ n, n < 116 → fin_P g k t3 u v f cA n := fu_s h115 fe_115
  have h117 : ∀ n, n < 117 → fin_P g k t3 u v f cA n := fu_s h116 fe_116
  have h118 : ∀ n, n < 118 → fin_P g k t3 u v f cA n := fu_s h117 fe_117
  have h119 : ∀ n, n < 119 → fin_P g k t3 u v f cA n := fu_s h118 fe_118
  have h120 : ∀ n, n < 120 → fin_P g k t3 u v f cA n := fu_s h119 fe_119
  have h121 : ∀ n, n < 121 → fin_P g k t3 u v f cA n := fu_s h120 fe_120
  have h122 : ∀ n, n < 122 → fin_P g k t3 u v f cA n := fu_s h121 fe_121
  have h123 : ∀ n, n < 123 → fin_P g k t3 u v f cA n := fu_s h122 fe_122
  have h124 : ∀ n, n < 124 → fin_P g k t3 u v f cA n := fu_s h123 fe_123
  have h125 : ∀ n, n < 125 → fin_P g k t3 u v f cA n := fu_s h124 fe_124
  exact h125
theorem fin_len : (mw_ws ad cA mw_s0).length = 125 := by
  unfold mw_ws
  rw [List.length_mapIdx]
  exact lq_len
set_option maxRecDepth 100000 in
theorem fin_eq : WX11 cA g u ++ WX12 cA k v = mw_ws (fin_ad g k u v f t3) cA mw_s0 := by
  apply List.ext_getElem?
  intro n
  by_cases hn : n < 125
  · exact fin_all n hn
  · rw [List.getElem?_eq_none (show (WX11 cA g u ++ WX12 cA k v).length ≤ n from Nat.not_lt.mp hn), List.getElem?_eq_none (by rw [fin_len]; omega)]
end FIN
