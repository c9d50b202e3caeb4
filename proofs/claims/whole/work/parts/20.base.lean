/-! small facts for contracts of methods -/
/-- a whole cell put in place of another -/
def cel (σ : mw_S) (a : Nat) (f : Nat → Int) : mw_S := fun b => if b = a then f else σ b
theorem cel_s {σ : mw_S} {a : Nat} {f : Nat → Int} : cel σ a f a = f := by unfold cel; rw [if_pos rfl]
theorem cel_n {σ : mw_S} {a b : Nat} {f : Nat → Int} (h : b ≠ a) : cel σ a f b = σ b := by unfold cel; rw [if_neg h]
theorem cel_cel {σ : mw_S} {a : Nat} {f g : Nat → Int} : cel (cel σ a f) a g = cel σ a g := by
  funext b
  unfold cel
  by_cases e : b = a
  · rw [if_pos e, if_pos e]
  · rw [if_neg e, if_neg e, if_neg e]
theorem cel_self {σ : mw_S} {a : Nat} {f : Nat → Int} (h : σ a = f) : cel σ a f = σ := by
  funext b
  unfold cel
  by_cases e : b = a
  · rw [if_pos e, e, h]
  · rw [if_neg e]
def up1 (f : Nat → Int) (j : Nat) (x : Int) : Nat → Int := fun k => if k = j then x else f k
theorem up1_s {f : Nat → Int} {j : Nat} {x : Int} : up1 f j x j = x := if_pos rfl
theorem up1_n {f : Nat → Int} {j k : Nat} {x : Int} (h : k ≠ j) : up1 f j x k = f k := if_neg h
theorem upS_cel {σ : mw_S} {a j : Nat} {x : Int} : upS σ a j x = cel σ a (up1 (σ a) j x) := by
  funext b k
  unfold upS cel up1
  by_cases e : b = a
  · subst e
    by_cases e2 : k = j
    · simp [e2]
    · simp [e2]
  · rw [if_neg (fun q => e q.1), if_neg e]
theorem up1_cel {σ : mw_S} {a j : Nat} {x : Int} {f : Nat → Int} : upS (cel σ a f) a j x = cel σ a (up1 f j x) := by rw [upS_cel, cel_s, cel_cel]
theorem yL_eq {x : Int} (h : in32 x) : yL x = x := by
  unfold yL
  rw [Int32.toInt_toInt64, i32_to h]
theorem yCmp_eq {x y : Int} (hx : in64 x) (hy : in64 y) : yCmp x y = if x < y then -1 else if y < x then 1 else 0 := by
  have h1 : i64 x < i64 y ↔ x < y := by rw [Int64.lt_iff_toInt_lt, i64_to hx, i64_to hy]
  have h2 : i64 y < i64 x ↔ y < x := by rw [Int64.lt_iff_toInt_lt, i64_to hx, i64_to hy]
  have h3 : i64 x = i64 y ↔ x = y := by rw [← Int64.toInt_inj, i64_to hx, i64_to hy]
  unfold yCmp lg_cmp
  simp only [h2, h3]
  by_cases c1 : x < y
  · rw [if_pos c1, if_neg (show ¬ y < x by omega), if_neg (show ¬ x = y by omega)]
    decide
  · by_cases c2 : y < x
    · rw [if_neg c1, if_pos c2, if_pos c2]
      decide
    · rw [if_neg c1, if_neg c2, if_neg c2, if_pos (show x = y by omega)]
      decide
theorem i32_ne0 {y : Int} (h : in32 y) (h0 : y ≠ 0) : ¬ i32 y = 0 := by
  rw [← i32_0, i32_eq h in32_0]
  exact h0
theorem zDiv_eq {x y : Int} (hx : in32 x) (h0 : 0 ≤ x) (h1 : 0 < y) (h2 : y < 2147483648) : zDiv x y = x / y := by
  have hy : in32 y := ⟨by omega, h2⟩
  unfold zDiv
  rw [Int32.toInt_div, i32_to hx, i32_to hy, Int.tdiv_eq_ediv_of_nonneg h0]
  have a1 : 0 ≤ x / y := Int.ediv_nonneg h0 (by omega)
  have a2 : x / y ≤ x := Int.ediv_le_self _ h0
  obtain ⟨hx1, hx2⟩ := hx
  exact Int.bmod_eq_of_le (by simp; omega) (by simp; omega)
theorem zRem_eq {x y : Int} (hx : in32 x) (h0 : 0 ≤ x) (h1 : 0 < y) (h2 : y < 2147483648) : zRem x y = x % y := by
  have hy : in32 y := ⟨by omega, h2⟩
  have hd := zDiv_eq hx h0 h1 h2
  unfold zDiv at hd
  unfold zRem
  have e : i32 x / i32 y = i32 (x / y) := by
    rw [← hd, i32_of]
  rw [e, i32_mul, i32_sub]
  have e2 : x - x / y * y = x % y := by
    have := Int.emod_def x y
    rw [Int.mul_comm] at this
    omega
  rw [e2]
  have a1 := Int.emod_nonneg x (show y ≠ 0 by omega)
  have a2 := Int.emod_lt_of_pos x h1
  exact i32_to ⟨by omega, by omega⟩
theorem b01 {c : Prop} [Decidable c] : ((if c then (1 : Int) else 0) = 0 ∨ (if c then (1 : Int) else 0) = 1) = True := by
  by_cases h : c <;> simp [h]
theorem nlP_n : (mw_nlo none = true) = True := eq_true rfl
theorem nlP_I {x : Int} : (mw_nlo (some (jI x)) = true) = True := eq_true rfl
theorem nlP_R {x : Nat} : (mw_nlo (some (jR x)) = true) = True := eq_true rfl
theorem catP_I {x : Int} : (mw_cat (jI x) = 1) = True := eq_true rfl
theorem catP_R {x : Nat} : (mw_cat (jR x) = 1) = True := eq_true rfl
theorem cat_le (v : mw_V) : mw_cat v ≤ 2 := by rcases v with z | z | a | u <;> exact Nat.le_of_ble_eq_true rfl
theorem st8_0 : ((([] : List mw_V).map mw_cat).sum ≤ 8) = True := eq_true (by decide)
theorem st8_1 {v : mw_V} : (([v].map mw_cat).sum ≤ 8) = True := eq_true (by have := cat_le v; simp; omega)
theorem st8_2 {v w : mw_V} : (([v, w].map mw_cat).sum ≤ 8) = True := eq_true (by have := cat_le v; have := cat_le w; simp; omega)
theorem st8_3 {v w x : mw_V} : (([v, w, x].map mw_cat).sum ≤ 8) = True := eq_true (by have := cat_le v; have := cat_le w; have := cat_le x; simp; omega)
theorem st8_4 {v w x y : mw_V} : (([v, w, x, y].map mw_cat).sum ≤ 8) = True := eq_true (by have := cat_le v; have := cat_le w; have := cat_le x; have := cat_le y; simp; omega)
theorem rcP0 : (mw_rc 0 = 11) = True := eq_true rfl
theorem rcP1 : (mw_rc 1 = 7) = True := eq_true rfl
theorem rcP3 : (mw_rc 3 = 1) = True := eq_true rfl
theorem rcP13 : (mw_rc 13 = 1) = True := eq_true rfl
theorem rcP22 : (mw_rc 22 = 9) = True := eq_true rfl
theorem rcP25 : (mw_rc 25 = 6) = True := eq_true rfl
theorem rcP37 : (mw_rc 37 = 10) = True := eq_true rfl
theorem rcP45 : (mw_rc 45 = 8) = True := eq_true rfl
theorem rcP55 : (mw_rc 55 = 3) = True := eq_true rfl
theorem rcP65 : (mw_rc 65 = 5) = True := eq_true rfl
theorem rcP74 : (mw_rc 74 = 2) = True := eq_true rfl
theorem rcP76 : (mw_rc 76 = 4) = True := eq_true rfl
theorem rcP77 : (mw_rc 77 = 1) = True := eq_true rfl
theorem rcP87 : (mw_rc 87 = 4) = True := eq_true rfl
theorem rcP88 : (mw_rc 88 = 1) = True := eq_true rfl
theorem rcP100 : (mw_rc 100 = 12) = True := eq_true rfl
theorem rdI_c {σ : mw_S} {j : Nat} : mw_rdI σ 3000 j = mw_nines.getD j 0 := (rfl)
