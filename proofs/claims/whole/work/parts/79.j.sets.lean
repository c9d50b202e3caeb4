/-! laws: sets that fit are those between must and can't -/
theorem bit_iff {n b : Nat} : n / 2 ^ b % 2 = 1 ↔ n.testBit b = true := by
  rw [Nat.testBit_eq_decide_div_mod_eq, decide_eq_true_iff]
theorem keepN_t {set x : Nat} : keepN set x = if set.testBit x = true then 0 else x := by
  unfold keepN
  by_cases c : set / 2 ^ x % 2 = 1
  · rw [if_pos c, if_pos (bit_iff.mp c)]
  · rw [if_neg c, if_neg (fun h => c (bit_iff.mpr h))]
def subB (a b : Nat) : Prop := ∀ k, a.testBit k = true → b.testBit k = true
def disB (a b : Nat) : Prop := ∀ k, a.testBit k = true → b.testBit k = false
theorem or_bit {a x k : Nat} : (a ||| 2 ^ x).testBit k = true ↔ a.testBit k = true ∨ x = k := by
  rw [Nat.testBit_or, Nat.testBit_two_pow, Bool.or_eq_true, decide_eq_true_iff]
theorem sub_or {a x set : Nat} : subB (a ||| 2 ^ x) set ↔ subB a set ∧ set.testBit x = true := by
  constructor
  · intro h
    exact ⟨fun k hk => h k (or_bit.mpr (Or.inl hk)), h x (or_bit.mpr (Or.inr rfl))⟩
  · intro h k hk
    rcases or_bit.mp hk with q | q
    · exact h.1 k q
    · exact q ▸ h.2
theorem dis_or {a x set : Nat} : disB (a ||| 2 ^ x) set ↔ disB a set ∧ set.testBit x = false := by
  constructor
  · intro h
    exact ⟨fun k hk => h k (or_bit.mpr (Or.inl hk)), h x (or_bit.mpr (Or.inr rfl))⟩
  · intro h k hk
    rcases or_bit.mp hk with q | q
    · exact h.1 k q
    · exact q ▸ h.2
def muN (T S : Nat → Nat) (late : Nat) : Nat → Nat → Nat → Nat
  | 0, _, a => a
  | n + 1, i, a => muN T S late n (i + 1) (if S i = 0 ∧ dN T late i ≠ 0 then a ||| 2 ^ dN T late i else a)
def caN (T S : Nat → Nat) (late : Nat) : Nat → Nat → Nat → Nat
  | 0, _, a => a
  | n + 1, i, a => caN T S late n (i + 1) (if S i = 0 then a else a ||| 2 ^ dN T late i)
def goN (T S : Nat → Nat) (late : Nat) : Nat → Nat → Bool → Bool
  | 0, _, g => g
  | n + 1, i, g => goN T S late n (i + 1) (if S i = 0 then g else g && decide (S i = dN T late i))
theorem ft_iff {T S : Nat → Nat} {late set : Nat} (h0 : set.testBit 0 = false) : ∀ (n i a c : Nat) (g : Bool), (subB a set ∧ disB c set ∧ g = true ∧ ftN T S late set n i = true) ↔ (subB (muN T S late n i a) set ∧ disB (caN T S late n i c) set ∧ goN T S late n i g = true)
  | 0, i, a, c, g => by
    unfold muN caN goN ftN
    simp
  | n + 1, i, a, c, g => by
    unfold muN caN goN ftN
    rw [← ft_iff h0 n (i + 1), keepN_t]
    generalize dN T late i = x
    by_cases s0 : S i = 0
    · by_cases x0 : x = 0
      · simp [s0, x0]
      · cases hb : set.testBit x
        · simp [s0, x0, hb, sub_or]
        · simp [s0, x0, hb, sub_or]
    · have s1 : ¬ (0 = S i) := fun q => s0 q.symm
      cases hb : set.testBit x
      · by_cases e : x = S i
        · subst e
          simp [s0, hb, dis_or]
        · have e2 : ¬ (S i = x) := fun q => e q.symm
          simp [s0, hb, dis_or, e, e2]
      · simp [s0, hb, dis_or, s1]
theorem mu_lt {T S : Nat → Nat} {late : Nat} : ∀ (n i a : Nat), (∀ k, i ≤ k → k < i + n → dN T late k ≤ 8) → a < 512 → muN T S late n i a < 512
  | 0, _, _, _, h => h
  | n + 1, i, a, hd, h => by
    unfold muN
    refine mu_lt n (i + 1) _ (fun k k1 k2 => hd k (by omega) (by omega)) ?_
    have := hd i (by omega) (by omega)
    split
    · exact Nat.or_lt_two_pow (n := 9) h (Nat.pow_lt_pow_right (by decide) (by omega))
    · exact h
theorem ca_lt {T S : Nat → Nat} {late : Nat} : ∀ (n i a : Nat), (∀ k, i ≤ k → k < i + n → dN T late k ≤ 8) → a < 512 → caN T S late n i a < 512
  | 0, _, _, _, h => h
  | n + 1, i, a, hd, h => by
    unfold caN
    refine ca_lt n (i + 1) _ (fun k k1 k2 => hd k (by omega) (by omega)) ?_
    have := hd i (by omega) (by omega)
    split
    · exact h
    · exact Nat.or_lt_two_pow (n := 9) h (Nat.pow_lt_pow_right (by decide) (by omega))
theorem mu_0 {T S : Nat → Nat} {late : Nat} : ∀ (n i a : Nat), a.testBit 0 = false → (muN T S late n i a).testBit 0 = false
  | 0, _, _, h => h
  | n + 1, i, a, h => by
    unfold muN
    refine mu_0 n (i + 1) _ ?_
    split
    · rename_i c
      rw [Bool.eq_false_iff]
      intro q
      rcases or_bit.mp q with q | q
      · exact absurd h (by simp [q])
      · exact c.2 q
    · exact h
theorem ca_0 {T S : Nat → Nat} {late : Nat} : ∀ (n i a : Nat) (g : Bool), (g = true → a.testBit 0 = false) → goN T S late n i g = true → (caN T S late n i a).testBit 0 = false
  | 0, _, _, _, h, hg => h hg
  | n + 1, i, a, g, h, hg => by
    unfold caN
    unfold goN at hg
    refine ca_0 n (i + 1) _ _ ?_ hg
    intro q
    by_cases s0 : S i = 0
    · rw [if_pos s0] at q ⊢
      exact h q
    · rw [if_neg s0] at q ⊢
      rw [Bool.and_eq_true, decide_eq_true_iff] at q
      rw [Bool.eq_false_iff]
      intro q2
      rcases or_bit.mp q2 with q2 | q2
      · exact absurd (h q.1) (by simp [q2])
      · exact s0 (q.2.trans q2)
def MU (T S : Nat → Nat) (sz l : Nat) : Nat := muN T S l sz 0 0
def CA (T S : Nat → Nat) (sz l : Nat) : Nat := caN T S l sz 0 0
def FI (T S : Nat → Nat) (sz l : Nat) : Bool := goN T S l sz 0 true && decide (MU T S sz l &&& CA T S sz l = 0)
theorem and0_dis {a b : Nat} : a &&& b = 0 ↔ disB a b := by
  constructor
  · intro h k hk
    have e : (a &&& b).testBit k = false := by rw [h, Nat.zero_testBit]
    rw [Nat.testBit_and, hk, Bool.true_and] at e
    exact e
  · intro h
    apply Nat.eq_of_testBit_eq
    intro k
    rw [Nat.testBit_and, Nat.zero_testBit]
    cases q : a.testBit k
    · rfl
    · rw [h k q]
      rfl
/-- a set fits just if it holds what must, and nothing that can't be, left out -/
theorem fit_iff {T S : Nat → Nat} {sz l set : Nat} (h0 : set.testBit 0 = false) : ftN T S l set sz 0 = true ↔ (FI T S sz l = true ∧ subB (MU T S sz l) set ∧ disB (CA T S sz l) set) := by
  have h := ft_iff (T := T) (S := S) (late := l) h0 sz 0 0 0 true
  have z1 : subB 0 set := fun k hk => absurd hk (by rw [Nat.zero_testBit]; simp)
  have z2 : disB 0 set := fun k hk => absurd hk (by rw [Nat.zero_testBit]; simp)
  constructor
  · intro q
    obtain ⟨a, b, c⟩ := h.mp ⟨z1, z2, rfl, q⟩
    refine ⟨?_, a, b⟩
    unfold FI
    rw [c, Bool.true_and, decide_eq_true_iff, and0_dis]
    intro k hk
    rw [Bool.eq_false_iff]
    intro q2
    exact absurd (a k hk) (by rw [b k q2]; simp)
  · rintro ⟨a, b, c⟩
    unfold FI at a
    rw [Bool.and_eq_true] at a
    exact (h.mpr ⟨b, c, a.1⟩).2.2.2
theorem CA_0 {T S : Nat → Nat} {sz l : Nat} (h : FI T S sz l = true) : (CA T S sz l).testBit 0 = false := by
  unfold FI at h
  rw [Bool.and_eq_true] at h
  exact ca_0 sz 0 0 true (fun _ => Nat.zero_testBit 0) h.1
theorem MU_0 {T S : Nat → Nat} {sz l : Nat} : (MU T S sz l).testBit 0 = false := mu_0 sz 0 0 (Nat.zero_testBit 0)
theorem MU_fit {T S : Nat → Nat} {sz l : Nat} (h : FI T S sz l = true) : ftN T S l (MU T S sz l) sz 0 = true := by
  refine (fit_iff MU_0).mpr ⟨h, fun k hk => hk, ?_⟩
  unfold FI at h
  rw [Bool.and_eq_true, decide_eq_true_iff, Nat.and_comm, and0_dis] at h
  exact h.2
/-- a sum -/
def sumN (f : Nat → Nat) : Nat → Nat
  | 0 => 0
  | n + 1 => sumN f n + f n
theorem sum_congr {f g : Nat → Nat} : ∀ n, (∀ j, j < n → f j = g j) → sumN f n = sumN g n
  | 0, _ => rfl
  | n + 1, h => by
    unfold sumN
    rw [sum_congr n (fun j hj => h j (by omega)), h n (by omega)]
theorem sum_add {f : Nat → Nat} {a : Nat} : ∀ b, sumN f (a + b) = sumN f a + sumN (fun j => f (a + j)) b
  | 0 => rfl
  | b + 1 => by
    show sumN f (a + b) + f (a + b) = sumN f a + (sumN (fun j => f (a + j)) b + f (a + b))
    rw [sum_add b]
    omega
theorem sum_plus {f g : Nat → Nat} : ∀ n, sumN (fun j => f j + g j) n = sumN f n + sumN g n
  | 0 => rfl
  | n + 1 => by
    show sumN (fun j => f j + g j) n + (f n + g n) = sumN f n + f n + (sumN g n + g n)
    rw [sum_plus n]
    omega
theorem sum_0 : ∀ n, sumN (fun _ => 0) n = 0
  | 0 => rfl
  | n + 1 => by
    unfold sumN
    rw [sum_0 n]
theorem sum_mul {f : Nat → Nat} {c : Nat} : ∀ n, sumN (fun j => f j * c) n = sumN f n * c
  | 0 => by
    show 0 = 0 * c
    omega
  | n + 1 => by
    show sumN (fun j => f j * c) n + f n * c = (sumN f n + f n) * c
    rw [sum_mul n, Nat.add_mul]
theorem sum_swap {f : Nat → Nat → Nat} {m : Nat} : ∀ n, sumN (fun i => sumN (fun j => f i j) m) n = sumN (fun j => sumN (fun i => f i j) n) m
  | 0 => by
    show 0 = sumN (fun j => 0) m
    rw [sum_0]
  | n + 1 => by
    show sumN (fun i => sumN (fun j => f i j) m) n + sumN (fun j => f n j) m = sumN (fun j => sumN (fun i => f i j) n + f n j) m
    rw [sum_swap n, sum_plus]
theorem sum_one {i0 : Nat} {c : Nat} : ∀ n, sumN (fun i => if i = i0 then c else 0) n = if i0 < n then c else 0
  | 0 => rfl
  | n + 1 => by
    unfold sumN
    rw [sum_one n]
    by_cases e : n = i0
    · rw [if_pos e, if_neg (by omega), if_pos (by omega)]
      omega
    · rw [if_neg e]
      by_cases e2 : i0 < n
      · rw [if_pos e2, if_pos (by omega), Nat.add_zero]
      · rw [if_neg e2, if_neg (by omega)]
/-- sets that hold what must, and nothing that can't -/
def okB (m c : Nat → Bool) : Nat → Nat → Bool
  | 0, _ => true
  | n + 1, j => okB m c n j && ((!(m n) || j.testBit n) && (!(c n) || !(j.testBit n)))
theorem okB_all {m c : Nat → Bool} : ∀ (n j : Nat), okB m c n j = true ↔ ∀ b, b < n → (m b = true → j.testBit b = true) ∧ (c b = true → j.testBit b = false)
  | 0, j => by
    unfold okB
    exact ⟨fun _ b hb => absurd hb (by omega), fun _ => rfl⟩
  | n + 1, j => by
    unfold okB
    rw [Bool.and_eq_true, okB_all n j]
    constructor
    · rintro ⟨h1, h2⟩ b hb
      by_cases e : b = n
      · subst e
        cases hm : m b <;> cases hc : c b <;> cases ht : j.testBit b <;> simp_all
      · exact h1 b (by omega)
    · intro h
      refine ⟨fun b hb => h b (by omega), ?_⟩
      have := h n (by omega)
      cases hm : m n <;> cases hc : c n <;> cases ht : j.testBit n <;> simp_all
theorem okB_hi {m c : Nat → Bool} {N : Nat} : ∀ (n j : Nat), n ≤ N → okB m c n (2 ^ N + j) = okB m c n j
  | 0, _, _ => rfl
  | n + 1, j, h => by
    unfold okB
    rw [okB_hi n j (by omega), Nat.testBit_two_pow_add_gt (show n < N by omega)]
theorem cnt_ok {m c : Nat → Bool} (hmc : ∀ b, m b = true → c b = false) : ∀ n, sumN (fun j => if okB m c n j = true then 1 else 0) (2 ^ n) = 2 ^ cntN (fun b => !(m b) && !(c b)) n
  | 0 => rfl
  | n + 1 => by
    rw [Nat.pow_succ, Nat.mul_two, sum_add]
    have e1 : sumN (fun j => if okB m c (n + 1) j = true then 1 else 0) (2 ^ n) = (if m n = true then 0 else 1) * sumN (fun j => if okB m c n j = true then 1 else 0) (2 ^ n) := by
      rw [Nat.mul_comm, ← sum_mul]
      refine sum_congr _ (fun j hj => ?_)
      show (if (okB m c n j && ((!(m n) || j.testBit n) && (!(c n) || !(j.testBit n)))) = true then 1 else 0) = _
      rw [Nat.testBit_lt_two_pow hj]
      cases hm : m n <;> cases okB m c n j <;> simp
    have e2 : sumN (fun j => if okB m c (n + 1) (2 ^ n + j) = true then 1 else 0) (2 ^ n) = (if c n = true then 0 else 1) * sumN (fun j => if okB m c n j = true then 1 else 0) (2 ^ n) := by
      rw [Nat.mul_comm, ← sum_mul]
      refine sum_congr _ (fun j hj => ?_)
      show (if (okB m c n (2 ^ n + j) && ((!(m n) || (2 ^ n + j).testBit n) && (!(c n) || !((2 ^ n + j).testBit n)))) = true then 1 else 0) = _
      rw [okB_hi n j (Nat.le_refl _), Nat.testBit_two_pow_add_eq, Nat.testBit_lt_two_pow hj]
      cases hm : c n <;> cases okB m c n j <;> simp
    rw [e1, e2, cnt_ok hmc n]
    show _ = 2 ^ (cntN (fun b => !(m b) && !(c b)) n + (if (!(m n) && !(c n)) = true then 1 else 0))
    cases hm : m n
    · cases hc : c n
      · simp [Nat.pow_succ]
        omega
      · simp
    · rw [hmc n hm]
      simp
