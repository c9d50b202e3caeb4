/-! laws: how they part: pure -/
def cdN (e : Nat → Nat) (set : Nat) : Nat → Nat → Nat → Nat
  | 0, _, a => a
  | n + 1, j, a => cdN e set n (j + 1) (9 * a + keepN set (e j))
theorem cdN_congr {e : Nat → Nat} {s s' : Nat} : ∀ (n j a : Nat), (∀ k, j ≤ k → k < j + n → keepN s (e k) = keepN s' (e k)) → cdN e s n j a = cdN e s' n j a
  | 0, _, _, _ => rfl
  | n + 1, j, a, h => by
    unfold cdN
    rw [h j (by omega) (by omega)]
    exact cdN_congr n (j + 1) _ (fun k k1 k2 => h k (by omega) (by omega))
theorem cdN_lt {e : Nat → Nat} {s : Nat} (he : ∀ j, e j ≤ 8) : ∀ (n j a : Nat), cdN e s n j a + 1 ≤ 9 ^ n * (a + 1)
  | 0, _, a => by
    unfold cdN
    omega
  | n + 1, j, a => by
    unfold cdN
    have h1 := cdN_lt (s := s) he n (j + 1) (9 * a + keepN s (e j))
    have h2 : keepN s (e j) ≤ 8 := Nat.le_trans keepN_le (he j)
    have h3 : 9 ^ n * (9 * a + keepN s (e j) + 1) ≤ 9 ^ n * (9 * (a + 1)) := Nat.mul_le_mul_left _ (by omega)
    rw [Nat.pow_succ, Nat.mul_assoc]
    omega
/-- the sets within one, from the greatest on -/
def sbL (op : Nat) : Nat → Nat → List Nat
  | 0, _ => []
  | n + 1, s => s :: (if s = 0 then [] else sbL op n ((s - 1) &&& op))
def dsc (op : Nat) : Nat → List Nat
  | 0 => []
  | n + 1 => if (2 * n) &&& op = 2 * n then 2 * n :: dsc op n else dsc op n
theorem sb_dsc : ∀ o, o < 256 → popN (2 * o) ≤ 5 → sbL (2 * o) 32 (2 * o) = dsc (2 * o) 256 := by decide +kernel
theorem sb_len : ∀ (n op s : Nat), (sbL op n s).length ≤ n
  | 0, _, _ => Nat.le_refl _
  | n + 1, op, s => by
    unfold sbL
    rw [List.length_cons]
    have := sb_len n op ((s - 1) &&& op)
    split
    · simp
    · omega
theorem dsc_sum {op : Nat} {g : Nat → Nat} : ∀ n, sumL g (dsc op n) = sumN (fun j => if (2 * j) &&& op = 2 * j then g (2 * j) else 0) n
  | 0 => rfl
  | n + 1 => by
    unfold dsc sumN
    by_cases c : (2 * n) &&& op = 2 * n
    · rw [if_pos c, if_pos c]
      show g (2 * n) + sumL g (dsc op n) = _
      rw [dsc_sum n]
      omega
    · rw [if_neg c, if_neg c, dsc_sum n]
      rfl
theorem pop_or1 {a x : Nat} : popN (a ||| 2 ^ x) ≤ popN a + 1 := by
  unfold popN
  have : ∀ n, cntN (fun j => (a ||| 2 ^ x).testBit j) n ≤ cntN (fun j => a.testBit j) n + (if x < n then 1 else 0) := fun n => by
    induction n with
    | zero => exact Nat.zero_le _
    | succ n ih =>
      unfold cntN
      by_cases e : x = n
      · rw [if_neg (by omega)] at ih
        rw [if_pos (show x < n + 1 by omega)]
        split <;> split <;> omega
      · have hb : (a ||| 2 ^ x).testBit n = a.testBit n := by
          rw [Bool.eq_iff_iff, or_bit]
          exact ⟨fun h => h.resolve_right e, Or.inl⟩
        rw [hb]
        by_cases e2 : x < n
        · rw [if_pos e2] at ih
          rw [if_pos (show x < n + 1 by omega)]
          omega
        · rw [if_neg e2] at ih
          rw [if_neg (show ¬ x < n + 1 by omega)]
          omega
  have h9 := this 9
  split at h9 <;> omega
theorem pop_disj {a b : Nat} (h : disB a b) : popN (a ||| b) = popN a + popN b := by
  unfold popN
  have : ∀ n, cntN (fun j => (a ||| b).testBit j) n = cntN (fun j => a.testBit j) n + cntN (fun j => b.testBit j) n := fun n => by
    induction n with
    | zero => rfl
    | succ n ih =>
      unfold cntN
      rw [ih, Nat.testBit_or]
      cases ha : a.testBit n
      · rw [Bool.false_or]
        simp
        omega
      · rw [h n ha]
        simp
        omega
  exact this 9
/-- the doings that come -/
def cmN (e : Nat → Nat) : Nat → Nat → Nat → Nat
  | 0, _, a => a
  | n + 1, j, a => cmN e n (j + 1) (a ||| 2 ^ e j)
theorem cm_bit {e : Nat → Nat} {k : Nat} : ∀ (n j a : Nat), (cmN e n j a).testBit k = true ↔ (a.testBit k = true ∨ ∃ i, j ≤ i ∧ i < j + n ∧ e i = k)
  | 0, j, a => by
    unfold cmN
    exact ⟨Or.inl, fun h => h.resolve_right (fun ⟨i, h1, h2, _⟩ => by omega)⟩
  | n + 1, j, a => by
    unfold cmN
    rw [cm_bit n (j + 1), or_bit]
    constructor
    · rintro ((h | h) | ⟨i, h1, h2, h3⟩)
      · exact Or.inl h
      · exact Or.inr ⟨j, by omega, by omega, h⟩
      · exact Or.inr ⟨i, by omega, by omega, h3⟩
    · rintro (h | ⟨i, h1, h2, h3⟩)
      · exact Or.inl (Or.inl h)
      · by_cases c : i = j
        · exact Or.inl (Or.inr (c ▸ h3))
        · exact Or.inr ⟨i, by omega, by omega, h3⟩
theorem cm_pop {e : Nat → Nat} : ∀ (n j a : Nat), popN (cmN e n j a) ≤ popN a + n
  | 0, _, _ => Nat.le_refl _
  | n + 1, j, a => by
    unfold cmN
    have := cm_pop (e := e) n (j + 1) (a ||| 2 ^ e j)
    have := pop_or1 (a := a) (x := e j)
    omega
theorem cm_lt {e : Nat → Nat} (he : ∀ j, e j ≤ 8) : ∀ (n j a : Nat), a < 512 → cmN e n j a < 512
  | 0, _, _, h => h
  | n + 1, j, a, h => cm_lt he n (j + 1) _ (Nat.or_lt_two_pow (n := 9) h (Nat.pow_lt_pow_right (by decide) (by have := he j; omega)))
/-- of those that come the open ones -/
def opN (e : Nat → Nat) (a c : Nat) : Nat := cmN e 5 0 0 &&& (511 ^^^ (a ||| c ||| 1))
theorem one_bit {k : Nat} : (1 : Nat).testBit k = true ↔ k = 0 := by
  rw [show (1 : Nat) = 2 ^ 0 from rfl, Nat.testBit_two_pow, decide_eq_true_iff]
  exact eq_comm
theorem op_bit {e : Nat → Nat} {a c k : Nat} (he : ∀ j, e j ≤ 8) : (opN e a c).testBit k = true ↔ (k ≠ 0 ∧ a.testBit k = false ∧ c.testBit k = false ∧ ∃ i, i < 5 ∧ e i = k) := by
  unfold opN
  rw [Nat.testBit_and, Bool.and_eq_true, cm_bit, Nat.testBit_xor, Nat.testBit_or, Nat.testBit_or, Nat.zero_testBit]
  constructor
  · rintro ⟨h1, h2⟩
    obtain ⟨i, i1, i2, i3⟩ := h1.resolve_left (by simp)
    have hk : k ≤ 8 := i3 ▸ he i
    have h511 : (511 : Nat).testBit k = true := by
      rw [show (511 : Nat) = 2 ^ 9 - 1 from rfl, Nat.testBit_two_pow_sub_one, decide_eq_true_iff]
      omega
    rw [h511] at h2
    cases ha : a.testBit k <;> cases hc : c.testBit k <;> cases h1 : (1 : Nat).testBit k <;> simp [ha, hc, h1] at h2
    refine ⟨fun q => ?_, rfl, rfl, ⟨i, by omega, i3⟩⟩
    rw [one_bit.mpr q] at h1
    exact absurd h1 (by simp)
  · rintro ⟨h0, ha, hc, ⟨i, i1, i2⟩⟩
    refine ⟨Or.inr ⟨i, by omega, by omega, i2⟩, ?_⟩
    have hk : k ≤ 8 := i2 ▸ he i
    have h511 : (511 : Nat).testBit k = true := by
      rw [show (511 : Nat) = 2 ^ 9 - 1 from rfl, Nat.testBit_two_pow_sub_one, decide_eq_true_iff]
      omega
    have h1 : (1 : Nat).testBit k = false := by
      rw [Bool.eq_false_iff]
      exact fun q => h0 (one_bit.mp q)
    rw [h511, ha, hc, h1]
    rfl
theorem op_lt {e : Nat → Nat} {a c : Nat} (he : ∀ j, e j ≤ 8) : opN e a c < 512 := Nat.lt_of_le_of_lt Nat.and_le_left (cm_lt he 5 0 0 (by omega))
theorem op_0 {e : Nat → Nat} {a c : Nat} (he : ∀ j, e j ≤ 8) : (opN e a c).testBit 0 = false := by
  rw [Bool.eq_false_iff]
  exact fun q => ((op_bit he).mp q).1 rfl
theorem op_even {e : Nat → Nat} {a c : Nat} (he : ∀ j, e j ≤ 8) : opN e a c % 2 = 0 := by
  have := op_0 (a := a) (c := c) he
  rw [Nat.testBit_zero] at this
  simp at this
  omega
theorem op_pop {e : Nat → Nat} {a c : Nat} : popN (opN e a c) ≤ 5 := by
  have h1 := cm_pop (e := e) 5 0 0
  have h2 : popN (opN e a c) ≤ popN (cmN e 5 0 0) := pop_sub (fun k hk => by
    unfold opN at hk
    rw [Nat.testBit_and, Bool.and_eq_true] at hk
    exact hk.1)
  have h3 : popN 0 = 0 := by decide
  omega
/-- what a law says depends on the open ones that come -/
theorem cd_op {e : Nat → Nat} {a c j : Nat} (he : ∀ j, e j ≤ 8) (hd : disB a c) (h1 : subB a (2 * j)) (h2 : disB c (2 * j)) : cdN e (2 * j) 5 0 0 = cdN e (a ||| (2 * j &&& opN e a c)) 5 0 0 := by
  refine cdN_congr 5 0 0 (fun i _ i2 => ?_)
  rw [keepN_t, keepN_t]
  by_cases e0 : e i = 0
  · rw [e0, ite_self, ite_self]
  · have : (2 * j).testBit (e i) = (a ||| (2 * j &&& opN e a c)).testBit (e i) := by
      rw [Nat.testBit_or, Nat.testBit_and]
      cases ha : a.testBit (e i)
      · rw [Bool.false_or]
        cases hj : (2 * j).testBit (e i)
        · rfl
        · rw [Bool.true_and]
          refine ((op_bit he).mpr ⟨e0, ha, ?_, ⟨i, by omega, rfl⟩⟩).symm
          rw [Bool.eq_false_iff]
          intro q
          rw [h2 _ q] at hj
          exact absurd hj (by simp)
      · rw [h1 _ ha]
        rfl
    rw [this]
theorem and_evn {j op : Nat} (h : op % 2 = 0) : 2 * j &&& op = 2 * (j &&& op / 2) := by
  apply Nat.eq_of_testBit_eq
  intro k
  match k with
  | 0 =>
    rw [Nat.testBit_and, even0, even0]
    rfl
  | k + 1 => rw [Nat.testBit_and, evenS, evenS, Nat.testBit_and, Nat.testBit_succ]
theorem and_self_iff {i op : Nat} : i &&& op = i ↔ subB i op := by
  constructor
  · intro h k hk
    rw [← h, Nat.testBit_and, Bool.and_eq_true] at hk
    exact hk.2
  · intro h
    apply Nat.eq_of_testBit_eq
    intro k
    rw [Nat.testBit_and]
    cases q : i.testBit k
    · rfl
    · rw [h k q]
      rfl
/-- sets between two that have just these open ones -/
theorem betw2 {a c op i j : Nat} (hi : subB (2 * i) op) : (subB a (2 * j) ∧ disB c (2 * j) ∧ 2 * j &&& op = 2 * i) ↔ (subB (a ||| 2 * i) (2 * j) ∧ disB (c ||| (op ^^^ 2 * i)) (2 * j)) := by
  have xb : ∀ k, (op ^^^ 2 * i).testBit k = true ↔ (op.testBit k = true ∧ (2 * i).testBit k = false) := fun k => by
    rw [Nat.testBit_xor]
    cases hb : (2 * i).testBit k
    · cases op.testBit k <;> simp
    · rw [hi k hb]
      simp
  constructor
  · rintro ⟨h1, h2, h3⟩
    constructor
    · intro k hk
      rw [Nat.testBit_or, Bool.or_eq_true] at hk
      rcases hk with q | q
      · exact h1 k q
      · rw [← h3, Nat.testBit_and, Bool.and_eq_true] at q
        exact q.1
    · intro k hk
      rw [Nat.testBit_or, Bool.or_eq_true] at hk
      rcases hk with q | q
      · exact h2 k q
      · obtain ⟨q1, q2⟩ := (xb k).mp q
        rw [← h3, Nat.testBit_and, q1, Bool.and_true] at q2
        exact q2
  · rintro ⟨h1, h2⟩
    refine ⟨fun k hk => h1 k (by rw [Nat.testBit_or, hk]; rfl), fun k hk => h2 k (by rw [Nat.testBit_or, hk]; rfl), ?_⟩
    apply Nat.eq_of_testBit_eq
    intro k
    rw [Nat.testBit_and]
    cases ho : op.testBit k
    · rw [Bool.and_false]
      cases hb : (2 * i).testBit k
      · rfl
      · rw [hi k hb] at ho
        exact absurd ho (by simp)
    · rw [Bool.and_true]
      cases hb : (2 * i).testBit k
      · exact h2 k (by rw [Nat.testBit_or, (xb k).mpr ⟨ho, hb⟩, Bool.or_true])
      · exact h1 k (by rw [Nat.testBit_or, hb, Bool.or_true])
theorem xor_or {op i : Nat} (hi : subB i op) : i ||| (op ^^^ i) = op := by
  apply Nat.eq_of_testBit_eq
  intro k
  rw [Nat.testBit_or, Nat.testBit_xor]
  cases hb : i.testBit k
  · cases op.testBit k <;> rfl
  · rw [hi k hb]
    rfl
theorem cnt_betw2 {a c op i : Nat} (ha0 : a.testBit 0 = false) (ha : a < 512) (hc0 : c.testBit 0 = false) (hc : c < 512) (hd : disB a c) (ho0 : op.testBit 0 = false) (ho : op < 512) (hoa : disB op (a ||| c)) (hi : subB (2 * i) op) : sumN (fun j => if okB (fun b => a.testBit (b + 1)) (fun b => c.testBit (b + 1)) 8 j = true ∧ 2 * j &&& op = 2 * i then 1 else 0) 256 = 2 ^ (8 - popN (a ||| c) - popN op) := by
  have hi0 : (2 * i).testBit 0 = false := even0 i
  have hil : 2 * i < 512 := by
    rw [← and_self_iff.mpr hi]
    exact Nat.lt_of_le_of_lt Nat.and_le_right ho
  have hx0 : (op ^^^ 2 * i).testBit 0 = false := by
    rw [Nat.testBit_xor, ho0, hi0]
    rfl
  have hxl : op ^^^ 2 * i < 512 := Nat.xor_lt_two_pow (n := 9) ho hil
  have hoab : ∀ k, op.testBit k = true → a.testBit k = false ∧ c.testBit k = false := fun k hk => by
    have := hoa k hk
    rw [Nat.testBit_or] at this
    cases h1 : a.testBit k <;> cases h2 : c.testBit k <;> simp [h1, h2] at this
    exact ⟨rfl, rfl⟩
  have hd2 : disB (a ||| 2 * i) (c ||| (op ^^^ 2 * i)) := by
    intro k hk
    rw [Nat.testBit_or, Bool.or_eq_true] at hk
    rw [Nat.testBit_or, Nat.testBit_xor]
    rcases hk with q | q
    · rw [hd k q, Bool.false_or]
      cases ho2 : op.testBit k
      · cases hb : (2 * i).testBit k
        · rfl
        · rw [hi k hb] at ho2
          exact absurd ho2 (by simp)
      · rw [(hoab k ho2).1] at q
        exact absurd q (by simp)
    · rw [(hoab k (hi k q)).2, hi k q, q]
      rfl
  have h := cnt_betw (a := a ||| 2 * i) (c := c ||| (op ^^^ 2 * i)) (or_0 ha0 hi0) (or_0 hc0 hx0) hd2
  have e1 : a ||| 2 * i ||| (c ||| (op ^^^ 2 * i)) = op ||| (a ||| c) := by
    rw [show a ||| 2 * i ||| (c ||| (op ^^^ 2 * i)) = (2 * i ||| (op ^^^ 2 * i)) ||| (a ||| c) by ac_rfl, xor_or hi]
  rw [e1, pop_disj hoa] at h
  rw [show 8 - popN (a ||| c) - popN op = 8 - (popN op + popN (a ||| c)) by omega, ← h]
  refine sum_congr _ (fun j _ => ?_)
  have b1 := betw (j := j) ha0 ha hc0 hc
  have b2 := betw (j := j) (or_0 ha0 hi0) (Nat.or_lt_two_pow (n := 9) ha hil) (or_0 hc0 hx0) (Nat.or_lt_two_pow (n := 9) hc hxl)
  have b3 := betw2 (a := a) (c := c) (j := j) hi
  have : (okB (fun b => a.testBit (b + 1)) (fun b => c.testBit (b + 1)) 8 j = true ∧ 2 * j &&& op = 2 * i) ↔ okB (fun b => (a ||| 2 * i).testBit (b + 1)) (fun b => (c ||| (op ^^^ 2 * i)).testBit (b + 1)) 8 j = true := by
    rw [← b2, ← b3, ← b1]
    exact ⟨fun ⟨⟨x, y⟩, z⟩ => ⟨x, y, z⟩, fun ⟨x, y, z⟩ => ⟨⟨x, y⟩, z⟩⟩
  by_cases q : okB (fun b => (a ||| 2 * i).testBit (b + 1)) (fun b => (c ||| (op ^^^ 2 * i)).testBit (b + 1)) 8 j = true
  · rw [if_pos (this.mpr q), if_pos q]
  · rw [if_neg (fun z => q (this.mp z)), if_neg q]
theorem part_cnt {e : Nat → Nat} {a c : Nat} {h : Nat → Nat} (he : ∀ j, e j ≤ 8) (ha0 : a.testBit 0 = false) (ha : a < 512) (hc0 : c.testBit 0 = false) (hc : c < 512) (hd : disB a c) : sumN (fun j => if okB (fun b => a.testBit (b + 1)) (fun b => c.testBit (b + 1)) 8 j = true then h (2 * j &&& opN e a c) else 0) 256 = sumL (fun s => h s * 2 ^ (8 - popN (a ||| c) - popN (opN e a c))) (sbL (opN e a c) 32 (opN e a c)) := by
  have ho := op_lt (a := a) (c := c) he
  have hoe := op_even (a := a) (c := c) he
  have hop := op_pop (e := e) (a := a) (c := c)
  have ho0 := op_0 (a := a) (c := c) he
  have hoa : disB (opN e a c) (a ||| c) := fun k hk => by
    obtain ⟨_, h1, h2, _⟩ := (op_bit he).mp hk
    rw [Nat.testBit_or, h1, h2]
    rfl
  generalize opN e a c = op at *
  have hs := sb_dsc (op / 2) (by omega)
  rw [show 2 * (op / 2) = op by omega] at hs
  rw [hs hop, dsc_sum]
  have e1 : sumN (fun j => if okB (fun b => a.testBit (b + 1)) (fun b => c.testBit (b + 1)) 8 j = true then h (2 * j &&& op) else 0) 256 = sumN (fun j => sumN (fun i => if okB (fun b => a.testBit (b + 1)) (fun b => c.testBit (b + 1)) 8 j = true ∧ 2 * j &&& op = 2 * i then h (2 * i) else 0) 256) 256 := by
    refine sum_congr _ (fun j hj => ?_)
    have hl : j &&& op / 2 < 256 := Nat.lt_of_le_of_lt Nat.and_le_left hj
    by_cases q : okB (fun b => a.testBit (b + 1)) (fun b => c.testBit (b + 1)) 8 j = true
    · rw [if_pos q, and_evn hoe]
      have := sum_one (i0 := j &&& op / 2) (c := h (2 * (j &&& op / 2))) 256
      rw [if_pos hl] at this
      rw [← this]
      refine sum_congr _ (fun i _ => ?_)
      by_cases q2 : i = j &&& op / 2
      · rw [if_pos q2, if_pos ⟨q, by omega⟩, q2]
      · rw [if_neg q2, if_neg (fun z => q2 (by have := z.2; omega))]
    · rw [if_neg q]
      refine (sum_zero _ (fun i _ => ?_)).symm
      rw [if_neg (fun z => q z.1)]
  rw [e1, sum_swap]
  refine sum_congr _ (fun i _ => ?_)
  by_cases q : (2 * i) &&& op = 2 * i
  · rw [if_pos q, ← cnt_betw2 ha0 ha hc0 hc hd ho0 ho hoa (and_self_iff.mp q), Nat.mul_comm (h (2 * i)), ← sum_mul]
    refine sum_congr _ (fun j _ => ?_)
    split
    · rw [Nat.one_mul]
    · rw [Nat.zero_mul]
  · rw [if_neg q]
    refine sum_zero _ (fun j _ => ?_)
    refine if_neg (fun z => q ?_)
    rw [← z.2, Nat.and_assoc, Nat.and_self]
/-- the most, of counts -/
def isMax (c : Nat → Nat) (m : Nat) : Prop := (∀ K, c K ≤ m) ∧ (m = 0 ∨ ∃ K, c K = m)
theorem isMax_uniq {c : Nat → Nat} {m m' : Nat} (h : isMax c m) (h' : isMax c m') : m = m' := by
  have a : m ≤ m' := by
    rcases h.2 with e | ⟨K, e⟩
    · omega
    · rw [← e]
      exact h'.1 K
  have b : m' ≤ m := by
    rcases h'.2 with e | ⟨K, e⟩
    · omega
    · rw [← e]
      exact h.1 K
  omega
theorem isMax_add {c : Nat → Nat} {m K0 : Nat} (h : isMax c m) : isMax (fun K => c K + (if K0 = K then 1 else 0)) (if m < c K0 + 1 then c K0 + 1 else m) := by
  have h0 := h.1 K0
  constructor
  · intro K
    have := h.1 K
    show c K + (if K0 = K then 1 else 0) ≤ _
    by_cases e : K0 = K
    · rw [if_pos e, ← e]
      split <;> omega
    · rw [if_neg e]
      split <;> omega
  · by_cases q : m < c K0 + 1
    · rw [if_pos q]
      refine Or.inr ⟨K0, ?_⟩
      show c K0 + (if K0 = K0 then 1 else 0) = _
      rw [if_pos rfl]
    · rw [if_neg q]
      rcases h.2 with e | ⟨K, e⟩
      · omega
      · refine Or.inr ⟨K, ?_⟩
        show c K + (if K0 = K then 1 else 0) = _
        rw [if_neg (fun z => by rw [← z] at e; omega), e]
        rfl
/-- parts: keys, and how many have each -/
def adP (k z : Nat) : List (Nat × Nat) → List (Nat × Nat)
  | [] => [(k, z)]
  | (a, b) :: r => if a = k then (a, b + z) :: r else (a, b) :: adP k z r
def pcP (K : Nat) : List (Nat × Nat) → Nat
  | [] => 0
  | (a, b) :: r => (if a = K then b else 0) + pcP K r
theorem adP_pc {k z K : Nat} : ∀ L, pcP K (adP k z L) = pcP K L + (if k = K then z else 0)
  | [] => by
    show (if k = K then z else 0) + 0 = 0 + _
    omega
  | (a, b) :: r => by
    unfold adP
    by_cases c : a = k
    · rw [if_pos c]
      show (if a = K then b + z else 0) + pcP K r = (if a = K then b else 0) + pcP K r + _
      rw [c]
      split <;> omega
    · rw [if_neg c]
      show (if a = K then b else 0) + pcP K (adP k z r) = (if a = K then b else 0) + pcP K r + _
      rw [adP_pc r]
      omega
theorem adP_len {k z : Nat} : ∀ L, (adP k z L).length ≤ L.length + 1
  | [] => Nat.le_refl _
  | (a, b) :: r => by
    unfold adP
    split
    · simp
    · rw [List.length_cons, List.length_cons]
      have := adP_len (k := k) (z := z) r
      omega
/-- no key comes twice -/
def ndP : List (Nat × Nat) → Prop
  | [] => True
  | (a, _) :: r => (∀ p, p ∈ r → p.1 ≠ a) ∧ ndP r
theorem adP_key {k z : Nat} : ∀ L p, p ∈ adP k z L → p.1 = k ∨ ∃ q, q ∈ L ∧ q.1 = p.1
  | [], p, h => by
    unfold adP at h
    rw [List.mem_singleton] at h
    exact Or.inl (by rw [h])
  | (a, b) :: r, p, h => by
    unfold adP at h
    by_cases c : a = k
    · rw [if_pos c] at h
      rcases List.mem_cons.mp h with e | e
      · exact Or.inl (by rw [e]; exact c)
      · exact Or.inr ⟨p, by simp [e], rfl⟩
    · rw [if_neg c] at h
      rcases List.mem_cons.mp h with e | e
      · exact Or.inr ⟨(a, b), by simp, by rw [e]⟩
      · rcases adP_key r p e with q | ⟨q, q1, q2⟩
        · exact Or.inl q
        · exact Or.inr ⟨q, by simp [q1], q2⟩
theorem adP_nd {k z : Nat} : ∀ L, ndP L → ndP (adP k z L)
  | [], _ => ⟨fun p hp => absurd hp (by simp), trivial⟩
  | (a, b) :: r, h => by
    unfold adP
    by_cases c : a = k
    · rw [if_pos c]
      exact h
    · rw [if_neg c]
      refine ⟨fun p hp => ?_, adP_nd r h.2⟩
      rcases adP_key r p hp with q | ⟨q, q1, q2⟩
      · rw [q]
        exact fun e => c e.symm
      · rw [← q2]
        exact h.1 q q1
theorem pc_0 {K : Nat} : ∀ L, (∀ p, p ∈ L → p.1 ≠ K) → pcP K L = 0
  | [], _ => rfl
  | (a, b) :: r, h => by
    show (if a = K then b else 0) + pcP K r = 0
    rw [if_neg (h (a, b) (by simp)), pc_0 r (fun p hp => h p (by simp [hp]))]
theorem pc_mem {p : Nat × Nat} : ∀ L, ndP L → p ∈ L → pcP p.1 L = p.2
  | [], _, h => absurd h (by simp)
  | (a, b) :: r, hn, h => by
    show (if a = p.1 then b else 0) + pcP p.1 r = p.2
    rcases List.mem_cons.mp h with e | e
    · rw [e, if_pos rfl, pc_0 r hn.1]
      rfl
    · rw [if_neg (fun q => hn.1 p e q.symm), pc_mem r hn.2 e, Nat.zero_add]
/-- the greatest of sizes -/
def mxP : Nat → List (Nat × Nat) → Nat
  | m, [] => m
  | m, (_, b) :: r => mxP (if b ≤ m then m else b) r
theorem mxP_spec : ∀ (L : List (Nat × Nat)) (m : Nat), m ≤ mxP m L ∧ (∀ p, p ∈ L → p.2 ≤ mxP m L) ∧ (mxP m L = m ∨ ∃ p, p ∈ L ∧ p.2 = mxP m L)
  | [], m => ⟨Nat.le_refl _, fun p hp => absurd hp (by simp), Or.inl rfl⟩
  | (a, b) :: r, m => by
    unfold mxP
    obtain ⟨h1, h2, h3⟩ := mxP_spec r (if b ≤ m then m else b)
    by_cases c : b ≤ m
    · rw [if_pos c] at h1 h2 h3 ⊢
      refine ⟨h1, fun p hp => ?_, h3.imp id (fun ⟨p, p1, p2⟩ => ⟨p, by simp [p1], p2⟩)⟩
      rcases List.mem_cons.mp hp with e | e
      · rw [e]
        exact Nat.le_trans c h1
      · exact h2 p e
    · rw [if_neg c] at h1 h2 h3 ⊢
      refine ⟨by omega, fun p hp => ?_, ?_⟩
      · rcases List.mem_cons.mp hp with e | e
        · rw [e]
          exact h1
        · exact h2 p e
      · rcases h3 with e | ⟨p, p1, p2⟩
        · exact Or.inr ⟨(a, b), by simp, e.symm⟩
        · exact Or.inr ⟨p, by simp [p1], p2⟩
theorem mx_isMax {L : List (Nat × Nat)} (hn : ndP L) : isMax (fun K => pcP K L) (mxP 0 L) := by
  obtain ⟨h1, h2, h3⟩ := mxP_spec L 0
  constructor
  · intro K
    show pcP K L ≤ _
    by_cases q : ∃ p, p ∈ L ∧ p.1 = K
    · obtain ⟨p, p1, p2⟩ := q
      rw [← p2, pc_mem L hn p1]
      exact h2 p p1
    · rw [pc_0 L (fun p hp e => q ⟨p, hp, e⟩)]
      exact Nat.zero_le _
  · rcases h3 with e | ⟨p, p1, p2⟩
    · exact Or.inl e
    · refine Or.inr ⟨p.1, ?_⟩
      show pcP p.1 L = _
      rw [pc_mem L hn p1, p2]
