/-! laws: how many fit, the smallest, what is sure: pure -/
def popN (n : Nat) : Nat := cntN (fun j => n.testBit j) 9
theorem cnt_mono {p q : Nat → Bool} : ∀ n, (∀ j, j < n → p j = true → q j = true) → cntN p n ≤ cntN q n ∧ (cntN p n = cntN q n → ∀ j, j < n → p j = q j)
  | 0, _ => ⟨Nat.le_refl _, fun _ j hj => absurd hj (by omega)⟩
  | n + 1, h => by
    obtain ⟨h1, h2⟩ := cnt_mono n (fun j hj => h j (by omega))
    have h3 := h n (by omega)
    unfold cntN
    cases hp : p n <;> cases hq : q n
    · refine ⟨by simpa using h1, fun e j hj => ?_⟩
      by_cases c : j = n
      · rw [c, hp, hq]
      · exact h2 (by simpa using e) j (by omega)
    · refine ⟨by simp; omega, fun e => ?_⟩
      simp at e
      omega
    · exact absurd (h3 hp) (by simp [hq])
    · refine ⟨by simp; omega, fun e j hj => ?_⟩
      by_cases c : j = n
      · rw [c, hp, hq]
      · exact h2 (by simp at e; omega) j (by omega)
theorem pop_le {n : Nat} (h : n.testBit 0 = false) : popN n ≤ 8 := by
  have := cnt_le (fun j => n.testBit (8 + j)) 1
  unfold popN
  rw [show 9 = 8 + 1 from rfl, cnt8]
  have h2 : cntN (fun j => n.testBit j) 8 ≤ 7 := by
    have q := cnt_mono (p := fun j => n.testBit j) (q := fun j => decide (j ≠ 0)) 8 (fun j _ hj => by
      rw [decide_eq_true_iff]
      intro e
      rw [e] at hj
      exact absurd h (by rw [hj]; simp))
    exact Nat.le_trans q.1 (by decide)
  omega
theorem pop_sub {a b : Nat} (h : subB a b) : popN a ≤ popN b := (cnt_mono 9 (fun j _ hj => h j hj)).1
theorem pop_eq {a b : Nat} (h : subB a b) (ha : a < 512) (hb : b < 512) (e : popN a = popN b) : a = b := by
  have q := (cnt_mono 9 (p := fun j => a.testBit j) (q := fun j => b.testBit j) (fun j _ hj => h j hj)).2 e
  apply Nat.eq_of_testBit_eq
  intro j
  by_cases c : j < 9
  · exact q j c
  · rw [Nat.testBit_lt_two_pow (Nat.lt_of_lt_of_le ha (Nat.pow_le_pow_right (n := 2) (by decide) (show 9 ≤ j by omega))), Nat.testBit_lt_two_pow (Nat.lt_of_lt_of_le hb (Nat.pow_le_pow_right (n := 2) (by decide) (show 9 ≤ j by omega)))]
theorem mem_inL {P : Nat → Bool} {base x : Nat} : ∀ (r se : Nat), x ∈ inL P base r se ↔ ∃ j, j < r ∧ P (se + 2 * j) = true ∧ x = base + (se + 2 * j)
  | 0, se => by
    unfold inL
    exact ⟨fun h => absurd h (by simp), fun ⟨j, h, _⟩ => absurd h (by omega)⟩
  | r + 1, se => by
    unfold inL
    have ih := mem_inL (P := P) (base := base) (x := x) r (se + 2)
    have cv : (∃ j, j < r ∧ P (se + 2 + 2 * j) = true ∧ x = base + (se + 2 + 2 * j)) ↔ (∃ j, j < r + 1 ∧ 0 < j ∧ P (se + 2 * j) = true ∧ x = base + (se + 2 * j)) := by
      constructor
      · rintro ⟨j, h1, h2, h3⟩
        rw [show se + 2 + 2 * j = se + 2 * (j + 1) by omega] at h2 h3
        exact ⟨j + 1, by omega, by omega, h2, h3⟩
      · rintro ⟨j, h1, h0, h2, h3⟩
        obtain ⟨k, rfl⟩ : ∃ k, j = k + 1 := ⟨j - 1, by omega⟩
        rw [show se + 2 * (k + 1) = se + 2 + 2 * k by omega] at h2 h3
        exact ⟨k, by omega, h2, h3⟩
    rw [cv] at ih
    by_cases c : P se = true
    · rw [if_pos c, List.mem_cons, ih]
      constructor
      · rintro (h | ⟨j, h1, _, h2, h3⟩)
        · exact ⟨0, by omega, by simpa using c, by rw [h]; omega⟩
        · exact ⟨j, h1, h2, h3⟩
      · rintro ⟨j, h1, h2, h3⟩
        by_cases e : j = 0
        · left
          rw [h3, e]
          omega
        · exact Or.inr ⟨j, h1, by omega, h2, h3⟩
    · rw [if_neg c, ih]
      constructor
      · rintro ⟨j, h1, _, h2, h3⟩
        exact ⟨j, h1, h2, h3⟩
      · rintro ⟨j, h1, h2, h3⟩
        refine ⟨j, h1, ?_, h2, h3⟩
        rcases Nat.eq_zero_or_pos j with e | e
        · rw [e] at h2
          exact absurd h2 (by simpa using c)
        · exact e
theorem sum_zero {f : Nat → Nat} (n : Nat) (h : ∀ j, j < n → f j = 0) : sumN f n = 0 := (sum_congr n h).trans (sum_0 n)
theorem sum_front {f : Nat → Nat} : ∀ n, sumN f (n + 1) = f 0 + sumN (fun j => f (j + 1)) n
  | 0 => by
    show 0 + f 0 = f 0 + 0
    omega
  | n + 1 => by
    show sumN f (n + 1) + f (n + 1) = f 0 + (sumN (fun j => f (j + 1)) n + f (n + 1))
    rw [sum_front n]
    omega
/-- sums over the sets of one lateness -/
def sumL (g : Nat → Nat) : List Nat → Nat
  | [] => 0
  | x :: L => g x + sumL g L
theorem sumL_app {g : Nat → Nat} : ∀ (L L' : List Nat), sumL g (L ++ L') = sumL g L + sumL g L'
  | [], L' => by
    show sumL g L' = 0 + sumL g L'
    omega
  | x :: L, L' => by
    show g x + sumL g (L ++ L') = g x + sumL g L + sumL g L'
    rw [sumL_app L L']
    omega
theorem sumL_in {P : Nat → Bool} {base : Nat} {g : Nat → Nat} : ∀ (r se : Nat), sumL g (inL P base r se) = sumN (fun j => if P (se + 2 * j) = true then g (base + (se + 2 * j)) else 0) r
  | 0, _ => rfl
  | r + 1, se => by
    rw [sum_front]
    unfold inL
    have e : sumL g (inL P base r (se + 2)) = sumN (fun j => if P (se + 2 * (j + 1)) = true then g (base + (se + 2 * (j + 1))) else 0) r := by
      rw [sumL_in r (se + 2)]
      refine sum_congr _ (fun j _ => ?_)
      rw [show se + 2 + 2 * j = se + 2 * (j + 1) by omega]
    by_cases c : P se = true
    · rw [if_pos c]
      show g (base + se) + sumL g (inL P base r (se + 2)) = _
      rw [e, if_pos (by simpa using c), Nat.mul_zero, Nat.add_zero]
    · rw [if_neg c, e, if_neg (by simpa using c), Nat.zero_add]
theorem len_sum : ∀ L : List Nat, L.length = sumL (fun _ => 1) L
  | [] => rfl
  | x :: L => by
    show L.length + 1 = 1 + sumL (fun _ => 1) L
    rw [len_sum L]
    omega
/-- how many doings are open -/
def OPN (T S : Nat → Nat) (sz l : Nat) : Nat := 8 - popN (MU T S sz l ||| CA T S sz l)
theorem or_0 {a b : Nat} (h1 : a.testBit 0 = false) (h2 : b.testBit 0 = false) : (a ||| b).testBit 0 = false := by
  rw [Nat.testBit_or, h1, h2]
  rfl
theorem even0 (j : Nat) : (2 * j).testBit 0 = false := by
  rw [Nat.testBit_zero]
  simp
theorem evenS (j b : Nat) : (2 * j).testBit (b + 1) = j.testBit b := by
  rw [Nat.testBit_succ]
  congr 1
  omega
theorem big0 {a b : Nat} (ha : a < 512) (hb : 9 ≤ b) : a.testBit b = false := Nat.testBit_lt_two_pow (Nat.lt_of_lt_of_le ha (Nat.pow_le_pow_right (n := 2) (by decide) hb))
/-- sets between two, as sets of the upper eight bits -/
theorem betw {a c j : Nat} (ha0 : a.testBit 0 = false) (ha : a < 512) (hc0 : c.testBit 0 = false) (hc : c < 512) : (subB a (2 * j) ∧ disB c (2 * j)) ↔ okB (fun b => a.testBit (b + 1)) (fun b => c.testBit (b + 1)) 8 j = true := by
  rw [okB_all]
  constructor
  · rintro ⟨h1, h2⟩ b hb
    exact ⟨fun q => by rw [← evenS]; exact h1 _ q, fun q => by rw [← evenS]; exact h2 _ q⟩
  · intro h
    constructor
    · intro k hk
      match k, hk with
      | 0, hk => exact absurd ha0 (by rw [hk]; simp)
      | k + 1, hk =>
        by_cases c : k < 8
        · rw [evenS]
          exact (h k c).1 hk
        · exact absurd (big0 ha (show 9 ≤ k + 1 by omega)) (by rw [hk]; simp)
    · intro k hk
      match k, hk with
      | 0, hk => exact even0 j
      | k + 1, hk =>
        by_cases c : k < 8
        · rw [evenS]
          exact (h k c).2 hk
        · exact absurd (big0 hc (show 9 ≤ k + 1 by omega)) (by rw [hk]; simp)
theorem cnt_front {p : Nat → Bool} : ∀ n, cntN p (n + 1) = (if p 0 = true then 1 else 0) + cntN (fun j => p (j + 1)) n
  | 0 => by
    show 0 + (if p 0 = true then 1 else 0) = (if p 0 = true then 1 else 0) + 0
    omega
  | n + 1 => by
    show cntN p (n + 1) + (if p (n + 1) = true then 1 else 0) = (if p 0 = true then 1 else 0) + (cntN (fun j => p (j + 1)) n + (if p (n + 1) = true then 1 else 0))
    rw [cnt_front n]
    omega
theorem cnt_not {p : Nat → Bool} : ∀ n, cntN (fun j => !(p j)) n + cntN p n = n
  | 0 => rfl
  | n + 1 => by
    unfold cntN
    have := cnt_not (p := p) n
    cases p n <;> simp <;> omega
theorem cnt_congr {p q : Nat → Bool} : ∀ n, (∀ j, j < n → p j = q j) → cntN p n = cntN q n
  | 0, _ => rfl
  | n + 1, h => by
    unfold cntN
    rw [cnt_congr n (fun j hj => h j (by omega)), h n (by omega)]
/-- how many sets lie between two -/
theorem cnt_betw {a c : Nat} (ha0 : a.testBit 0 = false) (hc0 : c.testBit 0 = false) (hd : disB a c) : sumN (fun j => if okB (fun b => a.testBit (b + 1)) (fun b => c.testBit (b + 1)) 8 j = true then 1 else 0) 256 = 2 ^ (8 - popN (a ||| c)) := by
  have h := cnt_ok (m := fun b => a.testBit (b + 1)) (c := fun b => c.testBit (b + 1)) (fun b hb => hd _ hb) 8
  rw [show 256 = 2 ^ 8 from rfl, h]
  congr 1
  unfold popN
  have e3 : cntN (fun j => (a ||| c).testBit j) 9 = cntN (fun j => (a ||| c).testBit (j + 1)) 8 := by
    rw [cnt_front, if_neg (by rw [or_0 ha0 hc0]; simp), Nat.zero_add]
  have e := cnt_not (p := fun j => (a ||| c).testBit (j + 1)) 8
  have e2 : cntN (fun b => !(a.testBit (b + 1)) && !(c.testBit (b + 1))) 8 = cntN (fun j => !((a ||| c).testBit (j + 1))) 8 := cnt_congr 8 (fun j _ => by
    rw [Nat.testBit_or]
    cases a.testBit (j + 1) <;> cases c.testBit (j + 1) <;> rfl)
  rw [e2, e3]
  omega
theorem FI_dis {T S : Nat → Nat} {sz l : Nat} (h : FI T S sz l = true) : disB (MU T S sz l) (CA T S sz l) := by
  unfold FI at h
  rw [Bool.and_eq_true, decide_eq_true_iff, and0_dis] at h
  exact h.2
/-- all numbers told are doings -/
def okT (T : Nat → Nat) (sz : Nat) : Prop := ∀ k, k < sz → T k ≤ 8
theorem MU_lt {T S : Nat → Nat} {sz l : Nat} (hT : okT T sz) : MU T S sz l < 512 := mu_lt sz 0 0 (fun k _ k2 => dN_le (fun _ => hT _ (by omega))) (by omega)
theorem CA_lt {T S : Nat → Nat} {sz l : Nat} (hT : okT T sz) : CA T S sz l < 512 := ca_lt sz 0 0 (fun k _ k2 => dN_le (fun _ => hT _ (by omega))) (by omega)
theorem fit_ok {T S : Nat → Nat} {sz l j : Nat} (hT : okT T sz) (h : FI T S sz l = true) : ftN T S l (2 * j) sz 0 = okB (fun b => (MU T S sz l).testBit (b + 1)) (fun b => (CA T S sz l).testBit (b + 1)) 8 j := by
  have h1 := fit_iff (T := T) (S := S) (sz := sz) (l := l) (even0 j)
  have h2 := betw (j := j) (MU_0 (T := T) (S := S) (sz := sz) (l := l)) (MU_lt hT) (CA_0 h) (CA_lt hT)
  rw [Bool.eq_iff_iff, h1, ← h2]
  exact ⟨fun q => q.2, fun q => ⟨h, q⟩⟩
theorem fit_no {T S : Nat → Nat} {sz l j : Nat} (h : ¬ FI T S sz l = true) : ¬ ftN T S l (2 * j) sz 0 = true := fun q => h ((fit_iff (even0 j)).mp q).1
def fitL (T S : Nat → Nat) (sz l : Nat) : List Nat := inL (fun se => ftN T S l se sz 0) (512 * l) 256 0
theorem fitL_len {T S : Nat → Nat} {sz l : Nat} (hT : okT T sz) : (fitL T S sz l).length = if FI T S sz l = true then 2 ^ OPN T S sz l else 0 := by
  unfold fitL
  rw [len_sum, sumL_in]
  by_cases c : FI T S sz l = true
  · rw [if_pos c]
    unfold OPN
    rw [← cnt_betw (MU_0 (T := T) (S := S) (sz := sz) (l := l)) (CA_0 c) (FI_dis c)]
    refine sum_congr _ (fun j _ => ?_)
    rw [Nat.zero_add, fit_ok hT c]
  · rw [if_neg c]
    refine sum_zero _ (fun j _ => ?_)
    rw [Nat.zero_add, if_neg (fit_no c)]
theorem mem_fitL {T S : Nat → Nat} {sz l x : Nat} (hT : okT T sz) (hx : x ∈ fitL T S sz l) : FI T S sz l = true ∧ x / 512 = l ∧ x % 512 < 512 ∧ x = 512 * l + x % 512 ∧ subB (MU T S sz l) (x % 512) ∧ disB (CA T S sz l) (x % 512) ∧ (x % 512).testBit 0 = false := by
  obtain ⟨j, h1, h2, h3⟩ := (mem_inL 256 0).mp hx
  rw [Nat.zero_add] at h2 h3
  obtain ⟨a, b, c⟩ := (fit_iff (even0 j)).mp h2
  have e : x % 512 = 2 * j := by omega
  rw [e]
  exact ⟨a, by omega, by omega, by omega, b, c, even0 j⟩
theorem MU_even {T S : Nat → Nat} {sz l : Nat} : MU T S sz l % 2 = 0 := by
  have := MU_0 (T := T) (S := S) (sz := sz) (l := l)
  rw [Nat.testBit_zero] at this
  simp at this
  omega
theorem MU_mem {T S : Nat → Nat} {sz l : Nat} (hT : okT T sz) (h : FI T S sz l = true) : 512 * l + MU T S sz l ∈ fitL T S sz l := by
  refine (mem_inL 256 0).mpr ⟨MU T S sz l / 2, ?_, ?_, ?_⟩
  · have := MU_lt (S := S) (l := l) hT
    omega
  · have := MU_even (T := T) (S := S) (sz := sz) (l := l)
    rw [Nat.zero_add, show 2 * (MU T S sz l / 2) = MU T S sz l by omega]
    exact MU_fit h
  · have := MU_even (T := T) (S := S) (sz := sz) (l := l)
    omega
theorem fitL_no {T S : Nat → Nat} {sz l : Nat} (hT : okT T sz) (h : ¬ FI T S sz l = true) : fitL T S sz l = [] := by
  have := fitL_len (S := S) (l := l) hT
  rw [if_neg h] at this
  exact List.length_eq_zero_iff.mp this
/-- what is left out by all -/
def andL : Nat → List Nat → Nat
  | a, [] => a
  | a, x :: L => andL (a &&& x % 512) L
theorem andL_app : ∀ (L L' : List Nat) (a : Nat), andL a (L ++ L') = andL (andL a L) L'
  | [], _, _ => rfl
  | x :: L, L', a => andL_app L L' _
theorem andL_bit {b : Nat} : ∀ (L : List Nat) (a : Nat), (andL a L).testBit b = true ↔ (a.testBit b = true ∧ ∀ x, x ∈ L → (x % 512).testBit b = true)
  | [], a => by
    unfold andL
    exact ⟨fun h => ⟨h, fun x hx => absurd hx (by simp)⟩, fun h => h.1⟩
  | x :: L, a => by
    unfold andL
    rw [andL_bit L, Nat.testBit_and, Bool.and_eq_true]
    constructor
    · rintro ⟨⟨h1, h2⟩, h3⟩
      refine ⟨h1, fun y hy => ?_⟩
      rcases List.mem_cons.mp hy with e | e
      · exact e ▸ h2
      · exact h3 y e
    · rintro ⟨h1, h2⟩
      exact ⟨⟨h1, h2 x (by simp)⟩, fun y hy => h2 y (by simp [hy])⟩
theorem andL_fit {T S : Nat → Nat} {sz l a : Nat} (hT : okT T sz) : andL a (fitL T S sz l) = if FI T S sz l = true then a &&& MU T S sz l else a := by
  by_cases c : FI T S sz l = true
  · rw [if_pos c]
    apply Nat.eq_of_testBit_eq
    intro b
    rw [Bool.eq_iff_iff, andL_bit, Nat.testBit_and, Bool.and_eq_true]
    constructor
    · rintro ⟨h1, h2⟩
      refine ⟨h1, ?_⟩
      have q := h2 _ (MU_mem hT c)
      have := MU_lt (S := S) (l := l) hT
      rw [show (512 * l + MU T S sz l) % 512 = MU T S sz l by omega] at q
      exact q
    · rintro ⟨h1, h2⟩
      exact ⟨h1, fun x hx => (mem_fitL hT hx).2.2.2.2.1 b h2⟩
  · rw [if_neg c, fitL_no hT c]
    rfl
/-- the first of the fewest -/
def minL (f : Nat → Nat) : Option Nat → List Nat → Option Nat
  | b, [] => b
  | none, x :: L => minL f (some x) L
  | some y, x :: L => if f x < f y then minL f (some x) L else minL f (some y) L
theorem minL_app {f : Nat → Nat} : ∀ (L L' : List Nat) (b : Option Nat), minL f b (L ++ L') = minL f (minL f b L) L'
  | [], _, none => rfl
  | [], _, some _ => rfl
  | x :: L, L', none => minL_app L L' _
  | x :: L, L', some y => by
    show (if f x < f y then minL f (some x) (L ++ L') else minL f (some y) (L ++ L')) = minL f (if f x < f y then minL f (some x) L else minL f (some y) L) L'
    split
    · exact minL_app L L' _
    · exact minL_app L L' _
theorem minL_keep {f : Nat → Nat} {y : Nat} : ∀ L : List Nat, (∀ x, x ∈ L → f y ≤ f x) → minL f (some y) L = some y
  | [], _ => rfl
  | x :: L, h => by
    show (if f x < f y then minL f (some x) L else minL f (some y) L) = _
    have := h x (by simp)
    rw [if_neg (by omega)]
    exact minL_keep L (fun z hz => h z (by simp [hz]))
theorem minL_best {f : Nat → Nat} {m : Nat} : ∀ (L : List Nat) (y : Nat), m ∈ L → (∀ x, x ∈ L → f m ≤ f x ∧ (f x = f m → x = m)) → f m < f y → minL f (some y) L = some m
  | [], _, h, _, _ => absurd h (by simp)
  | x :: L, y, h, hx, hy => by
    show (if f x < f y then minL f (some x) L else minL f (some y) L) = _
    have hx1 := hx x (by simp)
    by_cases e : x = m
    · rw [e, if_pos hy]
      exact minL_keep L (fun z hz => (hx z (by simp [hz])).1)
    · have hm : m ∈ L := by
        rcases List.mem_cons.mp h with q | q
        · exact absurd q.symm e
        · exact q
      have hx2 : f m < f x := by
        rcases Nat.lt_or_ge (f m) (f x) with q | q
        · exact q
        · exact absurd (hx1.2 (by omega)) e
      split
      · exact minL_best L x hm (fun z hz => hx z (by simp [hz])) hx2
      · exact minL_best L y hm (fun z hz => hx z (by simp [hz])) hy
theorem minL_none {f : Nat → Nat} {m : Nat} : ∀ (L : List Nat), m ∈ L → (∀ x, x ∈ L → f m ≤ f x ∧ (f x = f m → x = m)) → minL f none L = some m
  | [], h, _ => absurd h (by simp)
  | x :: L, h, hx => by
    show minL f (some x) L = some m
    have hx1 := hx x (by simp)
    by_cases e : x = m
    · rw [e]
      exact minL_keep L (fun z hz => (hx z (by simp [hz])).1)
    · have hm : m ∈ L := by
        rcases List.mem_cons.mp h with q | q
        · exact absurd q.symm e
        · exact q
      refine minL_best L x hm (fun z hz => hx z (by simp [hz])) ?_
      rcases Nat.lt_or_ge (f m) (f x) with q | q
      · exact q
      · exact absurd (hx1.2 (by omega)) e
def popM (x : Nat) : Nat := popN (x % 512)
def popO : Option Nat → Nat
  | none => 9
  | some y => popM y
theorem minL_fit {T S : Nat → Nat} {sz l : Nat} {b : Option Nat} (hT : okT T sz) : minL popM b (fitL T S sz l) = if FI T S sz l = true ∧ popN (MU T S sz l) < popO b then some (512 * l + MU T S sz l) else b := by
  by_cases c : FI T S sz l = true
  · have hlt := MU_lt (S := S) (l := l) hT
    have em : (512 * l + MU T S sz l) % 512 = MU T S sz l := by omega
    have hp : popM (512 * l + MU T S sz l) = popN (MU T S sz l) := by
      unfold popM
      rw [em]
    have hall : ∀ x, x ∈ fitL T S sz l → popM (512 * l + MU T S sz l) ≤ popM x ∧ (popM x = popM (512 * l + MU T S sz l) → x = 512 * l + MU T S sz l) := fun x hx => by
      obtain ⟨_, _, h3, h4, h5, _⟩ := mem_fitL hT hx
      rw [hp]
      refine ⟨pop_sub h5, fun e => ?_⟩
      have := pop_eq h5 hlt h3 e.symm
      omega
    cases b with
    | none =>
      rw [minL_none _ (MU_mem hT c) hall, if_pos ⟨c, by
        have := pop_le (MU_0 (T := T) (S := S) (sz := sz) (l := l))
        show popN _ < 9
        omega⟩]
    | some y =>
      show _ = if FI T S sz l = true ∧ popN (MU T S sz l) < popM y then _ else _
      by_cases c2 : popN (MU T S sz l) < popM y
      · rw [if_pos ⟨c, c2⟩]
        exact minL_best _ y (MU_mem hT c) hall (by rw [hp]; exact c2)
      · rw [if_neg (fun q => c2 q.2)]
        exact minL_keep _ (fun x hx => by
          have := (hall x hx).1
          rw [hp] at this
          omega)
  · rw [if_neg (fun q => c q.1), fitL_no hT c]
    cases b <;> rfl
