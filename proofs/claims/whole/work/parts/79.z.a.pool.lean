/-! the soonest doings: what the reference met: pure -/
variable {ar wh fr to does code late : Nat → Int} {P : Nat}
theorem fdT_some {t : Nat → Bool} {r u : Nat} (h1 : t u = true) (h2 : u < 9 ^ r) (h3 : ∀ w, w < u → t w = false) : fdT t r 0 = some u := by
  obtain ⟨s1, s2⟩ := fdT_spec (t := t) r 0
  cases hf : fdT t r 0 with
  | none =>
    have := s1 hf u h2
    rw [Nat.mul_zero, Nat.zero_add, h1] at this
    exact absurd this (by simp)
  | some u' =>
    obtain ⟨k1, i, i1, i2, i3⟩ := s2 u' hf
    rw [Nat.mul_zero, Nat.zero_add] at i2
    rcases Nat.lt_trichotomy u u' with q | q | q
    · have := i3 u (by omega)
      rw [Nat.mul_zero, Nat.zero_add, h1] at this
      exact absurd this (by simp)
    · rw [q]
    · rw [h3 u' q] at k1
      exact absurd k1 (by simp)
theorem fdT_none {t : Nat → Bool} {r : Nat} (h : ∀ w, w < 9 ^ r → t w = false) : fdT t r 0 = none := by
  obtain ⟨s1, s2⟩ := fdT_spec (t := t) r 0
  cases hf : fdT t r 0 with
  | none => rfl
  | some u' =>
    obtain ⟨k1, i, i1, i2, i3⟩ := s2 u' hf
    rw [Nat.mul_zero, Nat.zero_add] at i2
    rw [h u' (by omega)] at k1
    exact absurd k1 (by simp)
def bdN : Nat → Nat
  | 0 => 1
  | m + 1 => bdN m + 9 ^ (m + 1)
/-- a level that was met whole: from f on those of m doings, t in all -/
def lvS (S : Nat → Nat → Nat → Int) (tg : Nat → Nat → Bool) (m : Nat) (g : Nat → Nat × Nat) (f t : Nat) : Prop :=
  (f ≤ t ∧ t - f ≤ 9 ^ m ∧ t ≤ bdN m) ∧ (∀ i, f ≤ i → i < t → (g i).1 = m) ∧ (∀ i j, f ≤ i → i < j → j < t → (g i).2 < (g j).2) ∧
  (∀ v, v < 9 ^ m → ∃ i, i < t ∧ agr (S (g i).1 (g i).2) (S m v) ∧ (i < f ∨ (g i).2 ≤ v)) ∧
  (∀ i, i < f → ∀ x, x < 9 → tg (g i).1 (9 * (g i).2 + x) = false) ∧
  (∀ i, i < f → ∀ x, x < 9 → ∃ j, j < t ∧ agr (S (g j).1 (g j).2) (S ((g i).1 + 1) (9 * (g i).2 + x)))
/-- the next level in the making: all ahead of doing x of the i-th were gone through -/
def prS (S : Nat → Nat → Nat → Int) (tg : Nat → Nat → Bool) (m : Nat) (g : Nat → Nat × Nat) (f t i x N ub : Nat) : Prop :=
  (t ≤ N ∧ N ≤ t + 9 * (i - f) + x) ∧
  (∀ a y, f ≤ a → a < t → y < 9 → (a < i ∨ (a = i ∧ y < x)) → tg m (9 * (g a).2 + y) = false ∧ (N ≤ 3000 → ∃ j, j < N ∧ agr (S (g j).1 (g j).2) (S (m + 1) (9 * (g a).2 + y)) ∧ (j < t ∨ (g j).2 ≤ 9 * (g a).2 + y))) ∧
  (∀ j, t ≤ j → j < N → (g j).1 = m + 1 ∧ (g j).2 < ub) ∧ (∀ j k, t ≤ j → j < k → k < N → (g j).2 < (g k).2)
def upG (g : Nat → Nat × Nat) (N : Nat) (e : Nat × Nat) : Nat → Nat × Nat := fun k => if k = N then e else g k
theorem upG_s {g : Nat → Nat × Nat} {N : Nat} {e : Nat × Nat} : upG g N e N = e := if_pos rfl
theorem upG_n {g : Nat → Nat × Nat} {N k : Nat} {e : Nat × Nat} (h : k ≠ N) : upG g N e k = g k := if_neg h
theorem lvS.same {S : Nat → Nat → Nat → Int} {tg : Nat → Nat → Bool} {m : Nat} {g g' : Nat → Nat × Nat} {f t : Nat} (h : lvS S tg m g f t) (e : ∀ i, i < t → g' i = g i) : lvS S tg m g' f t := by
  obtain ⟨h0, h1, h2, h3, h4, h5⟩ := h
  refine ⟨h0, fun i i1 i2 => by rw [e i i2]; exact h1 i i1 i2, fun i j i1 i2 i3 => by rw [e i (by omega), e j i3]; exact h2 i j i1 i2 i3, fun v hv => ?_, fun i hi x hx => by rw [e i (by omega)]; exact h4 i hi x hx, fun i hi x hx => ?_⟩
  · obtain ⟨i, i1, i2, i3⟩ := h3 v hv
    exact ⟨i, i1, by rw [e i i1]; exact i2, by rw [e i i1]; exact i3⟩
  · obtain ⟨j, j1, j2⟩ := h5 i hi x hx
    exact ⟨j, j1, by rw [e j j1, e i (by omega)]; exact j2⟩
theorem prS_add {S : Nat → Nat → Nat → Int} {tg : Nat → Nat → Bool} {m : Nat} {g : Nat → Nat × Nat} {f t i x N : Nat} (h : prS S tg m g f t i x N (9 * (g i).2 + x)) (hi : i < t) (hf : f ≤ i) (hN : N ≤ 3000) (hx : tg m (9 * (g i).2 + x) = false) : prS S tg m (upG g N (m + 1, 9 * (g i).2 + x)) f t i (x + 1) (N + 1) (9 * (g i).2 + (x + 1)) := by
  obtain ⟨⟨h0, h0'⟩, h1, h2, h3⟩ := h
  refine ⟨⟨by omega, by omega⟩, fun a y a1 a2 a3 a4 => ?_, fun j j1 j2 => ?_, fun j k j1 j2 j3 => ?_⟩
  · rw [upG_n (show a ≠ N by omega)]
    by_cases c : a < i ∨ (a = i ∧ y < x)
    · obtain ⟨q1, q2⟩ := h1 a y a1 a2 a3 c
      refine ⟨q1, fun _ => ?_⟩
      obtain ⟨j, j1, j2, j3⟩ := q2 hN
      exact ⟨j, by omega, by rw [upG_n (show j ≠ N by omega)]; exact j2, by rw [upG_n (show j ≠ N by omega)]; exact j3⟩
    · obtain ⟨rfl, rfl⟩ : a = i ∧ y = x := by omega
      refine ⟨hx, fun _ => ⟨N, by omega, ?_, ?_⟩⟩
      · rw [upG_s]
        exact agr.refl
      · rw [upG_s]
        exact Or.inr (Nat.le_refl _)
  · by_cases e : j = N
    · rw [e, upG_s]
      exact ⟨rfl, by show 9 * (g i).2 + x < _; omega⟩
    · rw [upG_n e]
      have := h2 j j1 (by omega)
      exact ⟨this.1, by omega⟩
  · rw [upG_n (show j ≠ N by omega)]
    by_cases e : k = N
    · rw [e, upG_s]
      exact (h2 j j1 (by omega)).2
    · rw [upG_n e]
      exact h3 j k j1 j2 (by omega)
theorem prS_dup {S : Nat → Nat → Nat → Int} {tg : Nat → Nat → Bool} {m : Nat} {g : Nat → Nat × Nat} {f t i x N : Nat} (h : prS S tg m g f t i x N (9 * (g i).2 + x)) (hx : tg m (9 * (g i).2 + x) = false) (hd : N ≤ 3000 → ∃ j, j < N ∧ agr (S (g j).1 (g j).2) (S (m + 1) (9 * (g i).2 + x))) : prS S tg m g f t i (x + 1) N (9 * (g i).2 + (x + 1)) := by
  obtain ⟨⟨h0, h0'⟩, h1, h2, h3⟩ := h
  refine ⟨⟨by omega, by omega⟩, fun a y a1 a2 a3 a4 => ?_, fun j j1 j2 => ⟨(h2 j j1 j2).1, by have := (h2 j j1 j2).2; omega⟩, h3⟩
  by_cases c : a < i ∨ (a = i ∧ y < x)
  · exact h1 a y a1 a2 a3 c
  · obtain ⟨rfl, rfl⟩ : a = i ∧ y = x := by omega
    refine ⟨hx, fun hN => ?_⟩
    obtain ⟨j, j1, j2⟩ := hd hN
    refine ⟨j, j1, j2, ?_⟩
    by_cases e : j < t
    · exact Or.inl e
    · have := (h2 j (by omega) j1).2
      exact Or.inr (by omega)
theorem prS_next {S : Nat → Nat → Nat → Int} {tg : Nat → Nat → Bool} {m : Nat} {g : Nat → Nat × Nat} {f t i N : Nat} (hl : lvS S tg m g f t) (h : prS S tg m g f t i 9 N (9 * (g i).2 + 9)) (hf : f ≤ i) (hi : i < t) : ∃ ub, prS S tg m g f t (i + 1) 0 N ub ∧ (i + 1 < t → ub = 9 * (g (i + 1)).2 + 0) := by
  obtain ⟨⟨h0, h0'⟩, h1, h2, h3⟩ := h
  by_cases c : i + 1 < t
  · have := hl.2.2.1 i (i + 1) hf (by omega) c
    refine ⟨9 * (g (i + 1)).2 + 0, ⟨⟨h0, by omega⟩, fun a y a1 a2 a3 a4 => h1 a y a1 a2 a3 (by omega), fun j j1 j2 => ⟨(h2 j j1 j2).1, by have := (h2 j j1 j2).2; omega⟩, h3⟩, fun _ => rfl⟩
  · exact ⟨_, ⟨⟨h0, by omega⟩, fun a y a1 a2 a3 a4 => h1 a y a1 a2 a3 (by omega), h2, h3⟩, fun q => absurd q c⟩
/-- where something is sought in vain so far -/
theorem neg_of {p : Nat} {th pl : Int} {S : Nat → Nat → Nat → Int} (hS : SvOK ar wh fr to does code late P p S) (ht : -1 ≤ th) (ht3 : th ≤ 3) {m : Nat} {g : Nat → Nat × Nat} {f t i x N ub v y : Nat} (hl : lvS S (tgF ar wh fr to does code late P p th pl S) m g f t) (h : prS S (tgF ar wh fr to does code late P p th pl S) m g f t i x N ub) (hv : v < 9 ^ m) (hy : y < 9) (hw : tgF ar wh fr to does code late P p th pl S m (9 * v + y) = true) : ∃ a, f ≤ a ∧ a < t ∧ ¬ (a < i ∨ (a = i ∧ y < x)) ∧ (g a).2 ≤ v := by
  obtain ⟨a, a1, a2, a3⟩ := hl.2.2.2.1 v hv
  have e := (tgF_agr (pl := pl) hS ht ht3 (x := y) hy a2).1
  rw [hw] at e
  by_cases c : a < f
  · have := hl.2.2.2.2.1 a c y hy
    rw [e] at this
    exact absurd this (by simp)
  · refine ⟨a, by omega, a1, fun q => ?_, a3.resolve_left c⟩
    have := (h.2.1 a y (by omega) a1 hy q).1
    rw [hl.2.1 a (by omega) a1] at e
    rw [e] at this
    exact absurd this (by simp)
theorem sk_found {p : Nat} {th pl : Int} {S : Nat → Nat → Nat → Int} (hS : SvOK ar wh fr to does code late P p S) (ht : -1 ≤ th) (ht3 : th ≤ 3) {m : Nat} {g : Nat → Nat × Nat} {f t i x N ub : Nat} (hl : lvS S (tgF ar wh fr to does code late P p th pl S) m g f t) (h : prS S (tgF ar wh fr to does code late P p th pl S) m g f t i x N ub) (hi : i < t) (hfi : f ≤ i) (hx : x < 9) (hg : (g i).2 < 9 ^ m) (hw : tgF ar wh fr to does code late P p th pl S m (9 * (g i).2 + x) = true) : fdT (tgF ar wh fr to does code late P p th pl S m) (m + 1) 0 = some (9 * (g i).2 + x) := by
  have p9 : 9 ^ (m + 1) = 9 * 9 ^ m := by rw [Nat.pow_succ, Nat.mul_comm]
  refine fdT_some hw (by omega) (fun w hlt => ?_)
  rw [Bool.eq_false_iff]
  intro q
  have ew : w = 9 * (w / 9) + w % 9 := by omega
  rw [ew] at q
  obtain ⟨a, a1, a2, a3, a4⟩ := neg_of hS ht ht3 hl h (v := w / 9) (y := w % 9) (by omega) (by omega) q
  rcases Nat.lt_trichotomy a i with c | c | c
  · exact a3 (Or.inl c)
  · rw [c] at a4 a3
    exact a3 (Or.inr ⟨rfl, by omega⟩)
  · have := hl.2.2.1 i a hfi c a2
    omega
theorem sk_none {p : Nat} {th pl : Int} {S : Nat → Nat → Nat → Int} (hS : SvOK ar wh fr to does code late P p S) (ht : -1 ≤ th) (ht3 : th ≤ 3) {m : Nat} {g : Nat → Nat × Nat} {f t x N ub : Nat} (hl : lvS S (tgF ar wh fr to does code late P p th pl S) m g f t) (h : prS S (tgF ar wh fr to does code late P p th pl S) m g f t t x N ub) : fdT (tgF ar wh fr to does code late P p th pl S m) (m + 1) 0 = none := by
  have p9 : 9 ^ (m + 1) = 9 * 9 ^ m := by rw [Nat.pow_succ, Nat.mul_comm]
  refine fdT_none (fun w hlt => ?_)
  rw [Bool.eq_false_iff]
  intro q
  have ew : w = 9 * (w / 9) + w % 9 := by omega
  rw [ew] at q
  obtain ⟨a, a1, a2, a3, a4⟩ := neg_of hS ht ht3 hl h (v := w / 9) (y := w % 9) (by omega) (by omega) q
  exact a3 (Or.inl a2)
theorem sk_level {p : Nat} {th pl : Int} {S : Nat → Nat → Nat → Int} (hS : SvOK ar wh fr to does code late P p S) (ht : -1 ≤ th) (ht3 : th ≤ 3) {m : Nat} {g : Nat → Nat × Nat} {f t N ub : Nat} (hl : lvS S (tgF ar wh fr to does code late P p th pl S) m g f t) (h : prS S (tgF ar wh fr to does code late P p th pl S) m g f t t 0 N ub) (hN : N ≤ 3000) : lvS S (tgF ar wh fr to does code late P p th pl S) (m + 1) g t N := by
  have p9 : 9 ^ (m + 1) = 9 * 9 ^ m := by rw [Nat.pow_succ, Nat.mul_comm]
  obtain ⟨⟨l0, l0', l0''⟩, l1, l2, l3, l4, l5⟩ := hl
  obtain ⟨⟨h0, h0'⟩, h1, h2, h3⟩ := h
  have eb : bdN (m + 1) = bdN m + 9 ^ (m + 1) := rfl
  refine ⟨⟨h0, by omega, by omega⟩, fun i i1 i2 => (h2 i i1 i2).1, h3, fun w hw => ?_, fun i hi x hx => ?_, fun i hi x hx => ?_⟩
  · obtain ⟨i, i1, i2, i3⟩ := l3 (w / 9) (by omega)
    have ag := (tgF_agr (pl := pl) hS ht ht3 (x := w % 9) (by omega) i2).2
    rw [show 9 * (w / 9) + w % 9 = w by omega] at ag
    by_cases c : i < f
    · obtain ⟨j, j1, j2⟩ := l5 i c (w % 9) (by omega)
      exact ⟨j, by omega, j2.trans ag, Or.inl j1⟩
    · obtain ⟨j, j1, j2, j3⟩ := (h1 i (w % 9) (by omega) i1 (by omega) (Or.inl i1)).2 hN
      rw [l1 i (by omega) i1] at ag
      have := i3.resolve_left c
      exact ⟨j, j1, j2.trans ag, j3.imp id (fun q => by omega)⟩
  · by_cases c : i < f
    · exact l4 i c x hx
    · rw [l1 i (by omega) hi]
      exact (h1 i x (by omega) hi hx (Or.inl hi)).1
  · by_cases c : i < f
    · obtain ⟨j, j1, j2⟩ := l5 i c x hx
      exact ⟨j, by omega, j2⟩
    · obtain ⟨j, j1, j2, _⟩ := (h1 i x (by omega) hi hx (Or.inl hi)).2 hN
      rw [l1 i (by omega) hi]
      exact ⟨j, j1, j2⟩
theorem lvS_ge {p : Nat} {tg : Nat → Nat → Bool} {S : Nat → Nat → Nat → Int} (hS : SvOK ar wh fr to does code late P p S) {m : Nat} {g : Nat → Nat × Nat} {f t : Nat} (hl : lvS S tg m g f t) (hm : m ≤ 4) : 9 ^ m ≤ t := by
  have hc := hl.2.2.2.1
  refine pigeon t (9 ^ m) (fun v => if hv : v < 9 ^ m then Classical.choose (hc v hv) else 0) (fun v hv => ?_) (fun v w hv hw e => ?_)
  · show (if hv : v < 9 ^ m then Classical.choose (hc v hv) else 0) < t
    rw [dif_pos hv]
    exact (Classical.choose_spec (hc v hv)).1
  · have e' : (if hv : v < 9 ^ m then Classical.choose (hc v hv) else 0) = (if hv : w < 9 ^ m then Classical.choose (hc w hv) else 0) := e
    rw [dif_pos hv, dif_pos hw] at e'
    have a1 := (Classical.choose_spec (hc v hv)).2.1
    have a2 := (Classical.choose_spec (hc w hw)).2.1
    rw [← e'] at a2
    exact hS.2.2 m v w hm hv hw (a1.symm.trans a2)
/-- the pool stands in its rows -/
def pOK (S : Nat → Nat → Nat → Int) (s : mw_S) (g : Nat → Nat × Nat) (N : Nat) : Prop := tbl s N ∧ ∀ i, i < N → (g i).2 < 9 ^ (g i).1 ∧ (∀ k, k < 25 → s 109 (25 * i + k) = mvs (S (g i).1 (g i).2) k) ∧ (0 < (g i).1 → ∃ j, j < i ∧ s 111 i = (j : Int) ∧ (g j).1 + 1 = (g i).1 ∧ (g j).2 = (g i).2 / 9 ∧ s 112 i = (((g i).2 % 9 : Nat) : Int))
theorem pOK.same {S : Nat → Nat → Nat → Int} {s s' : mw_S} {g : Nat → Nat × Nat} {N : Nat} (h : pOK S s g N) (h32 : s' 100 32 = s 100 32) (h109 : s' 109 = s 109) (h111 : s' 111 = s 111) (h112 : s' 112 = s 112) (h113 : s' 113 = s 113) : pOK S s' g N := by
  unfold pOK
  rw [h109, h111, h112]
  exact ⟨tbl_same h.1 h32 h113, h.2⟩
theorem pOK_add {S : Nat → Nat → Nat → Int} {s : mw_S} {g : Nat → Nat × Nat} {N i m x j : Nat} (h : pOK S s g N) (hT : tbl (metS s N j i x) (N + 1)) (hi : i < N) (hg : (g i).1 = m) (hx : x < 9) (hm : ∀ k, k < 25 → s 101 (41 + k) = mvs (S (m + 1) (9 * (g i).2 + x)) k) : pOK S (metS s N j i x) (upG g N (m + 1, 9 * (g i).2 + x)) (N + 1) := by
  obtain ⟨h1, h2⟩ := h
  have p9 : 9 ^ (m + 1) = 9 * 9 ^ m := by rw [Nat.pow_succ, Nat.mul_comm]
  have e111 : metS s N j i x 111 = up1 (s 111) N i := by
    unfold metS
    rw [cel_n (by decide), cel_n (by decide), cel_s]
  have e112 : metS s N j i x 112 = up1 (s 112) N x := by
    unfold metS
    rw [cel_n (by decide), cel_s]
  refine ⟨hT, fun k hk => ?_⟩
  by_cases e : k = N
  · subst e
    rw [upG_s]
    refine ⟨?_, fun q hq => ?_, fun _ => ⟨i, hi, ?_, ?_, ?_, ?_⟩⟩
    · have := (h2 i hi).1
      rw [hg] at this
      show 9 * (g i).2 + x < 9 ^ (m + 1)
      omega
    · rw [met_pool hq, if_pos rfl]
      exact hm q hq
    · rw [e111, up1_s]
    · rw [upG_n (by omega), hg]
    · rw [upG_n (by omega)]
      show (g i).2 = (9 * (g i).2 + x) / 9
      omega
    · rw [e112, up1_s]
      show (x : Int) = (((9 * (g i).2 + x) % 9 : Nat) : Int)
      omega
  · rw [upG_n e]
    obtain ⟨q1, q2, q3⟩ := h2 k (by omega)
    refine ⟨q1, fun z hz => ?_, fun hz => ?_⟩
    · rw [met_pool hz, if_neg e]
      exact q2 z hz
    · obtain ⟨a, a1, a2, a3, a4, a5⟩ := q3 hz
      exact ⟨a, a1, by rw [e111, up1_n e]; exact a2, by rw [upG_n (by omega)]; exact a3, by rw [upG_n (by omega)]; exact a4, by rw [e112, up1_n e]; exact a5⟩
