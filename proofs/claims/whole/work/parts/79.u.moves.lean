/-! states that are sought: what moves of them -/
def dg4 (t : Int) (j : Nat) : Int := if j = 0 then t % 16 else if j = 1 then t / 16 % 16 else if j = 2 then t / 256 % 16 else t / 4096 % 16
def mvs (c : Nat → Int) (k : Nat) : Int := if k < 6 then c k else if k < 9 then c (4 + k) else if k < 13 then c (k - 3) else dg4 (c (13 + (k - 13) / 4)) ((k - 13) % 4)
theorem mov_c {c : Nat → Int} {k : Nat} (h : k < 6) : mvs c k = c k := by
  unfold mvs
  rw [if_pos h]
theorem mov_b {c : Nat → Int} {p : Nat} (h : p < 3) : mvs c (6 + p) = c (10 + p) := by
  unfold mvs
  rw [if_neg (by omega), if_pos (by omega), show 4 + (6 + p) = 10 + p by omega]
theorem mov_t {c : Nat → Int} {t : Nat} (h : t < 4) : mvs c (9 + t) = c (6 + t) := by
  unfold mvs
  rw [if_neg (by omega), if_neg (by omega), if_pos (by omega), show 9 + t - 3 = 6 + t by omega]
theorem mov_d {c : Nat → Int} {p j : Nat} (hj : j < 4) : mvs c (13 + 4 * p + j) = dg4 (c (13 + p)) j := by
  unfold mvs
  rw [if_neg (by omega), if_neg (by omega), if_neg (by omega), show (13 + 4 * p + j - 13) / 4 = p by omega, show (13 + 4 * p + j - 13) % 4 = j by omega]
theorem k25 {k : Nat} (h : k < 25) : k < 6 ∨ (∃ p, p < 3 ∧ k = 6 + p) ∨ (∃ t, t < 4 ∧ k = 9 + t) ∨ ∃ p j, p < 3 ∧ j < 4 ∧ k = 13 + 4 * p + j := by
  by_cases a : k < 6
  · exact Or.inl a
  · by_cases b : k < 9
    · exact Or.inr (Or.inl ⟨k - 6, by omega, by omega⟩)
    · by_cases d : k < 13
      · exact Or.inr (Or.inr (Or.inl ⟨k - 9, by omega, by omega⟩))
      · exact Or.inr (Or.inr (Or.inr ⟨(k - 13) / 4, (k - 13) % 4, by omega, by omega, by omega⟩))
theorem dg4_of {t a b c d : Int} (h : t % 65536 = a + 16 * b + 256 * c + 4096 * d) (ha : 0 ≤ a ∧ a ≤ 8) (hb : 0 ≤ b ∧ b ≤ 8) (hc : 0 ≤ c ∧ c ≤ 8) (hd : 0 ≤ d ∧ d ≤ 8) : dg4 t 0 = a ∧ dg4 t 1 = b ∧ dg4 t 2 = c ∧ dg4 t 3 = d := by
  unfold dg4
  refine ⟨?_, ?_, ?_, ?_⟩
  · rw [if_pos rfl]
    omega
  · rw [if_neg (by decide), if_pos rfl]
    omega
  · rw [if_neg (by decide), if_neg (by decide), if_pos rfl]
    omega
  · rw [if_neg (by decide), if_neg (by decide), if_neg (by decide)]
    omega
/-- the reference's row holds what moves of the class's -/
def RsL (ar wh fr to does code late : Nat → Int) (P : Nat) (c A : Nat → Int) : Prop := ∃ c', agr c' c ∧ Rst ar wh fr to does code late P c' A
variable {ar wh fr to does code late : Nat → Int} {P : Nat}
theorem RsL.of {c A : Nat → Int} (h : Rst ar wh fr to does code late P c A) : RsL ar wh fr to does code late P c A := ⟨c, agr.refl, h⟩
theorem RsL.step {c A : Nat → Int} {x : Int} (h : RsL ar wh fr to does code late P c A) (x0 : 0 ≤ x) : RsL ar wh fr to does code late P (advF ar wh fr to does code late P x c).2 (stM ar wh fr to does code P x A) ∧ stMp ar wh fr to does code P x A = (advF ar wh fr to does code late P x c).1 ∧ (∀ k, k < 41 ∨ (66 ≤ k ∧ k < 75) ∨ 88 ≤ k → stM ar wh fr to does code P x A k = A k) ∧ stM ar wh fr to does code P x A 75 = A 75 + 1 := by
  obtain ⟨c', ha, hr⟩ := h
  have g := hr.1
  obtain ⟨a1, a2⟩ := advF_cg (wh := wh) (fr := fr) (to := to) (does := does) (code := code) (late := late) (x := x) g.2.1 g.2.2.2.2.1 g.2.2.2.2.2 ha
  have r := st_rel hr x0
  exact ⟨⟨_, a2, hr.step x0⟩, by rw [r.1.1, a1], r.2.2.2.1, r.2.2.2.2.1⟩
theorem RsL.told {c A : Nat → Int} (h : RsL ar wh fr to does code late P c A) {p : Nat} (hp : p < 3) : c (13 + p) % 65536 = A (54 + 4 * p) + 16 * A (54 + 4 * p + 1) + 256 * A (54 + 4 * p + 2) + 4096 * A (54 + 4 * p + 3) ∧ ∀ k : Nat, k < 4 → 0 ≤ A (54 + 4 * p + k) ∧ A (54 + 4 * p + k) ≤ 8 := by
  obtain ⟨c', ha, hr⟩ := h
  have m := hr.2.2.2.2.2.2.2.2.1 p hp
  exact ⟨by rw [← ha.2 p hp]; exact m.2.2.1, m.2.2.2⟩
theorem RsL.mov {c A : Nat → Int} (h : RsL ar wh fr to does code late P c A) {k : Nat} (hk : k < 25) : A (41 + k) = mvs c k := by
  have ht := fun (p : Nat) (hp : p < 3) => h.told hp
  obtain ⟨c', ha, hr⟩ := h
  have m := hr.2.2.2.2.2
  rcases k25 hk with q | ⟨p, hp, rfl⟩ | ⟨t, q, rfl⟩ | ⟨p, j, hp, hj, rfl⟩
  · rw [mov_c q, ← ha.1 k (by omega)]
    exact (m.1 k q).1
  · rw [mov_b hp, ← ha.1 _ (by omega), show 41 + (6 + p) = 47 + p by omega]
    exact (m.2.2.1 p hp).1
  · rw [mov_t q, ← ha.1 _ (by omega), show 41 + (9 + t) = 50 + t by omega]
    exact (m.2.1 t q).1
  · rw [mov_d hj, show 41 + (13 + 4 * p + j) = 54 + 4 * p + j by omega]
    obtain ⟨t1, t2⟩ := ht p hp
    have d := dg4_of t1 (t2 0 (by omega)) (t2 1 (by omega)) (t2 2 (by omega)) (t2 3 (by omega))
    rcases (show j = 0 ∨ j = 1 ∨ j = 2 ∨ j = 3 by omega) with rfl | rfl | rfl | rfl
    · exact d.1.symm
    · exact d.2.1.symm
    · exact d.2.2.1.symm
    · exact d.2.2.2.symm
theorem RsL.load {c c1 A0 A1 A : Nat → Int} (h : RsL ar wh fr to does code late P c A0) (h1 : RsL ar wh fr to does code late P c1 A1) (e1 : ∀ k, k < 25 → A (41 + k) = mvs c k) (e2 : ∀ k, k < 41 ∨ 66 ≤ k → A k = A1 k) : RsL ar wh fr to does code late P c A := by
  have e0 : ∀ k, k < 25 → A (41 + k) = A0 (41 + k) := fun k hk => by rw [e1 k hk, h.mov hk]
  obtain ⟨c', ha, hr⟩ := h
  obtain ⟨c1', ha1, hr1⟩ := h1
  obtain ⟨g, -, hok, -, -, m⟩ := hr
  obtain ⟨-, ⟨a1, a2, a3⟩, -, hrel, hl, m1⟩ := hr1
  refine ⟨fillF c' c1' 16, ⟨fun k hk => by rw [fill_in (by omega)]; exact ha.1 k hk, fun p hp => by rw [fill_in (by omega)]; exact ha.2 p hp⟩, g, ⟨by rw [e2 1 (by omega)]; exact a1, by rw [e2 2 (by omega)]; exact a2, by rw [e2 3 (by omega)]; exact a3⟩, hok, arRel_congr hrel hok.2.1 (fun k hk => e2 k (by omega)), fun j hj => by rw [e2 (6 + j) (by have := g.2.1; omega)]; exact hl j hj, ?_⟩
  refine ⟨fun k hk => ?_, fun t ht => ?_, fun p hp => ?_, fun p hp => ?_, fun p hp => ?_⟩
  · rw [fill_in (by omega), e0 k (by omega)]
    exact m.1 k hk
  · rw [fill_in (by omega), show 50 + t = 41 + (9 + t) by omega, e0 _ (by omega), show 41 + (9 + t) = 50 + t by omega]
    exact m.2.1 t ht
  · rw [fill_in (by omega), show 47 + p = 41 + (6 + p) by omega, e0 _ (by omega), show 41 + (6 + p) = 47 + p by omega]
    exact m.2.2.1 p hp
  · have ee : ∀ j, j < 4 → A (54 + 4 * p + j) = A0 (54 + 4 * p + j) := fun j hj => by
      rw [show 54 + 4 * p + j = 41 + (13 + 4 * p + j) by omega]
      exact e0 _ (by omega)
    rw [fill_in (by omega), ee 1 (by omega), ee 2 (by omega), ee 3 (by omega), show A (54 + 4 * p) = A0 (54 + 4 * p) from ee 0 (by omega)]
    refine ⟨(m.2.2.2.1 p hp).1, (m.2.2.2.1 p hp).2.1, (m.2.2.2.1 p hp).2.2.1, fun k hk => ?_⟩
    rw [ee k hk]
    exact (m.2.2.2.1 p hp).2.2.2 k hk
  · rw [fill_out (show 16 ≤ 16 + p by omega), fill_out (show 16 ≤ 19 + p by omega), fill_out (show 16 ≤ 22 + p by omega), e2 _ (by omega), e2 _ (by omega)]
    exact m1.2.2.2.2 p hp
theorem RsL.same {c c' A A' : Nat → Int} (h : RsL ar wh fr to does code late P c A) (h' : RsL ar wh fr to does code late P c' A') (e : ∀ k, k < 25 → mvs c k = mvs c' k) : agr c c' := by
  have eA : ∀ k, k < 25 → A (41 + k) = A' (41 + k) := fun k hk => by rw [h.mov hk, h'.mov hk, e k hk]
  refine ⟨fun k hk => ?_, fun p hp => ?_⟩
  · by_cases a : k < 6
    · have := e k (by omega)
      rw [mov_c a, mov_c a] at this
      exact this
    · by_cases b : k < 10
      · obtain ⟨t, rfl⟩ : ∃ t, k = 6 + t := ⟨k - 6, by omega⟩
        have := e (9 + t) (by omega)
        rw [mov_t (by omega), mov_t (by omega)] at this
        exact this
      · obtain ⟨t, rfl⟩ : ∃ t, k = 10 + t := ⟨k - 10, by omega⟩
        have := e (6 + t) (by omega)
        rw [mov_b (by omega), mov_b (by omega)] at this
        exact this
  · have ee : ∀ j, j < 4 → A (54 + 4 * p + j) = A' (54 + 4 * p + j) := fun j hj => by
      rw [show 54 + 4 * p + j = 41 + (13 + 4 * p + j) by omega]
      exact eA _ (by omega)
    rw [(h.told hp).1, (h'.told hp).1, ee 1 (by omega), ee 2 (by omega), ee 3 (by omega), show A (54 + 4 * p) = A' (54 + 4 * p) from ee 0 (by omega)]
theorem agr_mov {c c' : Nat → Int} (h : agr c c') {k : Nat} (hk : k < 25) : mvs c k = mvs c' k := by
  rcases k25 hk with q | ⟨p, hp, rfl⟩ | ⟨t, q, rfl⟩ | ⟨p, j, hp, hj, rfl⟩
  · rw [mov_c q, mov_c q]
    exact h.1 k (by omega)
  · rw [mov_b hp, mov_b hp]
    exact h.1 _ (by omega)
  · rw [mov_t q, mov_t q]
    exact h.1 _ (by omega)
  · rw [mov_d hj, mov_d hj]
    have := h.2 p hp
    unfold dg4
    rcases (show j = 0 ∨ j = 1 ∨ j = 2 ∨ j = 3 by omega) with rfl | rfl | rfl | rfl
    · rw [if_pos rfl, if_pos rfl]
      omega
    · rw [if_neg (by decide), if_pos rfl, if_neg (by decide), if_pos rfl]
      omega
    · rw [if_neg (by decide), if_neg (by decide), if_pos rfl, if_neg (by decide), if_neg (by decide), if_pos rfl]
      omega
    · rw [if_neg (by decide), if_neg (by decide), if_neg (by decide), if_neg (by decide), if_neg (by decide), if_neg (by decide)]
      omega
/-- what a person is told stands lowest -/
theorem RsL.tb {c A : Nat → Int} {p x : Nat} (h : RsL ar wh fr to does code late P c A) (hp : p < P) (hx : x < 9) : (advF ar wh fr to does code late P ((x : Int) * nin p) c).2 (13 + p) % 65536 = (16 * (c (13 + p) % 65536) + x) % 65536 := by
  have x0 := (mul9 (x := (x : Int)) (p := p) (by obtain ⟨_, _, hr⟩ := h; have := hr.1.2.1; omega) (by omega) (by omega)).1
  obtain ⟨c', ha, hr⟩ := h
  have g := hr.1
  obtain ⟨a1, a2⟩ := advF_cg (wh := wh) (fr := fr) (to := to) (does := does) (code := code) (late := late) (x := (x : Int) * nin p) g.2.1 g.2.2.2.2.1 g.2.2.2.2.2 ha
  have r := (st_rel hr x0).2.2.2.2.2.2.2.2 p hp
  have s := ph1C_spc (deep := ar 0) (T := ar 2) (p := p) (x := (x : Int)) (c := c') (by omega) g.2.2.2.1 g.2.2.2.2.1 g.2.2.2.2.2 (by omega) (by omega) P 0 ((x : Int) * nin p) c' (by omega) hr.2.2.2.2.2.rowI ⟨rfl, fun _ _ _ => rfl, rfl⟩ (fun _ => rfl) (fun q => absurd q (by omega))
  rw [s.2.2, if_pos (by omega)] at r
  rw [← a2.2 p (by omega), r]
  have := ha.2 p (by omega)
  unfold tbF
  omega
/-- the row behind doings of one, by the number of their digits -/
def stS (ar wh fr to does code late : Nat → Int) (P p : Nat) (c0 : Nat → Int) : Nat → Nat → Nat → Int
  | 0, _ => c0
  | n + 1, v => (advF ar wh fr to does code late P (((v % 9 : Nat) : Int) * nin p) (stS ar wh fr to does code late P p c0 n (v / 9))).2
theorem stS_R {c0 A0 : Nat → Int} {p : Nat} (h : RsL ar wh fr to does code late P c0 A0) (hp : p < P) : ∀ n v, ∃ A, RsL ar wh fr to does code late P (stS ar wh fr to does code late P p c0 n v) A
  | 0, _ => ⟨A0, h⟩
  | n + 1, v => by
    obtain ⟨A, hA⟩ := stS_R h hp n (v / 9)
    have x0 := (mul9 (x := ((v % 9 : Nat) : Int)) (p := p) (by obtain ⟨_, _, hr⟩ := h; have := hr.1.2.1; omega) (by omega) (by omega)).1
    exact ⟨_, (hA.step x0).1⟩
theorem dig4 {a a' d d' M : Int} (hM : M = 1 ∨ M = 16 ∨ M = 256 ∨ M = 4096) (d0 : 0 ≤ d ∧ d ≤ 8) (d1 : 0 ≤ d' ∧ d' ≤ 8) (h : (16 * (a % 65536) + d) % 65536 % (16 * M) = (16 * (a' % 65536) + d') % 65536 % (16 * M)) : d = d' ∧ a % 65536 % M = a' % 65536 % M := by
  rcases hM with rfl | rfl | rfl | rfl <;> omega
theorem stS_inj {c0 A0 : Nat → Int} {p : Nat} (h : RsL ar wh fr to does code late P c0 A0) (hp : p < P) : ∀ n v v', n ≤ 4 → v < 9 ^ n → v' < 9 ^ n → stS ar wh fr to does code late P p c0 n v (13 + p) % 65536 % (16 ^ n) = stS ar wh fr to does code late P p c0 n v' (13 + p) % 65536 % (16 ^ n) → v = v'
  | 0, v, v', _, h1, h2, _ => by
    rw [Nat.pow_zero] at h1 h2
    omega
  | n + 1, v, v', hn, h1, h2, e => by
    obtain ⟨A, hA⟩ := stS_R h hp n (v / 9)
    obtain ⟨A', hA'⟩ := stS_R h hp n (v' / 9)
    have b1 := hA.tb (x := v % 9) hp (by omega)
    have b2 := hA'.tb (x := v' % 9) hp (by omega)
    unfold stS at e
    rw [b1, b2] at e
    rw [Nat.pow_succ] at h1 h2
    have hM : (16 : Int) ^ n = 1 ∨ (16 : Int) ^ n = 16 ∨ (16 : Int) ^ n = 256 ∨ (16 : Int) ^ n = 4096 := by
      rcases (show n = 0 ∨ n = 1 ∨ n = 2 ∨ n = 3 by omega) with rfl | rfl | rfl | rfl <;> decide
    rw [show (16 : Int) ^ (n + 1) = 16 * 16 ^ n by rw [Int.pow_succ, Int.mul_comm]] at e
    obtain ⟨q1, q2⟩ := dig4 hM ⟨by omega, by omega⟩ ⟨by omega, by omega⟩ e
    have := stS_inj h hp n (v / 9) (v' / 9) (by omega) (by omega) (by omega) q2
    omega
/-- rows of so few doings lead to unlike states -/
theorem stS_ne {c0 A0 : Nat → Int} {p n v v' : Nat} (h : RsL ar wh fr to does code late P c0 A0) (hp : p < P) (hn : n ≤ 4) (h1 : v < 9 ^ n) (h2 : v' < 9 ^ n) (e : agr (stS ar wh fr to does code late P p c0 n v) (stS ar wh fr to does code late P p c0 n v')) : v = v' := by
  refine stS_inj h hp n v v' hn h1 h2 ?_
  have hP3 : P ≤ 3 := by
    obtain ⟨_, _, hr⟩ := h
    exact hr.1.2.1
  rw [e.2 p (by omega)]
theorem pigeon : ∀ (m n : Nat) (f : Nat → Nat), (∀ i, i < n → f i < m) → (∀ i j, i < n → j < n → f i = f j → i = j) → n ≤ m
  | 0, n, f, h1, _ => by
    rcases Nat.eq_zero_or_pos n with e | e
    · omega
    · exact absurd (h1 0 e) (by omega)
  | m + 1, n, f, h1, h2 => by
    by_cases q : ∃ i, i < n ∧ f i = m
    · obtain ⟨i0, q1, q2⟩ := q
      have := pigeon m (n - 1) (fun i => if i < i0 then f i else f (i + 1)) (fun i hi => by
        show (if i < i0 then f i else f (i + 1)) < m
        split
        · have a := h1 i (by omega)
          have b : f i ≠ m := fun e => by have := h2 i i0 (by omega) q1 (by omega); omega
          omega
        · have a := h1 (i + 1) (by omega)
          have b : f (i + 1) ≠ m := fun e => by have := h2 (i + 1) i0 (by omega) q1 (by omega); omega
          omega) (fun i j hi hj e => by
        have e' : (if i < i0 then f i else f (i + 1)) = (if j < i0 then f j else f (j + 1)) := e
        by_cases a : i < i0
        · by_cases b : j < i0
          · rw [if_pos a, if_pos b] at e'
            exact h2 i j (by omega) (by omega) e'
          · rw [if_pos a, if_neg b] at e'
            have := h2 i (j + 1) (by omega) (by omega) e'
            omega
        · by_cases b : j < i0
          · rw [if_neg a, if_pos b] at e'
            have := h2 (i + 1) j (by omega) (by omega) e'
            omega
          · rw [if_neg a, if_neg b] at e'
            have := h2 (i + 1) (j + 1) (by omega) (by omega) e'
            omega)
      omega
    · have := pigeon m n f (fun i hi => by
        have a := h1 i hi
        have b : f i ≠ m := fun e => q ⟨i, hi, e⟩
        omega) h2
      omega
