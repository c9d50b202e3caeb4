/-! a step of both: related again -/
def Rmid (deep : Int) (c A : Nat → Int) : Prop :=
  (∀ k : Nat, k < 6 → A (41 + k) = c k ∧ 0 ≤ c k ∧ c k < deep) ∧
  (∀ t : Nat, t < 4 → A (50 + t) = c (6 + t) ∧ 0 ≤ c (6 + t) ∧ c (6 + t) ≤ 35) ∧
  (∀ p : Nat, p < 3 → A (47 + p) = c (10 + p) ∧ 0 ≤ c (10 + p) ∧ c (10 + p) ≤ 9) ∧
  (∀ p : Nat, p < 3 → 0 ≤ c (13 + p) ∧ c (13 + p) < 1048576 ∧ c (13 + p) % 65536 = A (54 + 4 * p) + 16 * A (54 + 4 * p + 1) + 256 * A (54 + 4 * p + 2) + 4096 * A (54 + 4 * p + 3) ∧ ∀ k : Nat, k < 4 → 0 ≤ A (54 + 4 * p + k) ∧ A (54 + 4 * p + k) ≤ 8) ∧
  (∀ p : Nat, p < 3 → 0 ≤ c (16 + p) ∧ c (16 + p) ≤ 8 ∧ A (79 + p) = c (19 + p) ∧ A (85 + p) = c (22 + p) ∧ 0 ≤ c (19 + p) ∧ c (19 + p) ≤ 1 ∧ 0 ≤ c (22 + p) ∧ c (22 + p) ≤ 1)
theorem Rmid.td {deep : Int} {c A : Nat → Int} (h : Rmid deep c A) {p : Nat} (hp : p < 3) : td4 (c (13 + p)) := by
  obtain ⟨h0, h1, h2, h3⟩ := h.2.2.2.1 p hp
  have a0 := h3 0 (by omega)
  have a1 := h3 1 (by omega)
  have a2 := h3 2 (by omega)
  have a3 := h3 3 (by omega)
  rw [Nat.add_zero] at a0
  unfold td4
  omega
theorem Rmid.rowI {deep : Int} {c A : Nat → Int} (h : Rmid deep c A) : rowI deep c := ⟨fun k hk => (h.1 k hk).2, fun p hp => (h.2.2.1 p hp).2, fun _ hp => h.td hp⟩
theorem Rmid.rowM {deep : Int} {c A : Nat → Int} (h : Rmid deep c A) : rowM deep A := ⟨fun k hk => by rw [(h.1 k hk).1]; exact (h.1 k hk).2, fun p hp => by rw [(h.2.2.1 p hp).1]; exact (h.2.2.1 p hp).2, fun p k hp hk => (h.2.2.2.1 p hp).2.2.2 k hk⟩
theorem hpF_rng {w : Nat} {h : Int} (hw : w < 6) (h0 : 0 ≤ h) (h1 : h ≤ 1) : 0 ≤ hpF w h ∧ hpF w h ≤ 35 := by
  unfold hpF
  split <;> omega
theorem thT_eq {T : Int} {f g : Nat → Int} {z : Int} (t1 : T ≤ 4) (h : ∀ t, t < 4 → f t = g t) : thT T f z = thT T g z := thF_eq _ _ (fun k _ hk => h k (by omega))
theorem canI_eq {deep T : Int} {cell cell' pl pl' : Nat → Int} {w : Nat} {x : Int} (t1 : T ≤ 4) (h1 : cell w = cell' w) (h2 : ∀ t, t < 4 → pl t = pl' t) : canI deep T cell pl w x = canI deep T cell' pl' w x := by
  have e : ∀ z, thT T pl z = thT T pl' z := fun z => thT_eq t1 h2
  unfold canI gdF
  rw [h1]
  simp only [e]
theorem act_rel {deep T : Int} {f g : Nat → Int} {w : Nat} {x : Int} (hw : w < 6) (t0 : 0 ≤ T) (t1 : T ≤ 4) (hc : ∀ k, k < 6 → g (41 + k) = f k) (hp : ∀ t, t < 4 → g (50 + t) = f (6 + t)) : canI deep T (fun k => g (41 + k)) (fun k => g (50 + k)) w x = canI deep T f (fun k => f (6 + k)) w x ∧ (∀ k, k < 6 → actM deep T g w x (41 + k) = actC deep T f w x k) ∧ (∀ t, t < 4 → actM deep T g w x (50 + t) = actC deep T f w x (6 + t)) := by
  have ec : canI deep T (fun k => g (41 + k)) (fun k => g (50 + k)) w x = canI deep T f (fun k => f (6 + k)) w x := canI_eq t1 (hc w hw) hp
  have eg : gdF (fun k => g (41 + k)) w = gdF f w := by
    show (if w < 3 then g (41 + w) else 10 + g (41 + w)) = if w < 3 then f w else 10 + f w
    rw [hc w hw]
  have et : ∀ z, thT T (fun k => g (50 + k)) z = thT T (fun k => f (6 + k)) z := fun z => thT_eq t1 hp
  refine ⟨ec, fun k hk => ?_, fun t ht => ?_⟩
  · unfold actM actC
    rw [ec, eg]
    simp only [et]
    by_cases c0 : canI deep T f (fun k => f (6 + k)) w x = 0
    · rw [if_pos c0, if_pos c0]
      exact hc k hk
    · rw [if_neg c0, if_neg c0]
      by_cases c1 : x = 1
      · rw [if_pos c1, if_pos c1]
        by_cases e : k = w
        · subst e
          rw [up1_s, up1_s, hc k hk]
        · rw [up1_n (by omega), up1_n e]
          exact hc k hk
      · rw [if_neg c1, if_neg c1]
        by_cases c2 : x = 2
        · rw [if_pos c2, if_pos c2]
          by_cases e : k = w
          · subst e
            rw [up1_s, up1_s, hc k hk]
          · rw [up1_n (by omega), up1_n e]
            exact hc k hk
        · rw [if_neg c2, if_neg c2]
          by_cases c3 : x = 3 ∨ x = 4
          · rw [if_pos c3, if_pos c3, up1_n (by omega), up1_n (by omega)]
            exact hc k hk
          · rw [if_neg c3, if_neg c3]
            by_cases c4 : x = 5 ∨ x = 6
            · rw [if_pos c4, if_pos c4, up1_n (by omega), up1_n (by omega)]
              exact hc k hk
            · rw [if_neg c4, if_neg c4]
              exact hc k hk
  · unfold actM actC
    rw [ec, eg]
    simp only [et]
    by_cases c0 : canI deep T f (fun k => f (6 + k)) w x = 0
    · rw [if_pos c0, if_pos c0]
      exact hp t ht
    · rw [if_neg c0, if_neg c0]
      by_cases c1 : x = 1
      · rw [if_pos c1, if_pos c1, up1_n (by omega), up1_n (by omega)]
        exact hp t ht
      · rw [if_neg c1, if_neg c1]
        by_cases c2 : x = 2
        · rw [if_pos c2, if_pos c2, up1_n (by omega), up1_n (by omega)]
          exact hp t ht
        · rw [if_neg c2, if_neg c2]
          have q : ∀ (j : Nat) (z : Int), up1 g (50 + j) z (50 + t) = up1 f (6 + j) z (6 + t) := fun j z => by
            by_cases e : t = j
            · subst e
              rw [up1_s, up1_s]
            · rw [up1_n (by omega), up1_n (by omega)]
              exact hp t ht
          by_cases c3 : x = 3 ∨ x = 4
          · rw [if_pos c3, if_pos c3]
            exact q _ _
          · rw [if_neg c3, if_neg c3]
            by_cases c4 : x = 5 ∨ x = 6
            · rw [if_pos c4, if_pos c4]
              exact q _ _
            · rw [if_neg c4, if_neg c4]
              exact hp t ht
theorem act_place {deep T : Int} {f : Nat → Int} {w : Nat} {x : Int} (hw : w < 6) (d1 : deep ≤ 9) (hc : ∀ k, k < 6 → 0 ≤ f k ∧ f k < deep) (hp : ∀ t, t < 4 → 0 ≤ f (6 + t) ∧ f (6 + t) ≤ 35) (t : Nat) (ht : t < 4) : 0 ≤ actC deep T f w x (6 + t) ∧ actC deep T f w x (6 + t) ≤ 35 := by
  have g : 0 ≤ gdF f w ∧ gdF f w ≤ 35 := by
    have := hc w hw
    unfold gdF
    split <;> omega
  have q : ∀ (j : Nat) (z : Int), 0 ≤ z ∧ z ≤ 35 → 0 ≤ up1 f (6 + j) z (6 + t) ∧ up1 f (6 + j) z (6 + t) ≤ 35 := fun j z hz => by
    by_cases e : t = j
    · subst e
      rw [up1_s]
      exact hz
    · rw [up1_n (by omega)]
      exact hp t ht
  unfold actC
  by_cases c0 : canI deep T f (fun k => f (6 + k)) w x = 0
  · rw [if_pos c0]
    exact hp t ht
  · rw [if_neg c0]
    by_cases c1 : x = 1
    · rw [if_pos c1, up1_n (by omega)]
      exact hp t ht
    · rw [if_neg c1]
      by_cases c2 : x = 2
      · rw [if_pos c2, up1_n (by omega)]
        exact hp t ht
      · rw [if_neg c2]
        by_cases c3 : x = 3 ∨ x = 4
        · rw [if_pos c3]
          exact q _ _ (hpF_rng hw (by omega) (by omega))
        · rw [if_neg c3]
          by_cases c4 : x = 5 ∨ x = 6
          · rw [if_pos c4]
            exact q _ _ g
          · rw [if_neg c4]
            exact hp t ht
theorem ph1_rel {deep T : Int} {c A : Nat → Int} {p : Nat} {x : Int} (hp : p < 3) (d1 : deep ≤ 9) (t0 : 0 ≤ T) (t1 : T ≤ 4) (x0 : 0 ≤ x) (x8 : x ≤ 8) (h : Rmid deep c A) : Rmid deep (ph1s deep T p x c) (ph1m deep T p x A) ∧ ph1m deep T p x A (76 + p) = ph1s deep T p x c (13 + p) % 16 ∧ (∀ j, j < 3 → j ≠ p → ph1m deep T p x A (76 + j) = A (76 + j) ∧ ph1s deep T p x c (13 + j) = c (13 + j)) := by
  have hr := h.rowI
  have hrm := h.rowM
  obtain ⟨h1, h2, h3, h4, h5⟩ := h
  have hA := act_rel (deep := deep) (T := T) (f := up1 c (13 + p) (tbF (c (13 + p)) x)) (g := shH A p x) (w := p) (x := x) (by omega) t0 t1 (fun k hk => by rw [shH_out hp (by omega), up1_n (by omega)]; exact (h1 k hk).1) (fun t ht => by rw [shH_out hp (by omega), up1_n (by omega)]; exact (h2 t ht).1)
  have hc := actC_cell (deep := deep) (T := T) (f := up1 c (13 + p) (tbF (c (13 + p)) x)) (w := p) (x := x) (by omega) (fun k hk => by rw [up1_n (by omega)]; exact (h1 k hk).2)
  have hpl := act_place (deep := deep) (T := T) (f := up1 c (13 + p) (tbF (c (13 + p)) x)) (w := p) (x := x) (by omega) d1 (fun k hk => by rw [up1_n (by omega)]; exact (h1 k hk).2) (fun t ht => by rw [up1_n (by omega)]; exact (h2 t ht).2)
  have cC : ∀ k, 10 ≤ k → k ≠ 13 + p → k ≠ 19 + p → ph1s deep T p x c k = c k := fun k hk e1 e2 => by
    unfold ph1s
    rw [up1_n e2, actC_out (by omega) t0 t1 hk, up1_n e1]
  have cM : ∀ k, 54 ≤ k → k ≠ 79 + p → ph1m deep T p x A k = shH A p x k := fun k hk e2 => by
    unfold ph1m
    rw [up1_n e2, actM_out (by omega) t0 t1 (by omega)]
  refine ⟨⟨fun k hk => ?_, fun t ht => ?_, fun j hj => ?_, fun j hj => ?_, fun j hj => ?_⟩, ?_, fun j hj e => ?_⟩
  · unfold ph1m ph1s
    rw [up1_n (by omega), up1_n (by omega)]
    exact ⟨hA.2.1 k hk, hc k hk⟩
  · unfold ph1m ph1s
    rw [up1_n (by omega), up1_n (by omega)]
    exact ⟨hA.2.2 t ht, hpl t ht⟩
  · rw [cC _ (by omega) (by omega) (by omega)]
    unfold ph1m
    rw [up1_n (by omega), actM_out (by omega) t0 t1 (by omega), shH_out hp (by omega)]
    exact h3 j hj
  · obtain ⟨a0, a1, a2, a3⟩ := h4 j hj
    have hs := fun k hk => shH_rng (f := A) hp x0 x8 hrm.2.2 j k hj hk
    rw [cM _ (by omega) (by omega), cM _ (by omega) (by omega), cM _ (by omega) (by omega), cM _ (by omega) (by omega), ph1s_13 hp t0 t1 j hj]
    have hk4 : ∀ k, k < 4 → 0 ≤ ph1m deep T p x A (54 + 4 * j + k) ∧ ph1m deep T p x A (54 + 4 * j + k) ≤ 8 := fun k hk => by
      rw [cM _ (by omega) (by omega)]
      exact hs k hk
    by_cases e : j = p
    · subst e
      rw [if_pos rfl]
      have e0 : shH A j x (54 + 4 * j) = x := by
        unfold shH
        rw [up1_n (by omega), up1_s]
      have e1 : shH A j x (54 + 4 * j + 1) = A (54 + 4 * j) := by
        unfold shH
        rw [up1_n (by omega), up1_n (by omega), up1_s]
      have e2 : shH A j x (54 + 4 * j + 2) = A (54 + 4 * j + 1) := by
        unfold shH
        rw [up1_n (by omega), up1_n (by omega), up1_n (by omega), up1_s]
      have e3 : shH A j x (54 + 4 * j + 3) = A (54 + 4 * j + 2) := by
        unfold shH
        rw [up1_n (by omega), up1_n (by omega), up1_n (by omega), up1_n (by omega), up1_s]
      rw [e0, e1, e2, e3]
      have b0 := a3 0 (by omega)
      have b1 := a3 1 (by omega)
      have b2 := a3 2 (by omega)
      have b3 := a3 3 (by omega)
      rw [Nat.add_zero] at b0
      refine ⟨?_, ?_, ?_, hk4⟩
      · unfold tbF
        omega
      · unfold tbF
        omega
      · unfold tbF
        omega
    · rw [if_neg e]
      have o : ∀ k, k < 4 → shH A p x (54 + 4 * j + k) = A (54 + 4 * j + k) := fun k hk => by
        unfold shH
        rw [up1_n (by omega), up1_n (by omega), up1_n (by omega), up1_n (by omega), up1_n (by omega)]
      have o0 := o 0 (by omega)
      rw [Nat.add_zero] at o0
      rw [o0, o 1 (by omega), o 2 (by omega), o 3 (by omega)]
      exact ⟨a0, a1, a2, hk4⟩
  · obtain ⟨a0, a1, a2, a3, a4, a5, a6, a7⟩ := h5 j hj
    rw [cC (16 + j) (by omega) (by omega) (by omega), cC (22 + j) (by omega) (by omega) (by omega), cM (85 + j) (by omega) (by omega), shH_out hp (by omega)]
    by_cases e : j = p
    · subst e
      unfold ph1m ph1s
      rw [up1_s, up1_s, hA.1]
      have := canI_01 deep T (up1 c (13 + j) (tbF (c (13 + j)) x)) (fun k => up1 c (13 + j) (tbF (c (13 + j)) x) (6 + k)) j x
      exact ⟨a0, a1, rfl, a3, by omega, by omega, a6, a7⟩
    · rw [cC (19 + j) (by omega) (by omega) (by omega), cM (79 + j) (by omega) (by omega), shH_out hp (by omega)]
      exact ⟨a0, a1, a2, a3, a4, a5, a6, a7⟩
  · rw [cM _ (by omega) (by omega), ph1s_13 hp t0 t1 p hp, if_pos rfl]
    unfold shH
    rw [up1_s]
    unfold tbF
    omega
  · rw [cM _ (by omega) (by omega), ph1s_13 hp t0 t1 j hj, if_neg e]
    unfold shH
    rw [up1_n (by omega), up1_n (by omega), up1_n (by omega), up1_n (by omega), up1_n (by omega)]
    exact ⟨rfl, rfl⟩
/-- the doing that comes late, of both -/
theorem late_rel {deep T : Int} {c A late : Nat → Int} {p : Nat} {x : Int} (hp : p < 3) (t0 : 0 ≤ T) (t1 : T ≤ 4) (x0 : 0 ≤ x) (x8 : x ≤ 8) (h : Rmid deep c A) (hl : A (6 + p) = late p) (l0 : 0 ≤ late p) (l4 : late p ≤ 4) : lateM A p x = mirF (dgF (ph1s deep T p x c (13 + p)) (late p)) := by
  obtain ⟨a0, a1, a2, a3⟩ := h.2.2.2.1 p hp
  have b0 := a3 0 (by omega)
  have b1 := a3 1 (by omega)
  have b2 := a3 2 (by omega)
  have b3 := a3 3 (by omega)
  rw [Nat.add_zero] at b0
  rw [ph1s_13 hp t0 t1 p hp, if_pos rfl]
  unfold lateM
  rw [hl]
  congr 1
  unfold dgF tbF
  rcases (show late p = 0 ∨ late p = 1 ∨ late p = 2 ∨ late p = 3 ∨ late p = 4 by omega) with e | e | e | e | e
  · rw [if_pos e, if_pos e]
    omega
  · rw [if_neg (by omega), if_neg (by omega), if_pos e, e, show (54 + 4 * p + ((1 : Int).toNat - 1)) = 54 + 4 * p from rfl]
    omega
  · rw [if_neg (by omega), if_neg (by omega), if_neg (by omega), if_pos e, e, show (54 + 4 * p + ((2 : Int).toNat - 1)) = 54 + 4 * p + 1 from rfl]
    omega
  · rw [if_neg (by omega), if_neg (by omega), if_neg (by omega), if_neg (by omega), if_pos e, e, show (54 + 4 * p + ((3 : Int).toNat - 1)) = 54 + 4 * p + 2 from rfl]
    omega
  · rw [if_neg (by omega), if_neg (by omega), if_neg (by omega), if_neg (by omega), if_neg (by omega), e, show (54 + 4 * p + ((4 : Int).toNat - 1)) = 54 + 4 * p + 3 from rfl]
    omega
/-- the first half of a step -/
theorem ph1M_rel {deep T : Int} {late : Nat → Int} (d1 : deep ≤ 9) (t0 : 0 ≤ T) (t1 : T ≤ 4) {P : Nat} (hP3 : P ≤ 3) : ∀ (n p : Nat) (rest : Int) (c A L : Nat → Int), p + n = P → 0 ≤ rest → Rmid deep c A → (∀ j, j < P → A (6 + j) = late j ∧ 0 ≤ late j ∧ late j ≤ 4) → (∀ j, j < p → A (76 + j) = c (13 + j) % 16 ∧ L j = mirF (dgF (c (13 + j)) (late j))) → Rmid deep (ph1C deep T n p rest c) (ph1M deep T n p rest A L).1 ∧ ∀ j, j < P → (ph1M deep T n p rest A L).1 (76 + j) = ph1C deep T n p rest c (13 + j) % 16 ∧ (ph1M deep T n p rest A L).2 j = mirF (dgF (ph1C deep T n p rest c (13 + j)) (late j))
  | 0, p, rest, c, A, L, hp, hr, h, hl, hj => by
    unfold ph1C ph1M
    exact ⟨h, fun j q => hj j (by omega)⟩
  | n + 1, p, rest, c, A, L, hp, hr, h, hl, hj => by
    obtain ⟨r1, r2, r3⟩ := ph1_rel (deep := deep) (T := T) (p := p) (x := rest % 9) (by omega) d1 t0 t1 (by omega) (by omega) h
    unfold ph1C ph1M
    refine ph1M_rel d1 t0 t1 hP3 n (p + 1) (rest / 9) _ _ _ (by omega) (by omega) r1 (fun j q => by rw [ph1m_out (by omega) t0 t1 (by omega)]; exact hl j q) (fun j q => ?_)
    by_cases e : j = p
    · subst e
      rw [up1_s]
      exact ⟨r2, late_rel (by omega) t0 t1 (by omega) (by omega) h (hl j (by omega)).1 (hl j (by omega)).2.1 (hl j (by omega)).2.2⟩
    · obtain ⟨s1, s2⟩ := r3 j (by omega) e
      rw [s1, s2, up1_n e]
      exact hj j (by omega)
