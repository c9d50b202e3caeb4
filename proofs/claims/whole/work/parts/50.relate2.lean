/-! the second half of a step of both; what passes -/
theorem ph2_rel {ar wh fr to does code late : Nat → Int} {c A : Nat → Int} {p : Nat} {l : Int} (hp : p < 3) (d1 : ar 0 ≤ 9) (t0 : 0 ≤ ar 2) (t1 : ar 2 ≤ 4) (ha : arOK ar wh fr to does code) (hT : A 3 = ar 2) (hl : l = mirF (dgF (c (13 + p)) (late p))) (l0 : 0 ≤ l) (l8 : l ≤ 8) (h : Rmid (ar 0) c A) : Rmid (ar 0) (ph2s ar wh fr to does code late p c) (ph2m ar wh fr to does code p l A) ∧ ph2m ar wh fr to does code p l A (82 + p) = ph2s ar wh fr to does code late p c (16 + p) ∧ (∀ j, j < 3 → j ≠ p → ph2m ar wh fr to does code p l A (82 + j) = A (82 + j) ∧ ph2s ar wh fr to does code late p c (16 + j) = c (16 + j)) ∧ ph2k (ar 0) (ar 2) p l (ph2x ar wh fr to does code p l A) A = ph2s ar wh fr to does code late p c (22 + p) := by
  obtain ⟨h1, h2, h3, h4, h5⟩ := h
  have hb := h3 p hp
  let fa := up1 c (10 + p) (boF (c (10 + p)) l)
  have hfa : fa = up1 c (10 + p) (boF (c (10 + p)) l) := rfl
  have fao : ∀ k, k ≠ 10 + p → fa k = c k := fun k hk => up1_n hk
  have fab : fa (10 + p) = boF (c (10 + p)) l := up1_s
  have bo : ∀ k, k ≠ 47 + p → ph2b p l A k = A k := fun k hk => up1_n hk
  have bb : ph2b p l A (47 + p) = boF (c (10 + p)) l := by
    unfold ph2b
    rw [up1_s, hb.1]
  have ept : ∀ t, t < 4 → ph2b p l A (50 + t) = fa (6 + t) := fun t ht => by
    rw [bo _ (by omega), fao _ (by omega)]
    exact (h2 t ht).1
  have ex : ph2x ar wh fr to does code p l A = choC ar wh fr to does code fa p l (fa p) (fa (10 + p)) := by
    unfold ph2x choC nmM
    rw [bb, fab, bo 3 (by omega), hT, bo (44 + p) (by omega), bo (41 + p) (by omega), fao (3 + p) (by omega), fao p (by omega), (h1 p (by omega)).1, show 44 + p = 41 + (3 + p) by omega, (h1 (3 + p) (by omega)).1]
    have eh : ∀ hh, hoF (ar 2) (fun k => ph2b p l A (50 + k)) (3 + p) hh = hoF (ar 2) (fun k => fa (6 + k)) (3 + p) hh := fun hh => by
      unfold hoF
      rw [thT_eq t1 ept]
    rw [eh, eh]
  have hx := choC_rng (c := fa) (p := p) (mine := fa p) (bored := fa (10 + p)) ha l0 l8
  have hs : ph2s ar wh fr to does code late p c = up1 (actC (ar 0) (ar 2) (up1 fa (16 + p) (choC ar wh fr to does code fa p l (fa p) (fa (10 + p)))) (3 + p) (choC ar wh fr to does code fa p l (fa p) (fa (10 + p)))) (22 + p) (canI (ar 0) (ar 2) (up1 fa (16 + p) (choC ar wh fr to does code fa p l (fa p) (fa (10 + p)))) (fun k => up1 fa (16 + p) (choC ar wh fr to does code fa p l (fa p) (fa (10 + p))) (6 + k)) (3 + p) (choC ar wh fr to does code fa p l (fa p) (fa (10 + p)))) := by
    unfold ph2s
    simp only [← hl, ← hfa]
  have hm : ph2m ar wh fr to does code p l A = ph2e (ar 0) (ar 2) p l (ph2x ar wh fr to does code p l A) A := rfl
  rw [hs, hm, ex]
  generalize choC ar wh fr to does code fa p l (fa p) (fa (10 + p)) = x at *
  have hA := act_rel (deep := ar 0) (T := ar 2) (f := up1 fa (16 + p) x) (g := ph2d p l x A) (w := 3 + p) (x := x) (by omega) t0 t1 (fun k hk => by rw [ph2d_out hp (by omega), up1_n (by omega), fao _ (by omega)]; exact (h1 k hk).1) (fun t ht => by rw [ph2d_out hp (by omega), up1_n (by omega), fao _ (by omega)]; exact (h2 t ht).1)
  have hc := actC_cell (deep := ar 0) (T := ar 2) (f := up1 fa (16 + p) x) (w := 3 + p) (x := x) (by omega) (fun k hk => by rw [up1_n (by omega), fao _ (by omega)]; exact (h1 k hk).2)
  have hpl := act_place (deep := ar 0) (T := ar 2) (f := up1 fa (16 + p) x) (w := 3 + p) (x := x) (by omega) d1 (fun k hk => by rw [up1_n (by omega), fao _ (by omega)]; exact (h1 k hk).2) (fun t ht => by rw [up1_n (by omega), fao _ (by omega)]; exact (h2 t ht).2)
  have ek : ph2k (ar 0) (ar 2) p l x A = canI (ar 0) (ar 2) (up1 fa (16 + p) x) (fun k => up1 fa (16 + p) x (6 + k)) (3 + p) x := hA.1
  have k01 := canI_01 (ar 0) (ar 2) (up1 fa (16 + p) x) (fun k => up1 fa (16 + p) x (6 + k)) (3 + p) x
  unfold ph2e
  rw [ek]
  generalize canI (ar 0) (ar 2) (up1 fa (16 + p) x) (fun k => up1 fa (16 + p) x (6 + k)) (3 + p) x = y at *
  have cC : ∀ k, 10 ≤ k → k ≠ 22 + p → up1 (actC (ar 0) (ar 2) (up1 fa (16 + p) x) (3 + p) x) (22 + p) y k = up1 fa (16 + p) x k := fun k hk e2 => by
    rw [up1_n e2, actC_out (by omega) t0 t1 hk]
  have cM : ∀ k, (54 ≤ k ∨ (47 ≤ k ∧ k < 50)) → k ≠ 85 + p → up1 (actM (ar 0) (ar 2) (ph2d p l x A) (3 + p) x) (85 + p) y k = ph2d p l x A k := fun k hk e2 => by
    rw [up1_n e2, actM_out (by omega) t0 t1 (by omega)]
  refine ⟨⟨fun k hk => ?_, fun t ht => ?_, fun j hj => ?_, fun j hj => ?_, fun j hj => ?_⟩, ?_, fun j hj e => ?_, ?_⟩
  · rw [up1_n (by omega), up1_n (by omega)]
    exact ⟨hA.2.1 k hk, hc k hk⟩
  · rw [up1_n (by omega), up1_n (by omega)]
    exact ⟨hA.2.2 t ht, hpl t ht⟩
  · rw [cC _ (by omega) (by omega), cM _ (by omega) (by omega), up1_n (by omega)]
    unfold ph2d
    rw [up1_n (by omega)]
    by_cases e : j = p
    · subst e
      rw [bb, fab]
      exact ⟨rfl, boF_rng hb.2.1 hb.2.2⟩
    · rw [bo _ (by omega), fao _ (by omega)]
      exact h3 j hj
  · have q : ∀ k, k < 4 → up1 (actM (ar 0) (ar 2) (ph2d p l x A) (3 + p) x) (85 + p) y (54 + 4 * j + k) = A (54 + 4 * j + k) := fun k hk => by
      rw [cM _ (by omega) (by omega), ph2d_out hp (by omega)]
    have q0 := q 0 (by omega)
    rw [Nat.add_zero] at q0
    rw [cC _ (by omega) (by omega), up1_n (by omega), fao _ (by omega), q0, q 1 (by omega), q 2 (by omega), q 3 (by omega)]
    obtain ⟨a0, a1, a2, a3⟩ := h4 j hj
    exact ⟨a0, a1, a2, fun k hk => by rw [q k hk]; exact a3 k hk⟩
  · obtain ⟨a0, a1, a2, a3, a4, a5, a6, a7⟩ := h5 j hj
    rw [cC (16 + j) (by omega) (by omega), cC (19 + j) (by omega) (by omega), up1_n (show 19 + j ≠ 16 + p by omega), fao (19 + j) (by omega), cM (79 + j) (by omega) (by omega), ph2d_out hp (by omega)]
    by_cases e : j = p
    · subst e
      rw [up1_s, up1_s, up1_s]
      exact ⟨hx.1, hx.2, a2, rfl, a4, a5, by omega, by omega⟩
    · rw [up1_n (show 16 + j ≠ 16 + p by omega), fao (16 + j) (by omega), cC (22 + j) (by omega) (by omega), up1_n (show 22 + j ≠ 16 + p by omega), fao (22 + j) (by omega), cM (85 + j) (by omega) (by omega), ph2d_out hp (by omega)]
      exact ⟨a0, a1, a2, a3, a4, a5, a6, a7⟩
  · rw [cC _ (by omega) (by omega), cM _ (by omega) (by omega), up1_s]
    unfold ph2d
    rw [up1_s]
  · rw [cC _ (by omega) (by omega), cM _ (by omega) (by omega), up1_n (by omega), fao _ (by omega)]
    unfold ph2d
    rw [up1_n (by omega), bo _ (by omega)]
    exact ⟨rfl, rfl⟩
  · rw [up1_s]
/-- how many copies could not do it -/
def cnF (f : Nat → Int) : Nat → Nat → Int
  | 0, _ => 0
  | n + 1, p => (1 - f (22 + p)) + cnF f n (p + 1)
theorem cnF_eq {f g : Nat → Int} : ∀ (n p : Nat), (∀ k, p ≤ k → k < p + n → f (22 + k) = g (22 + k)) → cnF f n p = cnF g n p
  | 0, _, _ => rfl
  | n + 1, p, h => by
    unfold cnF
    rw [h p (Nat.le_refl _) (by omega), cnF_eq n (p + 1) (fun k h1 h2 => h k (by omega) (by omega))]
theorem ph2s_out {ar wh fr to does code late : Nat → Int} {p : Nat} {f : Nat → Int} (hp : p < 3) (t0 : 0 ≤ ar 2) (t1 : ar 2 ≤ 4) {k : Nat} (hk : 10 ≤ k) (e1 : k ≠ 10 + p) (e2 : k ≠ 16 + p) (e3 : k ≠ 22 + p) : ph2s ar wh fr to does code late p f k = f k := by
  unfold ph2s
  rw [up1_n e3, actC_out (by omega) t0 t1 hk, up1_n e2, up1_n e1]
theorem ph2C_22 {ar wh fr to does code late : Nat → Int} (t0 : 0 ≤ ar 2) (t1 : ar 2 ≤ 4) : ∀ (n p : Nat) (f : Nat → Int), p + n ≤ 3 → ∀ j, j < p → ph2C ar wh fr to does code late n p f (22 + j) = f (22 + j) ∧ ph2C ar wh fr to does code late n p f (16 + j) = f (16 + j)
  | 0, _, _, _, _, _ => ⟨rfl, rfl⟩
  | n + 1, p, f, hp, j, hj => by
    unfold ph2C
    obtain ⟨q1, q2⟩ := ph2C_22 t0 t1 n (p + 1) (ph2s ar wh fr to does code late p f) (by omega) j (by omega)
    rw [q1, q2, ph2s_out (by omega) t0 t1 (by omega) (by omega) (by omega) (by omega), ph2s_out (by omega) t0 t1 (by omega) (by omega) (by omega) (by omega)]
    exact ⟨rfl, rfl⟩
theorem ph2C_13 {ar wh fr to does code late : Nat → Int} (t0 : 0 ≤ ar 2) (t1 : ar 2 ≤ 4) : ∀ (n p : Nat) (f : Nat → Int), p + n ≤ 3 → ∀ j, j < 3 → ph2C ar wh fr to does code late n p f (13 + j) = f (13 + j)
  | 0, _, _, _, _, _ => rfl
  | n + 1, p, f, hp, j, hj => by
    unfold ph2C
    rw [ph2C_13 t0 t1 n (p + 1) _ (by omega) j hj, ph2s_13 (by omega) t0 t1 j hj]
theorem ph2M_out {ar wh fr to does code L : Nat → Int} (t0 : 0 ≤ ar 2) (t1 : ar 2 ≤ 4) {k : Nat} (hk : k < 41 ∨ (54 ≤ k ∧ k < 82) ∨ 88 ≤ k) : ∀ (n p : Nat) (f : Nat → Int), p + n ≤ 3 → ph2M ar wh fr to does code L n p f k = f k
  | 0, _, _, _ => rfl
  | n + 1, p, f, hp => by
    unfold ph2M
    rw [ph2M_out t0 t1 hk n (p + 1) _ (by omega), ph2m_out (by omega) t0 t1 hk]
theorem ph2M_rel {ar wh fr to does code late L : Nat → Int} (d1 : ar 0 ≤ 9) (t0 : 0 ≤ ar 2) (t1 : ar 2 ≤ 4) (ha : arOK ar wh fr to does code) {P : Nat} (hP3 : P ≤ 3) : ∀ (n p : Nat) (c A : Nat → Int) (k : Int), p + n = P → Rmid (ar 0) c A → A 3 = ar 2 → (∀ j, j < P → L j = mirF (dgF (c (13 + j)) (late j)) ∧ 0 ≤ L j ∧ L j ≤ 8) → (∀ j, j < p → A (82 + j) = c (16 + j)) → Rmid (ar 0) (ph2C ar wh fr to does code late n p c) (ph2M ar wh fr to does code L n p A) ∧ (∀ j, j < P → ph2M ar wh fr to does code L n p A (82 + j) = ph2C ar wh fr to does code late n p c (16 + j)) ∧ ph2N ar wh fr to does code L n p A k = k + cnF (ph2C ar wh fr to does code late n p c) n p
  | 0, p, c, A, k, hp, h, hT, hl, hj => by
    unfold ph2C ph2M ph2N cnF
    exact ⟨h, fun j q => hj j (by omega), by omega⟩
  | n + 1, p, c, A, k, hp, h, hT, hl, hj => by
    obtain ⟨e1, e2, e3⟩ := hl p (by omega)
    obtain ⟨r1, r2, r3, r4⟩ := ph2_rel (late := late) (p := p) (l := L p) (by omega) d1 t0 t1 ha hT e1 e2 e3 h
    unfold ph2C ph2M ph2N cnF
    obtain ⟨q1, q2, q3⟩ := ph2M_rel (late := late) (L := L) d1 t0 t1 ha hP3 n (p + 1) _ _ (k + (1 - ph2k (ar 0) (ar 2) p (L p) (ph2x ar wh fr to does code p (L p) A) A)) (by omega) r1 (by rw [ph2m_out (by omega) t0 t1 (by omega)]; exact hT) (fun j q => by rw [ph2s_13 (by omega) t0 t1 j (by omega)]; exact hl j q) (fun j q => by
      by_cases e : j = p
      · subst e
        exact r2
      · obtain ⟨s1, s2⟩ := r3 j (by omega) e
        rw [s1, s2]
        exact hj j (by omega))
    refine ⟨q1, q2, ?_⟩
    rw [q3, (ph2C_22 t0 t1 n (p + 1) _ (by omega) p (by omega)).1, r4]
    omega
theorem pwF_congr {T : Int} {pl did so pl' did' so' : Nat → Int} {hand ans busy : Int} (t1 : T ≤ 4) (hp : ∀ t, t < 4 → pl t = pl' t) : ∀ (n c : Nat), (∀ k, k < c + n → did k = did' k ∧ so k = so' k) → pwF T pl did so hand ans busy n c = pwF T pl' did' so' hand ans busy n c
  | 0, _, _ => rfl
  | n + 1, c, h => by
    unfold pwF
    rw [(h c (by omega)).1, (h c (by omega)).2, thT_eq t1 hp, thT_eq t1 hp, pwF_congr t1 hp n (c + 1) (fun k hk => h k (by omega))]
/-- what passing needs, and keeps -/
def Rpa (P : Nat) (c A : Nat → Int) : Prop := (∀ t, t < 4 → A (50 + t) = c (6 + t) ∧ 0 ≤ c (6 + t) ∧ c (6 + t) ≤ 35) ∧ (∀ j, j < P → A (76 + j) = c (13 + j) % 16 ∧ A (79 + j) = c (19 + j) ∧ A (82 + j) = c (16 + j) ∧ A (85 + j) = c (22 + j) ∧ 0 ≤ A (76 + j) ∧ A (76 + j) ≤ 8)
theorem pa_rel {T : Int} {P : Nat} (t0 : 0 ≤ T) (t1 : T ≤ 4) (hP3 : P ≤ 3) : ∀ (n p : Nat) (busy : Int) (k : Nat) (c A : Nat → Int), p + n = P → Rpa P c A → ((paM T P n p busy k A).1 : Int) = (paC T P n p busy k c).1 ∧ Rpa P (paC T P n p busy k c).2 (paM T P n p busy k A).2 ∧ (∀ j, j < 6 ∨ 10 ≤ j → (paC T P n p busy k c).2 j = c j) ∧ (∀ j, j < 50 ∨ 54 ≤ j → (paM T P n p busy k A).2 j = A j)
  | 0, p, busy, k, c, A, hp, h => by
    unfold paM paC
    exact ⟨rfl, h, fun _ _ => rfl, fun _ _ => rfl⟩
  | n + 1, p, busy, k, c, A, hp, h => by
    obtain ⟨h1, h2⟩ := h
    obtain ⟨e1, e2, e3, e4, e5, e6⟩ := h2 p (by omega)
    unfold paM paC
    rw [e1, e2]
    rw [e1] at e5 e6
    by_cases c1 : 7 ≤ c (13 + p) % 16 ∧ c (19 + p) = 1
    · rw [if_pos c1, if_pos c1]
      have ea : 8 - (c (13 + p) % 16 - 7) = mirF (c (13 + p) % 16) := by
        rcases (show c (13 + p) % 16 = 7 ∨ c (13 + p) % 16 = 8 by omega) with q | q <;> rw [q] <;> decide
      have em : 7 ≤ mirF (c (13 + p) % 16) ∧ mirF (c (13 + p) % 16) ≤ 8 := by
        rcases (show c (13 + p) % 16 = 7 ∨ c (13 + p) % 16 = 8 by omega) with q | q <;> rw [q] <;> decide
      rw [ea, pwF_congr (pl' := fun j => c (6 + j)) (did' := fun j => c (16 + j)) (so' := fun j => c (22 + j)) t1 (fun t ht => (h1 t ht).1) P 0 (fun k hk => ⟨(h2 k (by omega)).2.2.1, (h2 k (by omega)).2.2.2.1⟩)]
      cases hr : pwF T (fun j => c (6 + j)) (fun j => c (16 + j)) (fun j => c (22 + j)) (hpF p (c (13 + p) % 16 - 7)) (mirF (c (13 + p) % 16)) busy P 0 with
      | none => exact pa_rel t0 t1 hP3 n (p + 1) busy k c A (by omega) ⟨h1, h2⟩
      | some v =>
        obtain ⟨w, t, z⟩ := v
        obtain ⟨r1, r2, r3, r4, r5⟩ := pwF_rng t0 hr
        have hz : 0 ≤ z ∧ z ≤ 35 := by
          rcases r5 with rfl | rfl
          · exact hpF_rng (by omega) (by omega) (by omega)
          · exact hpF_rng (by omega) (by omega) (by omega)
        obtain ⟨q1, q2, q3, q4⟩ := pa_rel t0 t1 hP3 n (p + 1) (busy + pw2 w) (k + 1) (up1 c (6 + t) z) (up1 A (50 + t) z) (by omega) ⟨fun t' ht' => by
          by_cases e : t' = t
          · subst e
            rw [up1_s, up1_s]
            exact ⟨rfl, hz⟩
          · rw [up1_n (by omega), up1_n (by omega)]
            exact h1 t' ht', fun j hj => by
          rw [up1_n (by omega), up1_n (by omega), up1_n (by omega), up1_n (by omega), up1_n (by omega), up1_n (by omega), up1_n (by omega), up1_n (by omega)]
          exact h2 j hj⟩
        refine ⟨q1, q2, fun j hj => ?_, fun j hj => ?_⟩
        · show (paC T P n (p + 1) (busy + pw2 w) ((k + 1 : Nat) : Int) (up1 c (6 + t) z)).2 j = c j
          rw [q3 j hj, up1_n (by omega)]
        · show (paM T P n (p + 1) (busy + pw2 w) (k + 1) (up1 A (50 + t) z)).2 j = A j
          rw [q4 j hj, up1_n (by omega)]
    · rw [if_neg c1, if_neg c1]
      exact pa_rel t0 t1 hP3 n (p + 1) busy k c A (by omega) ⟨h1, h2⟩
