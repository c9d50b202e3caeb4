/-! what a copy would do: nobody else's doing touches it -/
theorem thF_iff {f g : Nat → Int} {z : Int} : ∀ (n t : Nat), (∀ k, t ≤ k → k < t + n → (f k = z ↔ g k = z)) → thF f z t n = thF g z t n
  | 0, _, _ => rfl
  | n + 1, t, h => by
    unfold thF
    rw [thF_iff n (t + 1) (fun k h1 h2 => h k (by omega) (by omega))]
    have q := h t (Nat.le_refl _) (by omega)
    by_cases c : f t = z
    · rw [if_pos c, if_pos (q.mp c)]
    · rw [if_neg c, if_neg (fun e => c (q.mpr e))]
theorem thT_at {T : Int} {pl : Nat → Int} {z : Int} (t0 : 0 ≤ T) (h : thT T pl z ≠ -1) : pl (thT T pl z).toNat = z := by
  unfold thT at h ⊢
  rcases thF_rng pl z T.toNat 0 with e | ⟨k, h1, h2, h3, h4⟩
  · exact absurd e h
  · rw [h3]
    exact h4
theorem thT_up {T : Int} {pl : Nat → Int} {z y : Int} {j : Nat} (h1 : pl j ≠ z) (h2 : y ≠ z) : thT T (up1 pl j y) z = thT T pl z := by
  refine thF_iff _ _ (fun k _ _ => ?_)
  by_cases e : k = j
  · subst e
    rw [up1_s]
    exact ⟨fun q => absurd q h2, fun q => absurd q h1⟩
  · rw [up1_n e]
theorem up1_sh {f : Nat → Int} {j : Nat} {y : Int} : (fun k => up1 f (6 + j) y (6 + k)) = up1 (fun k => f (6 + k)) j y := by
  funext k
  by_cases e : k = j
  · subst e
    rw [up1_s, up1_s]
  · rw [up1_n (by omega), up1_n e]
theorem hpF_ne {w p : Nat} {h h' : Int} (hw : w < 6) (hp : p < 3) (hne : w ≠ 3 + p) (a0 : 0 ≤ h) (a1 : h ≤ 1) (b0 : 0 ≤ h') (b1 : h' ≤ 1) : hpF w h' ≠ hpF (3 + p) h := by
  unfold hpF
  rw [if_neg (show ¬ 3 + p < 3 by omega)]
  split <;> omega
theorem thT_eq0 {T : Int} {f g : Nat → Int} {z : Int} (h : ∀ t, f t = g t) : thT T f z = thT T g z := by
  rw [show f = g from funext h]
theorem paC_out {T : Int} {P : Nat} (t0 : 0 ≤ T) (t1 : T ≤ 4) {k : Nat} (hk : k < 6 ∨ 10 ≤ k) : ∀ (n p : Nat) (busy kk : Int) (f : Nat → Int), (paC T P n p busy kk f).2 k = f k
  | 0, _, _, _, _ => rfl
  | n + 1, p, busy, kk, f => by
    unfold paC
    split
    · cases hr : pwF T (fun j => f (6 + j)) (fun j => f (16 + j)) (fun j => f (22 + j)) (hpF p (f (13 + p) % 16 - 7)) (mirF (f (13 + p) % 16)) busy P 0 with
      | none => exact paC_out t0 t1 hk n (p + 1) busy kk f
      | some v =>
        obtain ⟨c, t, z⟩ := v
        obtain ⟨r1, r2, r3, r4, r5⟩ := pwF_rng t0 hr
        have q := paC_out (T := T) (P := P) t0 t1 hk n (p + 1) (busy + pw2 c) (kk + 1) (up1 f (6 + t) z)
        show (paC T P n (p + 1) (busy + pw2 c) (kk + 1) (up1 f (6 + t) z)).2 k = f k
        rw [q, up1_n (by omega)]
    · exact paC_out t0 t1 hk n (p + 1) busy kk f
theorem act_ho {deep T : Int} {f : Nat → Int} {w p : Nat} {x h : Int} (hw : w < 6) (hp : p < 3) (hne : w ≠ 3 + p) (h0 : 0 ≤ h) (h1 : h ≤ 1) (t0 : 0 ≤ T) (x0 : 0 ≤ x) (x8 : x ≤ 8) (c0 : 0 ≤ f w) (c1 : f w ≤ 9) : thT T (fun k => actC deep T f w x (6 + k)) (hpF (3 + p) h) = thT T (fun k => f (6 + k)) (hpF (3 + p) h) := by
  have hz : 30 ≤ hpF (3 + p) h := by
    unfold hpF
    rw [if_neg (by omega)]
    omega
  have hg : gdF f w ≠ hpF (3 + p) h := by
    have : gdF f w ≤ 19 := by
      unfold gdF
      split <;> omega
    omega
  unfold actC
  by_cases e0 : canI deep T f (fun k => f (6 + k)) w x = 0
  · simp only [if_pos e0]
  · simp only [if_neg e0]
    rcases do9 x0 x8 with rfl | rfl | rfl | rfl | rfl | rfl | rfl | rfl | rfl
    · rfl
    · exact thT_eq0 (fun k => up1_n (by omega))
    · exact thT_eq0 (fun k => up1_n (by omega))
    · have q : thT T (fun k => f (6 + k)) (gdF f w) ≠ -1 := by
        unfold canI at e0
        simp at e0
        exact e0.2
      have a := thT_at t0 q
      show thT T (fun k => up1 f (6 + (thT T (fun k => f (6 + k)) (gdF f w)).toNat) (hpF w (3 - 3)) (6 + k)) _ = _
      rw [up1_sh, thT_up (by rw [a]; exact hg) (hpF_ne hw hp hne h0 h1 (by omega) (by omega))]
    · have q : thT T (fun k => f (6 + k)) (gdF f w) ≠ -1 := by
        unfold canI at e0
        simp at e0
        exact e0.2
      have a := thT_at t0 q
      show thT T (fun k => up1 f (6 + (thT T (fun k => f (6 + k)) (gdF f w)).toNat) (hpF w (4 - 3)) (6 + k)) _ = _
      rw [up1_sh, thT_up (by rw [a]; exact hg) (hpF_ne hw hp hne h0 h1 (by omega) (by omega))]
    · have q : thT T (fun k => f (6 + k)) (hpF w (5 - 5)) ≠ -1 := by
        unfold canI at e0
        simp at e0
        exact e0
      have a := thT_at t0 q
      show thT T (fun k => up1 f (6 + (thT T (fun k => f (6 + k)) (hpF w (5 - 5))).toNat) (gdF f w) (6 + k)) _ = _
      rw [up1_sh, thT_up (by rw [a]; exact hpF_ne hw hp hne h0 h1 (by omega) (by omega)) hg]
    · have q : thT T (fun k => f (6 + k)) (hpF w (6 - 5)) ≠ -1 := by
        unfold canI at e0
        simp at e0
        exact e0
      have a := thT_at t0 q
      show thT T (fun k => up1 f (6 + (thT T (fun k => f (6 + k)) (hpF w (6 - 5))).toNat) (gdF f w) (6 + k)) _ = _
      rw [up1_sh, thT_up (by rw [a]; exact hpF_ne hw hp hne h0 h1 (by omega) (by omega)) hg]
    · rfl
    · rfl
theorem act_mv {deep T : Int} {f : Nat → Int} {w : Nat} {x : Int} (hw : w < 6) (x0 : 0 ≤ x) (x8 : x ≤ 8) : actC deep T f w x w = mvF deep (f w) x := by
  unfold actC mvF
  rcases do9 x0 x8 with rfl | rfl | rfl | rfl | rfl | rfl | rfl | rfl | rfl
  · simp
  · by_cases c : 0 < f w
    · have e : canI deep T f (fun k => f (6 + k)) w 1 = 1 := by unfold canI; simp [c]
      rw [e]
      simp [c, up1_s]
    · have e : canI deep T f (fun k => f (6 + k)) w 1 = 0 := by unfold canI; simp [c]
      rw [e]
      simp [c]
  · by_cases c : f w < deep - 1
    · have e : canI deep T f (fun k => f (6 + k)) w 2 = 1 := by unfold canI; simp [c]
      rw [e]
      simp [c, up1_s]
    · have e : canI deep T f (fun k => f (6 + k)) w 2 = 0 := by unfold canI; simp [c]
      rw [e]
      simp [c]
  all_goals
    rw [if_neg (show ¬ (_ ∧ 0 < f w) by rintro ⟨q, -⟩; exact absurd q (by decide)), if_neg (show ¬ (_ ∧ f w < deep - 1) by rintro ⟨q, -⟩; exact absurd q (by decide))]
    (repeat' split) <;> first | rfl | (rw [up1_n (by omega)]) | (exfalso; omega)
theorem act_oc {deep T : Int} {f : Nat → Int} {w k : Nat} {x : Int} (hk : k < 6) (hne : k ≠ w) : actC deep T f w x k = f k := by
  unfold actC
  (repeat' split) <;> first | rfl | rw [up1_n (by omega)]
/-- what a copy's rules look at is the same -/
def Spc (T : Int) (p : Nat) (c f : Nat → Int) : Prop := f (3 + p) = c (3 + p) ∧ (∀ h, 0 ≤ h → h ≤ 1 → thT T (fun k => f (6 + k)) (hpF (3 + p) h) = thT T (fun k => c (6 + k)) (hpF (3 + p) h)) ∧ f (10 + p) = c (10 + p)
theorem ph1_spc {deep T : Int} {p q : Nat} {x : Int} {c f : Nat → Int} (hp : p < 3) (hq : q < 3) (d1 : deep ≤ 9) (t0 : 0 ≤ T) (t1 : T ≤ 4) (x0 : 0 ≤ x) (x8 : x ≤ 8) (hr : rowI deep f) (h : Spc T p c f) : Spc T p c (ph1s deep T q x f) ∧ (ph1s deep T q x f p = if q = p then mvF deep (f p) x else f p) := by
  obtain ⟨s1, s2, s3⟩ := h
  have hc := hr.1 q (by omega)
  have u : ∀ k, k < 13 → up1 f (13 + q) (tbF (f (13 + q)) x) k = f k := fun k hk => up1_n (by omega)
  have upl : (fun k => up1 f (13 + q) (tbF (f (13 + q)) x) (6 + k)) = (fun k => up1 f (13 + q) (tbF (f (13 + q)) x) (6 + k)) := rfl
  refine ⟨⟨?_, fun h h0 h1 => ?_, ?_⟩, ?_⟩
  · unfold ph1s
    rw [up1_n (by omega), act_oc (by omega) (by omega), u _ (by omega)]
    exact s1
  · have e : (fun k => ph1s deep T q x f (6 + k)) = (fun k => up1 (actC deep T (up1 f (13 + q) (tbF (f (13 + q)) x)) q x) (19 + q) (canI deep T (up1 f (13 + q) (tbF (f (13 + q)) x)) (fun k => up1 f (13 + q) (tbF (f (13 + q)) x) (6 + k)) q x) (6 + k)) := rfl
    rw [e, thT_eq t1 (g := fun k => actC deep T (up1 f (13 + q) (tbF (f (13 + q)) x)) q x (6 + k)) (fun t ht => up1_n (by omega)), act_ho (by omega) hp (by omega) h0 h1 t0 x0 x8 (by rw [u _ (by omega)]; omega) (by rw [u _ (by omega)]; omega), thT_eq t1 (g := fun k => f (6 + k)) (fun t ht => u _ (by omega))]
    exact s2 h h0 h1
  · unfold ph1s
    rw [up1_n (by omega), actC_out (by omega) t0 t1 (by omega), u _ (by omega)]
    exact s3
  · unfold ph1s
    rw [up1_n (by omega)]
    by_cases e : q = p
    · subst e
      rw [if_pos rfl, act_mv (by omega) x0 x8, u _ (by omega)]
    · rw [if_neg e, act_oc (by omega) (by omega), u _ (by omega)]
theorem ninS {k : Nat} (h : k < 3) : nin (k + 1) = 9 * nin k := by
  rcases do3 h with rfl | rfl | rfl <;> rfl
theorem mvF_0 {deep c : Int} : mvF deep c 0 = c := by
  unfold mvF
  simp
theorem ph1C_spc {deep T : Int} {p : Nat} {x : Int} {c : Nat → Int} (hp : p < 3) (d1 : deep ≤ 9) (t0 : 0 ≤ T) (t1 : T ≤ 4) (x0 : 0 ≤ x) (x8 : x ≤ 8) : ∀ (n q : Nat) (rest : Int) (f : Nat → Int), q + n ≤ 3 → rowI deep f → Spc T p c f → (q ≤ p → rest = x * nin (p - q)) → (p < q → rest = 0) → Spc T p c (ph1C deep T n q rest f) ∧ (ph1C deep T n q rest f p = if q ≤ p ∧ p < q + n then mvF deep (f p) x else f p) ∧ (ph1C deep T n q rest f (13 + p) = if q ≤ p ∧ p < q + n then tbF (f (13 + p)) x else f (13 + p))
  | 0, q, rest, f, hq, hr, h, r1, r2 => by
    unfold ph1C
    rw [if_neg (by omega), if_neg (by omega)]
    exact ⟨h, rfl, rfl⟩
  | n + 1, q, rest, f, hq, hr, h, r1, r2 => by
    have key : ∃ y, rest % 9 = y ∧ 0 ≤ y ∧ y ≤ 8 ∧ (q = p → y = x) ∧ (q + 1 ≤ p → rest / 9 = x * nin (p - (q + 1))) ∧ (p < q + 1 → rest / 9 = 0) := by
      by_cases e : q ≤ p
      · have r := r1 e
        by_cases e2 : q = p
        · subst e2
          rw [Nat.sub_self, show nin 0 = 1 from rfl] at r
          exact ⟨x, by omega, x0, x8, fun _ => rfl, fun z => absurd z (by omega), fun _ => by omega⟩
        · have r3 : rest = 9 * (x * nin (p - (q + 1))) := by
            rw [r, show p - q = p - (q + 1) + 1 by omega, ninS (by omega)]
            rw [Int.mul_left_comm]
          exact ⟨0, by omega, by omega, by omega, fun z => absurd z e2, fun _ => by omega, fun z => absurd z (by omega)⟩
      · have r := r2 (by omega)
        exact ⟨0, by omega, by omega, by omega, fun z => absurd z (by omega), fun z => absurd z (by omega), fun _ => by omega⟩
    obtain ⟨y, y1, y2, y3, y4, y5, y6⟩ := key
    unfold ph1C
    rw [y1]
    obtain ⟨a1, a2⟩ := ph1_spc (p := p) (q := q) (x := y) hp (by omega) d1 t0 t1 y2 y3 hr h
    obtain ⟨b1, b2, b3⟩ := ph1C_spc hp d1 t0 t1 x0 x8 n (q + 1) (rest / 9) (ph1s deep T q y f) (by omega) (ph1s_row (by omega) t0 t1 y2 y3 hr) a1 y5 y6
    refine ⟨b1, ?_, ?_⟩
    · rw [b2, a2]
      by_cases e : q = p
      · rw [if_neg (by omega), if_pos e, if_pos (by omega), y4 e]
      · rw [if_neg e]
        by_cases e3 : q + 1 ≤ p ∧ p < q + 1 + n
        · rw [if_pos e3, if_pos (by omega)]
        · rw [if_neg e3, if_neg (by omega)]
    · rw [b3, ph1s_13 (by omega) t0 t1 p hp]
      by_cases e : q = p
      · rw [if_neg (by omega), if_pos e.symm, if_pos (by omega), y4 e, e]
      · rw [if_neg (show ¬ p = q from fun z => e z.symm)]
        by_cases e3 : q + 1 ≤ p ∧ p < q + 1 + n
        · rw [if_pos e3, if_pos (by omega)]
        · rw [if_neg e3, if_neg (by omega)]
/-- what a copy would do, by the row ahead of the step -/
def copF (ar wh fr to does code late c : Nat → Int) (p : Nat) (x : Int) : Int := choC ar wh fr to does code c p (mirF (dgF (tbF (c (13 + p)) x) (late p))) (mvF (ar 0) (c p) x) (boF (c (10 + p)) (mirF (dgF (tbF (c (13 + p)) x) (late p))))
theorem choC_spc {ar wh fr to does code c f : Nat → Int} {p : Nat} {l m b : Int} (h1 : f (3 + p) = c (3 + p)) (h2 : ∀ h, 0 ≤ h → h ≤ 1 → thT (ar 2) (fun k => f (6 + k)) (hpF (3 + p) h) = thT (ar 2) (fun k => c (6 + k)) (hpF (3 + p) h)) : choC ar wh fr to does code f p l m b = choC ar wh fr to does code c p l m b := by
  unfold choC hoF
  rw [h1, h2 0 (by omega) (by omega), h2 1 (by omega) (by omega)]
theorem ph2_spc {ar wh fr to does code late c f : Nat → Int} {p q : Nat} (hp : p < 3) (hq : q < 3) (hne : q ≠ p) (d1 : ar 0 ≤ 9) (t0 : 0 ≤ ar 2) (t1 : ar 2 ≤ 4) (ha : arOK ar wh fr to does code) (hr : rowI (ar 0) f) (ht : td5 (f (13 + q))) (h : Spc (ar 2) p c f) : Spc (ar 2) p c (ph2s ar wh fr to does code late q f) ∧ ph2s ar wh fr to does code late q f p = f p := by
  obtain ⟨s1, s2, s3⟩ := h
  have gd := td_dg (l := late q) ht
  have gm := mirF_rng gd.1 gd.2
  have hc := hr.1 (3 + q) (by omega)
  generalize hl' : mirF (dgF (f (13 + q)) (late q)) = l at *
  have hx := choC_rng (c := up1 f (10 + q) (boF (f (10 + q)) l)) (p := q) (mine := up1 f (10 + q) (boF (f (10 + q)) l) q) (bored := up1 f (10 + q) (boF (f (10 + q)) l) (10 + q)) ha gm.1 gm.2
  generalize hxe : choC ar wh fr to does code (up1 f (10 + q) (boF (f (10 + q)) l)) q l (up1 f (10 + q) (boF (f (10 + q)) l) q) (up1 f (10 + q) (boF (f (10 + q)) l) (10 + q)) = x at *
  have hs : ph2s ar wh fr to does code late q f = up1 (actC (ar 0) (ar 2) (up1 (up1 f (10 + q) (boF (f (10 + q)) l)) (16 + q) x) (3 + q) x) (22 + q) (canI (ar 0) (ar 2) (up1 (up1 f (10 + q) (boF (f (10 + q)) l)) (16 + q) x) (fun k => up1 (up1 f (10 + q) (boF (f (10 + q)) l)) (16 + q) x (6 + k)) (3 + q) x) := by
    unfold ph2s
    simp only [hl', hxe]
  rw [hs]
  have u : ∀ k, k < 10 ∨ k = 10 + p → up1 (up1 f (10 + q) (boF (f (10 + q)) l)) (16 + q) x k = f k := fun k hk => by rw [up1_n (by omega), up1_n (by omega)]
  refine ⟨⟨?_, fun h h0 h1 => ?_, ?_⟩, ?_⟩
  · show up1 (actC (ar 0) (ar 2) (up1 (up1 f (10 + q) (boF (f (10 + q)) l)) (16 + q) x) (3 + q) x) (22 + q) _ (3 + p) = _
    rw [up1_n (by omega), act_oc (by omega) (by omega), u _ (by omega)]
    exact s1
  · rw [thT_eq t1 (g := fun k => actC (ar 0) (ar 2) (up1 (up1 f (10 + q) (boF (f (10 + q)) l)) (16 + q) x) (3 + q) x (6 + k)) (fun t ht => up1_n (by omega)), act_ho (by omega) hp (by omega) h0 h1 t0 hx.1 hx.2 (by rw [u _ (by omega)]; omega) (by rw [u _ (by omega)]; omega), thT_eq t1 (g := fun k => f (6 + k)) (fun t ht => u _ (by omega))]
    exact s2 h h0 h1
  · show up1 (actC (ar 0) (ar 2) (up1 (up1 f (10 + q) (boF (f (10 + q)) l)) (16 + q) x) (3 + q) x) (22 + q) _ (10 + p) = _
    rw [up1_n (by omega), actC_out (by omega) t0 t1 (by omega), u _ (by omega)]
    exact s3
  · show up1 (actC (ar 0) (ar 2) (up1 (up1 f (10 + q) (boF (f (10 + q)) l)) (16 + q) x) (3 + q) x) (22 + q) _ p = _
    rw [up1_n (by omega), act_oc (by omega) (by omega), u _ (by omega)]
theorem ph2C_oc {ar wh fr to does code late : Nat → Int} {p : Nat} (hp : p < 3) : ∀ (n q : Nat) (f : Nat → Int), p < q → q + n ≤ 3 → ph2C ar wh fr to does code late n q f (3 + p) = f (3 + p)
  | 0, _, _, _, _ => rfl
  | n + 1, q, f, h, hq => by
    unfold ph2C
    rw [ph2C_oc hp n (q + 1) _ (by omega) (by omega)]
    unfold ph2s
    show up1 (actC (ar 0) (ar 2) (up1 (up1 f (10 + q) _) (16 + q) _) (3 + q) _) (22 + q) _ (3 + p) = _
    rw [up1_n (by omega), act_oc (by omega) (by omega), up1_n (by omega), up1_n (by omega)]
theorem ph2C_spc {ar wh fr to does code late c : Nat → Int} {p : Nat} (hp : p < 3) (d1 : ar 0 ≤ 9) (t0 : 0 ≤ ar 2) (t1 : ar 2 ≤ 4) (ha : arOK ar wh fr to does code) : ∀ (n q : Nat) (f : Nat → Int), q + n ≤ 3 → q ≤ p → p < q + n → rowI (ar 0) f → (∀ j, j < q + n → td5 (f (13 + j))) → Spc (ar 2) p c f → ∃ x, x = choC ar wh fr to does code c p (mirF (dgF (f (13 + p)) (late p))) (f p) (boF (c (10 + p)) (mirF (dgF (f (13 + p)) (late p)))) ∧ ph2C ar wh fr to does code late n q f (16 + p) = x ∧ ph2C ar wh fr to does code late n q f (3 + p) = mvF (ar 0) (c (3 + p)) x
  | 0, q, f, _, h1, h2, _, _, _ => absurd h2 (by omega)
  | n + 1, q, f, hq, h1, h2, hr, ht, h => by
    unfold ph2C
    by_cases e : q = p
    · subst e
      obtain ⟨s1, s2, s3⟩ := h
      have gd := td_dg (l := late q) (ht q (by omega))
      have gm := mirF_rng gd.1 gd.2
      refine ⟨_, rfl, ?_, ?_⟩
      · rw [(ph2C_22 t0 t1 n (q + 1) _ (by omega) q (by omega)).2]
        unfold ph2s
        show up1 (actC (ar 0) (ar 2) (up1 (up1 f (10 + q) _) (16 + q) _) (3 + q) _) (22 + q) _ (16 + q) = _
        rw [up1_n (by omega), actC_out (by omega) t0 t1 (by omega), up1_s, up1_n (show q ≠ 10 + q by omega), up1_s, s3]
        refine choC_spc ?_ (fun h h0 h1 => ?_)
        · rw [up1_n (by omega)]
          exact s1
        · rw [thT_eq t1 (g := fun k => f (6 + k)) (fun t ht => up1_n (by omega))]
          exact s2 h h0 h1
      · rw [ph2C_oc hp n (q + 1) _ (by omega) (by omega)]
        unfold ph2s
        generalize hl : mirF (dgF (f (13 + q)) (late q)) = l at *
        have ex : choC ar wh fr to does code (up1 f (10 + q) (boF (f (10 + q)) l)) q l (up1 f (10 + q) (boF (f (10 + q)) l) q) (up1 f (10 + q) (boF (f (10 + q)) l) (10 + q)) = choC ar wh fr to does code c q l (f q) (boF (c (10 + q)) l) := by
          rw [up1_n (show q ≠ 10 + q by omega), up1_s, s3]
          refine choC_spc ?_ (fun h h0 h1 => ?_)
          · rw [up1_n (by omega)]
            exact s1
          · rw [thT_eq t1 (g := fun k => f (6 + k)) (fun t ht => up1_n (by omega))]
            exact s2 h h0 h1
        have hx := choC_rng (c := c) (p := q) (mine := f q) (bored := boF (c (10 + q)) l) ha gm.1 gm.2
        show up1 (actC (ar 0) (ar 2) (up1 (up1 f (10 + q) (boF (f (10 + q)) l)) (16 + q) (choC ar wh fr to does code (up1 f (10 + q) (boF (f (10 + q)) l)) q l (up1 f (10 + q) (boF (f (10 + q)) l) q) (up1 f (10 + q) (boF (f (10 + q)) l) (10 + q)))) (3 + q) (choC ar wh fr to does code (up1 f (10 + q) (boF (f (10 + q)) l)) q l (up1 f (10 + q) (boF (f (10 + q)) l) q) (up1 f (10 + q) (boF (f (10 + q)) l) (10 + q)))) (22 + q) _ (3 + q) = _
        rw [ex, up1_n (by omega), act_mv (by omega) hx.1 hx.2, up1_n (by omega), up1_n (by omega), s1]
    · obtain ⟨a1, a2⟩ := ph2_spc (late := late) (q := q) hp (by omega) e d1 t0 t1 ha hr (ht q (by omega)) h
      obtain ⟨x, b1, b2, b3⟩ := ph2C_spc (late := late) (c := c) hp d1 t0 t1 ha n (q + 1) (ph2s ar wh fr to does code late q f) (by omega) (by omega) (by omega) (ph2s_row (by omega) t0 t1 hr) (fun j hj => by rw [ph2s_13 (by omega) t0 t1 j (by omega)]; exact ht j (by omega)) a1
      rw [a2, ph2s_13 (by omega) t0 t1 p hp] at b1
      exact ⟨x, b1, b2, b3⟩
/-- one person's doing: what his copy does, and where it then is -/
theorem adv_cop {ar wh fr to does code late c A : Nat → Int} {P p : Nat} {x : Int} (h : Rst ar wh fr to does code late P c A) (hp : p < P) (x0 : 0 ≤ x) (x8 : x ≤ 8) : (advF ar wh fr to does code late P (x * nin p) c).2 (16 + p) = copF ar wh fr to does code late c p x ∧ (advF ar wh fr to does code late P (x * nin p) c).2 (3 + p) = mvF (ar 0) (c (3 + p)) (copF ar wh fr to does code late c p x) ∧ 0 ≤ copF ar wh fr to does code late c p x ∧ copF ar wh fr to does code late c p x ≤ 8 := by
  have hx0 : 0 ≤ x * nin p := Int.mul_nonneg x0 (by have := nin_rng p; omega)
  obtain ⟨⟨g1, g2, g3, g4, g5, g6⟩, -, hok, -, hl, hm⟩ := h
  have hrow := hm.rowI
  obtain ⟨a1, a2, a3⟩ := ph1C_spc (deep := ar 0) (T := ar 2) (p := p) (x := x) (c := c) (by omega) g4 g5 g6 x0 x8 P 0 (x * nin p) c (by omega) hrow ⟨rfl, fun _ _ _ => rfl, rfl⟩ (fun _ => rfl) (fun z => absurd z (by omega))
  rw [if_pos (by omega)] at a2 a3
  have hr1 := ph1C_row (deep := ar 0) g5 g6 P 0 (x * nin p) c (by omega) hx0 hrow (fun j hj => absurd hj (by omega))
  obtain ⟨y, b1, b2, b3⟩ := ph2C_spc (late := late) (c := c) (p := p) (by omega) g4 g5 g6 hok P 0 (ph1C (ar 0) (ar 2) P 0 (x * nin p) c) (by omega) (by omega) (by omega) hr1.1 (fun j hj => hr1.2 j hj) a1
  rw [a2, a3] at b1
  have e : y = copF ar wh fr to does code late c p x := b1
  have gd := td_dg (l := late p) (tb_td (hm.td (p := p) (by omega)) x0 x8)
  have gm := mirF_rng gd.1 gd.2
  have hpa : ∀ j, j < 6 ∨ 10 ≤ j → j ≠ 34 → (advF ar wh fr to does code late P (x * nin p) c).2 j = ph2C ar wh fr to does code late P 0 (ph1C (ar 0) (ar 2) P 0 (x * nin p) c) j := fun j hj e2 => by
    have q := paC_out (T := ar 2) (P := P) g5 g6 (k := j) hj P 0 0 0 (up1 (ph2C ar wh fr to does code late P 0 (ph1C (ar 0) (ar 2) P 0 (x * nin p) c)) 34 (ph2C ar wh fr to does code late P 0 (ph1C (ar 0) (ar 2) P 0 (x * nin p) c) 34 + 1))
    have q2 : (advF ar wh fr to does code late P (x * nin p) c).2 j = up1 (ph2C ar wh fr to does code late P 0 (ph1C (ar 0) (ar 2) P 0 (x * nin p) c)) 34 (ph2C ar wh fr to does code late P 0 (ph1C (ar 0) (ar 2) P 0 (x * nin p) c) 34 + 1) j := q
    rw [q2, up1_n e2]
  refine ⟨?_, ?_, ?_⟩
  · rw [hpa _ (by omega) (by omega), b2, e]
  · rw [hpa _ (by omega) (by omega), b3, e]
  · exact choC_rng hok gm.1 gm.2
