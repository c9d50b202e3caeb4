/-! a step looks at no more than what moves -/
/-- alike as far as a step looks -/
def agr (c c' : Nat → Int) : Prop := (∀ k, k < 13 → c k = c' k) ∧ ∀ p, p < 3 → c (13 + p) % 65536 = c' (13 + p) % 65536
theorem agr.refl {c : Nat → Int} : agr c c := ⟨fun _ _ => rfl, fun _ _ => rfl⟩
theorem agr.symm {c c' : Nat → Int} (h : agr c c') : agr c' c := ⟨fun k hk => (h.1 k hk).symm, fun p hp => (h.2 p hp).symm⟩
theorem agr.trans {a b c : Nat → Int} (h : agr a b) (h' : agr b c) : agr a c := ⟨fun k hk => (h.1 k hk).trans (h'.1 k hk), fun p hp => (h.2 p hp).trans (h'.2 p hp)⟩
theorem up1_cg {f f' : Nat → Int} {j k : Nat} {x : Int} (h : f k = f' k) : up1 f j x k = up1 f' j x k := by
  unfold up1
  split
  · rfl
  · exact h
theorem actC_cg {deep T : Int} {f f' : Nat → Int} {w : Nat} {x : Int} (hw : w < 6) (t1 : T ≤ 4) (h : ∀ k, k < 10 → f k = f' k) : canI deep T f (fun k => f (6 + k)) w x = canI deep T f' (fun k => f' (6 + k)) w x ∧ ∀ k, f k = f' k → actC deep T f w x k = actC deep T f' w x k := by
  have hc : canI deep T f (fun k => f (6 + k)) w x = canI deep T f' (fun k => f' (6 + k)) w x := canI_eq t1 (h w (by omega)) (fun t ht => h (6 + t) (by omega))
  have hth : ∀ z, thT T (fun k => f (6 + k)) z = thT T (fun k => f' (6 + k)) z := fun z => thT_eq t1 (fun t ht => h _ (by omega))
  have hw' := h w (by omega)
  have hg : gdF f w = gdF f' w := by
    unfold gdF
    rw [hw']
  refine ⟨hc, fun k hk => ?_⟩
  unfold actC
  rw [hc, hg, hth, hth, hw']
  split
  · exact hk
  · split
    · exact up1_cg hk
    · split
      · exact up1_cg hk
      · split
        · exact up1_cg hk
        · split
          · exact up1_cg hk
          · exact hk
/-- alike, told by a, could by b; did by d -/
def agA (a d : Nat) (f f' : Nat → Int) : Prop := (∀ k, k < 13 → f k = f' k) ∧ (∀ p, p < 3 → f (13 + p) % 65536 = f' (13 + p) % 65536) ∧ (∀ j, j < a → f (13 + j) = f' (13 + j) ∧ f (19 + j) = f' (19 + j)) ∧ ∀ j, j < d → f (16 + j) = f' (16 + j) ∧ f (22 + j) = f' (22 + j)
theorem tb_cg {t t' x : Int} (h : t % 65536 = t' % 65536) : tbF t x = tbF t' x := by
  unfold tbF
  omega
theorem ph1s_cg {deep T : Int} {p : Nat} {x : Int} {f f' : Nat → Int} (hp : p < 3) (t0 : 0 ≤ T) (t1 : T ≤ 4) (h : agA p 0 f f') : agA (p + 1) 0 (ph1s deep T p x f) (ph1s deep T p x f') := by
  obtain ⟨h1, h2, h3, h4⟩ := h
  have ht := tb_cg (x := x) (h2 p hp)
  have hg : ∀ k, f k = f' k → up1 f (13 + p) (tbF (f (13 + p)) x) k = up1 f' (13 + p) (tbF (f' (13 + p)) x) k := fun k hk => by
    rw [ht]
    exact up1_cg hk
  obtain ⟨a1, a2⟩ := actC_cg (deep := deep) (T := T) (f := up1 f (13 + p) (tbF (f (13 + p)) x)) (f' := up1 f' (13 + p) (tbF (f' (13 + p)) x)) (w := p) (x := x) (by omega) t1 (fun k hk => hg k (h1 k (by omega)))
  have e13 : ∀ j, j < 3 → ∀ g : Nat → Int, ph1s deep T p x g (13 + j) = if j = p then tbF (g (13 + p)) x else g (13 + j) := fun j hj g => ph1s_13 hp t0 t1 j hj
  refine ⟨fun k hk => ?_, fun j hj => ?_, fun j hj => ?_, fun j hj => absurd hj (by omega)⟩
  · unfold ph1s
    rw [up1_n (by omega), up1_n (by omega)]
    exact a2 k (hg k (h1 k hk))
  · rw [e13 j hj f, e13 j hj f']
    split
    · rw [ht]
    · exact h2 j hj
  · constructor
    · rw [e13 j (by omega) f, e13 j (by omega) f']
      split
      · exact ht
      · exact (h3 j (by omega)).1
    · unfold ph1s
      by_cases e : j = p
      · rw [e, up1_s, up1_s]
        exact a1
      · rw [up1_n (by omega), up1_n (by omega)]
        exact a2 _ (hg _ (h3 j (by omega)).2)
theorem ph1C_cg {deep T : Int} (t0 : 0 ≤ T) (t1 : T ≤ 4) : ∀ (n p : Nat) (rest : Int) (f f' : Nat → Int), p + n ≤ 3 → agA p 0 f f' → agA (p + n) 0 (ph1C deep T n p rest f) (ph1C deep T n p rest f')
  | 0, p, rest, f, f', _, h => h
  | n + 1, p, rest, f, f', hp, h => by
    unfold ph1C
    have := ph1C_cg (deep := deep) t0 t1 n (p + 1) (rest / 9) _ _ (by omega) (ph1s_cg (deep := deep) (x := rest % 9) (by omega) t0 t1 h)
    rw [show p + 1 + n = p + (n + 1) by omega] at this
    exact this
def ph2g (deep T : Int) (p : Nat) (b x : Int) (f : Nat → Int) : Nat → Int := up1 (actC deep T (up1 (up1 f (10 + p) b) (16 + p) x) (3 + p) x) (22 + p) (canI deep T (up1 (up1 f (10 + p) b) (16 + p) x) (fun k => up1 (up1 f (10 + p) b) (16 + p) x (6 + k)) (3 + p) x)
theorem ph2s_g {ar wh fr to does code late : Nat → Int} {p : Nat} {f : Nat → Int} : ph2s ar wh fr to does code late p f = ph2g (ar 0) (ar 2) p (boF (f (10 + p)) (mirF (dgF (f (13 + p)) (late p)))) (choC ar wh fr to does code (up1 f (10 + p) (boF (f (10 + p)) (mirF (dgF (f (13 + p)) (late p))))) p (mirF (dgF (f (13 + p)) (late p))) (up1 f (10 + p) (boF (f (10 + p)) (mirF (dgF (f (13 + p)) (late p)))) p) (up1 f (10 + p) (boF (f (10 + p)) (mirF (dgF (f (13 + p)) (late p)))) (10 + p))) f := rfl
theorem ph2g_cg {deep T b x : Int} {P p : Nat} {f f' : Nat → Int} (hP : P ≤ 3) (hp : p < P) (t0 : 0 ≤ T) (t1 : T ≤ 4) (h : agA P p f f') : agA P (p + 1) (ph2g deep T p b x f) (ph2g deep T p b x f') := by
  obtain ⟨h1, h2, h3, h4⟩ := h
  obtain ⟨a1, a2⟩ := actC_cg (deep := deep) (T := T) (f := up1 (up1 f (10 + p) b) (16 + p) x) (f' := up1 (up1 f' (10 + p) b) (16 + p) x) (w := 3 + p) (x := x) (by omega) t1 (fun k hk => up1_cg (up1_cg (h1 k (by omega))))
  have o : ∀ k, 10 ≤ k → k ≠ 10 + p → k ≠ 16 + p → k ≠ 22 + p → ∀ g : Nat → Int, ph2g deep T p b x g k = g k := fun k k1 k2 k3 k4 g => by
    unfold ph2g
    rw [up1_n k4, actC_out (by omega) t0 t1 k1, up1_n k3, up1_n k2]
  have q : ∀ k, k ≠ 22 + p → f k = f' k → ph2g deep T p b x f k = ph2g deep T p b x f' k := fun k k1 k2 => by
    unfold ph2g
    rw [up1_n k1, up1_n k1]
    exact a2 k (up1_cg (up1_cg k2))
  refine ⟨fun k hk => q k (by omega) (h1 k hk), fun j hj => ?_, fun j hj => ⟨q _ (by omega) (h3 j hj).1, q _ (by omega) (h3 j hj).2⟩, fun j hj => ?_⟩
  · rw [o (13 + j) (by omega) (by omega) (by omega) (by omega) f, o (13 + j) (by omega) (by omega) (by omega) (by omega) f']
    exact h2 j hj
  · by_cases e : j = p
    · constructor
      · unfold ph2g
        rw [up1_n (show 16 + j ≠ 22 + p by omega), up1_n (show 16 + j ≠ 22 + p by omega)]
        refine a2 _ ?_
        rw [e, up1_s, up1_s]
      · unfold ph2g
        rw [e, up1_s, up1_s]
        exact a1
    · exact ⟨q _ (by omega) (h4 j (by omega)).1, q _ (by omega) (h4 j (by omega)).2⟩
theorem ph2s_cg {ar wh fr to does code late : Nat → Int} {P p : Nat} {f f' : Nat → Int} (hP : P ≤ 3) (hp : p < P) (t0 : 0 ≤ ar 2) (t1 : ar 2 ≤ 4) (h : agA P p f f') : agA P (p + 1) (ph2s ar wh fr to does code late p f) (ph2s ar wh fr to does code late p f') := by
  have hh := h
  obtain ⟨h1, h2, h3, h4⟩ := h
  have e1 := (h3 p hp).1
  have e2 := h1 (10 + p) (by omega)
  rw [ph2s_g, ph2s_g, e1, e2]
  generalize mirF (dgF (f' (13 + p)) (late p)) = l
  generalize boF (f' (10 + p)) l = b
  have hx : choC ar wh fr to does code (up1 f (10 + p) b) p l (up1 f (10 + p) b p) (up1 f (10 + p) b (10 + p)) = choC ar wh fr to does code (up1 f' (10 + p) b) p l (up1 f' (10 + p) b p) (up1 f' (10 + p) b (10 + p)) := by
    rw [up1_s, up1_s, up1_n (show p ≠ 10 + p by omega), up1_n (show p ≠ 10 + p by omega), h1 p (by omega)]
    refine choC_spc ?_ (fun hh _ _ => ?_)
    · rw [up1_n (show 3 + p ≠ 10 + p by omega), up1_n (show 3 + p ≠ 10 + p by omega)]
      exact h1 _ (by omega)
    · refine thT_eq t1 (fun t ht => ?_)
      rw [up1_n (show 6 + t ≠ 10 + p by omega), up1_n (show 6 + t ≠ 10 + p by omega)]
      exact h1 _ (by omega)
  rw [hx]
  exact ph2g_cg hP hp t0 t1 hh
theorem ph2C_cg {ar wh fr to does code late : Nat → Int} {P : Nat} (hP : P ≤ 3) (t0 : 0 ≤ ar 2) (t1 : ar 2 ≤ 4) : ∀ (n p : Nat) (f f' : Nat → Int), p + n = P → agA P p f f' → agA P P (ph2C ar wh fr to does code late n p f) (ph2C ar wh fr to does code late n p f')
  | 0, p, f, f', hp, h => by
    obtain rfl : p = P := by omega
    exact h
  | n + 1, p, f, f', hp, h => by
    unfold ph2C
    exact ph2C_cg hP t0 t1 n (p + 1) _ _ (by omega) (ph2s_cg hP (by omega) t0 t1 h)
theorem paC_cg {T : Int} {P : Nat} (hP : P ≤ 3) (t0 : 0 ≤ T) (t1 : T ≤ 4) : ∀ (n p : Nat) (busy k : Int) (f f' : Nat → Int), p + n = P → agA P P f f' → (paC T P n p busy k f).1 = (paC T P n p busy k f').1 ∧ agA P P (paC T P n p busy k f).2 (paC T P n p busy k f').2
  | 0, p, busy, k, f, f', hp, h => ⟨rfl, h⟩
  | n + 1, p, busy, k, f, f', hp, h => by
    have hh := h
    obtain ⟨h1, h2, h3, h4⟩ := h
    obtain ⟨e1, e2⟩ := h3 p (by omega)
    unfold paC
    rw [e1, e2, pwF_congr (pl := fun j => f (6 + j)) (pl' := fun j => f' (6 + j)) (did := fun j => f (16 + j)) (did' := fun j => f' (16 + j)) (so := fun j => f (22 + j)) (so' := fun j => f' (22 + j)) t1 (fun t ht => h1 _ (by omega)) P 0 (fun k hk => h4 k (by omega))]
    split
    · split
      · exact paC_cg hP t0 t1 n (p + 1) _ _ _ _ (by omega) hh
      · rename_i c t z hz
        have := pwF_rng t0 hz
        refine paC_cg hP t0 t1 n (p + 1) _ _ _ _ (by omega) ⟨fun k hk => up1_cg (h1 k hk), fun p hp => ?_, fun j hj => ⟨up1_cg (h3 j hj).1, up1_cg (h3 j hj).2⟩, fun j hj => ⟨up1_cg (h4 j hj).1, up1_cg (h4 j hj).2⟩⟩
        rw [up1_n (by omega), up1_n (by omega)]
        exact h2 p hp
    · exact paC_cg hP t0 t1 n (p + 1) _ _ _ _ (by omega) hh
theorem advF_cg {ar wh fr to does code late c c' : Nat → Int} {P : Nat} {x : Int} (hP : P ≤ 3) (t0 : 0 ≤ ar 2) (t1 : ar 2 ≤ 4) (h : agr c c') : (advF ar wh fr to does code late P x c).1 = (advF ar wh fr to does code late P x c').1 ∧ agr (advF ar wh fr to does code late P x c).2 (advF ar wh fr to does code late P x c').2 := by
  have a1 := ph1C_cg (deep := ar 0) t0 t1 P 0 x c c' (by omega) ⟨h.1, h.2, fun j hj => absurd hj (by omega), fun j hj => absurd hj (by omega)⟩
  rw [Nat.zero_add] at a1
  obtain ⟨b1, b2, b3, b4⟩ := ph2C_cg (wh := wh) (fr := fr) (to := to) (does := does) (code := code) (late := late) hP t0 t1 P 0 _ _ (by omega) a1
  have a3 := paC_cg hP t0 t1 P 0 0 0 (up1 (ph2C ar wh fr to does code late P 0 (ph1C (ar 0) (ar 2) P 0 x c)) 34 (ph2C ar wh fr to does code late P 0 (ph1C (ar 0) (ar 2) P 0 x c) 34 + 1)) (up1 (ph2C ar wh fr to does code late P 0 (ph1C (ar 0) (ar 2) P 0 x c')) 34 (ph2C ar wh fr to does code late P 0 (ph1C (ar 0) (ar 2) P 0 x c') 34 + 1)) (by omega) ⟨fun k hk => by rw [up1_n (by omega), up1_n (by omega)]; exact b1 k hk, fun p hp => by rw [up1_n (by omega), up1_n (by omega)]; exact b2 p hp, fun j hj => by rw [up1_n (by omega), up1_n (by omega), up1_n (by omega), up1_n (by omega)]; exact b3 j hj, fun j hj => by rw [up1_n (by omega), up1_n (by omega), up1_n (by omega), up1_n (by omega)]; exact b4 j hj⟩
  exact ⟨a3.1, a3.2.1, a3.2.2.1⟩
