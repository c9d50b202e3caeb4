/-! a step of both, whole -/
theorem ph1M_L {deep T : Int} : ∀ (n p : Nat) (rest : Int) (f L L' : Nat → Int), (∀ j, j < p → L j = L' j) → (ph1M deep T n p rest f L).1 = (ph1M deep T n p rest f L').1 ∧ ∀ j, j < p + n → (ph1M deep T n p rest f L).2 j = (ph1M deep T n p rest f L').2 j
  | 0, _, _, _, _, _, h => ⟨rfl, h⟩
  | n + 1, p, rest, f, L, L', h => by
    unfold ph1M
    have q := ph1M_L (deep := deep) (T := T) n (p + 1) (rest / 9) (ph1m deep T p (rest % 9) f) (up1 L p (lateM f p (rest % 9))) (up1 L' p (lateM f p (rest % 9))) (fun j hj => by
      by_cases e : j = p
      · subst e
        rw [up1_s, up1_s]
      · rw [up1_n e, up1_n e]
        exact h j (by omega))
    exact ⟨q.1, fun j hj => q.2 j (by omega)⟩
theorem ph2M_L {ar wh fr to does code L L' : Nat → Int} : ∀ (n p : Nat) (f : Nat → Int) (k : Int), (∀ j, p ≤ j → j < p + n → L j = L' j) → ph2M ar wh fr to does code L n p f = ph2M ar wh fr to does code L' n p f ∧ ph2N ar wh fr to does code L n p f k = ph2N ar wh fr to does code L' n p f k
  | 0, _, _, _, _ => ⟨rfl, rfl⟩
  | n + 1, p, f, k, h => by
    unfold ph2M ph2N
    rw [h p (Nat.le_refl _) (by omega)]
    exact ph2M_L n (p + 1) _ _ (fun j h1 h2 => h j (by omega) (by omega))
def mid1 (ar : Nat → Int) (P : Nat) (x : Int) (A : Nat → Int) : (Nat → Int) × (Nat → Int) := ph1M (ar 0) (ar 2) P 0 x A zF
def mid2 (ar wh fr to does code : Nat → Int) (P : Nat) (x : Int) (A : Nat → Int) : Nat → Int := ph2M ar wh fr to does code (mid1 ar P x A).2 P 0 (mid1 ar P x A).1
/-- a step on the reference's row -/
def stM (ar wh fr to does code : Nat → Int) (P : Nat) (x : Int) (A : Nat → Int) : Nat → Int := up1 (paM (ar 2) P P 0 0 0 (mid2 ar wh fr to does code P x A)).2 75 ((paM (ar 2) P P 0 0 0 (mid2 ar wh fr to does code P x A)).2 75 + 1)
def stMp (ar wh fr to does code : Nat → Int) (P : Nat) (x : Int) (A : Nat → Int) : Int := (paM (ar 2) P P 0 0 0 (mid2 ar wh fr to does code P x A)).1
def stMc (ar wh fr to does code : Nat → Int) (P : Nat) (x : Int) (A : Nat → Int) : Int := ph2N ar wh fr to does code (mid1 ar P x A).2 P 0 (mid1 ar P x A).1 0
/-- both arcades, and rows, as a step needs them -/
def Rst (ar wh fr to does code late : Nat → Int) (P : Nat) (c A : Nat → Int) : Prop := (ar 1 = P ∧ P ≤ 3 ∧ 2 ≤ ar 0 ∧ ar 0 ≤ 9 ∧ 0 ≤ ar 2 ∧ ar 2 ≤ 4) ∧ (A 1 = ar 0 ∧ A 2 = P ∧ A 3 = ar 2) ∧ arOK ar wh fr to does code ∧ arRel ar wh fr to does code A ∧ (∀ j, j < P → A (6 + j) = late j ∧ 0 ≤ late j ∧ late j ≤ 4) ∧ Rmid (ar 0) c A
theorem cnF_rng {f : Nat → Int} : ∀ (n p : Nat), (∀ k, p ≤ k → k < p + n → 0 ≤ f (22 + k) ∧ f (22 + k) ≤ 1) → 0 ≤ cnF f n p ∧ cnF f n p ≤ n
  | 0, _, _ => by unfold cnF; omega
  | n + 1, p, h => by
    unfold cnF
    have q := cnF_rng n (p + 1) (fun k h1 h2 => h k (by omega) (by omega))
    have r := h p (Nat.le_refl _) (by omega)
    omega
theorem paM_k {T : Int} {P : Nat} : ∀ (n p : Nat) (busy : Int) (k : Nat) (f : Nat → Int), (paM T P n p busy k f).1 ≤ k + n
  | 0, _, _, _, _ => by unfold paM; omega
  | n + 1, p, busy, k, f => by
    unfold paM
    split
    · split
      · have := paM_k (T := T) (P := P) n (p + 1) busy k f
        omega
      · rename_i c t z _
        have := paM_k (T := T) (P := P) n (p + 1) (busy + pw2 c) (k + 1) (up1 f (50 + t) z)
        omega
    · have := paM_k (T := T) (P := P) n (p + 1) busy k f
      omega
/-- all about a step of both, but for the walks -/
theorem st_rel {ar wh fr to does code late c A : Nat → Int} {P : Nat} {x : Int} (h : Rst ar wh fr to does code late P c A) (x0 : 0 ≤ x) : (stMp ar wh fr to does code P x A = (advF ar wh fr to does code late P x c).1 ∧ stMc ar wh fr to does code P x A = cnF (advF ar wh fr to does code late P x c).2 P 0 ∧ 0 ≤ (advF ar wh fr to does code late P x c).1 ∧ (advF ar wh fr to does code late P x c).1 ≤ P) ∧ Rmid (ar 0) (advF ar wh fr to does code late P x c).2 (stM ar wh fr to does code P x A) ∧ (∀ j, j < P → stM ar wh fr to does code P x A (76 + j) = (advF ar wh fr to does code late P x c).2 (13 + j) % 16 ∧ stM ar wh fr to does code P x A (82 + j) = (advF ar wh fr to does code late P x c).2 (16 + j)) ∧ (∀ k, k < 41 ∨ (66 ≤ k ∧ k < 75) ∨ 88 ≤ k → stM ar wh fr to does code P x A k = A k) ∧ stM ar wh fr to does code P x A 75 = A 75 + 1 ∧ (∀ k, 25 ≤ k → k ≠ 34 → (advF ar wh fr to does code late P x c).2 k = c k) ∧ (advF ar wh fr to does code late P x c).2 34 = c 34 + 1 ∧ ((∀ j, j < P → (mid2 ar wh fr to does code P x A) (76 + j) ≤ 8 ∧ ((mid2 ar wh fr to does code P x A) (79 + j) = 0 ∨ (mid2 ar wh fr to does code P x A) (79 + j) = 1) ∧ ((mid2 ar wh fr to does code P x A) (85 + j) = 0 ∨ (mid2 ar wh fr to does code P x A) (85 + j) = 1)) ∧ (∀ j, j < P → 0 ≤ (mid1 ar P x A).2 j ∧ (mid1 ar P x A).2 j ≤ 8)) ∧ (∀ j, j < P → (advF ar wh fr to does code late P x c).2 (13 + j) = ph1C (ar 0) (ar 2) P 0 x c (13 + j)) := by
  obtain ⟨⟨g1, g2, g3, g4, g5, g6⟩, ⟨a1, a2, a3⟩, hok, hrel, hl, hm⟩ := h
  obtain ⟨m1, m2⟩ := ph1M_rel (deep := ar 0) (T := ar 2) (late := late) g4 g5 g6 g2 P 0 x c A zF (by omega) x0 hm hl (fun j hj => absurd hj (by omega))
  have hrow1 := ph1C_row (deep := ar 0) g5 g6 P 0 x c (by omega) x0 hm.rowI (fun j hj => absurd hj (by omega))
  have hL : ∀ j, j < P → 0 ≤ (mid1 ar P x A).2 j ∧ (mid1 ar P x A).2 j ≤ 8 := fun j hj => by
    have e : (mid1 ar P x A).2 j = mirF (dgF (ph1C (ar 0) (ar 2) P 0 x c (13 + j)) (late j)) := (m2 j hj).2
    rw [e]
    have := td_dg (l := late j) (hrow1.2 j (by omega))
    exact mirF_rng this.1 this.2
  have oM1 : ∀ k, k < 41 ∨ 82 ≤ k ∨ (66 ≤ k ∧ k < 76) → (mid1 ar P x A).1 k = A k := fun k hk => ph1M_out g5 g6 hk P 0 x A zF (by omega)
  obtain ⟨n1, n2, n3⟩ := ph2M_rel (late := late) (L := (mid1 ar P x A).2) g4 g5 g6 hok g2 P 0 (ph1C (ar 0) (ar 2) P 0 x c) (mid1 ar P x A).1 0 (by omega) m1 (by rw [oM1 3 (by omega)]; exact a3) (fun j hj => ⟨(m2 j hj).2, hL j hj⟩) (fun j hj => absurd hj (by omega))
  have eM2 : ph2M ar wh fr to does code (mid1 ar P x A).2 P 0 (mid1 ar P x A).1 = mid2 ar wh fr to does code P x A := rfl
  rw [eM2] at n1 n2
  have oM2 : ∀ k, k < 41 ∨ (66 ≤ k ∧ k < 76) ∨ 88 ≤ k → mid2 ar wh fr to does code P x A k = A k := fun k hk => by
    unfold mid2
    rw [ph2M_out g5 g6 (by omega) P 0 _ (by omega)]
    exact oM1 k (by omega)
  have told2 : ∀ j, j < P → mid2 ar wh fr to does code P x A (76 + j) = ph1C (ar 0) (ar 2) P 0 x c (13 + j) % 16 := fun j hj => by
    unfold mid2
    rw [ph2M_out g5 g6 (by omega) P 0 _ (by omega)]
    exact (m2 j hj).1
  have c13 : ∀ j, j < 3 → ph2C ar wh fr to does code late P 0 (ph1C (ar 0) (ar 2) P 0 x c) (13 + j) = ph1C (ar 0) (ar 2) P 0 x c (13 + j) := fun j hj => ph2C_13 g5 g6 P 0 _ (by omega) j hj
  have c25 : ∀ k, 25 ≤ k → ph2C ar wh fr to does code late P 0 (ph1C (ar 0) (ar 2) P 0 x c) k = c k := fun k hk => by
    rw [ph2C_34 g5 g6 hk P 0 _ (by omega), ph1C_34 g5 g6 hk P 0 _ _ (by omega)]
  have hadv : advF ar wh fr to does code late P x c = paC (ar 2) P P 0 0 0 (up1 (ph2C ar wh fr to does code late P 0 (ph1C (ar 0) (ar 2) P 0 x c)) 34 (ph2C ar wh fr to does code late P 0 (ph1C (ar 0) (ar 2) P 0 x c) 34 + 1)) := rfl
  have t13 : ∀ j, j < P → ph1C (ar 0) (ar 2) P 0 x c (13 + j) % 16 ≤ 8 := fun j hj => (hrow1.2 j (by omega)).1.2.2.1
  have hN : stMc ar wh fr to does code P x A = 0 + cnF (ph2C ar wh fr to does code late P 0 (ph1C (ar 0) (ar 2) P 0 x c)) P 0 := n3
  generalize hf2 : ph2C ar wh fr to does code late P 0 (ph1C (ar 0) (ar 2) P 0 x c) = f2 at *
  obtain ⟨n1a, n1b, n1c, n1d, n1e⟩ := n1
  have hpa : Rpa P (up1 f2 34 (f2 34 + 1)) (mid2 ar wh fr to does code P x A) := by
    refine ⟨fun t ht => by rw [up1_n (by omega)]; exact n1b t ht, fun j hj => ?_⟩
    rw [up1_n (by omega), up1_n (by omega), up1_n (by omega), up1_n (by omega), c13 j (by omega), told2 j hj, n2 j hj]
    have q := n1e j (by omega)
    have q2 := t13 j hj
    exact ⟨rfl, q.2.2.1, rfl, q.2.2.2.1, by omega, q2⟩
  obtain ⟨p1, p2, p3, p4⟩ := pa_rel (T := ar 2) (P := P) g5 g6 g2 P 0 0 0 (up1 f2 34 (f2 34 + 1)) (mid2 ar wh fr to does code P x A) (by omega) hpa
  rw [show (((0 : Nat) : Int)) = 0 from rfl, ← hadv] at p1 p2 p3
  have hk := paM_k (T := ar 2) (P := P) P 0 0 0 (mid2 ar wh fr to does code P x A)
  have sM : ∀ k, k ≠ 75 → stM ar wh fr to does code P x A k = (paM (ar 2) P P 0 0 0 (mid2 ar wh fr to does code P x A)).2 k := fun k hk => up1_n hk
  have s75 : stM ar wh fr to does code P x A 75 = (paM (ar 2) P P 0 0 0 (mid2 ar wh fr to does code P x A)).2 75 + 1 := up1_s
  have rC : ∀ j, j < 6 ∨ 10 ≤ j → j ≠ 34 → (advF ar wh fr to does code late P x c).2 j = f2 j := fun j hj e => by rw [p3 j hj, up1_n e]
  refine ⟨⟨p1, ?_, ?_, ?_⟩, ⟨fun k hk => ?_, fun t ht => ?_, fun j hj => ?_, fun j hj => ?_, fun j hj => ?_⟩, fun j hj => ?_, fun k hk => ?_, ?_, fun k hk e => ?_, ?_, ⟨fun j hj => ?_, hL⟩, fun j hj => ?_⟩
  · rw [hN, Int.zero_add]
    exact cnF_eq _ _ (fun k _ hk => by rw [rC _ (by omega) (by omega)])
  · rw [← p1]
    omega
  · rw [← p1]
    omega
  · rw [sM _ (by omega), p4 _ (by omega), rC _ (by omega) (by omega)]
    exact n1a k hk
  · rw [sM _ (by omega)]
    exact p2.1 t ht
  · rw [sM _ (by omega), p4 _ (by omega), rC _ (by omega) (by omega)]
    exact n1c j hj
  · have q : ∀ k, k < 4 → stM ar wh fr to does code P x A (54 + 4 * j + k) = mid2 ar wh fr to does code P x A (54 + 4 * j + k) := fun k hk => by rw [sM _ (by omega), p4 _ (by omega)]
    have q0 := q 0 (by omega)
    rw [Nat.add_zero] at q0
    rw [rC _ (by omega) (by omega), q0, q 1 (by omega), q 2 (by omega), q 3 (by omega)]
    obtain ⟨b0, b1, b2, b3⟩ := n1d j hj
    exact ⟨b0, b1, b2, fun k hk => by rw [q k hk]; exact b3 k hk⟩
  · rw [rC _ (by omega) (by omega), rC _ (by omega) (by omega), rC _ (by omega) (by omega), sM _ (by omega), p4 _ (by omega), sM _ (by omega), p4 _ (by omega)]
    exact n1e j hj
  · rw [sM _ (by omega), p4 _ (by omega), rC _ (by omega) (by omega), c13 j (by omega), told2 j hj, sM _ (by omega), p4 _ (by omega), rC _ (by omega) (by omega), n2 j hj]
    exact ⟨rfl, rfl⟩
  · rw [sM _ (by omega), p4 _ (by omega)]
    exact oM2 k (by omega)
  · rw [s75, p4 _ (by omega), oM2 75 (by omega)]
  · rw [rC _ (by omega) e]
    exact c25 k hk
  · rw [p3 34 (by omega), up1_s, c25 34 (by omega)]
  · have q := n1e j (by omega)
    have q2 := t13 j hj
    rw [told2 j hj, q.2.2.1, q.2.2.2.1]
    omega
  · rw [rC _ (by omega) (by omega)]
    exact c13 j (by omega)
theorem cel_L {σ : mw_S} {L f g : Nat → Int} : cel (cel (cel σ 101 f) 106 L) 100 g = cel (cel (cel (cel σ 106 L) 105 (σ 105)) 101 f) 100 g := by
  funext c
  unfold cel
  by_cases h1 : c = 100
  · rw [if_pos h1, if_pos h1]
  · rw [if_neg h1, if_neg h1]
    by_cases h2 : c = 106
    · subst h2
      simp
    · rw [if_neg h2]
      by_cases h3 : c = 101
      · rw [if_pos h3, if_pos h3]
      · rw [if_neg h3, if_neg h3]
        by_cases h4 : c = 105
        · subst h4
          simp
        · rw [if_neg h4, if_neg h2]
theorem cl_steps {P : Nat} {x : Int} {σ : mw_S} {ar wh fr to does code late c : Nat → Int} (h : Rst ar wh fr to does code late P c (σ 101)) (x0 : 0 ≤ x) (x1 : x < 1000000) (s0 : 0 ≤ σ 101 75) (s1 : σ 101 75 < 1000000000) : ∃ L W, ∀ (d : Nat) (Q : Option mw_V → mw_S → Prop), mw_Call (d + 6) 213 [jR 100, jI x] σ Q ↔ Q none (cel (cel (cel (cel σ 106 L) 105 W) 101 (stM ar wh fr to does code P x (σ 101))) 100 (up1 (up1 (σ 100) 18 (stMc ar wh fr to does code P x (σ 101))) 19 (stMp ar wh fr to does code P x (σ 101)))) := by
  obtain ⟨-, -, -, r4, r5, -, -, ⟨r6, r7⟩, -⟩ := st_rel h x0
  obtain ⟨⟨g1, g2, g3, g4, g5, g6⟩, ⟨a1, a2, a3⟩, hok, hrel, hl, hm⟩ := h
  obtain ⟨rest', l4', l5', h1⟩ := wp_st1 (P := P) (x0 := x) (deep := ar 0) (T := ar 2) (σ := σ) g2 g3 g4 g5 g6 P 0 x (σ 101) (σ 106) none none (by omega) x0 x1 a1 a2 a3 (fun j hj => by rw [(hl j hj).1]; exact (hl j hj).2) hm.rowM
  rw [cel_self (σ := σ) rfl, cel_self (σ := σ) rfl] at h1
  obtain ⟨e1, e2⟩ := ph1M_L (deep := ar 0) (T := ar 2) P 0 x (σ 101) (σ 106) zF (fun j hj => absurd hj (by omega))
  have e1' : (ph1M (ar 0) (ar 2) P 0 x (σ 101) (σ 106)).1 = (mid1 ar P x (σ 101)).1 := e1
  have e2' : ∀ j, j < P → (ph1M (ar 0) (ar 2) P 0 x (σ 101) (σ 106)).2 j = (mid1 ar P x (σ 101)).2 j := fun j hj => e2 j (by omega)
  rw [e1'] at h1
  generalize (ph1M (ar 0) (ar 2) P 0 x (σ 101) (σ 106)).2 = L at *
  have oM1 : ∀ k, k < 41 ∨ 82 ≤ k ∨ (66 ≤ k ∧ k < 76) → (mid1 ar P x (σ 101)).1 k = σ 101 k := fun k hk => ph1M_out g5 g6 hk P 0 x (σ 101) zF (by omega)
  have hrow : rowM (ar 0) (mid1 ar P x (σ 101)).1 := ph1M_row g5 g6 P 0 x (σ 101) zF (by omega) x0 hm.rowM
  obtain ⟨W', l4'', l5'', h2⟩ := wp_st2 (P := P) (x0 := x) (σ := σ) (L := L) (l2 := some (jI rest')) rfl g2 g3 g4 g5 g6 hok (fun p hp => by rw [e2' p hp]; exact r7 p hp) P 0 (mid1 ar P x (σ 101)).1 (σ 105) 0 l4' l5' (by omega) (by omega) (by omega) (by rw [oM1 1 (by omega)]; exact a1) (by rw [oM1 2 (by omega)]; exact a2) (by rw [oM1 3 (by omega)]; exact a3) (arRel_congr hrel hok.2.1 (fun k hk => oM1 k (by omega))) hrow
  obtain ⟨f1, f2⟩ := ph2M_L (ar := ar) (wh := wh) (fr := fr) (to := to) (does := does) (code := code) (L := L) (L' := (mid1 ar P x (σ 101)).2) P 0 (mid1 ar P x (σ 101)).1 0 (fun j _ hj => e2' j (by omega))
  rw [f1, f2] at h2
  have em2 : ph2M ar wh fr to does code (mid1 ar P x (σ 101)).2 P 0 (mid1 ar P x (σ 101)).1 = mid2 ar wh fr to does code P x (σ 101) := rfl
  have emc : ph2N ar wh fr to does code (mid1 ar P x (σ 101)).2 P 0 (mid1 ar P x (σ 101)).1 0 = stMc ar wh fr to does code P x (σ 101) := rfl
  rw [em2, emc] at h2
  refine ⟨L, W', fun d Q => ?_⟩
  have oM2 : ∀ k, k < 41 → mid2 ar wh fr to does code P x (σ 101) k = σ 101 k := fun k hk => by
    unfold mid2
    rw [ph2M_out g5 g6 (by omega) P 0 _ (by omega)]
    exact oM1 k (by omega)
  have hps := fun (Q' : Option mw_V → mw_S → Prop) (d' : Nat) => cl_mpass (d := d') (P := P) (σ := cel (cel (cel (cel σ 106 L) 105 W') 101 (mid2 ar wh fr to does code P x (σ 101))) 100 (up1 (σ 100) 18 (stMc ar wh fr to does code P x (σ 101)))) (Q := Q') g2 (by simp (disch := omega) only [cel_s, cel_n, up1_s, up1_n, up1_e, put_in, put_out, fill_in, fill_out, Nat.add_sub_cancel_left, Int.toNat_natCast]; rw [oM2 2 (by omega)]; exact a2) (by simp (disch := omega) only [cel_s, cel_n, up1_s, up1_n, up1_e, put_in, put_out, fill_in, fill_out, Nat.add_sub_cancel_left, Int.toNat_natCast]; rw [oM2 3 (by omega)]; omega) (by simp (disch := omega) only [cel_s, cel_n, up1_s, up1_n, up1_e, put_in, put_out, fill_in, fill_out, Nat.add_sub_cancel_left, Int.toNat_natCast]; rw [oM2 3 (by omega)]; omega) (by simp (disch := omega) only [cel_s, cel_n, up1_s, up1_n, up1_e, put_in, put_out, fill_in, fill_out, Nat.add_sub_cancel_left, Int.toNat_natCast]; exact r6)
  simp (disch := omega) only [cel_s, cel_n, cel_sw, cel_cel] at hps
  rw [oM2 3 (by omega), a3] at hps
  have s75 : stM ar wh fr to does code P x (σ 101) 75 = (paM (ar 2) P P 0 0 0 (mid2 ar wh fr to does code P x (σ 101))).2 75 + 1 := up1_s
  have k75 : (paM (ar 2) P P 0 0 0 (mid2 ar wh fr to does code P x (σ 101))).2 75 = σ 101 75 := by omega
  have est : stM ar wh fr to does code P x (σ 101) = up1 (paM (ar 2) P P 0 0 0 (mid2 ar wh fr to does code P x (σ 101))).2 75 (σ 101 75 + 1) := by
    unfold stM
    rw [k75]
  have emp : stMp ar wh fr to does code P x (σ 101) = (paM (ar 2) P P 0 0 0 (mid2 ar wh fr to does code P x (σ 101))).1 := rfl
  rw [est, emp]
  have st : mw_Call (d + 6) 213 [jR 100, jI x] σ Q ↔ mw_WP (d + 5) 213 4 [some (jR 100), some (jI x), some (jI x), some (jI ((0 : Nat) : Int)), none, none] [] σ Q := by
    rw [ee213]
    simp (disch := first | (simp only [nlP_n, nlP_I, nlP_R, catP_I, catP_R, st8_0, st8_1, st8_2, st8_3, st8_4, b01, or_true, true_or, eq_self, iRP98, iRP99, iRP86, iRP97, iRP47, iRP57, rcP0, rcP1, rcP3, rcP13, rcP22, rcP25, rcP37, rcP45, rcP55, rcP65, rcP74, rcP76, rcP77, rcP87, rcP88, rcP100]; done) | omega | assumption | (simp (disch := omega) only [cel_s, cel_n, up1_s, up1_n, up1_e, put_out, fill_in]; omega) | (apply isRow_past; omega) | (apply isRow_seek; omega) | (apply isRow_guess; omega)) only [ww213_0, ww213_1, ww213_2, ww213_3, ↓iteT, ↓iteF, andT, w32_eq, yL_1, Int.toNat_natCast, Int.toNat_add, Int.toNat_mul, Int.toNat_sub, cel_s, cel_n, up1_cel, upS_cel, cel_cel, up1_s, up1_n, up1_e, rdI_n, rdB_n, Int.reduceMul, Int.reduceDiv, Int.reduceMod, Nat.reduceMul, Nat.reduceSub, Nat.zero_add, Int.zero_add, Nat.add_zero, Int.add_zero, ite_self, Option.toList_some, Option.toList_none, List.cons_append, List.nil_append, rdI_c, and_true, true_and, and_self, not_false_eq_true, not_true_eq_false, if_true, if_false, or_false, false_or, ne_eq, and_false, false_and, rdI_n, Nat.reduceEqDiff, Nat.reduceAdd, Nat.reduceLeDiff, Int.reduceEq, Int.reduceLT, Int.reduceLE, Int.reduceNeg, Int.reduceToNat, Int.reduceAdd, Int.reduceSub, List.append_nil, ki2, ki4, ki5, ki6, ki7, ki8, ki9, ki10, ki11, ki12, ki14, ki15, ki16, ki17, ki18, ki19, ki20, ki21, ki23, ki24, ki27, ki28, ki29, ki30, ki31, ki32, ki33, ki34, ki35, ki36, ki38, ki39, ki47, ki48, ki49, ki50, ki51, ki52, ki57, ki58, ki59, ki60, ki61, ki62, ki66, ki67, ki69, ki70, ki71, ki72, ki73, ki78, ki79, ki80, ki81, ki82, ki83, ki84, ki85, ki86, ki89, ki90, ki91, ki92, ki93, ki94, ki95, ki96, ki97, ki98, ki99, ki101, ki103, ki104, ki105, ki106, ki107, ki108, ki109, ki110, ki111, ki112, ki113, ki114, ki115, ki116, ki117, ki118, ki121, ki122, ki123, ki3000, kb68, kb102, kr26, kr40, kr46, kr56, kw2, kw4, kw5, kw6, kw7, kw8, kw9, kw10, kw11, kw12, kw14, kw15, kw16, kw17, kw18, kw19, kw20, kw21, kw23, kw24, kw27, kw28, kw29, kw30, kw31, kw32, kw33, kw34, kw35, kw36, kw38, kw39, kw41, kw42, kw43, kw44, kw47, kw48, kw49, kw50, kw51, kw52, kw53, kw54, kw57, kw58, kw59, kw60, kw61, kw62, kw63, kw64, kw66, kw67, kw68, kw69, kw70, kw71, kw72, kw73, kw75, kw78, kw79, kw80, kw81, kw82, kw83, kw84, kw85, kw86, kw89, kw90, kw91, kw92, kw93, kw94, kw95, kw96, kw97, kw98, kw99, kw101, kw102, kw103, kw104, kw105, kw106, kw107, kw108, kw109, kw110, kw111, kw112, kw113, kw114, kw115, kw116, kw117, kw118, kw119, kw120, kw121, kw122, kw123, kw124]
    exact Iff.rfl
  have st2 : mw_WP (d + 5) 213 172 [some (jR 100), some (jI x), some (jI rest'), some (jI P), l4', l5'] [] (cel (cel σ 101 (mid1 ar P x (σ 101)).1) 106 L) Q ↔ mw_WP (d + 5) 213 179 [some (jR 100), some (jI x), some (jI rest'), some (jI ((0 : Nat) : Int)), l4', l5'] [] (cel (cel (cel (cel σ 106 L) 105 (σ 105)) 101 (mid1 ar P x (σ 101)).1) 100 (up1 (σ 100) 18 0)) Q := by
    simp (disch := first | (simp only [nlP_n, nlP_I, nlP_R, catP_I, catP_R, st8_0, st8_1, st8_2, st8_3, st8_4, b01, or_true, true_or, eq_self, iRP98, iRP99, iRP86, iRP97, iRP47, iRP57, rcP0, rcP1, rcP3, rcP13, rcP22, rcP25, rcP37, rcP45, rcP55, rcP65, rcP74, rcP76, rcP77, rcP87, rcP88, rcP100]; done) | omega | assumption | (simp (disch := omega) only [cel_s, cel_n, up1_s, up1_n, up1_e, put_out, fill_in]; omega) | (apply isRow_past; omega) | (apply isRow_seek; omega) | (apply isRow_guess; omega)) only [ww213_172, ww213_173, ww213_174, ww213_177, ww213_178, ↓iteT, ↓iteF, andT, w32_eq, yL_1, Int.toNat_natCast, Int.toNat_add, Int.toNat_mul, Int.toNat_sub, cel_s, cel_n, up1_cel, upS_cel, cel_cel, up1_s, up1_n, up1_e, rdI_n, rdB_n, Int.reduceMul, Int.reduceDiv, Int.reduceMod, Nat.reduceMul, Nat.reduceSub, Nat.zero_add, Int.zero_add, Nat.add_zero, Int.add_zero, ite_self, Option.toList_some, Option.toList_none, List.cons_append, List.nil_append, rdI_c, and_true, true_and, and_self, not_false_eq_true, not_true_eq_false, if_true, if_false, or_false, false_or, ne_eq, and_false, false_and, rdI_n, Nat.reduceEqDiff, Nat.reduceAdd, Nat.reduceLeDiff, Int.reduceEq, Int.reduceLT, Int.reduceLE, Int.reduceNeg, Int.reduceToNat, Int.reduceAdd, Int.reduceSub, List.append_nil, ki2, ki4, ki5, ki6, ki7, ki8, ki9, ki10, ki11, ki12, ki14, ki15, ki16, ki17, ki18, ki19, ki20, ki21, ki23, ki24, ki27, ki28, ki29, ki30, ki31, ki32, ki33, ki34, ki35, ki36, ki38, ki39, ki47, ki48, ki49, ki50, ki51, ki52, ki57, ki58, ki59, ki60, ki61, ki62, ki66, ki67, ki69, ki70, ki71, ki72, ki73, ki78, ki79, ki80, ki81, ki82, ki83, ki84, ki85, ki86, ki89, ki90, ki91, ki92, ki93, ki94, ki95, ki96, ki97, ki98, ki99, ki101, ki103, ki104, ki105, ki106, ki107, ki108, ki109, ki110, ki111, ki112, ki113, ki114, ki115, ki116, ki117, ki118, ki121, ki122, ki123, ki3000, kb68, kb102, kr26, kr40, kr46, kr56, kw2, kw4, kw5, kw6, kw7, kw8, kw9, kw10, kw11, kw12, kw14, kw15, kw16, kw17, kw18, kw19, kw20, kw21, kw23, kw24, kw27, kw28, kw29, kw30, kw31, kw32, kw33, kw34, kw35, kw36, kw38, kw39, kw41, kw42, kw43, kw44, kw47, kw48, kw49, kw50, kw51, kw52, kw53, kw54, kw57, kw58, kw59, kw60, kw61, kw62, kw63, kw64, kw66, kw67, kw68, kw69, kw70, kw71, kw72, kw73, kw75, kw78, kw79, kw80, kw81, kw82, kw83, kw84, kw85, kw86, kw89, kw90, kw91, kw92, kw93, kw94, kw95, kw96, kw97, kw98, kw99, kw101, kw102, kw103, kw104, kw105, kw106, kw107, kw108, kw109, kw110, kw111, kw112, kw113, kw114, kw115, kw116, kw117, kw118, kw119, kw120, kw121, kw122, kw123, kw124]
    rw [cel_L]
    exact Iff.rfl
  rw [st, h1 d Q, st2, h2 d Q]
  generalize mid2 ar wh fr to does code P x (σ 101) = g2' at *
  simp (disch := first | (simp only [nlP_n, nlP_I, nlP_R, catP_I, catP_R, st8_0, st8_1, st8_2, st8_3, st8_4, b01, or_true, true_or, eq_self, iRP98, iRP99, iRP86, iRP97, iRP47, iRP57, rcP0, rcP1, rcP3, rcP13, rcP22, rcP25, rcP37, rcP45, rcP55, rcP65, rcP74, rcP76, rcP77, rcP87, rcP88, rcP100]; done) | omega | assumption | (simp (disch := omega) only [cel_s, cel_n, up1_s, up1_n, up1_e, put_out, fill_in]; omega) | (apply isRow_past; omega) | (apply isRow_seek; omega) | (apply isRow_guess; omega)) only [ww213_317, ww213_318, ww213_321, ww213_322, ww213_325, ww213_327, ww213_328, ww213_329, ww213_330, ww213_331, ww213_332, hps, k75, cel_sw, ↓iteT, ↓iteF, andT, w32_eq, yL_1, Int.toNat_natCast, Int.toNat_add, Int.toNat_mul, Int.toNat_sub, cel_s, cel_n, up1_cel, upS_cel, cel_cel, up1_s, up1_n, up1_e, rdI_n, rdB_n, Int.reduceMul, Int.reduceDiv, Int.reduceMod, Nat.reduceMul, Nat.reduceSub, Nat.zero_add, Int.zero_add, Nat.add_zero, Int.add_zero, ite_self, Option.toList_some, Option.toList_none, List.cons_append, List.nil_append, rdI_c, and_true, true_and, and_self, not_false_eq_true, not_true_eq_false, if_true, if_false, or_false, false_or, ne_eq, and_false, false_and, rdI_n, Nat.reduceEqDiff, Nat.reduceAdd, Nat.reduceLeDiff, Int.reduceEq, Int.reduceLT, Int.reduceLE, Int.reduceNeg, Int.reduceToNat, Int.reduceAdd, Int.reduceSub, List.append_nil, ki2, ki4, ki5, ki6, ki7, ki8, ki9, ki10, ki11, ki12, ki14, ki15, ki16, ki17, ki18, ki19, ki20, ki21, ki23, ki24, ki27, ki28, ki29, ki30, ki31, ki32, ki33, ki34, ki35, ki36, ki38, ki39, ki47, ki48, ki49, ki50, ki51, ki52, ki57, ki58, ki59, ki60, ki61, ki62, ki66, ki67, ki69, ki70, ki71, ki72, ki73, ki78, ki79, ki80, ki81, ki82, ki83, ki84, ki85, ki86, ki89, ki90, ki91, ki92, ki93, ki94, ki95, ki96, ki97, ki98, ki99, ki101, ki103, ki104, ki105, ki106, ki107, ki108, ki109, ki110, ki111, ki112, ki113, ki114, ki115, ki116, ki117, ki118, ki121, ki122, ki123, ki3000, kb68, kb102, kr26, kr40, kr46, kr56, kw2, kw4, kw5, kw6, kw7, kw8, kw9, kw10, kw11, kw12, kw14, kw15, kw16, kw17, kw18, kw19, kw20, kw21, kw23, kw24, kw27, kw28, kw29, kw30, kw31, kw32, kw33, kw34, kw35, kw36, kw38, kw39, kw41, kw42, kw43, kw44, kw47, kw48, kw49, kw50, kw51, kw52, kw53, kw54, kw57, kw58, kw59, kw60, kw61, kw62, kw63, kw64, kw66, kw67, kw68, kw69, kw70, kw71, kw72, kw73, kw75, kw78, kw79, kw80, kw81, kw82, kw83, kw84, kw85, kw86, kw89, kw90, kw91, kw92, kw93, kw94, kw95, kw96, kw97, kw98, kw99, kw101, kw102, kw103, kw104, kw105, kw106, kw107, kw108, kw109, kw110, kw111, kw112, kw113, kw114, kw115, kw116, kw117, kw118, kw119, kw120, kw121, kw122, kw123, kw124]
