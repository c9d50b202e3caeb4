/-! a draft, as the reference lays it -/
theorem gD_ap {α : Type} {L : List α} {x z : α} {k : Nat} : (L ++ [x]).getD k z = if k = L.length then x else L.getD k z := by
  by_cases h : k < (L ++ [x]).length
  · exact gD_app h
  · rw [List.length_append, List.length_singleton] at h
    rw [if_neg (by omega), List.getD_eq_getElem?_getD, List.getD_eq_getElem?_getD, List.getElem?_eq_none (by rw [List.length_append, List.length_singleton]; omega), List.getElem?_eq_none (by omega)]
abbrev z4 : Int × Int × Int × Int := (0, 0, 0, 0)
def DG (g : Nat → Int) (D : Dr) : Prop :=
  (g 0 = dLn D ∧ g 1 = dDp D ∧ g 2 = (dPs D).length ∧ g 3 = (dTs D).length ∧ g 4 = (dRs D).length ∧ g 5 = dMs D) ∧
  (∀ p, p < 3 → g (6 + p) = ((dPs D).getD p (0, 0)).2 ∧ g (41 + p) = ((dPs D).getD p (0, 0)).1 ∧ g (44 + p) = ((dPs D).getD p (0, 0)).1) ∧
  (∀ t, t < 4 → g (50 + t) = (dTs D).getD t 0) ∧
  (∀ r, r < 8 → g (9 + r) = ((dRs D).getD r (0, 0, 0, 0)).1 ∧ g (17 + r) = ((dRs D).getD r (0, 0, 0, 0)).2.2.2 ∧ g (25 + r) = ((dRs D).getD r (0, 0, 0, 0)).2.1 ∧ g (33 + r) = ((dRs D).getD r (0, 0, 0, 0)).2.2.1 - ((dRs D).getD r (0, 0, 0, 0)).2.1) ∧
  (∀ j, (47 ≤ j ∧ j < 50) ∨ (54 ≤ j ∧ j < 559) → g j = if (76 ≤ j ∧ j < 79) ∨ (82 ≤ j ∧ j < 85) then -1 else 0)
section DGS
variable {g g' : Nat → Int} {D : Dr} {n : Nat}
theorem DG.same (h : DG g D) (e : ∀ j, j < 559 → g' j = g j) : DG g' D := by
  obtain ⟨⟨a0, a1, a2, a3, a4, a5⟩, hp, ht, hr, ho⟩ := h
  refine ⟨⟨by rw [e 0 (by omega)]; exact a0, by rw [e 1 (by omega)]; exact a1, by rw [e 2 (by omega)]; exact a2, by rw [e 3 (by omega)]; exact a3, by rw [e 4 (by omega)]; exact a4, by rw [e 5 (by omega)]; exact a5⟩, fun p h3 => ?_, fun t h4 => ?_, fun r h8 => ?_, fun j hj => ?_⟩
  · rw [e _ (by omega), e _ (by omega), e _ (by omega)]
    exact hp p h3
  · rw [e _ (by omega)]
    exact ht t h4
  · rw [e _ (by omega), e _ (by omega), e _ (by omega), e _ (by omega)]
    exact hr r h8
  · rw [e _ (by omega)]
    exact ho j hj
/-- one of the six fields -/
theorem DG_deep {v : Int} (h : DG g D) : DG (up1 g 1 v) (mkD v (dMs D) (dLn D) (dPs D) (dTs D) (dRs D) (dOu D)) := by
  obtain ⟨⟨a0, a1, a2, a3, a4, a5⟩, hp, ht, hr, ho⟩ := h
  have e : ∀ j, j ≠ 1 → up1 g 1 v j = g j := fun j hj => up1_n hj
  refine ⟨⟨by rw [e 0 (by omega)]; exact a0, up1_s, by rw [e 2 (by omega)]; exact a2, by rw [e 3 (by omega)]; exact a3, by rw [e 4 (by omega)]; exact a4, by rw [e 5 (by omega)]; exact a5⟩, fun p h3 => ?_, fun t h4 => ?_, fun r h8 => ?_, fun j hj => ?_⟩
  · rw [e _ (by omega), e _ (by omega), e _ (by omega)]
    exact hp p h3
  · rw [e _ (by omega)]
    exact ht t h4
  · rw [e _ (by omega), e _ (by omega), e _ (by omega), e _ (by omega)]
    exact hr r h8
  · rw [e _ (by omega)]
    exact ho j hj
theorem DG_miss {v : Int} (h : DG g D) : DG (up1 g 5 v) (mkD (dDp D) v (dLn D) (dPs D) (dTs D) (dRs D) (dOu D)) := by
  obtain ⟨⟨a0, a1, a2, a3, a4, a5⟩, hp, ht, hr, ho⟩ := h
  have e : ∀ j, j ≠ 5 → up1 g 5 v j = g j := fun j hj => up1_n hj
  refine ⟨⟨by rw [e 0 (by omega)]; exact a0, by rw [e 1 (by omega)]; exact a1, by rw [e 2 (by omega)]; exact a2, by rw [e 3 (by omega)]; exact a3, by rw [e 4 (by omega)]; exact a4, up1_s⟩, fun p h3 => ?_, fun t h4 => ?_, fun r h8 => ?_, fun j hj => ?_⟩
  · rw [e _ (by omega), e _ (by omega), e _ (by omega)]
    exact hp p h3
  · rw [e _ (by omega)]
    exact ht t h4
  · rw [e _ (by omega), e _ (by omega), e _ (by omega), e _ (by omega)]
    exact hr r h8
  · rw [e _ (by omega)]
    exact ho j hj
theorem DG_line (h : DG g D) : DG (up1 g 0 (dLn D + 1)) (addLn D) := by
  obtain ⟨⟨a0, a1, a2, a3, a4, a5⟩, hp, ht, hr, ho⟩ := h
  have e : ∀ j, j ≠ 0 → up1 g 0 (dLn D + 1) j = g j := fun j hj => up1_n hj
  refine ⟨⟨up1_s, by rw [e 1 (by omega)]; exact a1, by rw [e 2 (by omega)]; exact a2, by rw [e 3 (by omega)]; exact a3, by rw [e 4 (by omega)]; exact a4, by rw [e 5 (by omega)]; exact a5⟩, fun p h3 => ?_, fun t h4 => ?_, fun r h8 => ?_, fun j hj => ?_⟩
  · rw [e _ (by omega), e _ (by omega), e _ (by omega)]
    exact hp p h3
  · rw [e _ (by omega)]
    exact ht t h4
  · rw [e _ (by omega), e _ (by omega), e _ (by omega), e _ (by omega)]
    exact hr r h8
  · rw [e _ (by omega)]
    exact ho j hj
theorem DG_pers {c l : Int} (h : DG g D) (hn : (dPs D).length = n) (h3 : n < 3) : DG (up1 (up1 (up1 (up1 g (41 + n) c) (44 + n) c) (6 + n) l) 2 ((n : Int) + 1)) (mkD (dDp D) (dMs D) (dLn D) (dPs D ++ [(c, l)]) (dTs D) (dRs D) (dOu D)) := by
  obtain ⟨⟨a0, a1, a2, a3, a4, a5⟩, hp, ht, hr, ho⟩ := h
  have e : ∀ j, j ≠ 2 → j ≠ 6 + n → j ≠ 41 + n → j ≠ 44 + n → (up1 (up1 (up1 (up1 g (41 + n) c) (44 + n) c) (6 + n) l) 2 ((n : Int) + 1)) j = g j := fun j h1 h2 h3 h4 => by rw [up1_n h1, up1_n h2, up1_n h4, up1_n h3]
  have e2 : (up1 (up1 (up1 (up1 g (41 + n) c) (44 + n) c) (6 + n) l) 2 ((n : Int) + 1)) 2 = (n : Int) + 1 := up1_s
  have e6 : (up1 (up1 (up1 (up1 g (41 + n) c) (44 + n) c) (6 + n) l) 2 ((n : Int) + 1)) (6 + n) = l := by rw [up1_n (by omega), up1_s]
  have e41 : (up1 (up1 (up1 (up1 g (41 + n) c) (44 + n) c) (6 + n) l) 2 ((n : Int) + 1)) (41 + n) = c := by rw [up1_n (by omega), up1_n (by omega), up1_n (by omega), up1_s]
  have e44 : (up1 (up1 (up1 (up1 g (41 + n) c) (44 + n) c) (6 + n) l) 2 ((n : Int) + 1)) (44 + n) = c := by rw [up1_n (by omega), up1_n (by omega), up1_s]
  generalize (up1 (up1 (up1 (up1 g (41 + n) c) (44 + n) c) (6 + n) l) 2 ((n : Int) + 1)) = g2 at *
  refine ⟨⟨by rw [e 0 (by omega) (by omega) (by omega) (by omega)]; exact a0, by rw [e 1 (by omega) (by omega) (by omega) (by omega)]; exact a1, ?_, by rw [e 3 (by omega) (by omega) (by omega) (by omega)]; exact a3, by rw [e 4 (by omega) (by omega) (by omega) (by omega)]; exact a4, by rw [e 5 (by omega) (by omega) (by omega) (by omega)]; exact a5⟩, fun p hp3 => ?_, fun t h4 => ?_, fun r h8 => ?_, fun j hj => ?_⟩
  · show g2 2 = ((dPs D ++ [(c, l)]).length : Int)
    rw [e2, List.length_append, List.length_singleton, hn]
    rfl
  · show g2 (6 + p) = ((dPs D ++ [(c, l)]).getD p (0, 0)).2 ∧ g2 (41 + p) = ((dPs D ++ [(c, l)]).getD p (0, 0)).1 ∧ g2 (44 + p) = ((dPs D ++ [(c, l)]).getD p (0, 0)).1
    rw [gD_ap, hn]
    by_cases y : p = n
    · rw [if_pos y, y]
      exact ⟨e6, e41, e44⟩
    · rw [if_neg y, e _ (by omega) (by omega) (by omega) (by omega), e _ (by omega) (by omega) (by omega) (by omega), e _ (by omega) (by omega) (by omega) (by omega)]
      exact hp p hp3
  · rw [e _ (by omega) (by omega) (by omega) (by omega)]
    exact ht t h4
  · rw [e _ (by omega) (by omega) (by omega) (by omega), e _ (by omega) (by omega) (by omega) (by omega), e _ (by omega) (by omega) (by omega) (by omega), e _ (by omega) (by omega) (by omega) (by omega)]
    exact hr r h8
  · rw [e _ (by omega) (by omega) (by omega) (by omega)]
    exact ho j hj
theorem DG_thing {c : Int} (h : DG g D) (hn : (dTs D).length = n) (h4 : n < 4) : DG (up1 (up1 g (50 + n) c) 3 ((n : Int) + 1)) (mkD (dDp D) (dMs D) (dLn D) (dPs D) (dTs D ++ [c]) (dRs D) (dOu D)) := by
  obtain ⟨⟨a0, a1, a2, a3, a4, a5⟩, hp, ht, hr, ho⟩ := h
  have e : ∀ j, j ≠ 3 → j ≠ 50 + n → (up1 (up1 g (50 + n) c) 3 ((n : Int) + 1)) j = g j := fun j h1 h2 => by rw [up1_n h1, up1_n h2]
  have e3 : (up1 (up1 g (50 + n) c) 3 ((n : Int) + 1)) 3 = (n : Int) + 1 := up1_s
  have e50 : (up1 (up1 g (50 + n) c) 3 ((n : Int) + 1)) (50 + n) = c := by rw [up1_n (by omega), up1_s]
  generalize (up1 (up1 g (50 + n) c) 3 ((n : Int) + 1)) = g2 at *
  refine ⟨⟨by rw [e 0 (by omega) (by omega)]; exact a0, by rw [e 1 (by omega) (by omega)]; exact a1, by rw [e 2 (by omega) (by omega)]; exact a2, ?_, by rw [e 4 (by omega) (by omega)]; exact a4, by rw [e 5 (by omega) (by omega)]; exact a5⟩, fun p hp3 => ?_, fun t ht4 => ?_, fun r h8 => ?_, fun j hj => ?_⟩
  · show g2 3 = ((dTs D ++ [c]).length : Int)
    rw [e3, List.length_append, List.length_singleton, hn]
    rfl
  · rw [e _ (by omega) (by omega), e _ (by omega) (by omega), e _ (by omega) (by omega)]
    exact hp p hp3
  · show g2 (50 + t) = (dTs D ++ [c]).getD t 0
    rw [gD_ap, hn]
    by_cases y : t = n
    · rw [if_pos y, y]
      exact e50
    · rw [if_neg y, e _ (by omega) (by omega)]
      exact ht t ht4
  · rw [e _ (by omega) (by omega), e _ (by omega) (by omega), e _ (by omega) (by omega), e _ (by omega) (by omega)]
    exact hr r h8
  · rw [e _ (by omega) (by omega)]
    exact ho j hj
theorem DG_rule {k w f m : Int} {ou : List Int} (h : DG g D) (hn : (dRs D).length = n) (h8 : n < 8) : DG (up1 (up1 (up1 (up1 (up1 g (17 + n) k) (9 + n) w) (25 + n) f) (33 + n) (m - f)) 4 ((n : Int) + 1)) (mkD (dDp D) (dMs D) (dLn D) (dPs D) (dTs D) (dRs D ++ [(w, f, m, k)]) ou) := by
  obtain ⟨⟨a0, a1, a2, a3, a4, a5⟩, hp, ht, hr, ho⟩ := h
  have e : ∀ j, j ≠ 4 → j ≠ 9 + n → j ≠ 17 + n → j ≠ 25 + n → j ≠ 33 + n → (up1 (up1 (up1 (up1 (up1 g (17 + n) k) (9 + n) w) (25 + n) f) (33 + n) (m - f)) 4 ((n : Int) + 1)) j = g j := fun j h1 h2 h3 h4 h5 => by rw [up1_n h1, up1_n h5, up1_n h4, up1_n h2, up1_n h3]
  have e4 : (up1 (up1 (up1 (up1 (up1 g (17 + n) k) (9 + n) w) (25 + n) f) (33 + n) (m - f)) 4 ((n : Int) + 1)) 4 = (n : Int) + 1 := up1_s
  have e9 : (up1 (up1 (up1 (up1 (up1 g (17 + n) k) (9 + n) w) (25 + n) f) (33 + n) (m - f)) 4 ((n : Int) + 1)) (9 + n) = w := by rw [up1_n (by omega), up1_n (by omega), up1_n (by omega), up1_s]
  have e17 : (up1 (up1 (up1 (up1 (up1 g (17 + n) k) (9 + n) w) (25 + n) f) (33 + n) (m - f)) 4 ((n : Int) + 1)) (17 + n) = k := by rw [up1_n (by omega), up1_n (by omega), up1_n (by omega), up1_n (by omega), up1_s]
  have e25 : (up1 (up1 (up1 (up1 (up1 g (17 + n) k) (9 + n) w) (25 + n) f) (33 + n) (m - f)) 4 ((n : Int) + 1)) (25 + n) = f := by rw [up1_n (by omega), up1_n (by omega), up1_s]
  have e33 : (up1 (up1 (up1 (up1 (up1 g (17 + n) k) (9 + n) w) (25 + n) f) (33 + n) (m - f)) 4 ((n : Int) + 1)) (33 + n) = m - f := by rw [up1_n (by omega), up1_s]
  generalize (up1 (up1 (up1 (up1 (up1 g (17 + n) k) (9 + n) w) (25 + n) f) (33 + n) (m - f)) 4 ((n : Int) + 1)) = g2 at *
  refine ⟨⟨by rw [e 0 (by omega) (by omega) (by omega) (by omega) (by omega)]; exact a0, by rw [e 1 (by omega) (by omega) (by omega) (by omega) (by omega)]; exact a1, by rw [e 2 (by omega) (by omega) (by omega) (by omega) (by omega)]; exact a2, by rw [e 3 (by omega) (by omega) (by omega) (by omega) (by omega)]; exact a3, ?_, by rw [e 5 (by omega) (by omega) (by omega) (by omega) (by omega)]; exact a5⟩, fun p hp3 => ?_, fun t ht4 => ?_, fun r hr8 => ?_, fun j hj => ?_⟩
  · show g2 4 = ((dRs D ++ [(w, f, m, k)]).length : Int)
    rw [e4, List.length_append, List.length_singleton, hn]
    rfl
  · rw [e _ (by omega) (by omega) (by omega) (by omega) (by omega), e _ (by omega) (by omega) (by omega) (by omega) (by omega), e _ (by omega) (by omega) (by omega) (by omega) (by omega)]
    exact hp p hp3
  · rw [e _ (by omega) (by omega) (by omega) (by omega) (by omega)]
    exact ht t ht4
  · show g2 (9 + r) = ((dRs D ++ [(w, f, m, k)]).getD r (0, 0, 0, 0)).1 ∧ g2 (17 + r) = ((dRs D ++ [(w, f, m, k)]).getD r (0, 0, 0, 0)).2.2.2 ∧ g2 (25 + r) = ((dRs D ++ [(w, f, m, k)]).getD r (0, 0, 0, 0)).2.1 ∧ g2 (33 + r) = ((dRs D ++ [(w, f, m, k)]).getD r (0, 0, 0, 0)).2.2.1 - ((dRs D ++ [(w, f, m, k)]).getD r (0, 0, 0, 0)).2.1
    rw [gD_ap, hn]
    by_cases y : r = n
    · rw [if_pos y, y]
      exact ⟨e9, e17, e25, e33⟩
    · rw [if_neg y, e _ (by omega) (by omega) (by omega) (by omega) (by omega), e _ (by omega) (by omega) (by omega) (by omega) (by omega), e _ (by omega) (by omega) (by omega) (by omega) (by omega), e _ (by omega) (by omega) (by omega) (by omega) (by omega)]
      exact hr r hr8
  · rw [e _ (by omega) (by omega) (by omega) (by omega) (by omega)]
    exact ho j hj
end DGS
/-- what holds of a draft that was read -/
def TyD (D : Dr) : Prop := ∀ r, r < (dRs D).length → -1 ≤ ((dRs D).getD r (0, 0, 0, 0)).1 ∧ ((dRs D).getD r (0, 0, 0, 0)).1 < (dPs D).length ∧ 0 ≤ ((dRs D).getD r (0, 0, 0, 0)).2.2.2 ∧ ((dRs D).getD r (0, 0, 0, 0)).2.2.2 ≤ 8 ∧ ∃ x y : Nat, ((dRs D).getD r (0, 0, 0, 0)).2.1 = x ∧ ((dRs D).getD r (0, 0, 0, 0)).2.2.1 = ((x + y : Nat) : Int) ∧ x + y ≤ (dOu D).length ∧ tyR (fun j => (dOu D).getD j 0) x y [] = some [true]
def OKD (D : Dr) : Prop := DB D ∧ (∀ p, p < (dPs D).length → 0 ≤ ((dPs D).getD p (0, 0)).1 ∧ ((dPs D).getD p (0, 0)).1 < dDp D ∧ 0 ≤ ((dPs D).getD p (0, 0)).2 ∧ ((dPs D).getD p (0, 0)).2 ≤ 4) ∧ (∀ t, t < (dTs D).length → 0 ≤ (dTs D).getD t 0 ∧ (dTs D).getD t 0 ≤ 35) ∧ (0 ≤ dMs D ∧ dMs D ≤ 9) ∧ TyD D
theorem tyR_ext {f f' : Nat → Int} : ∀ (n i : Nat) (st : List Bool), (∀ j, i ≤ j → j < i + n → f' j = f j) → tyR f' i n st = tyR f i n st
  | 0, i, st, _ => rfl
  | n + 1, i, st, h => by
    show (match tyS (f' i) st with
      | some st' => tyR f' (i + 1) n st'
      | none => none) = (match tyS (f i) st with
      | some st' => tyR f (i + 1) n st'
      | none => none)
    rw [h i (by omega) (by omega)]
    cases tyS (f i) st with
    | none => rfl
    | some s2 => exact tyR_ext n (i + 1) s2 (fun j h1 h2 => h j (by omega) (by omega))
section OKS
variable {D : Dr}
theorem OKD_deep {v : Int} (h : OKD D) (hp : (dPs D).length = 0) (h0 : 2 ≤ v) (h1 : v ≤ 9) : OKD (mkD v (dMs D) (dLn D) (dPs D) (dTs D) (dRs D) (dOu D)) := by
  obtain ⟨o1, o2, o3, o4, o5⟩ := h
  refine ⟨⟨⟨h0, h1⟩, o1.2⟩, fun p q => ?_, o3, o4, o5⟩
  have q' : p < (dPs D).length := q
  omega
theorem OKD_miss {v : Int} (h : OKD D) (h0 : 0 ≤ v) (h1 : v ≤ 9) : OKD (mkD (dDp D) v (dLn D) (dPs D) (dTs D) (dRs D) (dOu D)) := by
  obtain ⟨o1, o2, o3, o4, o5⟩ := h
  exact ⟨o1, o2, o3, ⟨h0, h1⟩, o5⟩
theorem OKD_line (h : OKD D) : OKD (addLn D) := h
theorem OKD_pers {c l : Int} (h : OKD D) (h3 : (dPs D).length < 3) (c0 : 0 ≤ c) (c1 : c < dDp D) (l0 : 0 ≤ l) (l1 : l ≤ 4) : OKD (mkD (dDp D) (dMs D) (dLn D) (dPs D ++ [(c, l)]) (dTs D) (dRs D) (dOu D)) := by
  obtain ⟨o1, o2, o3, o4, o5⟩ := h
  refine ⟨⟨o1.1, ?_, o1.2.2⟩, fun p q => ?_, o3, o4, fun r q => ?_⟩
  · show (dPs D ++ [(c, l)]).length ≤ 3
    rw [List.length_append, List.length_singleton]
    omega
  · have q' : p < (dPs D ++ [(c, l)]).length := q
    rw [List.length_append, List.length_singleton] at q'
    show 0 ≤ ((dPs D ++ [(c, l)]).getD p (0, 0)).1 ∧ ((dPs D ++ [(c, l)]).getD p (0, 0)).1 < dDp D ∧ 0 ≤ ((dPs D ++ [(c, l)]).getD p (0, 0)).2 ∧ ((dPs D ++ [(c, l)]).getD p (0, 0)).2 ≤ 4
    rw [gD_ap]
    by_cases y : p = (dPs D).length
    · rw [if_pos y]
      exact ⟨c0, c1, l0, l1⟩
    · rw [if_neg y]
      exact o2 p (by omega)
  · obtain ⟨t1, t2, t3⟩ := o5 r q
    refine ⟨t1, ?_, t3⟩
    show ((dRs D).getD r (0, 0, 0, 0)).1 < ((dPs D ++ [(c, l)]).length : Int)
    rw [List.length_append, List.length_singleton]
    omega
theorem OKD_thing {c : Int} (h : OKD D) (h4 : (dTs D).length < 4) (c0 : 0 ≤ c) (c1 : c ≤ 35) : OKD (mkD (dDp D) (dMs D) (dLn D) (dPs D) (dTs D ++ [c]) (dRs D) (dOu D)) := by
  obtain ⟨o1, o2, o3, o4, o5⟩ := h
  refine ⟨⟨o1.1, o1.2.1, ?_, o1.2.2.2⟩, o2, fun t q => ?_, o4, o5⟩
  · show (dTs D ++ [c]).length ≤ 4
    rw [List.length_append, List.length_singleton]
    omega
  · have q' : t < (dTs D ++ [c]).length := q
    rw [List.length_append, List.length_singleton] at q'
    show 0 ≤ (dTs D ++ [c]).getD t 0 ∧ (dTs D ++ [c]).getD t 0 ≤ 35
    rw [gD_ap]
    by_cases y : t = (dTs D).length
    · rw [if_pos y]
      exact ⟨c0, c1⟩
    · rw [if_neg y]
      exact o3 t (by omega)
theorem gD_lt {L M : List Int} {j : Nat} (h : j < L.length) : (L ++ M).getD j 0 = L.getD j 0 := by
  rw [List.getD_eq_getElem?_getD, List.getD_eq_getElem?_getD, List.getElem?_append_left h]
theorem gD_ge {L M : List Int} {j : Nat} : (L ++ M).getD (L.length + j) 0 = M.getD j 0 := by
  rw [List.getD_eq_getElem?_getD, List.getD_eq_getElem?_getD, List.getElem?_append_right (by omega), Nat.add_sub_cancel_left]
theorem OKD_rule {w k : Int} {ou L : List Int} (h : OKD D) (h8 : (dRs D).length < 8) (w0 : -1 ≤ w) (w1 : w < (dPs D).length) (k0 : 0 ≤ k) (k1 : k ≤ 8) (hou : ou = dOu D ++ L) (hty : tyL L [] = some [true]) : OKD (mkD (dDp D) (dMs D) (dLn D) (dPs D) (dTs D) (dRs D ++ [(w, ((dOu D).length : Int), (ou.length : Int), k)]) ou) := by
  obtain ⟨o1, o2, o3, o4, o5⟩ := h
  have lo : ou.length = (dOu D).length + L.length := by rw [hou, List.length_append]
  refine ⟨⟨o1.1, o1.2.1, o1.2.2.1, ?_⟩, o2, o3, o4, fun r q => ?_⟩
  · show (dRs D ++ [_]).length ≤ 8
    rw [List.length_append, List.length_singleton]
    omega
  · have q' : r < (dRs D ++ [(w, ((dOu D).length : Int), (ou.length : Int), k)]).length := q
    rw [List.length_append, List.length_singleton] at q'
    show -1 ≤ ((dRs D ++ [(w, ((dOu D).length : Int), (ou.length : Int), k)]).getD r (0, 0, 0, 0)).1 ∧ ((dRs D ++ [(w, ((dOu D).length : Int), (ou.length : Int), k)]).getD r (0, 0, 0, 0)).1 < (dPs D).length ∧ 0 ≤ ((dRs D ++ [(w, ((dOu D).length : Int), (ou.length : Int), k)]).getD r (0, 0, 0, 0)).2.2.2 ∧ ((dRs D ++ [(w, ((dOu D).length : Int), (ou.length : Int), k)]).getD r (0, 0, 0, 0)).2.2.2 ≤ 8 ∧ ∃ x y : Nat, ((dRs D ++ [(w, ((dOu D).length : Int), (ou.length : Int), k)]).getD r (0, 0, 0, 0)).2.1 = x ∧ ((dRs D ++ [(w, ((dOu D).length : Int), (ou.length : Int), k)]).getD r (0, 0, 0, 0)).2.2.1 = ((x + y : Nat) : Int) ∧ x + y ≤ ou.length ∧ tyR (fun j => ou.getD j 0) x y [] = some [true]
    rw [gD_ap]
    by_cases y : r = (dRs D).length
    · rw [if_pos y]
      refine ⟨w0, w1, k0, k1, (dOu D).length, L.length, rfl, by rw [lo], by omega, ?_⟩
      rw [← hty]
      exact tyR_L L _ _ (fun j hj => by
        show ou.getD ((dOu D).length + j) 0 = _
        rw [hou]
        exact gD_ge)
    · rw [if_neg y]
      obtain ⟨t1, t2, t3, t4, x, y', t5, t6, t7, t8⟩ := o5 r (by omega)
      refine ⟨t1, t2, t3, t4, x, y', t5, t6, by omega, ?_⟩
      rw [← t8]
      exact tyR_ext _ _ _ (fun j j1 j2 => by
        show ou.getD j 0 = _
        rw [hou]
        exact gD_lt (by omega))
end OKS
