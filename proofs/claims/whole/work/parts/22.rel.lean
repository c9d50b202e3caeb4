/-! how the two objects' cells hang together between calls -/
/-- a rule's code, the class's number and the reference's -/
def cmap (c : Int) : Int := if c < 1000 then c else if c = 1000 then 1005 else if c ≤ 1005 then c - 1 else if c = 1010 then 3008 else c + 1989
/-- what a code does to the kinds on the stack (false: a number, true: a truth) -/
def tyS (c : Int) (st : List Bool) : Option (List Bool) :=
  if 0 ≤ c ∧ c ≤ 1005 then (if st.length < 60 then some (false :: st) else none)
  else if c = 1010 then (match st with
    | true :: r => some (true :: r)
    | _ => none)
  else if 1011 ≤ c ∧ c ≤ 1013 then (match st with
    | false :: false :: r => some (false :: r)
    | _ => none)
  else if 1014 ≤ c ∧ c ≤ 1016 then (match st with
    | false :: false :: r => some (true :: r)
    | _ => none)
  else if c = 1017 ∨ c = 1018 then (match st with
    | true :: true :: r => some (true :: r)
    | _ => none)
  else none
def tyR (f : Nat → Int) : Nat → Nat → List Bool → Option (List Bool)
  | _, 0, st => some st
  | i, n + 1, st => match tyS (f i) st with
    | some st' => tyR f (i + 1) n st'
    | none => none
/-- the tape -/
def Rtape (σ : mw_S) : Prop := 0 ≤ σ 1 2 ∧ σ 1 2 ≤ 900 ∧ σ 100 5 = σ 1 2 ∧ ∀ j : Nat, (j : Int) < σ 1 2 → σ 103 j = σ 2 j ∧ 0 ≤ σ 2 j ∧ σ 2 j ≤ 255
def Rflt (σ : mw_S) : Prop := σ 100 13 = σ 1 3 ∧ σ 100 14 = σ 1 4 ∧ 0 ≤ σ 1 3 ∧ σ 1 3 ≤ 4 ∧ -1 ≤ σ 1 4 ∧ σ 1 4 ≤ 900
/-- an arcade: fields f, rows late whose from to does code; the reference's numbers -/
def Rarc (f late whose from_ to_ does code A : Nat → Int) : Prop :=
  (A 1 = f 0 ∧ A 2 = f 1 ∧ A 3 = f 2 ∧ A 4 = f 3 ∧ A 5 = f 4 ∧ A 0 = f 5 ∧ A 559 = f 6) ∧
  (2 ≤ f 0 ∧ f 0 ≤ 9 ∧ 0 ≤ f 1 ∧ f 1 ≤ 3 ∧ 0 ≤ f 2 ∧ f 2 ≤ 4 ∧ 0 ≤ f 3 ∧ f 3 ≤ 8 ∧ 0 ≤ f 4 ∧ f 4 ≤ 9 ∧ 0 ≤ f 5 ∧ f 5 ≤ 900 ∧ 0 ≤ f 6 ∧ f 6 ≤ 900) ∧
  (∀ p : Nat, p < 3 → (p : Int) < f 1 → A (6 + p) = late p ∧ 0 ≤ late p ∧ late p ≤ 4) ∧
  (∀ r : Nat, r < 8 → (r : Int) < f 3 → A (9 + r) = whose r ∧ A (17 + r) = does r ∧ A (25 + r) = from_ r ∧ A (33 + r) = to_ r - from_ r ∧ -1 ≤ whose r ∧ whose r < f 1 ∧ 0 ≤ does r ∧ does r ≤ 8 ∧ 0 ≤ from_ r ∧ from_ r ≤ to_ r ∧ to_ r ≤ f 6 ∧ tyR code (from_ r).toNat (to_ r - from_ r).toNat [] = some [true]) ∧
  (∀ i : Nat, (i : Int) < f 6 → A (560 + i) = cmap (code i))
def RarcS (σ : mw_S) (a off : Nat) : Prop := Rarc (σ a) (σ (a + 2)) (σ (a + 4)) (σ (a + 5)) (σ (a + 6)) (σ (a + 7)) (σ (a + 8)) (fun k => σ 101 (off + k))
/-- a state's row: the class's c, the reference's R; at most n calls ago begun -/
def Rrow (n : Nat) (f c R : Nat → Int) : Prop :=
  (∀ k : Nat, k < 6 → R k = c k ∧ 0 ≤ c k ∧ c k < f 0) ∧
  (∀ t : Nat, t < 4 → R (9 + t) = c (6 + t) ∧ 0 ≤ c (6 + t) ∧ c (6 + t) ≤ 35) ∧
  (∀ p : Nat, p < 3 → R (6 + p) = c (10 + p) ∧ 0 ≤ c (10 + p) ∧ c (10 + p) ≤ 9) ∧
  (∀ p : Nat, p < 3 → 0 ≤ c (13 + p) ∧ c (13 + p) < 1048576 ∧ c (13 + p) % 65536 = R (13 + 4 * p) + 16 * R (14 + 4 * p) + 256 * R (15 + 4 * p) + 4096 * R (16 + 4 * p) ∧ ∀ k : Nat, k < 4 → 0 ≤ R (13 + 4 * p + k) ∧ R (13 + 4 * p + k) ≤ 8) ∧
  (R 34 = c 34 ∧ 0 ≤ c 34 ∧ c 34 ≤ 60 * n) ∧
  (∀ p : Nat, p < 3 → (p : Int) < f 1 → R (35 + p) = (if c 34 = 0 then -1 else c (13 + p) % 16) ∧ R (41 + p) = (if c 34 = 0 then -1 else c (16 + p))) ∧
  (∀ p : Nat, p < 3 → 0 ≤ c (16 + p) ∧ c (16 + p) ≤ 8 ∧ R (38 + p) = c (19 + p) ∧ R (44 + p) = c (22 + p) ∧ 0 ≤ c (19 + p) ∧ c (19 + p) ≤ 1 ∧ 0 ≤ c (22 + p) ∧ c (22 + p) ≤ 1) ∧
  (∀ q : Nat, q < 9 → R (25 + q) = c (25 + q) ∧ 0 ≤ c (25 + q) ∧ c (25 + q) ≤ 99999 ∧ (f 1 ≤ ((q / 3 : Nat) : Int) ∨ f 1 ≤ ((q % 3 : Nat) : Int) → c (25 + q) = 0))
/-- what can be undone: a ring of rows, against rows from the eldest on -/
def Rpast (n : Nat) (σ : mw_S) : Prop := 0 ≤ σ 25 0 ∧ σ 25 0 ≤ 10 ∧ 0 ≤ σ 25 1 ∧ σ 25 1 ≤ 9 ∧ σ 101 88 = σ 25 0 ∧ ∀ k : Nat, (k : Int) < σ 25 0 → Rrow n (σ 13) (σ (27 + ((σ 25 1 - σ 25 0 + k) % 10).toNat)) (fun j => σ 101 (89 + 47 * k + j))
def Rtray (σ : mw_S) : Prop := ∀ t : Nat, t < 4 → (σ 122 t = -1 ∧ σ 38 t = -1) ∨ (0 ≤ σ 122 t ∧ σ 122 t ≤ 3 ∧ σ 39 t = σ 122 t ∧ σ 38 t = σ 123 t ∧ 0 ≤ σ 38 t ∧ σ 38 t ≤ 40 ∧ ∀ i : Nat, (i : Int) < σ 38 t → σ 124 (40 * t + i) = σ (41 + t) i)
def Rimg (n : Nat) (σ : mw_S) (i : Nat) : Prop := (σ (76 + 11 * i) 0 = 0 ∨ σ (76 + 11 * i) 0 = 1) ∧ σ 102 i = σ (76 + 11 * i) 0 ∧ (σ (76 + 11 * i) 0 = 1 → RarcS σ (77 + 11 * i) (1460 * (i + 1)) ∧ Rrow n (σ (77 + 11 * i)) (σ (86 + 11 * i)) (fun k => σ 101 (1460 * (i + 1) + 41 + k)))
/-- all of it, n calls after both were made -/
def Rall (n : Nat) (σ : mw_S) : Prop := Rtape σ ∧ Rflt σ ∧ RarcS σ 13 0 ∧ Rrow n (σ 13) (σ 98) (fun k => σ 101 (41 + k)) ∧ Rpast n σ ∧ Rtray σ ∧ Rimg n σ 0 ∧ Rimg n σ 1
theorem Rrow.mono {n m : Nat} {f c R : Nat → Int} (h : Rrow n f c R) (hm : n ≤ m) : Rrow m f c R := by
  obtain ⟨h1, h2, h3, h4, h5, h6, h7, h8⟩ := h
  exact ⟨h1, h2, h3, h4, ⟨h5.1, h5.2.1, by have := h5.2.2; omega⟩, h6, h7, h8⟩
theorem Rpast.mono {n m : Nat} {σ : mw_S} (h : Rpast n σ) (hm : n ≤ m) : Rpast m σ := by
  obtain ⟨h1, h2, h3, h4, h5, h6⟩ := h
  exact ⟨h1, h2, h3, h4, h5, fun k hk => (h6 k hk).mono hm⟩
theorem Rimg.mono {n m i : Nat} {σ : mw_S} (h : Rimg n σ i) (hm : n ≤ m) : Rimg m σ i := by
  obtain ⟨h1, h2, h3⟩ := h
  exact ⟨h1, h2, fun q => ⟨(h3 q).1, (h3 q).2.mono hm⟩⟩
theorem Rall.mono {n m : Nat} {σ : mw_S} (h : Rall n σ) (hm : n ≤ m) : Rall m σ := by
  obtain ⟨h1, h2, h3, h4, h5, h6, h7, h8⟩ := h
  exact ⟨h1, h2, h3, h4.mono hm, h5.mono hm, h6, h7.mono hm, h8.mono hm⟩
/-- the cells that the relation looks at -/
def Rsee (a : Nat) : Bool := a == 2 || (a ≥ 13 && a ≤ 21) || (a ≥ 27 && a ≤ 36) || a == 38 || a == 39 || (a ≥ 41 && a ≤ 44) || (a ≥ 76 && a ≤ 98) || (a ≥ 101 && a ≤ 103) || (a ≥ 122 && a ≤ 124)
/-- it stays where these cells, and these fields, stay -/
theorem Rall.same {n : Nat} {σ σ' : mw_S} (h : Rall n σ) (h1 : ∀ a, Rsee a = true → σ' a = σ a) (h2 : σ' 1 2 = σ 1 2 ∧ σ' 1 3 = σ 1 3 ∧ σ' 1 4 = σ 1 4 ∧ σ' 25 0 = σ 25 0 ∧ σ' 25 1 = σ 25 1 ∧ σ' 100 5 = σ 100 5 ∧ σ' 100 13 = σ 100 13 ∧ σ' 100 14 = σ 100 14) : Rall n σ' := by
  obtain ⟨g1, g2, g3, g4, g5, g6, g7, g8⟩ := h
  obtain ⟨e1, e2, e3, e4, e5, e6, e7, e8⟩ := h2
  have c2 := h1 2 rfl
  have c13 := h1 13 rfl
  have c101 := h1 101 rfl
  have c102 := h1 102 rfl
  have c103 := h1 103 rfl
  have c98 := h1 98 rfl
  have cR : ∀ k : Nat, k < 10 → σ' (27 + k) = σ (27 + k) := fun k hk => h1 _ (by simp [Rsee]; omega)
  have cT : ∀ t : Nat, t < 4 → σ' (41 + t) = σ (41 + t) := fun t ht => h1 _ (by simp [Rsee]; omega)
  have cI : ∀ k : Nat, 76 ≤ k → k ≤ 98 → σ' k = σ k := fun k h2 h3 => h1 _ (by simp [Rsee]; omega)
  have cA : ∀ k : Nat, 13 ≤ k → k ≤ 21 → σ' k = σ k := fun k h2 h3 => h1 _ (by simp [Rsee]; omega)
  refine ⟨?_, ?_, ?_, ?_, ?_, ?_, ?_, ?_⟩
  · unfold Rtape at g1 ⊢
    rw [e1, e6, c2, c103]
    exact g1
  · unfold Rflt at g2 ⊢
    rw [e7, e8, e2, e3]
    exact g2
  · unfold RarcS at g3 ⊢
    rw [c13, c101, cA 15 (by omega) (by omega), cA 17 (by omega) (by omega), cA 18 (by omega) (by omega), cA 19 (by omega) (by omega), cA 20 (by omega) (by omega), cA 21 (by omega) (by omega)]
    exact g3
  · rw [c13, c98, c101]
    exact g4
  · unfold Rpast at g5 ⊢
    rw [e4, e5, c101, c13]
    obtain ⟨a1, a2, a3, a4, a5, a6⟩ := g5
    refine ⟨a1, a2, a3, a4, a5, fun k hk => ?_⟩
    rw [cR _ (by omega)]
    exact a6 k hk
  · unfold Rtray at g6 ⊢
    intro t ht
    rw [h1 122 rfl, h1 123 rfl, h1 124 rfl, h1 38 rfl, h1 39 rfl, cT t ht]
    exact g6 t ht
  · unfold Rimg RarcS at g7 ⊢
    rw [c101, c102, cI _ (by omega) (by omega), cI _ (by omega) (by omega), cI _ (by omega) (by omega), cI _ (by omega) (by omega), cI _ (by omega) (by omega), cI _ (by omega) (by omega), cI _ (by omega) (by omega), cI _ (by omega) (by omega), cI _ (by omega) (by omega)]
    exact g7
  · unfold Rimg RarcS at g8 ⊢
    rw [c101, c102, cI _ (by omega) (by omega), cI _ (by omega) (by omega), cI _ (by omega) (by omega), cI _ (by omega) (by omega), cI _ (by omega) (by omega), cI _ (by omega) (by omega), cI _ (by omega) (by omega), cI _ (by omega) (by omega), cI _ (by omega) (by omega)]
    exact g8
