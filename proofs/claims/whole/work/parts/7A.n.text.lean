/-! the class's reader: a text -/
theorem runS_le {b : Nat → Int} {len i' : Nat} {K' : KS} : ∀ (n i : Nat) (K : KS), runS b len n i K = .inr (i', K') → i ≤ len → i ≤ i' ∧ i' ≤ len
  | 0, i, K, h, hi => by
    unfold runS at h
    exact absurd h (by simp)
  | n + 1, i, K, h, hi => by
    unfold runS at h
    by_cases dn : isDn (tKd b len i) K = true
    · rw [if_pos dn] at h
      cases h
      exact ⟨Nat.le_refl _, hi⟩
    · rw [if_neg dn] at h
      obtain ⟨e1, e2, _⟩ := tEn_rng (b := b) hi
      have e3 := (tSt_rng (b := b) hi).1
      cases hs : sTp (tKd b len i) (tNu b len i) K with
      | inl f =>
        rw [hs] at h
        exact absurd h (by simp)
      | inr K1 =>
        rw [hs] at h
        have := runS_le n (tEn b len i) K1 h e2
        exact ⟨by omega, this.2⟩
theorem nbF_none {k nu lo hi : Int} (h : nbF k nu lo hi = none) : k = 26 ∧ lo ≤ nu ∧ nu ≤ hi := by
  unfold nbF at h
  split at h
  · rename_i a
    split at h
    · rename_i c
      exact ⟨a, c⟩
    · exact absurd h (by simp)
  · exact absurd h (by simp)
/-- what a line is, its end aside -/
def lnW (b : Nat → Int) (len i : Nat) (D : Dr) : Sum (Int × Nat) (Nat × Dr) :=
  if tKd b len i = 9 then lnDeep b len i D else if tKd b len i = 10 then lnPers b len i D else if tKd b len i = 12 then lnThing b len i D else if tKd b len i = 14 then lnRule b len i D else if tKd b len i = 16 then lnMiss b len i D else .inl (rfK (tKd b len i), tSt b len i)
def addLn (D : Dr) : Dr := mkD (dDp D) (dMs D) (dLn D + 1) (dPs D) (dTs D) (dRs D) (dOu D)
def lnF (b : Nat → Int) (len i : Nat) (D : Dr) : Sum (Int × Nat) (Nat × Dr) :=
  match lnW b len i D with
  | .inl x => .inl x
  | .inr (j, D') => if tKd b len j = 30 then .inr (tEn b len j, addLn D') else .inl (rfK (tKd b len j), tSt b len j)
def txF (b : Nat → Int) (len : Nat) : Nat → Nat → Dr → Sum (Int × Nat) Dr
  | 0, _, D => .inr D
  | n + 1, i, D => if tKd b len i = 27 then .inr D else match lnF b len i D with
    | .inl x => .inl x
    | .inr (j, D') => txF b len n j D'
section PURE
variable {b : Nat → Int} {len i i' : Nat} {D D' : Dr}
theorem lnDeep_ok (h : lnDeep b len i D = .inr (i', D')) (hi : i ≤ len) (hB : DB D) : DB D' ∧ tEn b len i ≤ i' ∧ i' ≤ len ∧ dOu D' = dOu D ∧ dLn D' = dLn D := by
  obtain ⟨r1, r2, _⟩ := tEn_rng (b := b) hi
  obtain ⟨r3, r4, _⟩ := tEn_rng (b := b) r2
  have r5 := (tSt_rng (b := b) r2).1
  unfold lnDeep at h
  split at h
  · exact absurd h (by simp)
  · cases hn : nbF (tKd b len (tEn b len i)) (tNu b len (tEn b len i)) 2 9 with
    | some f =>
      rw [hn] at h
      exact absurd h (by simp)
    | none =>
      rw [hn] at h
      have := nbF_none hn
      cases h
      exact ⟨⟨this.2, hB.2⟩, by omega, r4, rfl, rfl⟩
theorem lnMiss_ok (h : lnMiss b len i D = .inr (i', D')) (hi : i ≤ len) (hB : DB D) : DB D' ∧ tEn b len i ≤ i' ∧ i' ≤ len ∧ dOu D' = dOu D ∧ dLn D' = dLn D := by
  obtain ⟨r1, r2, _⟩ := tEn_rng (b := b) hi
  obtain ⟨r3, r4, _⟩ := tEn_rng (b := b) r2
  have r5 := (tSt_rng (b := b) r2).1
  unfold lnMiss at h
  cases hn : nbF (tKd b len (tEn b len i)) (tNu b len (tEn b len i)) 0 9 with
  | some f =>
    rw [hn] at h
    exact absurd h (by simp)
  | none =>
    rw [hn] at h
    cases h
    exact ⟨hB, by omega, r4, rfl, rfl⟩
theorem lnThing_ok (h : lnThing b len i D = .inr (i', D')) (hi : i ≤ len) (hB : DB D) : DB D' ∧ tEn b len i ≤ i' ∧ i' ≤ len ∧ dOu D' = dOu D ∧ dLn D' = dLn D := by
  obtain ⟨r1, r2, _⟩ := tEn_rng (b := b) hi
  obtain ⟨r3, r4, _⟩ := tEn_rng (b := b) r2
  obtain ⟨r6, r7, _⟩ := tEn_rng (b := b) r4
  have r5 := (tSt_rng (b := b) r2).1
  have r8 := (tSt_rng (b := b) r4).1
  unfold lnThing at h
  by_cases c : 4 ≤ (dTs D).length
  · rw [if_pos c] at h
    exact absurd h (by simp)
  · rw [if_neg c] at h
    have bd : ∀ x, DB (mkD (dDp D) (dMs D) (dLn D) (dPs D) (dTs D ++ [x]) (dRs D) (dOu D)) := fun x => ⟨hB.1, hB.2.1, by
      show (dTs D ++ [x]).length ≤ 4
      rw [List.length_append, List.length_singleton]
      omega, hB.2.2.2⟩
    cases hn : nbF (tKd b len (tEn b len i)) (tNu b len (tEn b len i)) 0 (dDp D - 1) with
    | some f =>
      rw [hn] at h
      exact absurd h (by simp)
    | none =>
      rw [hn] at h
      dsimp only at h
      split at h
      · cases h
        exact ⟨bd _, by omega, r7, rfl, rfl⟩
      · cases h
        exact ⟨bd _, by omega, r4, rfl, rfl⟩
theorem lnPers_ok (h : lnPers b len i D = .inr (i', D')) (hi : i ≤ len) (hB : DB D) : DB D' ∧ tEn b len i ≤ i' ∧ i' ≤ len ∧ dOu D' = dOu D ∧ dLn D' = dLn D := by
  obtain ⟨r1, r2, _⟩ := tEn_rng (b := b) hi
  obtain ⟨r3, r4, _⟩ := tEn_rng (b := b) r2
  obtain ⟨r6, r7, _⟩ := tEn_rng (b := b) r4
  obtain ⟨r9, r10, _⟩ := tEn_rng (b := b) r7
  have r5 := (tSt_rng (b := b) r2).1
  have r8 := (tSt_rng (b := b) r4).1
  have r11 := (tSt_rng (b := b) r7).1
  unfold lnPers at h
  by_cases c : 3 ≤ (dPs D).length
  · rw [if_pos c] at h
    exact absurd h (by simp)
  · rw [if_neg c] at h
    have bd : ∀ x, DB (mkD (dDp D) (dMs D) (dLn D) (dPs D ++ [x]) (dTs D) (dRs D) (dOu D)) := fun x => ⟨hB.1, by
      show (dPs D ++ [x]).length ≤ 3
      rw [List.length_append, List.length_singleton]
      omega, hB.2.2⟩
    cases hn : nbF (tKd b len (tEn b len i)) (tNu b len (tEn b len i)) 0 (dDp D - 1) with
    | some f =>
      rw [hn] at h
      exact absurd h (by simp)
    | none =>
      rw [hn] at h
      dsimp only at h
      split at h
      · cases hm : nbF (tKd b len (tEn b len (tEn b len (tEn b len i)))) (tNu b len (tEn b len (tEn b len (tEn b len i)))) 0 4 with
        | some f =>
          rw [hm] at h
          exact absurd h (by simp)
        | none =>
          rw [hm] at h
          cases h
          exact ⟨bd _, by omega, r10, rfl, rfl⟩
      · cases h
        exact ⟨bd _, by omega, r4, rfl, rfl⟩
theorem lnBody_ok {who : Int} (h : lnBody b len i who D = .inr (i', D')) (hi : i ≤ len) (hB : DB D) (hl : (dRs D).length < 8) : DB D' ∧ i ≤ i' ∧ i' ≤ len ∧ dLn D' = dLn D := by
  obtain ⟨r1, r2, _⟩ := tEn_rng (b := b) hi
  have r5 := (tSt_rng (b := b) hi).1
  unfold lnBody at h
  split at h
  · cases hr : runS b len (len + 1) (tEn b len i) (K0 (dOu D)) with
    | inl x =>
      rw [hr] at h
      exact absurd h (by simp)
    | inr x =>
      obtain ⟨j, K⟩ := x
      obtain ⟨j1, j2⟩ := runS_le _ _ _ hr r2
      obtain ⟨r3, r4, _⟩ := tEn_rng (b := b) j2
      obtain ⟨r6, r7, _⟩ := tEn_rng (b := b) r4
      have r8 := (tSt_rng (b := b) j2).1
      have r9 := (tSt_rng (b := b) r4).1
      rw [hr] at h
      dsimp only at h
      split at h
      · cases h
        exact ⟨⟨hB.1, hB.2.1, hB.2.2.1, by
          show (dRs D ++ [_]).length ≤ 8
          rw [List.length_append, List.length_singleton]
          omega⟩, by omega, r7, rfl⟩
      · exact absurd h (by simp)
  · exact absurd h (by simp)
theorem lnRule_ok (h : lnRule b len i D = .inr (i', D')) (hi : i ≤ len) (hB : DB D) : DB D' ∧ tEn b len i ≤ i' ∧ i' ≤ len ∧ dLn D' = dLn D := by
  obtain ⟨r1, r2, _⟩ := tEn_rng (b := b) hi
  obtain ⟨r3, r4, _⟩ := tEn_rng (b := b) r2
  have r5 := (tSt_rng (b := b) r2).1
  unfold lnRule at h
  by_cases c : 8 ≤ (dRs D).length
  · rw [if_pos c] at h
    exact absurd h (by simp)
  · rw [if_neg c] at h
    split at h
    · cases hn : nbF (tKd b len (tEn b len i)) (tNu b len (tEn b len i)) 0 ((dPs D).length - 1) with
      | some f =>
        rw [hn] at h
        exact absurd h (by simp)
      | none =>
        rw [hn] at h
        have := lnBody_ok h r4 hB (by omega)
        exact ⟨this.1, by omega, this.2.2⟩
    · have := lnBody_ok h r2 hB (by omega)
      exact ⟨this.1, by omega, this.2.2⟩
end PURE
