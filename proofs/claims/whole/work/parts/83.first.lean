/-! where both begin -/
def mw_s0 : mw_S := fun a j =>
  if a = 3 ∨ a = 13 ∨ a = 77 ∨ a = 88 then (if j = 0 then 5 else 0)
  else if a = 1 then (if j = 4 then -1 else 0)
  else if a = 38 ∨ a = 122 then (if j < 4 then -1 else 0)
  else if a = 100 then (if j = 14 then -1 else 0)
  else if a = 101 then (if j = 1 then 5 else if (76 ≤ j ∧ j < 79) ∨ (82 ≤ j ∧ j < 85) then -1 else 0)
  else 0
theorem mw_s0_z {a j : Nat} (h : a ≠ 3 ∧ a ≠ 13 ∧ a ≠ 77 ∧ a ≠ 88 ∧ a ≠ 1 ∧ a ≠ 38 ∧ a ≠ 122 ∧ a ≠ 100 ∧ a ≠ 101) : mw_s0 a j = 0 := by
  unfold mw_s0
  rw [if_neg (by omega), if_neg (by omega), if_neg (by omega), if_neg (by omega), if_neg (by omega)]
theorem mw_s0_rng (a j : Nat) : -1 ≤ mw_s0 a j ∧ mw_s0 a j ≤ 5 := by
  unfold mw_s0
  (repeat' split) <;> omega
theorem mw_s0_ok : mw_okS mw_s0 := fun a j => by
  obtain ⟨h1, h2⟩ := mw_s0_rng a j
  exact ⟨fun _ => ⟨by omega, by omega⟩, ⟨by omega, by omega⟩⟩
theorem mw_s0_101 {j : Nat} : mw_s0 101 j = if j = 1 then 5 else if (76 ≤ j ∧ j < 79) ∨ (82 ≤ j ∧ j < 85) then -1 else 0 := rfl
theorem Rall_0 : Rall 0 mw_s0 := by
  have z13 : ∀ j, j ≠ 0 → mw_s0 13 j = 0 := fun j hj => by
    show (if j = 0 then (5 : Int) else 0) = 0
    rw [if_neg hj]
  have z98 : ∀ j, mw_s0 98 j = 0 := fun j => mw_s0_z (by decide)
  have n101 : ∀ j, j ≠ 1 → ¬ ((76 ≤ j ∧ j < 79) ∨ (82 ≤ j ∧ j < 85)) → mw_s0 101 j = 0 := fun j h1 h2 => by rw [mw_s0_101, if_neg h1, if_neg h2]
  have m101 : ∀ j, (76 ≤ j ∧ j < 79) ∨ (82 ≤ j ∧ j < 85) → mw_s0 101 j = -1 := fun j h => by rw [mw_s0_101, if_neg (by omega), if_pos h]
  have hA : (fun k => mw_s0 101 (0 + k)) = mw_s0 101 := by
    funext k
    rw [Nat.zero_add]
  refine ⟨⟨by decide, by decide, rfl, fun j hj => ?_⟩, ⟨rfl, rfl, by decide, by decide, by decide, by decide⟩, ?_, ?_, ?_, ?_, ?_, ?_⟩
  · have h0 : mw_s0 1 2 = 0 := rfl
    omega
  · unfold RarcS
    rw [hA]
    refine ⟨⟨rfl, rfl, rfl, rfl, rfl, rfl, rfl⟩, ⟨by decide, by decide, by decide, by decide, by decide, by decide, by decide, by decide, by decide, by decide, by decide, by decide, by decide, by decide⟩, fun p p3 hp => ?_, fun r r8 hr => ?_, fun i hi => ?_⟩
    · rw [z13 1 (by decide)] at hp
      omega
    · rw [z13 3 (by decide)] at hr
      omega
    · rw [z13 6 (by decide)] at hi
      omega
  · refine ⟨fun k hk => ?_, fun t ht => ?_, fun p hp => ?_, fun p hp => ?_, ?_, fun p hp hp1 => ?_, fun p hp => ?_, fun q hq => ?_⟩
    · show mw_s0 101 (41 + k) = mw_s0 98 k ∧ 0 ≤ mw_s0 98 k ∧ mw_s0 98 k < 5
      rw [z98, n101 _ (by omega) (by omega)]
      exact ⟨rfl, by decide, by decide⟩
    · show mw_s0 101 (41 + (9 + t)) = mw_s0 98 (6 + t) ∧ 0 ≤ mw_s0 98 (6 + t) ∧ mw_s0 98 (6 + t) ≤ 35
      rw [z98, n101 _ (by omega) (by omega)]
      exact ⟨rfl, by decide, by decide⟩
    · show mw_s0 101 (41 + (6 + p)) = mw_s0 98 (10 + p) ∧ 0 ≤ mw_s0 98 (10 + p) ∧ mw_s0 98 (10 + p) ≤ 9
      rw [z98, n101 _ (by omega) (by omega)]
      exact ⟨rfl, by decide, by decide⟩
    · show 0 ≤ mw_s0 98 (13 + p) ∧ mw_s0 98 (13 + p) < 1048576 ∧ mw_s0 98 (13 + p) % 65536 = mw_s0 101 (41 + (13 + 4 * p)) + 16 * mw_s0 101 (41 + (14 + 4 * p)) + 256 * mw_s0 101 (41 + (15 + 4 * p)) + 4096 * mw_s0 101 (41 + (16 + 4 * p)) ∧ ∀ k : Nat, k < 4 → 0 ≤ mw_s0 101 (41 + (13 + 4 * p + k)) ∧ mw_s0 101 (41 + (13 + 4 * p + k)) ≤ 8
      rw [z98, n101 _ (by omega) (by omega), n101 _ (by omega) (by omega), n101 _ (by omega) (by omega), n101 _ (by omega) (by omega)]
      refine ⟨by decide, by decide, by decide, fun k hk => ?_⟩
      rw [n101 _ (by omega) (by omega)]
      exact ⟨by decide, by decide⟩
    · exact ⟨rfl, by decide, by decide⟩
    · rw [z13 1 (by decide)] at hp1
      omega
    · show 0 ≤ mw_s0 98 (16 + p) ∧ mw_s0 98 (16 + p) ≤ 8 ∧ mw_s0 101 (41 + (38 + p)) = mw_s0 98 (19 + p) ∧ mw_s0 101 (41 + (44 + p)) = mw_s0 98 (22 + p) ∧ 0 ≤ mw_s0 98 (19 + p) ∧ mw_s0 98 (19 + p) ≤ 1 ∧ 0 ≤ mw_s0 98 (22 + p) ∧ mw_s0 98 (22 + p) ≤ 1
      rw [z98, z98, z98, n101 _ (by omega) (by omega), n101 _ (by omega) (by omega)]
      exact ⟨by decide, by decide, rfl, rfl, by decide, by decide, by decide, by decide⟩
    · show mw_s0 101 (41 + (25 + q)) = mw_s0 98 (25 + q) ∧ 0 ≤ mw_s0 98 (25 + q) ∧ mw_s0 98 (25 + q) ≤ 99999 ∧ (mw_s0 13 1 ≤ ((q / 3 : Nat) : Int) ∨ mw_s0 13 1 ≤ ((q % 3 : Nat) : Int) → mw_s0 98 (25 + q) = 0)
      rw [z98, n101 _ (by omega) (by omega)]
      exact ⟨rfl, by decide, by decide, fun _ => rfl⟩
  · refine ⟨by decide, by decide, by decide, by decide, rfl, fun k hk => ?_⟩
    have h0 : mw_s0 25 0 = 0 := rfl
    omega
  · intro t ht
    refine Or.inl ⟨?_, ?_⟩
    · show (if t < 4 then (-1 : Int) else 0) = -1
      rw [if_pos ht]
    · show (if t < 4 then (-1 : Int) else 0) = -1
      rw [if_pos ht]
  · exact ⟨Or.inl rfl, rfl, fun z => absurd (show mw_s0 76 0 = 1 from z) (by decide)⟩
  · exact ⟨Or.inl rfl, rfl, fun z => absurd (show mw_s0 87 0 = 1 from z) (by decide)⟩
theorem Rall_all : lq_ag Rall := ⟨g_feed, g_arcade, g_fault, g_person, g_copy, g_thing, g_can, g_would, g_step, g_undo, g_judge, g_perform, g_day, g_fails, g_round, g_soonest, g_states, g_reach, g_fits, g_smallest, g_sure, g_telling, g_meant, g_maybe, g_odds, g_win, g_wins, g_lends, g_owes, g_balance, g_clear, g_payments, g_numbers, g_write, g_lists, g_image, g_restore, g_count⟩
