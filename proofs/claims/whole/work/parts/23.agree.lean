/-! what has to be shown of each call: both answer alike, and are related again -/
/-- feed of both, from related states -/
def ag_feed (I : Nat → mw_S → Prop) : Prop := ∀ (n : Nat) (σ : mw_S) (v1 v2 v3 v4 v5 : Int), n < 512 → I n σ → mw_okS σ → in32 v1 → in32 v2 → in32 v3 → in32 v4 → in32 v5 → mw_Call 800 119 [jR 0, jI v1, jI v2, jI v3, jI v4, jI v5] σ (fun r1 s1 => mw_Call 800 172 [jR 100, jI v1, jI v2, jI v3, jI v4, jI v5] s1 (fun r2 s2 => (∃ z, r1 = some (jI z) ∧ r2 = some (jI z)) ∧ I (n + 1) s2))
/-- arcade of both, from related states -/
def ag_arcade (I : Nat → mw_S → Prop) : Prop := ∀ (n : Nat) (σ : mw_S) (v1 : Int), n < 512 → I n σ → mw_okS σ → in32 v1 → mw_Call 800 120 [jR 0, jI v1] σ (fun r1 s1 => mw_Call 800 194 [jR 100, jI v1] s1 (fun r2 s2 => (∃ z, r1 = some (jI z) ∧ r2 = some (jI z)) ∧ I (n + 1) s2))
/-- fault of both, from related states -/
def ag_fault (I : Nat → mw_S → Prop) : Prop := ∀ (n : Nat) (σ : mw_S) (v1 : Int), n < 512 → I n σ → mw_okS σ → in32 v1 → mw_Call 800 121 [jR 0, jI v1] σ (fun r1 s1 => mw_Call 800 195 [jR 100, jI v1] s1 (fun r2 s2 => (∃ z, r1 = some (jI z) ∧ r2 = some (jI z)) ∧ I (n + 1) s2))
/-- person of both, from related states -/
def ag_person (I : Nat → mw_S → Prop) : Prop := ∀ (n : Nat) (σ : mw_S) (v1 v2 : Int), n < 512 → I n σ → mw_okS σ → in32 v1 → in32 v2 → mw_Call 800 122 [jR 0, jI v1, jI v2] σ (fun r1 s1 => mw_Call 800 201 [jR 100, jI v1, jI v2] s1 (fun r2 s2 => (∃ z, r1 = some (jI z) ∧ r2 = some (jI z)) ∧ I (n + 1) s2))
/-- copy of both, from related states -/
def ag_copy (I : Nat → mw_S → Prop) : Prop := ∀ (n : Nat) (σ : mw_S) (v1 v2 : Int), n < 512 → I n σ → mw_okS σ → in32 v1 → in32 v2 → mw_Call 800 123 [jR 0, jI v1, jI v2] σ (fun r1 s1 => mw_Call 800 202 [jR 100, jI v1, jI v2] s1 (fun r2 s2 => (∃ z, r1 = some (jI z) ∧ r2 = some (jI z)) ∧ I (n + 1) s2))
/-- thing of both, from related states -/
def ag_thing (I : Nat → mw_S → Prop) : Prop := ∀ (n : Nat) (σ : mw_S) (v1 : Int), n < 512 → I n σ → mw_okS σ → in32 v1 → mw_Call 800 124 [jR 0, jI v1] σ (fun r1 s1 => mw_Call 800 203 [jR 100, jI v1] s1 (fun r2 s2 => (∃ z, r1 = some (jI z) ∧ r2 = some (jI z)) ∧ I (n + 1) s2))
/-- can of both, from related states -/
def ag_can (I : Nat → mw_S → Prop) : Prop := ∀ (n : Nat) (σ : mw_S) (v1 v2 : Int), n < 512 → I n σ → mw_okS σ → in32 v1 → in32 v2 → mw_Call 800 125 [jR 0, jI v1, jI v2] σ (fun r1 s1 => mw_Call 800 206 [jR 100, jI v1, jI v2] s1 (fun r2 s2 => (∃ z, r1 = some (jI z) ∧ r2 = some (jI z)) ∧ I (n + 1) s2))
/-- would of both, from related states -/
def ag_would (I : Nat → mw_S → Prop) : Prop := ∀ (n : Nat) (σ : mw_S) (v1 v2 : Int), n < 512 → I n σ → mw_okS σ → in32 v1 → in32 v2 → mw_Call 800 126 [jR 0, jI v1, jI v2] σ (fun r1 s1 => mw_Call 800 220 [jR 100, jI v1, jI v2] s1 (fun r2 s2 => (∃ z, r1 = some (jI z) ∧ r2 = some (jI z)) ∧ I (n + 1) s2))
/-- step of both, from related states -/
def ag_step (I : Nat → mw_S → Prop) : Prop := ∀ (n : Nat) (σ : mw_S) (v1 : Int), n < 512 → I n σ → mw_okS σ → in32 v1 → mw_Call 800 127 [jR 0, jI v1] σ (fun r1 s1 => mw_Call 800 221 [jR 100, jI v1] s1 (fun r2 s2 => (∃ z, r1 = some (jI z) ∧ r2 = some (jI z)) ∧ I (n + 1) s2))
/-- undo of both, from related states -/
def ag_undo (I : Nat → mw_S → Prop) : Prop := ∀ (n : Nat) (σ : mw_S) (v1 : Int), n < 512 → I n σ → mw_okS σ → in32 v1 → mw_Call 800 128 [jR 0, jI v1] σ (fun r1 s1 => mw_Call 800 222 [jR 100, jI v1] s1 (fun r2 s2 => (∃ z, r1 = some (jI z) ∧ r2 = some (jI z)) ∧ I (n + 1) s2))
/-- judge of both, from related states -/
def ag_judge (I : Nat → mw_S → Prop) : Prop := ∀ (n : Nat) (σ : mw_S) (v1 v2 : Int), n < 512 → I n σ → mw_okS σ → in32 v1 → in32 v2 → mw_Call 800 129 [jR 0, jI v1, jI v2] σ (fun r1 s1 => mw_Call 800 225 [jR 100, jI v1, jI v2] s1 (fun r2 s2 => (∃ z, r1 = some (jI z) ∧ r2 = some (jI z)) ∧ I (n + 1) s2))
/-- perform of both, from related states -/
def ag_perform (I : Nat → mw_S → Prop) : Prop := ∀ (n : Nat) (σ : mw_S) (v1 : Int), n < 512 → I n σ → mw_okS σ → in32 v1 → mw_Call 800 130 [jR 0, jI v1] σ (fun r1 s1 => mw_Call 800 226 [jR 100, jI v1] s1 (fun r2 s2 => (∃ z, r1 = some (jI z) ∧ r2 = some (jI z)) ∧ I (n + 1) s2))
/-- day of both, from related states -/
def ag_day (I : Nat → mw_S → Prop) : Prop := ∀ (n : Nat) (σ : mw_S) (v1 v2 : Int), n < 512 → I n σ → mw_okS σ → in32 v1 → in32 v2 → mw_Call 800 131 [jR 0, jI v1, jI v2] σ (fun r1 s1 => mw_Call 800 228 [jR 100, jI v1, jI v2] s1 (fun r2 s2 => (∃ z, r1 = some (jI z) ∧ r2 = some (jI z)) ∧ I (n + 1) s2))
/-- fails of both, from related states -/
def ag_fails (I : Nat → mw_S → Prop) : Prop := ∀ (n : Nat) (σ : mw_S) (v1 v2 : Int), n < 512 → I n σ → mw_okS σ → in32 v1 → in32 v2 → mw_Call 800 132 [jR 0, jI v1, jI v2] σ (fun r1 s1 => mw_Call 800 229 [jR 100, jI v1, jI v2] s1 (fun r2 s2 => (∃ z, r1 = some (jI z) ∧ r2 = some (jI z)) ∧ I (n + 1) s2))
/-- round of both, from related states -/
def ag_round (I : Nat → mw_S → Prop) : Prop := ∀ (n : Nat) (σ : mw_S) (v1 v2 : Int), n < 512 → I n σ → mw_okS σ → in32 v1 → in32 v2 → mw_Call 800 133 [jR 0, jI v1, jI v2] σ (fun r1 s1 => mw_Call 800 230 [jR 100, jI v1, jI v2] s1 (fun r2 s2 => (∃ z, r1 = some (jI z) ∧ r2 = some (jI z)) ∧ I (n + 1) s2))
/-- soonest of both, from related states -/
def ag_soonest (I : Nat → mw_S → Prop) : Prop := ∀ (n : Nat) (σ : mw_S) (v1 v2 v3 v4 : Int), n < 512 → I n σ → mw_okS σ → in32 v1 → in32 v2 → in32 v3 → in32 v4 → mw_Call 800 134 [jR 0, jI v1, jI v2, jI v3, jI v4] σ (fun r1 s1 => mw_Call 800 238 [jR 100, jI v1, jI v2, jI v3, jI v4] s1 (fun r2 s2 => (∃ z, r1 = some (jI z) ∧ r2 = some (jI z)) ∧ I (n + 1) s2))
/-- states of both, from related states -/
def ag_states (I : Nat → mw_S → Prop) : Prop := ∀ (n : Nat) (σ : mw_S) (v1 v2 : Int), n < 512 → I n σ → mw_okS σ → in32 v1 → in32 v2 → mw_Call 800 135 [jR 0, jI v1, jI v2] σ (fun r1 s1 => mw_Call 800 240 [jR 100, jI v1, jI v2] s1 (fun r2 s2 => (∃ z, r1 = some (jI z) ∧ r2 = some (jI z)) ∧ I (n + 1) s2))
/-- reach of both, from related states -/
def ag_reach (I : Nat → mw_S → Prop) : Prop := ∀ (n : Nat) (σ : mw_S) (v1 v2 : Int), n < 512 → I n σ → mw_okS σ → in32 v1 → in32 v2 → mw_Call 800 136 [jR 0, jI v1, jI v2] σ (fun r1 s1 => mw_Call 800 241 [jR 100, jI v1, jI v2] s1 (fun r2 s2 => (∃ z, r1 = some (jI z) ∧ r2 = some (jI z)) ∧ I (n + 1) s2))
/-- fits of both, from related states -/
def ag_fits (I : Nat → mw_S → Prop) : Prop := ∀ (n : Nat) (σ : mw_S) (v1 : Int), n < 512 → I n σ → mw_okS σ → in32 v1 → mw_Call 800 137 [jR 0, jI v1] σ (fun r1 s1 => mw_Call 800 247 [jR 100, jI v1] s1 (fun r2 s2 => (∃ z, r1 = some (jI z) ∧ r2 = some (jI z)) ∧ I (n + 1) s2))
/-- smallest of both, from related states -/
def ag_smallest (I : Nat → mw_S → Prop) : Prop := ∀ (n : Nat) (σ : mw_S) (v1 v2 : Int), n < 512 → I n σ → mw_okS σ → in32 v1 → in32 v2 → mw_Call 800 138 [jR 0, jI v1, jI v2] σ (fun r1 s1 => mw_Call 800 249 [jR 100, jI v1, jI v2] s1 (fun r2 s2 => (∃ z, r1 = some (jI z) ∧ r2 = some (jI z)) ∧ I (n + 1) s2))
/-- sure of both, from related states -/
def ag_sure (I : Nat → mw_S → Prop) : Prop := ∀ (n : Nat) (σ : mw_S) (v1 : Int), n < 512 → I n σ → mw_okS σ → in32 v1 → mw_Call 800 139 [jR 0, jI v1] σ (fun r1 s1 => mw_Call 800 250 [jR 100, jI v1] s1 (fun r2 s2 => (∃ z, r1 = some (jI z) ∧ r2 = some (jI z)) ∧ I (n + 1) s2))
/-- telling of both, from related states -/
def ag_telling (I : Nat → mw_S → Prop) : Prop := ∀ (n : Nat) (σ : mw_S) (v1 v2 : Int), n < 512 → I n σ → mw_okS σ → in32 v1 → in32 v2 → mw_Call 800 140 [jR 0, jI v1, jI v2] σ (fun r1 s1 => mw_Call 800 252 [jR 100, jI v1, jI v2] s1 (fun r2 s2 => (∃ z, r1 = some (jI z) ∧ r2 = some (jI z)) ∧ I (n + 1) s2))
/-- meant of both, from related states -/
def ag_meant (I : Nat → mw_S → Prop) : Prop := ∀ (n : Nat) (σ : mw_S) (v1 v2 v3 : Int), n < 512 → I n σ → mw_okS σ → in32 v1 → in32 v2 → in32 v3 → mw_Call 800 141 [jR 0, jI v1, jI v2, jI v3] σ (fun r1 s1 => mw_Call 800 255 [jR 100, jI v1, jI v2, jI v3] s1 (fun r2 s2 => (∃ z, r1 = some (jI z) ∧ r2 = some (jI z)) ∧ I (n + 1) s2))
/-- maybe of both, from related states -/
def ag_maybe (I : Nat → mw_S → Prop) : Prop := ∀ (n : Nat) (σ : mw_S) (v1 v2 v3 : Int), n < 512 → I n σ → mw_okS σ → in32 v1 → in32 v2 → in32 v3 → mw_Call 800 142 [jR 0, jI v1, jI v2, jI v3] σ (fun r1 s1 => mw_Call 800 256 [jR 100, jI v1, jI v2, jI v3] s1 (fun r2 s2 => (∃ z, r1 = some (jI z) ∧ r2 = some (jI z)) ∧ I (n + 1) s2))
/-- odds of both, from related states -/
def ag_odds (I : Nat → mw_S → Prop) : Prop := ∀ (n : Nat) (σ : mw_S) (v1 v2 v3 : Int), n < 512 → I n σ → mw_okS σ → in32 v1 → in32 v2 → in32 v3 → mw_Call 800 143 [jR 0, jI v1, jI v2, jI v3] σ (fun r1 s1 => mw_Call 800 257 [jR 100, jI v1, jI v2, jI v3] s1 (fun r2 s2 => (∃ z, r1 = some (jL z) ∧ r2 = some (jL z)) ∧ I (n + 1) s2))
/-- win of both, from related states -/
def ag_win (I : Nat → mw_S → Prop) : Prop := ∀ (n : Nat) (σ : mw_S) (v1 v2 v3 : Int), n < 512 → I n σ → mw_okS σ → in32 v1 → in32 v2 → in32 v3 → mw_Call 800 144 [jR 0, jI v1, jI v2, jI v3] σ (fun r1 s1 => mw_Call 800 262 [jR 100, jI v1, jI v2, jI v3] s1 (fun r2 s2 => (∃ z, r1 = some (jI z) ∧ r2 = some (jI z)) ∧ I (n + 1) s2))
/-- wins of both, from related states -/
def ag_wins (I : Nat → mw_S → Prop) : Prop := ∀ (n : Nat) (σ : mw_S) (v1 v2 : Int), n < 512 → I n σ → mw_okS σ → in32 v1 → in32 v2 → mw_Call 800 145 [jR 0, jI v1, jI v2] σ (fun r1 s1 => mw_Call 800 263 [jR 100, jI v1, jI v2] s1 (fun r2 s2 => (∃ z, r1 = some (jI z) ∧ r2 = some (jI z)) ∧ I (n + 1) s2))
/-- lends of both, from related states -/
def ag_lends (I : Nat → mw_S → Prop) : Prop := ∀ (n : Nat) (σ : mw_S) (v1 v2 v3 : Int), n < 512 → I n σ → mw_okS σ → in32 v1 → in32 v2 → in32 v3 → mw_Call 800 146 [jR 0, jI v1, jI v2, jI v3] σ (fun r1 s1 => mw_Call 800 265 [jR 100, jI v1, jI v2, jI v3] s1 (fun r2 s2 => (∃ z, r1 = some (jI z) ∧ r2 = some (jI z)) ∧ I (n + 1) s2))
/-- owes of both, from related states -/
def ag_owes (I : Nat → mw_S → Prop) : Prop := ∀ (n : Nat) (σ : mw_S) (v1 v2 v3 : Int), n < 512 → I n σ → mw_okS σ → in32 v1 → in32 v2 → in32 v3 → (v3 = 0 ∨ v3 = 1) → mw_Call 800 147 [jR 0, jI v1, jI v2, jI v3] σ (fun r1 s1 => mw_Call 800 266 [jR 100, jI v1, jI v2, jI v3] s1 (fun r2 s2 => (∃ z, r1 = some (jI z) ∧ r2 = some (jI z)) ∧ I (n + 1) s2))
/-- balance of both, from related states -/
def ag_balance (I : Nat → mw_S → Prop) : Prop := ∀ (n : Nat) (σ : mw_S) (v1 v2 : Int), n < 512 → I n σ → mw_okS σ → in32 v1 → in32 v2 → (v2 = 0 ∨ v2 = 1) → mw_Call 800 148 [jR 0, jI v1, jI v2] σ (fun r1 s1 => mw_Call 800 268 [jR 100, jI v1, jI v2] s1 (fun r2 s2 => (∃ z, r1 = some (jI z) ∧ r2 = some (jI z)) ∧ I (n + 1) s2))
/-- clear of both, from related states -/
def ag_clear (I : Nat → mw_S → Prop) : Prop := ∀ (n : Nat) (σ : mw_S), n < 512 → I n σ → mw_okS σ → mw_Call 800 149 [jR 0] σ (fun r1 s1 => mw_Call 800 270 [jR 100] s1 (fun r2 s2 => (∃ z, r1 = some (jI z) ∧ r2 = some (jI z)) ∧ I (n + 1) s2))
/-- payments of both, from related states -/
def ag_payments (I : Nat → mw_S → Prop) : Prop := ∀ (n : Nat) (σ : mw_S), n < 512 → I n σ → mw_okS σ → mw_Call 800 150 [jR 0] σ (fun r1 s1 => mw_Call 800 271 [jR 100] s1 (fun r2 s2 => (∃ z, r1 = some (jI z) ∧ r2 = some (jI z)) ∧ I (n + 1) s2))
/-- numbers of both, from related states -/
def ag_numbers (I : Nat → mw_S → Prop) : Prop := ∀ (n : Nat) (σ : mw_S) (v1 v2 v3 : Int), n < 512 → I n σ → mw_okS σ → in32 v1 → in32 v2 → in32 v3 → mw_Call 800 151 [jR 0, jI v1, jI v2, jI v3] σ (fun r1 s1 => mw_Call 800 273 [jR 100, jI v1, jI v2, jI v3] s1 (fun r2 s2 => (∃ z, r1 = some (jI z) ∧ r2 = some (jI z)) ∧ I (n + 1) s2))
/-- write of both, from related states -/
def ag_write (I : Nat → mw_S → Prop) : Prop := ∀ (n : Nat) (σ : mw_S) (v1 v2 v3 : Int), n < 512 → I n σ → mw_okS σ → in32 v1 → in32 v2 → in64 v3 → mw_Call 800 152 [jR 0, jI v1, jI v2, jL v3] σ (fun r1 s1 => mw_Call 800 274 [jR 100, jI v1, jI v2, jL v3] s1 (fun r2 s2 => (∃ z, r1 = some (jL z) ∧ r2 = some (jL z)) ∧ I (n + 1) s2))
/-- lists of both, from related states -/
def ag_lists (I : Nat → mw_S → Prop) : Prop := ∀ (n : Nat) (σ : mw_S) (v1 : Int), n < 512 → I n σ → mw_okS σ → in32 v1 → mw_Call 800 153 [jR 0, jI v1] σ (fun r1 s1 => mw_Call 800 275 [jR 100, jI v1] s1 (fun r2 s2 => (∃ z, r1 = some (jI z) ∧ r2 = some (jI z)) ∧ I (n + 1) s2))
/-- image of both, from related states -/
def ag_image (I : Nat → mw_S → Prop) : Prop := ∀ (n : Nat) (σ : mw_S) (v1 : Int), n < 512 → I n σ → mw_okS σ → in32 v1 → mw_Call 800 154 [jR 0, jI v1] σ (fun r1 s1 => mw_Call 800 276 [jR 100, jI v1] s1 (fun r2 s2 => (∃ z, r1 = some (jI z) ∧ r2 = some (jI z)) ∧ I (n + 1) s2))
/-- restore of both, from related states -/
def ag_restore (I : Nat → mw_S → Prop) : Prop := ∀ (n : Nat) (σ : mw_S) (v1 : Int), n < 512 → I n σ → mw_okS σ → in32 v1 → mw_Call 800 155 [jR 0, jI v1] σ (fun r1 s1 => mw_Call 800 277 [jR 100, jI v1] s1 (fun r2 s2 => (∃ z, r1 = some (jI z) ∧ r2 = some (jI z)) ∧ I (n + 1) s2))
/-- count of both, from related states -/
def ag_count (I : Nat → mw_S → Prop) : Prop := ∀ (n : Nat) (σ : mw_S) (v1 : Int), n < 512 → I n σ → mw_okS σ → in32 v1 → mw_Call 800 156 [jR 0, jI v1] σ (fun r1 s1 => mw_Call 800 278 [jR 100, jI v1] s1 (fun r2 s2 => (∃ z, r1 = some (jI z) ∧ r2 = some (jI z)) ∧ I (n + 1) s2))
