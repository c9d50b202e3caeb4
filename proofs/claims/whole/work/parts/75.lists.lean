/-! rows of doings that fit, as a list of codes -/
def mtD (g : Nat → List Nat) : Nat → Nat → List Nat
  | 0, _ => []
  | r + 1, x => g x ++ mtD g r (x + 1)
def mtL (adv : (Nat → Int) → Nat → Nat → Int) (q : Nat) (ce : Nat → Int) : Nat → Nat → Nat → (Nat → Int) → List Nat
  | 0, _, code, _ => [code]
  | n + 1, k, code, c => mtD (fun x => if ce k = -1 ∨ ce k = adv c x q then mtL adv q ce n (k + 1) (9 * code + x) (adv c x) else []) 9 0
def blk : Nat → Nat → List Nat
  | 0, code => [code]
  | n + 1, code => mtD (fun x => blk n (9 * code + x)) 9 0
theorem mtD_congr {g g' : Nat → List Nat} : ∀ (r x : Nat), (∀ y, x ≤ y → y < x + r → g y = g' y) → mtD g r x = mtD g' r x
  | 0, _, _ => rfl
  | r + 1, x, h => by
    unfold mtD
    rw [h x (Nat.le_refl _) (by omega), mtD_congr r (x + 1) (fun y h1 h2 => h y (by omega) (by omega))]
theorem mtL_free {adv : (Nat → Int) → Nat → Nat → Int} {q : Nat} {ce : Nat → Int} : ∀ (n k code : Nat) (c : Nat → Int), (∀ j, k ≤ j → j < k + n → ce j = -1) → mtL adv q ce n k code c = blk n code
  | 0, _, _, _, _ => rfl
  | n + 1, k, code, c, h => by
    unfold mtL blk
    refine mtD_congr 9 0 (fun y _ _ => ?_)
    rw [if_pos (Or.inl (h k (Nat.le_refl _) (by omega))), mtL_free n (k + 1) _ _ (fun j h1 h2 => h j (by omega) (by omega))]
/-- the code that is wanted, if it comes -/
def acF (w : Int) : Int → Int → List Nat → Int
  | _, f, [] => f
  | cnt, f, a :: L => acF w (cnt + 1) (if cnt = w then (a : Int) else f) L
/-- the doings at a place -/
def acM (sz i : Nat) : Nat → List Nat → Nat
  | mb, [] => mb
  | mb, a :: L => acM sz i (mb ||| 2 ^ (a / 9 ^ (sz - 1 - i) % 9)) L
theorem acF_app {w : Int} : ∀ (L L' : List Nat) (cnt f : Int), acF w cnt f (L ++ L') = acF w (cnt + L.length) (acF w cnt f L) L'
  | [], L', cnt, f => by
    show acF w cnt f L' = acF w (cnt + ((0 : Nat) : Int)) f L'
    rw [show cnt + ((0 : Nat) : Int) = cnt by omega]
  | a :: L, L', cnt, f => by
    show acF w (cnt + 1) (if cnt = w then (a : Int) else f) (L ++ L') = acF w (cnt + ((L.length + 1 : Nat) : Int)) (acF w (cnt + 1) (if cnt = w then (a : Int) else f) L) L'
    rw [acF_app L L', show cnt + 1 + (L.length : Int) = cnt + ((L.length + 1 : Nat) : Int) by omega]
theorem acM_app {sz i : Nat} : ∀ (L L' : List Nat) (mb : Nat), acM sz i mb (L ++ L') = acM sz i (acM sz i mb L) L'
  | [], _, _ => rfl
  | a :: L, L', mb => by
    show acM sz i (mb ||| 2 ^ (a / 9 ^ (sz - 1 - i) % 9)) (L ++ L') = acM sz i (acM sz i (mb ||| 2 ^ (a / 9 ^ (sz - 1 - i) % 9)) L) L'
    exact acM_app L L' _
theorem mtD_len {g : Nat → List Nat} {N : Nat} (h : ∀ x, (g x).length = N) : ∀ (r x : Nat), (mtD g r x).length = r * N
  | 0, _ => by
    unfold mtD
    simp
  | r + 1, x => by
    unfold mtD
    rw [List.length_append, h x, mtD_len h r (x + 1), Nat.add_mul]
    omega
theorem blk_len : ∀ (n code : Nat), (blk n code).length = 9 ^ n
  | 0, _ => rfl
  | n + 1, code => by
    unfold blk
    rw [mtD_len (N := 9 ^ n) (fun x => blk_len n _), Nat.pow_succ]
    omega
theorem acF_D {w : Int} {g : Nat → List Nat} {N C : Nat} (hl : ∀ x, (g x).length = N) (h : ∀ (x : Nat) (cnt f : Int), acF w cnt f (g x) = if cnt ≤ w ∧ w < cnt + N then ((C + x * N : Nat) : Int) + (w - cnt) else f) : ∀ (r x : Nat) (cnt f : Int), acF w cnt f (mtD g r x) = if cnt ≤ w ∧ w < cnt + ((r * N : Nat) : Int) then ((C + x * N : Nat) : Int) + (w - cnt) else f
  | 0, x, cnt, f => by
    unfold mtD
    rw [Nat.zero_mul, if_neg (by omega)]
    rfl
  | r + 1, x, cnt, f => by
    unfold mtD
    rw [acF_app, hl x, acF_D hl h r (x + 1), h x]
    have e1 : (r + 1) * N = r * N + N := by rw [Nat.add_mul]; omega
    have e2 : C + (x + 1) * N = C + x * N + N := by rw [Nat.add_mul]; omega
    rw [e1, e2]
    generalize r * N = R
    generalize C + x * N = X
    by_cases c1 : cnt ≤ w ∧ w < cnt + N
    · rw [if_neg (by omega), if_pos c1, if_pos (by omega)]
    · rw [if_neg c1]
      by_cases c2 : cnt + (N : Int) ≤ w ∧ w < cnt + N + R
      · rw [if_pos c2, if_pos (by omega)]
        omega
      · rw [if_neg c2, if_neg (by omega)]
theorem acF_blk {w : Int} : ∀ (n code : Nat) (cnt f : Int), acF w cnt f (blk n code) = if cnt ≤ w ∧ w < cnt + ((9 ^ n : Nat) : Int) then ((code * 9 ^ n : Nat) : Int) + (w - cnt) else f
  | 0, code, cnt, f => by
    show (if cnt = w then (code : Int) else f) = _
    rw [Nat.pow_zero, Nat.mul_one]
    by_cases c : cnt = w
    · rw [if_pos c, if_pos (by omega)]
      omega
    · rw [if_neg c, if_neg (by omega)]
  | n + 1, code, cnt, f => by
    unfold blk
    rw [acF_D (N := 9 ^ n) (C := 9 * code * 9 ^ n) (fun x => blk_len n _) (fun x cnt f => by
      rw [acF_blk n (9 * code + x), Nat.add_mul]) 9 0 cnt f]
    rw [show 9 * 9 ^ n = 9 ^ (n + 1) by rw [Nat.pow_succ]; omega, show 9 * code * 9 ^ n + 0 * 9 ^ n = code * 9 ^ (n + 1) by rw [Nat.pow_succ, Nat.zero_mul, Nat.add_zero, Nat.mul_comm 9 code, Nat.mul_assoc, Nat.mul_comm 9]]
theorem acM_9 {sz i : Nat} {g : Nat → List Nat} {b : Nat → Nat} (h : ∀ x, x < 9 → ∀ mb, acM sz i mb (g x) = mb ||| b x) (mb : Nat) : acM sz i mb (mtD g 9 0) = mb ||| b 0 ||| b 1 ||| b 2 ||| b 3 ||| b 4 ||| b 5 ||| b 6 ||| b 7 ||| b 8 := by
  unfold mtD
  rw [acM_app, h 0 (by omega)]
  unfold mtD
  rw [acM_app, h 1 (by omega)]
  unfold mtD
  rw [acM_app, h 2 (by omega)]
  unfold mtD
  rw [acM_app, h 3 (by omega)]
  unfold mtD
  rw [acM_app, h 4 (by omega)]
  unfold mtD
  rw [acM_app, h 5 (by omega)]
  unfold mtD
  rw [acM_app, h 6 (by omega)]
  unfold mtD
  rw [acM_app, h 7 (by omega)]
  unfold mtD
  rw [acM_app, h 8 (by omega)]
  rfl
theorem or9 {m b : Nat} : m ||| b ||| b ||| b ||| b ||| b ||| b ||| b ||| b ||| b = m ||| b := by
  simp only [Nat.or_assoc, Nat.or_self]
theorem acM_blk {sz i : Nat} (hi : i < sz) : ∀ (n code dep mb : Nat), dep + n = sz → acM sz i mb (blk n code) = mb ||| (if i < dep then 2 ^ (code / 9 ^ (dep - 1 - i) % 9) else 511)
  | 0, code, dep, mb, h => by
    show mb ||| 2 ^ (code / 9 ^ (sz - 1 - i) % 9) = _
    rw [if_pos (by omega), show dep = sz by omega]
  | n + 1, code, dep, mb, h => by
    unfold blk
    have hb : ∀ x, x < 9 → ∀ mb, acM sz i mb (blk n (9 * code + x)) = mb ||| (if i < dep + 1 then 2 ^ ((9 * code + x) / 9 ^ (dep + 1 - 1 - i) % 9) else 511) := fun x _ mb => acM_blk hi n (9 * code + x) (dep + 1) mb (by omega)
    rw [acM_9 hb]
    by_cases c : i < dep
    · have e : ∀ x, x < 9 → (9 * code + x) / 9 ^ (dep + 1 - 1 - i) = code / 9 ^ (dep - 1 - i) := fun x hx => by
        rw [show dep + 1 - 1 - i = (dep - 1 - i) + 1 by omega, Nat.pow_succ, Nat.mul_comm _ 9, ← Nat.div_div_eq_div_mul, show (9 * code + x) / 9 = code by omega]
      rw [if_pos c, if_pos (show i < dep + 1 by omega), if_pos (show i < dep + 1 by omega), if_pos (show i < dep + 1 by omega), if_pos (show i < dep + 1 by omega), if_pos (show i < dep + 1 by omega), if_pos (show i < dep + 1 by omega), if_pos (show i < dep + 1 by omega), if_pos (show i < dep + 1 by omega), if_pos (show i < dep + 1 by omega), e 0 (by omega), e 1 (by omega), e 2 (by omega), e 3 (by omega), e 4 (by omega), e 5 (by omega), e 6 (by omega), e 7 (by omega), e 8 (by omega), or9]
    · rw [if_neg c]
      by_cases c2 : i = dep
      · have e : ∀ x, x < 9 → (9 * code + x) / 9 ^ (dep + 1 - 1 - i) % 9 = x := fun x hx => by
          rw [show dep + 1 - 1 - i = 0 by omega, Nat.pow_zero]
          omega
        rw [if_pos (show i < dep + 1 by omega), if_pos (show i < dep + 1 by omega), if_pos (show i < dep + 1 by omega), if_pos (show i < dep + 1 by omega), if_pos (show i < dep + 1 by omega), if_pos (show i < dep + 1 by omega), if_pos (show i < dep + 1 by omega), if_pos (show i < dep + 1 by omega), if_pos (show i < dep + 1 by omega), e 0 (by omega), e 1 (by omega), e 2 (by omega), e 3 (by omega), e 4 (by omega), e 5 (by omega), e 6 (by omega), e 7 (by omega), e 8 (by omega)]
        simp only [Nat.or_assoc]
        congr 1
      · rw [if_neg (show ¬ i < dep + 1 by omega), if_neg (show ¬ i < dep + 1 by omega), if_neg (show ¬ i < dep + 1 by omega), if_neg (show ¬ i < dep + 1 by omega), if_neg (show ¬ i < dep + 1 by omega), if_neg (show ¬ i < dep + 1 by omega), if_neg (show ¬ i < dep + 1 by omega), if_neg (show ¬ i < dep + 1 by omega), if_neg (show ¬ i < dep + 1 by omega), or9]
theorem or511 {m : Nat} (h : m < 512) : m ||| 511 = 511 := by
  have e : ∀ k, k < 512 → k ||| 511 = 511 := by decide +kernel
  exact e m h
theorem acM_lt {sz i : Nat} : ∀ (L : List Nat) (mb : Nat), mb < 512 → acM sz i mb L < 512
  | [], _, h => h
  | a :: L, mb, h => by
    show acM sz i (mb ||| 2 ^ (a / 9 ^ (sz - 1 - i) % 9)) L < 512
    refine acM_lt L _ (Nat.or_lt_two_pow (n := 9) h ?_)
    exact Nat.pow_lt_pow_right (by decide) (Nat.mod_lt _ (by decide))
theorem orbit {m k : Nat} (hm : m < 512) (hk : k < 9) : zOr (m : Int) (zShl 1 (k : Int)) = ((m ||| 2 ^ k : Nat) : Int) := by
  have e : zShl 1 (k : Int) = ((2 ^ k : Nat) : Int) := by
    rcases (show k = 0 ∨ k = 1 ∨ k = 2 ∨ k = 3 ∨ k = 4 ∨ k = 5 ∨ k = 6 ∨ k = 7 ∨ k = 8 by omega) with rfl | rfl | rfl | rfl | rfl | rfl | rfl | rfl | rfl <;> decide
  have l : 2 ^ k ≤ 2 ^ 8 := Nat.pow_le_pow_right (by decide) (by omega)
  rw [e, zOrN (by omega) (by omega)]
