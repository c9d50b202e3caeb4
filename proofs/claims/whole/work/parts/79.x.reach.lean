/-! where a copy can be: reach agrees -/
variable {ar wh fr to does code late : Nat → Int} {P : Nat}
/-- the class's arcade -/
def stC (ar wh fr to does code late : Nat → Int) (s : mw_S) : Prop := s 13 = ar ∧ s 15 = late ∧ s 17 = wh ∧ s 18 = fr ∧ s 19 = to ∧ s 20 = does ∧ s 21 = code
theorem stC.mono {s s' : mw_S} (h : stC ar wh fr to does code late s) (e : ∀ a, a < 22 → s' a = s a) : stC ar wh fr to does code late s' := by
  unfold stC
  rw [e 13 (by omega), e 15 (by omega), e 17 (by omega), e 18 (by omega), e 19 (by omega), e 20 (by omega), e 21 (by omega)]
  exact h
/-- a row of the class's that is the one behind such doings, as far as a step looks -/
def rwC (ar wh fr to does code late : Nat → Int) (P : Nat) (S : Nat → Nat → Nat → Int) (B : Int) (c : Nat → Int) (m v : Nat) : Prop := (∃ A, Rst ar wh fr to does code late P c A) ∧ agr c (S m v) ∧ 0 ≤ c 34 ∧ c 34 ≤ B
theorem adv_blk {d dep p v x : Nat} {B : Int} {S : Nat → Nat → Nat → Int} {s : mw_S} {Q : Option mw_V → mw_S → Prop} (hS : SvOK ar wh fr to does code late P p S) (hp : p < P) (hx : x < 9) (hs : stC ar wh fr to does code late s) (hr : rwC ar wh fr to does code late P S B (s (47 + dep)) dep v) (hdep : dep < 4) (hB : B < 1000000) (hQ : ∀ s', (∀ a, a ≠ 23 → a ≠ 24 → a ≠ 47 + (dep + 1) → s' a = s a) → rwC ar wh fr to does code late P S (B + 1) (s' (47 + (dep + 1))) (dep + 1) (9 * v + x) → Q (some (jI (advF ar wh fr to does code late P ((x : Int) * nin p) (S dep v)).1)) s') : mw_Call (d + 5) 88 [jR 22, jR (47 + (dep + 1)), jI ((x : Int) * nin p)] (cel s (47 + (dep + 1)) (fillF (s (47 + dep)) (s (47 + (dep + 1))) 35)) Q := by
  obtain ⟨⟨A, hA⟩, ha, h0, h1⟩ := hr
  obtain ⟨e13, e15, e17, e18, e19, e20, e21⟩ := hs
  have g := hA.1
  have hP3 : P ≤ 3 := g.2.1
  have m9 := mul9 (x := (x : Int)) (p := p) (by omega) (by omega) (by omega)
  have hrow1 : isRow (47 + (dep + 1)) := isRow_seek (by omega)
  have hA' := hA.congr (c' := fillF (s (47 + dep)) (s (47 + (dep + 1))) 35) (A' := A) (fun k hk => fill_in hk) (fun _ => rfl)
  have ag : agr (fillF (s (47 + dep)) (s (47 + (dep + 1))) 35) (S dep v) := ⟨fun k hk => by rw [fill_in (by omega)]; exact ha.1 k hk, fun q hq => by rw [fill_in (by omega)]; exact ha.2 q hq⟩
  obtain ⟨b1, b2⟩ := advF_cg (wh := wh) (fr := fr) (to := to) (does := does) (code := code) (late := late) (x := (x : Int) * nin p) hP3 g.2.2.2.2.1 g.2.2.2.2.2 ag
  have r := st_rel hA' m9.1
  have f34 : (fillF (s (47 + dep)) (s (47 + (dep + 1))) 35) 34 = s (47 + dep) 34 := fill_in (by omega)
  refine cl_advB (P := P) (A := A) hrow1 (by omega) ?_ m9.1 (by omega) ?_ ?_ (fun W N => ?_)
  · simp (disch := omega) only [cel_s, cel_n, up1_s, up1_n, up1_e, put_in, put_out, fill_in, fill_out, Nat.add_sub_cancel_left, Int.toNat_natCast]
    rw [e13, e15, e17, e18, e19, e20, e21]
    exact hA'
  · rw [cel_s, f34]
    exact h0
  · rw [cel_s, f34]
    omega
  simp (disch := omega) only [cel_s, cel_n, e13, e15, e17, e18, e19, e20, e21]
  rw [b1]
  have eS : S (dep + 1) (9 * v + x) = (advF ar wh fr to does code late P ((x : Int) * nin p) (S dep v)).2 := by
    rw [hS.2.1 dep (9 * v + x), show (9 * v + x) % 9 = x by omega, show (9 * v + x) / 9 = v by omega]
  refine hQ _ (fun a a1 a2 a3 => by rw [cel_n a3, cel_n a1, cel_n a2, cel_n a3]) ?_
  rw [cel_s]
  refine ⟨⟨_, hA'.step m9.1⟩, by rw [eS]; exact b2, ?_, ?_⟩
  · rw [r.2.2.2.2.2.2.1, f34]
    omega
  · rw [r.2.2.2.2.2.2.1, f34]
    omega
def orX (f : Nat → Nat) : Nat → Nat
  | 0 => 0
  | n + 1 => orX f n ||| f n
theorem orX_mem {f : Nat → Nat} {i : Nat} : ∀ n, i < n → orX f n ||| f i = orX f n
  | 0, h => absurd h (by omega)
  | n + 1, h => by
    unfold orX
    by_cases e : i = n
    · rw [e, Nat.or_assoc, Nat.or_self]
    · rw [Nat.or_assoc, Nat.or_comm (f n), ← Nat.or_assoc, orX_mem n (by omega)]
theorem orX_bit {f : Nat → Nat} {b : Nat} : ∀ n, (orX f n).testBit b = true ↔ ∃ i, i < n ∧ (f i).testBit b = true
  | 0 => by
    unfold orX
    rw [Nat.zero_testBit]
    exact ⟨fun h => absurd h (by simp), fun ⟨i, h, _⟩ => absurd h (by omega)⟩
  | n + 1 => by
    unfold orX
    rw [Nat.testBit_or, Bool.or_eq_true, orX_bit n]
    constructor
    · rintro (⟨i, h1, h2⟩ | h)
      · exact ⟨i, by omega, h2⟩
      · exact ⟨n, by omega, h⟩
    · rintro ⟨i, h1, h2⟩
      by_cases e : i = n
      · exact Or.inr (e ▸ h2)
      · exact Or.inl ⟨i, by omega, h2⟩
theorem orX_lt {f : Nat → Nat} (h : ∀ i, f i < 512) : ∀ n, orX f n < 512
  | 0 => by
    unfold orX
    omega
  | n + 1 => Nat.or_lt_two_pow (n := 9) (orX_lt h n) (h n)
def orT (cell : Nat → Nat → Nat) : Nat → Nat → Nat → Nat
  | 0, m, v => 2 ^ cell m v
  | r + 1, m, v => orX (fun x => orT cell r (m + 1) (9 * v + x)) 9
theorem orT_lt {cell : Nat → Nat → Nat} (h : ∀ m v, cell m v ≤ 8) : ∀ r m v, orT cell r m v < 512
  | 0, m, v => by
    unfold orT
    have := pow8 (h m v)
    omega
  | r + 1, m, v => orX_lt (fun x => orT_lt h r _ _) 9
theorem orT_bit {cell : Nat → Nat → Nat} {b : Nat} : ∀ r m v, (orT cell r m v).testBit b = true ↔ ∃ i, i < 9 ^ r ∧ cell (m + r) (9 ^ r * v + i) = b
  | 0, m, v => by
    unfold orT
    rw [Nat.testBit_two_pow, decide_eq_true_iff, Nat.pow_zero]
    constructor
    · intro h
      exact ⟨0, by omega, by rw [Nat.one_mul, Nat.add_zero, Nat.add_zero]; exact h⟩
    · rintro ⟨i, h1, h2⟩
      obtain rfl : i = 0 := by omega
      rw [Nat.one_mul, Nat.add_zero, Nat.add_zero] at h2
      exact h2
  | r + 1, m, v => by
    unfold orT
    rw [orX_bit]
    have hp : 9 ^ (r + 1) = 9 ^ r * 9 := Nat.pow_succ _ _
    have hpos : 0 < 9 ^ r := Nat.pow_pos (by decide)
    constructor
    · rintro ⟨x, hx, h⟩
      obtain ⟨i, i1, i2⟩ := (orT_bit r (m + 1) (9 * v + x)).mp h
      refine ⟨9 ^ r * x + i, ?_, ?_⟩
      · rw [hp]
        have : 9 ^ r * x + 9 ^ r ≤ 9 ^ r * 9 := by
          rw [← Nat.mul_succ]
          exact Nat.mul_le_mul_left _ (by omega)
        omega
      · have e : 9 ^ (r + 1) * v + (9 ^ r * x + i) = 9 ^ r * (9 * v + x) + i := by
          rw [hp, Nat.mul_add, Nat.mul_assoc, Nat.add_assoc]
        rw [e, show m + (r + 1) = m + 1 + r by omega]
        exact i2
    · rintro ⟨i, i1, i2⟩
      have hx : i / 9 ^ r < 9 := by
        rw [Nat.div_lt_iff_lt_mul hpos, Nat.mul_comm]
        rw [hp] at i1
        exact i1
      refine ⟨i / 9 ^ r, hx, (orT_bit r (m + 1) (9 * v + i / 9 ^ r)).mpr ⟨i % 9 ^ r, Nat.mod_lt _ hpos, ?_⟩⟩
      rw [show m + 1 + r = m + (r + 1) by omega, Nat.mul_add, Nat.add_assoc, Nat.div_add_mod, ← Nat.mul_assoc, ← hp]
      exact i2
/-- nothing but rows that lie deeper has changed -/
def frK (dep : Nat) (s s' : mw_S) : Prop := ∀ a, a ≠ 23 → a ≠ 24 → ¬ (47 + dep < a ∧ a ≤ 52) → s' a = s a
theorem frK.trans {dep : Nat} {a b c : mw_S} (h : frK dep a b) (h' : frK dep b c) : frK dep a c := fun k h1 h2 h3 => by rw [h' k h1 h2 h3, h k h1 h2 h3]
def cellN (S : Nat → Nat → Nat → Int) (p m v : Nat) : Nat := (S m v (3 + p)).toNat
def cfC (ar wh fr to does code late : Nat → Int) (P p n : Nat) (B : Int) (S : Nat → Nat → Nat → Int) (r dep : Nat) : Prop := ∀ (s : mw_S) (v : Nat), stC ar wh fr to does code late s → s 45 7 = p → rwC ar wh fr to does code late P S (B + dep) (s (47 + dep)) dep v → ∀ (d : Nat) (Q : Option mw_V → mw_S → Prop), (∀ s', frK dep s s' → Q (some (jI (orT (cellN S p) r dep v : Nat))) s') → mw_Call (d + r + 8) 83 [jR 45, jI dep, jI n] s Q
theorem wp_cf {p n r dep v : Nat} {B : Int} {S : Nat → Nat → Nat → Int} (hS : SvOK ar wh fr to does code late P p S) (hp : p < P) (hn : n ≤ 4) (hd : dep + (r + 1) = n) (hB : 0 ≤ B ∧ B < 900000) (hc8 : ∀ m v, cellN S p m v ≤ 8) (ih : 0 < r → cfC ar wh fr to does code late P p n B S r (dep + 1)) : ∀ (k x : Nat) (s : mw_S) (l5 : Option mw_V), x + k = 9 → stC ar wh fr to does code late s → s 45 7 = p → rwC ar wh fr to does code late P S (B + dep) (s (47 + dep)) dep v → ∀ (d : Nat) (Q : Option mw_V → mw_S → Prop), (∀ s', frK dep s s' → Q (some (jI (orX (fun x => orT (cellN S p) r (dep + 1) (9 * v + x)) 9 : Nat))) s') → mw_WP (d + r + 8) 83 12 [some (jR 45), some (jI dep), some (jI n), some (jI (orX (fun x => orT (cellN S p) r (dep + 1) (9 * v + x)) x : Nat)), some (jI x), l5] [] s Q
  | 0, x, s, l5, h, hs, h7, hr, d, Q, hq => by
    obtain rfl : x = 9 := by omega
    simp (disch := first | (simp only [nlP_n, nlP_I, nlP_R, catP_I, catP_R, st8_0, st8_1, st8_2, st8_3, st8_4, b01, or_true, true_or, eq_self, iRP98, iRP99, iRP86, iRP97, iRP47, iRP57, rcP0, rcP1, rcP3, rcP13, rcP22, rcP25, rcP37, rcP45, rcP55, rcP65, rcP74, rcP76, rcP77, rcP87, rcP88, rcP100]; done) | omega | assumption | (simp (disch := omega) only [cel_s, cel_n, up1_s, up1_n, up1_e, put_out, fill_in]; omega) | (apply isRow_past; omega) | (apply isRow_seek; omega) | (apply isRow_guess; omega)) only [ww83_12, ww83_14, ww83_16, ww83_154, ww83_155, ↓iteT, ↓iteF, andT, w32_eq, yL_1, Int.toNat_natCast, Int.toNat_add, Int.toNat_mul, Int.toNat_sub, cel_s, cel_n, up1_cel, upS_cel, cel_cel, up1_s, up1_n, up1_e, rdI_n, rdB_n, Int.reduceMul, Int.reduceDiv, Int.reduceMod, Nat.reduceMul, Nat.reduceSub, Nat.zero_add, Int.zero_add, Nat.add_zero, Int.add_zero, ite_self, Option.toList_some, Option.toList_none, List.cons_append, List.nil_append, rdI_c, and_true, true_and, and_self, not_false_eq_true, not_true_eq_false, if_true, if_false, or_false, false_or, ne_eq, and_false, false_and, rdI_n, Nat.reduceEqDiff, Nat.reduceAdd, Nat.reduceLeDiff, Int.reduceEq, Int.reduceLT, Int.reduceLE, Int.reduceNeg, Int.reduceToNat, Int.reduceAdd, Int.reduceSub, List.append_nil, ki2, ki4, ki5, ki6, ki7, ki8, ki9, ki10, ki11, ki12, ki14, ki15, ki16, ki17, ki18, ki19, ki20, ki21, ki23, ki24, ki27, ki28, ki29, ki30, ki31, ki32, ki33, ki34, ki35, ki36, ki38, ki39, ki47, ki48, ki49, ki50, ki51, ki52, ki57, ki58, ki59, ki60, ki61, ki62, ki66, ki67, ki69, ki70, ki71, ki72, ki73, ki78, ki79, ki80, ki81, ki82, ki83, ki84, ki85, ki86, ki89, ki90, ki91, ki92, ki93, ki94, ki95, ki96, ki97, ki98, ki99, ki101, ki103, ki104, ki105, ki106, ki107, ki108, ki109, ki110, ki111, ki112, ki113, ki114, ki115, ki116, ki117, ki118, ki121, ki122, ki123, ki3000, kb68, kb102, kr26, kr40, kr46, kr56, kw2, kw4, kw5, kw6, kw7, kw8, kw9, kw10, kw11, kw12, kw14, kw15, kw16, kw17, kw18, kw19, kw20, kw21, kw23, kw24, kw27, kw28, kw29, kw30, kw31, kw32, kw33, kw34, kw35, kw36, kw38, kw39, kw41, kw42, kw43, kw44, kw47, kw48, kw49, kw50, kw51, kw52, kw53, kw54, kw57, kw58, kw59, kw60, kw61, kw62, kw63, kw64, kw66, kw67, kw68, kw69, kw70, kw71, kw72, kw73, kw75, kw78, kw79, kw80, kw81, kw82, kw83, kw84, kw85, kw86, kw89, kw90, kw91, kw92, kw93, kw94, kw95, kw96, kw97, kw98, kw99, kw101, kw102, kw103, kw104, kw105, kw106, kw107, kw108, kw109, kw110, kw111, kw112, kw113, kw114, kw115, kw116, kw117, kw118, kw119, kw120, kw121, kw122, kw123, kw124]
    exact hq s (fun _ _ _ _ => rfl)
  | k + 1, x, s, l5, h, hs, h7, hr, d, Q, hq => by
    have hP3 : P ≤ 3 := by
      obtain ⟨⟨A, hA⟩, _⟩ := hr
      exact hA.1.2.1
    have hrow : isRow (47 + dep) := isRow_seek (by omega)
    have hrow1 : isRow (47 + (dep + 1)) := isRow_seek (by omega)
    have r1 := hrow1.rI
    have r3 := hrow1.2.2
    have r10 := hrow.rI
    have r30 := hrow.2.2
    have m9 := mul9 (x := (x : Int)) (p := p) (by omega) (by omega) (by omega)
    have nx : ∀ (s2 : mw_S) (l5 : Option mw_V), frK dep s s2 → mw_WP (d + r + 8) 83 12 [some (jR 45), some (jI dep), some (jI n), some (jI (orX (fun x => orT (cellN S p) r (dep + 1) (9 * v + x)) (x + 1) : Nat)), some (jI ((x : Int) + 1)), l5] [] s2 Q := fun s2 l5 f2 => by
      have := wp_cf (n := n) hS hp hn hd hB hc8 ih k (x + 1) s2 l5 (by omega) (hs.mono (fun a ha => f2 a (by omega) (by omega) (by omega))) (by rw [f2 45 (by decide) (by decide) (by omega)]; exact h7) (by rw [f2 (47 + dep) (by omega) (by omega) (by omega)]; exact hr) d Q (fun s' f' => hq s' (f2.trans f'))
      rw [ic1] at this
      exact this
    have hle := orX_lt (f := fun x => orT (cellN S p) r (dep + 1) (9 * v + x)) (fun i => orT_lt hc8 _ _ _) x
    have hs1 : orX (fun x => orT (cellN S p) r (dep + 1) (9 * v + x)) (x + 1) = orX (fun x => orT (cellN S p) r (dep + 1) (9 * v + x)) x ||| orT (cellN S p) r (dep + 1) (9 * v + x) := rfl
    have hlt := orT_lt (cell := cellN S p) hc8 r (dep + 1) (9 * v + x)
    rcases r with _ | r
    · -- the last step
      have hxx := hs
      obtain ⟨e13, e15, e17, e18, e19, e20, e21⟩ := hxx
      obtain ⟨⟨A, hA⟩, ha, hr0, hr1⟩ := hr
      have g := hA.1
      have hl := hA.2.2.2.2.1 p hp
      have hm := hA.2.2.2.2.2
      have hcell := hm.1 (3 + p) (by omega)
      have td := hm.td (p := p) (by omega)
      have ac := adv_cop hA hp (x := (x : Int)) (by omega) (by omega)
      obtain ⟨b1, b2⟩ := advF_cg (wh := wh) (fr := fr) (to := to) (does := does) (code := code) (late := late) (x := (x : Int) * nin p) hP3 g.2.2.2.2.1 g.2.2.2.2.2 ha
      have eS : S (dep + 1) (9 * v + x) = (advF ar wh fr to does code late P ((x : Int) * nin p) (S dep v)).2 := by
        rw [hS.2.1 dep (9 * v + x), show (9 * v + x) % 9 = x by omega, show (9 * v + x) / 9 = v by omega]
      have ecell : S (dep + 1) (9 * v + x) (3 + p) = mvF (ar 0) (s (47 + dep) (3 + p)) (copF ar wh fr to does code late (s (47 + dep)) p x) := by
        rw [eS, ← b2.1 (3 + p) (by omega)]
        exact ac.2.1
      have hcr : 0 ≤ S (dep + 1) (9 * v + x) (3 + p) := by
        obtain ⟨A', c', ha', hr'⟩ := hS.1 (dep + 1) (9 * v + x)
        rw [← ha'.1 (3 + p) (by omega)]
        exact (hr'.2.2.2.2.2.1 (3 + p) (by omega)).2.1
      by_cases cs : 3 ≤ x ∧ 0 < late p
      · have f0 : orT (cellN S p) 0 (dep + 1) (9 * v + x) = orT (cellN S p) 0 (dep + 1) (9 * v + 0) := by
          have ac0 := adv_cop hA hp (x := ((0 : Nat) : Int)) (by omega) (by omega)
          obtain ⟨_, b20⟩ := advF_cg (wh := wh) (fr := fr) (to := to) (does := does) (code := code) (late := late) (x := ((0 : Nat) : Int) * nin p) hP3 g.2.2.2.2.1 g.2.2.2.2.2 ha
          have eS0 : S (dep + 1) (9 * v + 0) = (advF ar wh fr to does code late P (((0 : Nat) : Int) * nin p) (S dep v)).2 := by
            rw [hS.2.1 dep (9 * v + 0), show (9 * v + 0) % 9 = 0 by omega, show (9 * v + 0) / 9 = v by omega]
          show 2 ^ cellN S p (dep + 1) (9 * v + x) = 2 ^ cellN S p (dep + 1) (9 * v + 0)
          unfold cellN
          rw [ecell, eS0, ← b20.1 (3 + p) (by omega), ac0.2.1, cop_stay td (by omega) (by omega) (by omega) hl.2.2]
          rfl
        have e0 : orX (fun x => orT (cellN S p) 0 (dep + 1) (9 * v + x)) (x + 1) = orX (fun x => orT (cellN S p) 0 (dep + 1) (9 * v + x)) x := by
          rw [hs1, f0]
          exact orX_mem (f := fun x => orT (cellN S p) 0 (dep + 1) (9 * v + x)) (i := 0) x (by omega)
        have q := nx s l5 (fun _ _ _ _ => rfl)
        rw [e0] at q
        have is := fun (Q' : Option mw_V → mw_S → Prop) (d' : Nat) => cl_isStay (d := d') (p := p) (x := (x : Int)) (σ := s) (Q := Q') (by omega)
        rw [e15, if_pos ⟨by omega, cs.2⟩] at is
        generalize orX (fun x => orT (cellN S p) 0 (dep + 1) (9 * v + x)) x = acc at *
        simp (disch := first | (simp only [nlP_n, nlP_I, nlP_R, catP_I, catP_R, st8_0, st8_1, st8_2, st8_3, st8_4, b01, or_true, true_or, eq_self, iRP98, iRP99, iRP86, iRP97, iRP47, iRP57, rcP0, rcP1, rcP3, rcP13, rcP22, rcP25, rcP37, rcP45, rcP55, rcP65, rcP74, rcP76, rcP77, rcP87, rcP88, rcP100]; done) | omega | assumption | (simp (disch := omega) only [cel_s, cel_n, up1_s, up1_n, up1_e, put_out, fill_in]; omega) | (apply isRow_past; omega) | (apply isRow_seek; omega) | (apply isRow_guess; omega)) only [ww83_12, ww83_14, ww83_16, ww83_19, ww83_20, ww83_21, ww83_22, ww83_23, ww83_26, ww83_27, ww83_30, ww83_31, ww83_32, ww83_33, ww83_36, ww83_37, ww83_38, ww83_39, ww83_40, ww83_43, ww83_44, ww83_47, ww83_48, ww83_51, ww83_52, ww83_53, ww83_54, ww83_55, ww83_57, ww83_60, ww83_61, ww83_64, ww83_65, ww83_66, ww83_69, ww83_70, ww83_71, ww83_72, ww83_73, ww83_74, ww83_75, ww83_76, ww83_79, ww83_80, ww83_81, ww83_84, ww83_85, ww83_88, ww83_89, ww83_92, ww83_94, ww83_97, ww83_148, h7, is, ↓iteT, ↓iteF, andT, w32_eq, yL_1, Int.toNat_natCast, Int.toNat_add, Int.toNat_mul, Int.toNat_sub, cel_s, cel_n, up1_cel, upS_cel, cel_cel, up1_s, up1_n, up1_e, rdI_n, rdB_n, Int.reduceMul, Int.reduceDiv, Int.reduceMod, Nat.reduceMul, Nat.reduceSub, Nat.zero_add, Int.zero_add, Nat.add_zero, Int.add_zero, ite_self, Option.toList_some, Option.toList_none, List.cons_append, List.nil_append, rdI_c, and_true, true_and, and_self, not_false_eq_true, not_true_eq_false, if_true, if_false, or_false, false_or, ne_eq, and_false, false_and, rdI_n, Nat.reduceEqDiff, Nat.reduceAdd, Nat.reduceLeDiff, Int.reduceEq, Int.reduceLT, Int.reduceLE, Int.reduceNeg, Int.reduceToNat, Int.reduceAdd, Int.reduceSub, List.append_nil, ki2, ki4, ki5, ki6, ki7, ki8, ki9, ki10, ki11, ki12, ki14, ki15, ki16, ki17, ki18, ki19, ki20, ki21, ki23, ki24, ki27, ki28, ki29, ki30, ki31, ki32, ki33, ki34, ki35, ki36, ki38, ki39, ki47, ki48, ki49, ki50, ki51, ki52, ki57, ki58, ki59, ki60, ki61, ki62, ki66, ki67, ki69, ki70, ki71, ki72, ki73, ki78, ki79, ki80, ki81, ki82, ki83, ki84, ki85, ki86, ki89, ki90, ki91, ki92, ki93, ki94, ki95, ki96, ki97, ki98, ki99, ki101, ki103, ki104, ki105, ki106, ki107, ki108, ki109, ki110, ki111, ki112, ki113, ki114, ki115, ki116, ki117, ki118, ki121, ki122, ki123, ki3000, kb68, kb102, kr26, kr40, kr46, kr56, kw2, kw4, kw5, kw6, kw7, kw8, kw9, kw10, kw11, kw12, kw14, kw15, kw16, kw17, kw18, kw19, kw20, kw21, kw23, kw24, kw27, kw28, kw29, kw30, kw31, kw32, kw33, kw34, kw35, kw36, kw38, kw39, kw41, kw42, kw43, kw44, kw47, kw48, kw49, kw50, kw51, kw52, kw53, kw54, kw57, kw58, kw59, kw60, kw61, kw62, kw63, kw64, kw66, kw67, kw68, kw69, kw70, kw71, kw72, kw73, kw75, kw78, kw79, kw80, kw81, kw82, kw83, kw84, kw85, kw86, kw89, kw90, kw91, kw92, kw93, kw94, kw95, kw96, kw97, kw98, kw99, kw101, kw102, kw103, kw104, kw105, kw106, kw107, kw108, kw109, kw110, kw111, kw112, kw113, kw114, kw115, kw116, kw117, kw118, kw119, kw120, kw121, kw122, kw123, kw124]
        rw [ww83_151]
        exact q
      · have is := fun (Q' : Option mw_V → mw_S → Prop) (d' : Nat) => cl_isStay (d := d') (p := p) (x := (x : Int)) (σ := s) (Q := Q') (by omega)
        rw [e15, if_neg (fun q => cs ⟨by omega, q.2⟩)] at is
        have hc8x := hc8 (dep + 1) (9 * v + x)
        have cv : ((cellN S p (dep + 1) (9 * v + x) : Nat) : Int) = mvF (ar 0) (s (47 + dep) (3 + p)) (copF ar wh fr to does code late (s (47 + dep)) p x) := by
          rw [← ecell]
          unfold cellN
          omega
        have e1t : orT (cellN S p) 0 (dep + 1) (9 * v + x) = 2 ^ cellN S p (dep + 1) (9 * v + x) := rfl
        rw [hs1, e1t] at nx
        rw [e1t] at hlt
        have sh := zShl1 hc8x
        generalize cellN S p (dep + 1) (9 * v + x) = cc at *
        generalize 2 ^ cc = pw at *
        generalize orX (fun x => orT (cellN S p) 0 (dep + 1) (9 * v + x)) x = acc at *
        have zo := zOrN (a := acc) (b := pw) (by omega) (by omega)
        simp (disch := first | (simp only [nlP_n, nlP_I, nlP_R, catP_I, catP_R, st8_0, st8_1, st8_2, st8_3, st8_4, b01, or_true, true_or, eq_self, iRP98, iRP99, iRP86, iRP97, iRP47, iRP57, rcP0, rcP1, rcP3, rcP13, rcP22, rcP25, rcP37, rcP45, rcP55, rcP65, rcP74, rcP76, rcP77, rcP87, rcP88, rcP100]; done) | omega | assumption | (simp (disch := omega) only [cel_s, cel_n, up1_s, up1_n, up1_e, put_out, fill_in]; omega) | (apply isRow_past; omega) | (apply isRow_seek; omega) | (apply isRow_guess; omega)) only [ww83_12, ww83_14, ww83_16, ww83_19, ww83_20, ww83_21, ww83_22, ww83_23, ww83_26, ww83_27, ww83_30, ww83_31, ww83_32, ww83_33, ww83_36, ww83_37, ww83_38, ww83_39, ww83_40, ww83_43, ww83_44, ww83_47, ww83_48, ww83_51, ww83_52, ww83_53, ww83_54, ww83_55, ww83_57, ww83_60, ww83_61, ww83_64, ww83_65, ww83_66, ww83_69, ww83_70, ww83_71, ww83_72, ww83_73, ww83_74, ww83_75, ww83_76, ww83_79, ww83_80, ww83_81, ww83_84, ww83_85, ww83_88, ww83_89, ww83_92, ww83_94, ww83_97, ww83_100, ww83_101, ww83_104, ww83_105, ww83_108, ww83_109, ww83_110, ww83_111, ww83_114, ww83_116, h7, is, rows46, ↓iteT, ↓iteF, andT, w32_eq, yL_1, Int.toNat_natCast, Int.toNat_add, Int.toNat_mul, Int.toNat_sub, cel_s, cel_n, up1_cel, upS_cel, cel_cel, up1_s, up1_n, up1_e, rdI_n, rdB_n, Int.reduceMul, Int.reduceDiv, Int.reduceMod, Nat.reduceMul, Nat.reduceSub, Nat.zero_add, Int.zero_add, Nat.add_zero, Int.add_zero, ite_self, Option.toList_some, Option.toList_none, List.cons_append, List.nil_append, rdI_c, and_true, true_and, and_self, not_false_eq_true, not_true_eq_false, if_true, if_false, or_false, false_or, ne_eq, and_false, false_and, rdI_n, Nat.reduceEqDiff, Nat.reduceAdd, Nat.reduceLeDiff, Int.reduceEq, Int.reduceLT, Int.reduceLE, Int.reduceNeg, Int.reduceToNat, Int.reduceAdd, Int.reduceSub, List.append_nil, ki2, ki4, ki5, ki6, ki7, ki8, ki9, ki10, ki11, ki12, ki14, ki15, ki16, ki17, ki18, ki19, ki20, ki21, ki23, ki24, ki27, ki28, ki29, ki30, ki31, ki32, ki33, ki34, ki35, ki36, ki38, ki39, ki47, ki48, ki49, ki50, ki51, ki52, ki57, ki58, ki59, ki60, ki61, ki62, ki66, ki67, ki69, ki70, ki71, ki72, ki73, ki78, ki79, ki80, ki81, ki82, ki83, ki84, ki85, ki86, ki89, ki90, ki91, ki92, ki93, ki94, ki95, ki96, ki97, ki98, ki99, ki101, ki103, ki104, ki105, ki106, ki107, ki108, ki109, ki110, ki111, ki112, ki113, ki114, ki115, ki116, ki117, ki118, ki121, ki122, ki123, ki3000, kb68, kb102, kr26, kr40, kr46, kr56, kw2, kw4, kw5, kw6, kw7, kw8, kw9, kw10, kw11, kw12, kw14, kw15, kw16, kw17, kw18, kw19, kw20, kw21, kw23, kw24, kw27, kw28, kw29, kw30, kw31, kw32, kw33, kw34, kw35, kw36, kw38, kw39, kw41, kw42, kw43, kw44, kw47, kw48, kw49, kw50, kw51, kw52, kw53, kw54, kw57, kw58, kw59, kw60, kw61, kw62, kw63, kw64, kw66, kw67, kw68, kw69, kw70, kw71, kw72, kw73, kw75, kw78, kw79, kw80, kw81, kw82, kw83, kw84, kw85, kw86, kw89, kw90, kw91, kw92, kw93, kw94, kw95, kw96, kw97, kw98, kw99, kw101, kw102, kw103, kw104, kw105, kw106, kw107, kw108, kw109, kw110, kw111, kw112, kw113, kw114, kw115, kw116, kw117, kw118, kw119, kw120, kw121, kw122, kw123, kw124]
        refine cl_copyDoingB (P := P) (A := A) hrow (by omega) (by rw [e13, e15, e17, e18, e19, e20, e21]; exact hA) hp (by omega) (by omega) (fun W N => ?_)
        rw [e13, e15, e17, e18, e19, e20, e21]
        have f1 : ∀ a, a ≠ 23 → a ≠ 24 → cel (cel s 24 N) 23 W a = s a := fun a a1 a2 => by rw [cel_n a1, cel_n a2]
        generalize cel (cel s 24 N) 23 W = s1 at *
        have k7 : s1 45 7 = p := by rw [f1 45 (by decide) (by decide)]; exact h7
        have krow : s1 (47 + dep) = s (47 + dep) := f1 (47 + dep) (by omega) (by omega)
        have k13 : s1 13 = ar := by rw [f1 13 (by decide) (by decide)]; exact e13
        have mv := fun (Q' : Option mw_V → mw_S → Prop) (d' : Nat) => cl_mv (d := d') (c := s (47 + dep) (3 + p)) (x := copF ar wh fr to does code late (s (47 + dep)) p x) (σ := s1) (Q := Q') hcell.2.1 (by have := g.2.2.2.1; omega) (by rw [k13]; exact g.2.2.1) (by rw [k13]; exact g.2.2.2.1)
        rw [k13, ← cv] at mv
        simp (disch := first | (simp only [nlP_n, nlP_I, nlP_R, catP_I, catP_R, st8_0, st8_1, st8_2, st8_3, st8_4, b01, or_true, true_or, eq_self, iRP98, iRP99, iRP86, iRP97, iRP47, iRP57, rcP0, rcP1, rcP3, rcP13, rcP22, rcP25, rcP37, rcP45, rcP55, rcP65, rcP74, rcP76, rcP77, rcP87, rcP88, rcP100]; done) | omega | assumption | (simp (disch := omega) only [cel_s, cel_n, up1_s, up1_n, up1_e, put_out, fill_in]; omega) | (apply isRow_past; omega) | (apply isRow_seek; omega) | (apply isRow_guess; omega)) only [ww83_119, ww83_121, ww83_122, ww83_123, ww83_124, ww83_127, ww83_128, ww83_131, ww83_132, ww83_133, ww83_134, ww83_135, ww83_138, ww83_139, ww83_140, ww83_142, ww83_145, ww83_146, ww83_147, ww83_148, k7, krow, rows46, mv, sh, zo, ↓iteT, ↓iteF, andT, w32_eq, yL_1, Int.toNat_natCast, Int.toNat_add, Int.toNat_mul, Int.toNat_sub, cel_s, cel_n, up1_cel, upS_cel, cel_cel, up1_s, up1_n, up1_e, rdI_n, rdB_n, Int.reduceMul, Int.reduceDiv, Int.reduceMod, Nat.reduceMul, Nat.reduceSub, Nat.zero_add, Int.zero_add, Nat.add_zero, Int.add_zero, ite_self, Option.toList_some, Option.toList_none, List.cons_append, List.nil_append, rdI_c, and_true, true_and, and_self, not_false_eq_true, not_true_eq_false, if_true, if_false, or_false, false_or, ne_eq, and_false, false_and, rdI_n, Nat.reduceEqDiff, Nat.reduceAdd, Nat.reduceLeDiff, Int.reduceEq, Int.reduceLT, Int.reduceLE, Int.reduceNeg, Int.reduceToNat, Int.reduceAdd, Int.reduceSub, List.append_nil, ki2, ki4, ki5, ki6, ki7, ki8, ki9, ki10, ki11, ki12, ki14, ki15, ki16, ki17, ki18, ki19, ki20, ki21, ki23, ki24, ki27, ki28, ki29, ki30, ki31, ki32, ki33, ki34, ki35, ki36, ki38, ki39, ki47, ki48, ki49, ki50, ki51, ki52, ki57, ki58, ki59, ki60, ki61, ki62, ki66, ki67, ki69, ki70, ki71, ki72, ki73, ki78, ki79, ki80, ki81, ki82, ki83, ki84, ki85, ki86, ki89, ki90, ki91, ki92, ki93, ki94, ki95, ki96, ki97, ki98, ki99, ki101, ki103, ki104, ki105, ki106, ki107, ki108, ki109, ki110, ki111, ki112, ki113, ki114, ki115, ki116, ki117, ki118, ki121, ki122, ki123, ki3000, kb68, kb102, kr26, kr40, kr46, kr56, kw2, kw4, kw5, kw6, kw7, kw8, kw9, kw10, kw11, kw12, kw14, kw15, kw16, kw17, kw18, kw19, kw20, kw21, kw23, kw24, kw27, kw28, kw29, kw30, kw31, kw32, kw33, kw34, kw35, kw36, kw38, kw39, kw41, kw42, kw43, kw44, kw47, kw48, kw49, kw50, kw51, kw52, kw53, kw54, kw57, kw58, kw59, kw60, kw61, kw62, kw63, kw64, kw66, kw67, kw68, kw69, kw70, kw71, kw72, kw73, kw75, kw78, kw79, kw80, kw81, kw82, kw83, kw84, kw85, kw86, kw89, kw90, kw91, kw92, kw93, kw94, kw95, kw96, kw97, kw98, kw99, kw101, kw102, kw103, kw104, kw105, kw106, kw107, kw108, kw109, kw110, kw111, kw112, kw113, kw114, kw115, kw116, kw117, kw118, kw119, kw120, kw121, kw122, kw123, kw124]
        rw [ww83_151]
        exact nx s1 _ (fun a a1 a2 _ => f1 a a1 a2)
    · have ih' := ih (by omega)
      generalize hacc : orX (fun x => orT (cellN S p) (r + 1) (dep + 1) (9 * v + x)) x = acc at *
      rw [hs1] at nx
      generalize hot : orT (cellN S p) (r + 1) (dep + 1) (9 * v + x) = ot at *
      have zo := zOrN (a := acc) (b := ot) (by omega) (by omega)
      simp (disch := first | (simp only [nlP_n, nlP_I, nlP_R, catP_I, catP_R, st8_0, st8_1, st8_2, st8_3, st8_4, b01, or_true, true_or, eq_self, iRP98, iRP99, iRP86, iRP97, iRP47, iRP57, rcP0, rcP1, rcP3, rcP13, rcP22, rcP25, rcP37, rcP45, rcP55, rcP65, rcP74, rcP76, rcP77, rcP87, rcP88, rcP100]; done) | omega | assumption | (simp (disch := omega) only [cel_s, cel_n, up1_s, up1_n, up1_e, put_out, fill_in]; omega) | (apply isRow_past; omega) | (apply isRow_seek; omega) | (apply isRow_guess; omega)) only [ww83_12, ww83_14, ww83_16, ww83_19, ww83_20, ww83_21, ww83_22, ww83_23, ww83_26, ww83_27, ww83_30, ww83_31, ww83_32, ww83_33, ww83_36, ww83_37, ww83_38, ww83_39, ww83_40, ww83_43, ww83_44, ww83_47, ww83_48, ww83_51, ww83_52, ww83_53, ww83_54, ww83_55, ww83_57, ww83_60, ww83_61, ww83_64, ww83_65, ww83_66, h7, rows46, cl_copyRow, nq_p, ↓iteT, ↓iteF, andT, w32_eq, yL_1, Int.toNat_natCast, Int.toNat_add, Int.toNat_mul, Int.toNat_sub, cel_s, cel_n, up1_cel, upS_cel, cel_cel, up1_s, up1_n, up1_e, rdI_n, rdB_n, Int.reduceMul, Int.reduceDiv, Int.reduceMod, Nat.reduceMul, Nat.reduceSub, Nat.zero_add, Int.zero_add, Nat.add_zero, Int.add_zero, ite_self, Option.toList_some, Option.toList_none, List.cons_append, List.nil_append, rdI_c, and_true, true_and, and_self, not_false_eq_true, not_true_eq_false, if_true, if_false, or_false, false_or, ne_eq, and_false, false_and, rdI_n, Nat.reduceEqDiff, Nat.reduceAdd, Nat.reduceLeDiff, Int.reduceEq, Int.reduceLT, Int.reduceLE, Int.reduceNeg, Int.reduceToNat, Int.reduceAdd, Int.reduceSub, List.append_nil, ki2, ki4, ki5, ki6, ki7, ki8, ki9, ki10, ki11, ki12, ki14, ki15, ki16, ki17, ki18, ki19, ki20, ki21, ki23, ki24, ki27, ki28, ki29, ki30, ki31, ki32, ki33, ki34, ki35, ki36, ki38, ki39, ki47, ki48, ki49, ki50, ki51, ki52, ki57, ki58, ki59, ki60, ki61, ki62, ki66, ki67, ki69, ki70, ki71, ki72, ki73, ki78, ki79, ki80, ki81, ki82, ki83, ki84, ki85, ki86, ki89, ki90, ki91, ki92, ki93, ki94, ki95, ki96, ki97, ki98, ki99, ki101, ki103, ki104, ki105, ki106, ki107, ki108, ki109, ki110, ki111, ki112, ki113, ki114, ki115, ki116, ki117, ki118, ki121, ki122, ki123, ki3000, kb68, kb102, kr26, kr40, kr46, kr56, kw2, kw4, kw5, kw6, kw7, kw8, kw9, kw10, kw11, kw12, kw14, kw15, kw16, kw17, kw18, kw19, kw20, kw21, kw23, kw24, kw27, kw28, kw29, kw30, kw31, kw32, kw33, kw34, kw35, kw36, kw38, kw39, kw41, kw42, kw43, kw44, kw47, kw48, kw49, kw50, kw51, kw52, kw53, kw54, kw57, kw58, kw59, kw60, kw61, kw62, kw63, kw64, kw66, kw67, kw68, kw69, kw70, kw71, kw72, kw73, kw75, kw78, kw79, kw80, kw81, kw82, kw83, kw84, kw85, kw86, kw89, kw90, kw91, kw92, kw93, kw94, kw95, kw96, kw97, kw98, kw99, kw101, kw102, kw103, kw104, kw105, kw106, kw107, kw108, kw109, kw110, kw111, kw112, kw113, kw114, kw115, kw116, kw117, kw118, kw119, kw120, kw121, kw122, kw123, kw124]
      refine adv_blk hS hp (by omega) hs hr (by omega) (by omega) (fun s1 f1 rw1 => ?_)
      simp (disch := first | (simp only [nlP_n, nlP_I, nlP_R, catP_I, catP_R, st8_0, st8_1, st8_2, st8_3, st8_4, b01, or_true, true_or, eq_self, iRP98, iRP99, iRP86, iRP97, iRP47, iRP57, rcP0, rcP1, rcP3, rcP13, rcP22, rcP25, rcP37, rcP45, rcP55, rcP65, rcP74, rcP76, rcP77, rcP87, rcP88, rcP100]; done) | omega | assumption | (simp (disch := omega) only [cel_s, cel_n, up1_s, up1_n, up1_e, put_out, fill_in]; omega) | (apply isRow_past; omega) | (apply isRow_seek; omega) | (apply isRow_guess; omega)) only [ww83_69, ww83_70, ww83_71, ww83_72, ww83_73, ww83_74, ww83_75, ww83_76, ↓iteT, ↓iteF, andT, w32_eq, yL_1, Int.toNat_natCast, Int.toNat_add, Int.toNat_mul, Int.toNat_sub, cel_s, cel_n, up1_cel, upS_cel, cel_cel, up1_s, up1_n, up1_e, rdI_n, rdB_n, Int.reduceMul, Int.reduceDiv, Int.reduceMod, Nat.reduceMul, Nat.reduceSub, Nat.zero_add, Int.zero_add, Nat.add_zero, Int.add_zero, ite_self, Option.toList_some, Option.toList_none, List.cons_append, List.nil_append, rdI_c, and_true, true_and, and_self, not_false_eq_true, not_true_eq_false, if_true, if_false, or_false, false_or, ne_eq, and_false, false_and, rdI_n, Nat.reduceEqDiff, Nat.reduceAdd, Nat.reduceLeDiff, Int.reduceEq, Int.reduceLT, Int.reduceLE, Int.reduceNeg, Int.reduceToNat, Int.reduceAdd, Int.reduceSub, List.append_nil, ki2, ki4, ki5, ki6, ki7, ki8, ki9, ki10, ki11, ki12, ki14, ki15, ki16, ki17, ki18, ki19, ki20, ki21, ki23, ki24, ki27, ki28, ki29, ki30, ki31, ki32, ki33, ki34, ki35, ki36, ki38, ki39, ki47, ki48, ki49, ki50, ki51, ki52, ki57, ki58, ki59, ki60, ki61, ki62, ki66, ki67, ki69, ki70, ki71, ki72, ki73, ki78, ki79, ki80, ki81, ki82, ki83, ki84, ki85, ki86, ki89, ki90, ki91, ki92, ki93, ki94, ki95, ki96, ki97, ki98, ki99, ki101, ki103, ki104, ki105, ki106, ki107, ki108, ki109, ki110, ki111, ki112, ki113, ki114, ki115, ki116, ki117, ki118, ki121, ki122, ki123, ki3000, kb68, kb102, kr26, kr40, kr46, kr56, kw2, kw4, kw5, kw6, kw7, kw8, kw9, kw10, kw11, kw12, kw14, kw15, kw16, kw17, kw18, kw19, kw20, kw21, kw23, kw24, kw27, kw28, kw29, kw30, kw31, kw32, kw33, kw34, kw35, kw36, kw38, kw39, kw41, kw42, kw43, kw44, kw47, kw48, kw49, kw50, kw51, kw52, kw53, kw54, kw57, kw58, kw59, kw60, kw61, kw62, kw63, kw64, kw66, kw67, kw68, kw69, kw70, kw71, kw72, kw73, kw75, kw78, kw79, kw80, kw81, kw82, kw83, kw84, kw85, kw86, kw89, kw90, kw91, kw92, kw93, kw94, kw95, kw96, kw97, kw98, kw99, kw101, kw102, kw103, kw104, kw105, kw106, kw107, kw108, kw109, kw110, kw111, kw112, kw113, kw114, kw115, kw116, kw117, kw118, kw119, kw120, kw121, kw122, kw123, kw124]
      have hq2 := ih' s1 (9 * v + x) (hs.mono (fun a ha => f1 a (by omega) (by omega) (by omega))) (by rw [f1 45 (by decide) (by decide) (by omega)]; exact h7) (by rw [show (B + ((dep + 1 : Nat) : Int)) = B + dep + 1 by omega]; exact rw1) d
      rw [ic1, hot] at hq2
      rw [show d + (r + 1) + 8 = d + (r + 1) + 8 from rfl]
      refine hq2 _ (fun s2 f2 => ?_)
      simp (disch := first | (simp only [nlP_n, nlP_I, nlP_R, catP_I, catP_R, st8_0, st8_1, st8_2, st8_3, st8_4, b01, or_true, true_or, eq_self, iRP98, iRP99, iRP86, iRP97, iRP47, iRP57, rcP0, rcP1, rcP3, rcP13, rcP22, rcP25, rcP37, rcP45, rcP55, rcP65, rcP74, rcP76, rcP77, rcP87, rcP88, rcP100]; done) | omega | assumption | (simp (disch := omega) only [cel_s, cel_n, up1_s, up1_n, up1_e, put_out, fill_in]; omega) | (apply isRow_past; omega) | (apply isRow_seek; omega) | (apply isRow_guess; omega)) only [ww83_79, ww83_80, ww83_81, ww83_84, ww83_85, ww83_88, ww83_89, ww83_92, ww83_94, ww83_97, ww83_100, ww83_101, ww83_104, ww83_105, ww83_108, ww83_109, ww83_110, ww83_111, ww83_114, ww83_116, ww83_119, ww83_121, ww83_122, ww83_123, ww83_124, ww83_127, ww83_128, ww83_131, ww83_132, ww83_133, ww83_134, ww83_135, ww83_138, ww83_139, ww83_140, ww83_142, ww83_145, ww83_146, ww83_147, ww83_148, zo, ↓iteT, ↓iteF, andT, w32_eq, yL_1, Int.toNat_natCast, Int.toNat_add, Int.toNat_mul, Int.toNat_sub, cel_s, cel_n, up1_cel, upS_cel, cel_cel, up1_s, up1_n, up1_e, rdI_n, rdB_n, Int.reduceMul, Int.reduceDiv, Int.reduceMod, Nat.reduceMul, Nat.reduceSub, Nat.zero_add, Int.zero_add, Nat.add_zero, Int.add_zero, ite_self, Option.toList_some, Option.toList_none, List.cons_append, List.nil_append, rdI_c, and_true, true_and, and_self, not_false_eq_true, not_true_eq_false, if_true, if_false, or_false, false_or, ne_eq, and_false, false_and, rdI_n, Nat.reduceEqDiff, Nat.reduceAdd, Nat.reduceLeDiff, Int.reduceEq, Int.reduceLT, Int.reduceLE, Int.reduceNeg, Int.reduceToNat, Int.reduceAdd, Int.reduceSub, List.append_nil, ki2, ki4, ki5, ki6, ki7, ki8, ki9, ki10, ki11, ki12, ki14, ki15, ki16, ki17, ki18, ki19, ki20, ki21, ki23, ki24, ki27, ki28, ki29, ki30, ki31, ki32, ki33, ki34, ki35, ki36, ki38, ki39, ki47, ki48, ki49, ki50, ki51, ki52, ki57, ki58, ki59, ki60, ki61, ki62, ki66, ki67, ki69, ki70, ki71, ki72, ki73, ki78, ki79, ki80, ki81, ki82, ki83, ki84, ki85, ki86, ki89, ki90, ki91, ki92, ki93, ki94, ki95, ki96, ki97, ki98, ki99, ki101, ki103, ki104, ki105, ki106, ki107, ki108, ki109, ki110, ki111, ki112, ki113, ki114, ki115, ki116, ki117, ki118, ki121, ki122, ki123, ki3000, kb68, kb102, kr26, kr40, kr46, kr56, kw2, kw4, kw5, kw6, kw7, kw8, kw9, kw10, kw11, kw12, kw14, kw15, kw16, kw17, kw18, kw19, kw20, kw21, kw23, kw24, kw27, kw28, kw29, kw30, kw31, kw32, kw33, kw34, kw35, kw36, kw38, kw39, kw41, kw42, kw43, kw44, kw47, kw48, kw49, kw50, kw51, kw52, kw53, kw54, kw57, kw58, kw59, kw60, kw61, kw62, kw63, kw64, kw66, kw67, kw68, kw69, kw70, kw71, kw72, kw73, kw75, kw78, kw79, kw80, kw81, kw82, kw83, kw84, kw85, kw86, kw89, kw90, kw91, kw92, kw93, kw94, kw95, kw96, kw97, kw98, kw99, kw101, kw102, kw103, kw104, kw105, kw106, kw107, kw108, kw109, kw110, kw111, kw112, kw113, kw114, kw115, kw116, kw117, kw118, kw119, kw120, kw121, kw122, kw123, kw124]
      rw [ww83_151]
      exact nx s2 _ (fun a a1 a2 a3 => by rw [f2 a a1 a2 (by omega), f1 a a1 a2 (by omega)])
theorem cl_cf {p n : Nat} {B : Int} {S : Nat → Nat → Nat → Int} (hS : SvOK ar wh fr to does code late P p S) (hp : p < P) (hn : n ≤ 4) (hB : 0 ≤ B ∧ B < 900000) (hc8 : ∀ m v, cellN S p m v ≤ 8) : ∀ (r dep : Nat), 0 < r → dep + r = n → cfC ar wh fr to does code late P p n B S r dep
  | 0, dep, h, _ => absurd h (by omega)
  | r + 1, dep, h, hd => by
    intro s v hs h7 hr d Q hq
    have w := wp_cf hS hp hn hd hB hc8 (fun hr0 => cl_cf hS hp hn hB hc8 r (dep + 1) hr0 (by omega)) 9 0 s none (by omega) hs h7 hr d Q hq
    rw [show d + (r + 1) + 8 = d + r + 8 + 1 by omega, ee83]
    simp (disch := first | (simp only [nlP_n, nlP_I, nlP_R, catP_I, catP_R, st8_0, st8_1, st8_2, st8_3, st8_4, b01, or_true, true_or, eq_self, iRP98, iRP99, iRP86, iRP97, iRP47, iRP57, rcP0, rcP1, rcP3, rcP13, rcP22, rcP25, rcP37, rcP45, rcP55, rcP65, rcP74, rcP76, rcP77, rcP87, rcP88, rcP100]; done) | omega | assumption | (simp (disch := omega) only [cel_s, cel_n, up1_s, up1_n, up1_e, put_out, fill_in]; omega) | (apply isRow_past; omega) | (apply isRow_seek; omega) | (apply isRow_guess; omega)) only [ww83_0, ww83_1, ww83_2, ww83_3, ww83_4, ww83_7, ww83_8, ww83_9, ww83_10, ↓iteT, ↓iteF, andT, w32_eq, yL_1, Int.toNat_natCast, Int.toNat_add, Int.toNat_mul, Int.toNat_sub, cel_s, cel_n, up1_cel, upS_cel, cel_cel, up1_s, up1_n, up1_e, rdI_n, rdB_n, Int.reduceMul, Int.reduceDiv, Int.reduceMod, Nat.reduceMul, Nat.reduceSub, Nat.zero_add, Int.zero_add, Nat.add_zero, Int.add_zero, ite_self, Option.toList_some, Option.toList_none, List.cons_append, List.nil_append, rdI_c, and_true, true_and, and_self, not_false_eq_true, not_true_eq_false, if_true, if_false, or_false, false_or, ne_eq, and_false, false_and, rdI_n, Nat.reduceEqDiff, Nat.reduceAdd, Nat.reduceLeDiff, Int.reduceEq, Int.reduceLT, Int.reduceLE, Int.reduceNeg, Int.reduceToNat, Int.reduceAdd, Int.reduceSub, List.append_nil, ki2, ki4, ki5, ki6, ki7, ki8, ki9, ki10, ki11, ki12, ki14, ki15, ki16, ki17, ki18, ki19, ki20, ki21, ki23, ki24, ki27, ki28, ki29, ki30, ki31, ki32, ki33, ki34, ki35, ki36, ki38, ki39, ki47, ki48, ki49, ki50, ki51, ki52, ki57, ki58, ki59, ki60, ki61, ki62, ki66, ki67, ki69, ki70, ki71, ki72, ki73, ki78, ki79, ki80, ki81, ki82, ki83, ki84, ki85, ki86, ki89, ki90, ki91, ki92, ki93, ki94, ki95, ki96, ki97, ki98, ki99, ki101, ki103, ki104, ki105, ki106, ki107, ki108, ki109, ki110, ki111, ki112, ki113, ki114, ki115, ki116, ki117, ki118, ki121, ki122, ki123, ki3000, kb68, kb102, kr26, kr40, kr46, kr56, kw2, kw4, kw5, kw6, kw7, kw8, kw9, kw10, kw11, kw12, kw14, kw15, kw16, kw17, kw18, kw19, kw20, kw21, kw23, kw24, kw27, kw28, kw29, kw30, kw31, kw32, kw33, kw34, kw35, kw36, kw38, kw39, kw41, kw42, kw43, kw44, kw47, kw48, kw49, kw50, kw51, kw52, kw53, kw54, kw57, kw58, kw59, kw60, kw61, kw62, kw63, kw64, kw66, kw67, kw68, kw69, kw70, kw71, kw72, kw73, kw75, kw78, kw79, kw80, kw81, kw82, kw83, kw84, kw85, kw86, kw89, kw90, kw91, kw92, kw93, kw94, kw95, kw96, kw97, kw98, kw99, kw101, kw102, kw103, kw104, kw105, kw106, kw107, kw108, kw109, kw110, kw111, kw112, kw113, kw114, kw115, kw116, kw117, kw118, kw119, kw120, kw121, kw122, kw123, kw124]
    exact w
theorem wp_mre {d p n M : Nat} {cell : Nat → Nat} {s : mw_S} {Q : Option mw_V → mw_S → Prop} (hp : p < 3) (hM : M ≤ 6561) (h32 : s 100 32 = M) (hc : ∀ i, i < M → s 109 (25 * i + 3 + p) = (cell i : Int)) (hc8 : ∀ i, cell i ≤ 8) : ∀ (r i : Nat), i + r = M → (mw_WP d 241 42 [some (jR 100), some (jI p), some (jI n), some (jI (orX (fun i => 2 ^ cell i) i : Nat)), some (jI i)] [] s Q ↔ Q (some (jI (orX (fun i => 2 ^ cell i) M : Nat))) s)
  | 0, i, e => by
    obtain rfl : i = M := by omega
    simp (disch := first | (simp only [nlP_n, nlP_I, nlP_R, catP_I, catP_R, st8_0, st8_1, st8_2, st8_3, st8_4, b01, or_true, true_or, eq_self, iRP98, iRP99, iRP86, iRP97, iRP47, iRP57, rcP0, rcP1, rcP3, rcP13, rcP22, rcP25, rcP37, rcP45, rcP55, rcP65, rcP74, rcP76, rcP77, rcP87, rcP88, rcP100]; done) | omega | assumption | (simp (disch := omega) only [cel_s, cel_n, up1_s, up1_n, up1_e, put_out, fill_in]; omega) | (apply isRow_past; omega) | (apply isRow_seek; omega) | (apply isRow_guess; omega)) only [ww241_42, ww241_44, ww241_45, ww241_48, ww241_76, ww241_77, h32, ↓iteT, ↓iteF, andT, w32_eq, yL_1, Int.toNat_natCast, Int.toNat_add, Int.toNat_mul, Int.toNat_sub, cel_s, cel_n, up1_cel, upS_cel, cel_cel, up1_s, up1_n, up1_e, rdI_n, rdB_n, Int.reduceMul, Int.reduceDiv, Int.reduceMod, Nat.reduceMul, Nat.reduceSub, Nat.zero_add, Int.zero_add, Nat.add_zero, Int.add_zero, ite_self, Option.toList_some, Option.toList_none, List.cons_append, List.nil_append, rdI_c, and_true, true_and, and_self, not_false_eq_true, not_true_eq_false, if_true, if_false, or_false, false_or, ne_eq, and_false, false_and, rdI_n, Nat.reduceEqDiff, Nat.reduceAdd, Nat.reduceLeDiff, Int.reduceEq, Int.reduceLT, Int.reduceLE, Int.reduceNeg, Int.reduceToNat, Int.reduceAdd, Int.reduceSub, List.append_nil, ki2, ki4, ki5, ki6, ki7, ki8, ki9, ki10, ki11, ki12, ki14, ki15, ki16, ki17, ki18, ki19, ki20, ki21, ki23, ki24, ki27, ki28, ki29, ki30, ki31, ki32, ki33, ki34, ki35, ki36, ki38, ki39, ki47, ki48, ki49, ki50, ki51, ki52, ki57, ki58, ki59, ki60, ki61, ki62, ki66, ki67, ki69, ki70, ki71, ki72, ki73, ki78, ki79, ki80, ki81, ki82, ki83, ki84, ki85, ki86, ki89, ki90, ki91, ki92, ki93, ki94, ki95, ki96, ki97, ki98, ki99, ki101, ki103, ki104, ki105, ki106, ki107, ki108, ki109, ki110, ki111, ki112, ki113, ki114, ki115, ki116, ki117, ki118, ki121, ki122, ki123, ki3000, kb68, kb102, kr26, kr40, kr46, kr56, kw2, kw4, kw5, kw6, kw7, kw8, kw9, kw10, kw11, kw12, kw14, kw15, kw16, kw17, kw18, kw19, kw20, kw21, kw23, kw24, kw27, kw28, kw29, kw30, kw31, kw32, kw33, kw34, kw35, kw36, kw38, kw39, kw41, kw42, kw43, kw44, kw47, kw48, kw49, kw50, kw51, kw52, kw53, kw54, kw57, kw58, kw59, kw60, kw61, kw62, kw63, kw64, kw66, kw67, kw68, kw69, kw70, kw71, kw72, kw73, kw75, kw78, kw79, kw80, kw81, kw82, kw83, kw84, kw85, kw86, kw89, kw90, kw91, kw92, kw93, kw94, kw95, kw96, kw97, kw98, kw99, kw101, kw102, kw103, kw104, kw105, kw106, kw107, kw108, kw109, kw110, kw111, kw112, kw113, kw114, kw115, kw116, kw117, kw118, kw119, kw120, kw121, kw122, kw123, kw124]
  | r + 1, i, e => by
    have ih := wp_mre (d := d) (p := p) (n := n) (Q := Q) hp hM h32 hc hc8 r (i + 1) (by omega)
    rw [← ih, ic1]
    have hs1 : orX (fun i => 2 ^ cell i) (i + 1) = orX (fun i => 2 ^ cell i) i ||| 2 ^ cell i := rfl
    rw [hs1]
    have hci := hc i (by omega)
    have c8 := hc8 i
    have sh := zShl1 c8
    have p8 := pow8 c8
    have hlt := orX_lt (f := fun i => 2 ^ cell i) (fun i => by have := pow8 (hc8 i); show 2 ^ cell i < 512; omega) i
    generalize orX (fun i => 2 ^ cell i) i = acc at *
    generalize 2 ^ cell i = pw at *
    have zo := zOrN (a := acc) (b := pw) (by omega) (by omega)
    have st : mw_WP d 241 42 [some (jR 100), some (jI p), some (jI n), some (jI acc), some (jI i)] [] s Q ↔ mw_WP d 241 73 [some (jR 100), some (jI p), some (jI n), some (jI (acc ||| pw : Nat)), some (jI ((i : Int) + 1))] [] s Q := by
      simp (disch := first | (simp only [nlP_n, nlP_I, nlP_R, catP_I, catP_R, st8_0, st8_1, st8_2, st8_3, st8_4, b01, or_true, true_or, eq_self, iRP98, iRP99, iRP86, iRP97, iRP47, iRP57, rcP0, rcP1, rcP3, rcP13, rcP22, rcP25, rcP37, rcP45, rcP55, rcP65, rcP74, rcP76, rcP77, rcP87, rcP88, rcP100]; done) | omega | assumption | (simp (disch := omega) only [cel_s, cel_n, up1_s, up1_n, up1_e, put_out, fill_in]; omega) | (apply isRow_past; omega) | (apply isRow_seek; omega) | (apply isRow_guess; omega)) only [ww241_42, ww241_44, ww241_45, ww241_48, ww241_51, ww241_52, ww241_53, ww241_54, ww241_57, ww241_59, ww241_61, ww241_62, ww241_63, ww241_64, ww241_65, ww241_66, ww241_67, ww241_68, ww241_69, ww241_70, h32, hci, sh, zo, ↓iteT, ↓iteF, andT, w32_eq, yL_1, Int.toNat_natCast, Int.toNat_add, Int.toNat_mul, Int.toNat_sub, cel_s, cel_n, up1_cel, upS_cel, cel_cel, up1_s, up1_n, up1_e, rdI_n, rdB_n, Int.reduceMul, Int.reduceDiv, Int.reduceMod, Nat.reduceMul, Nat.reduceSub, Nat.zero_add, Int.zero_add, Nat.add_zero, Int.add_zero, ite_self, Option.toList_some, Option.toList_none, List.cons_append, List.nil_append, rdI_c, and_true, true_and, and_self, not_false_eq_true, not_true_eq_false, if_true, if_false, or_false, false_or, ne_eq, and_false, false_and, rdI_n, Nat.reduceEqDiff, Nat.reduceAdd, Nat.reduceLeDiff, Int.reduceEq, Int.reduceLT, Int.reduceLE, Int.reduceNeg, Int.reduceToNat, Int.reduceAdd, Int.reduceSub, List.append_nil, ki2, ki4, ki5, ki6, ki7, ki8, ki9, ki10, ki11, ki12, ki14, ki15, ki16, ki17, ki18, ki19, ki20, ki21, ki23, ki24, ki27, ki28, ki29, ki30, ki31, ki32, ki33, ki34, ki35, ki36, ki38, ki39, ki47, ki48, ki49, ki50, ki51, ki52, ki57, ki58, ki59, ki60, ki61, ki62, ki66, ki67, ki69, ki70, ki71, ki72, ki73, ki78, ki79, ki80, ki81, ki82, ki83, ki84, ki85, ki86, ki89, ki90, ki91, ki92, ki93, ki94, ki95, ki96, ki97, ki98, ki99, ki101, ki103, ki104, ki105, ki106, ki107, ki108, ki109, ki110, ki111, ki112, ki113, ki114, ki115, ki116, ki117, ki118, ki121, ki122, ki123, ki3000, kb68, kb102, kr26, kr40, kr46, kr56, kw2, kw4, kw5, kw6, kw7, kw8, kw9, kw10, kw11, kw12, kw14, kw15, kw16, kw17, kw18, kw19, kw20, kw21, kw23, kw24, kw27, kw28, kw29, kw30, kw31, kw32, kw33, kw34, kw35, kw36, kw38, kw39, kw41, kw42, kw43, kw44, kw47, kw48, kw49, kw50, kw51, kw52, kw53, kw54, kw57, kw58, kw59, kw60, kw61, kw62, kw63, kw64, kw66, kw67, kw68, kw69, kw70, kw71, kw72, kw73, kw75, kw78, kw79, kw80, kw81, kw82, kw83, kw84, kw85, kw86, kw89, kw90, kw91, kw92, kw93, kw94, kw95, kw96, kw97, kw98, kw99, kw101, kw102, kw103, kw104, kw105, kw106, kw107, kw108, kw109, kw110, kw111, kw112, kw113, kw114, kw115, kw116, kw117, kw118, kw119, kw120, kw121, kw122, kw123, kw124]
    rw [st, ww241_73]
theorem or_same {cell : Nat → Nat → Nat} {n : Nat} : orX (fun i => 2 ^ cell n i) (9 ^ n) = orT cell n 0 0 := by
  apply Nat.eq_of_testBit_eq
  intro b
  rw [Bool.eq_iff_iff, orX_bit, orT_bit]
  constructor
  · rintro ⟨i, h1, h2⟩
    rw [Nat.testBit_two_pow, decide_eq_true_iff] at h2
    exact ⟨i, h1, by rw [Nat.mul_zero, Nat.zero_add, Nat.zero_add]; exact h2⟩
  · rintro ⟨i, h1, h2⟩
    rw [Nat.mul_zero, Nat.zero_add, Nat.zero_add] at h2
    exact ⟨i, h1, by rw [Nat.testBit_two_pow, decide_eq_true_iff]; exact h2⟩
theorem cell8 {p : Nat} {S : Nat → Nat → Nat → Int} (hS : SvOK ar wh fr to does code late P p S) (hp : p < 3) (m v : Nat) : 0 ≤ S m v (3 + p) ∧ S m v (3 + p) ≤ 8 := by
  obtain ⟨A', c', ha', hr'⟩ := hS.1 m v
  rw [← ha'.1 (3 + p) (by omega)]
  have := (hr'.2.2.2.2.2.1 (3 + p) (by omega)).2
  have := hr'.1.2.2.2.1
  omega
theorem cl_behind {d p n : Nat} {B : Int} {S : Nat → Nat → Nat → Int} {s : mw_S} {Q : Option mw_V → mw_S → Prop} (hS : SvOK ar wh fr to does code late P p S) (hp : p < P) (hP3 : P ≤ 3) (hn : n ≤ 4) (hB : 0 ≤ B ∧ B < 900000) (hs : stC ar wh fr to does code late s) (hr : rwC ar wh fr to does code late P S B (s 98) 0 0) (hq : ∀ s', (∀ a, a ≠ 23 → a ≠ 24 → ¬ (45 ≤ a ∧ a ≤ 52) → s' a = s a) → Q (some (jI (orT (cellN S p) n 0 0 : Nat))) s') : mw_Call (d + 30) 82 [jR 45, jR 98, jI p, jI n] s Q := by
  have hc8 : ∀ m v, cellN S p m v ≤ 8 := fun m v => by
    have := cell8 hS (by omega) m v
    unfold cellN
    omega
  rw [ee82]
  by_cases c0 : n = 0
  · subst c0
    have hcc := cell8 hS (show p < 3 by omega) 0 0
    have e98 : s 98 (3 + p) = ((cellN S p 0 0 : Nat) : Int) := by
      rw [hr.2.1.1 (3 + p) (by omega)]
      unfold cellN
      omega
    have sh := zShl1 (hc8 0 0)
    have q := hq (cel (cel s 45 (up1 (s 45) 7 p)) 47 (fillF (s 98) (s 47) 35)) (fun a a1 a2 a3 => by rw [cel_n (by omega), cel_n (by omega)])
    unfold orT at q
    generalize cellN S p 0 0 = cc at *
    simp (disch := first | (simp only [nlP_n, nlP_I, nlP_R, catP_I, catP_R, st8_0, st8_1, st8_2, st8_3, st8_4, b01, or_true, true_or, eq_self, iRP98, iRP99, iRP86, iRP97, iRP47, iRP57, rcP0, rcP1, rcP3, rcP13, rcP22, rcP25, rcP37, rcP45, rcP55, rcP65, rcP74, rcP76, rcP77, rcP87, rcP88, rcP100]; done) | omega | assumption | (simp (disch := omega) only [cel_s, cel_n, up1_s, up1_n, up1_e, put_out, fill_in]; omega) | (apply isRow_past; omega) | (apply isRow_seek; omega) | (apply isRow_guess; omega)) only [ww82_0, ww82_1, ww82_2, ww82_5, ww82_6, ww82_7, ww82_10, ww82_11, ww82_12, ww82_15, ww82_16, ww82_19, ww82_20, ww82_21, ww82_22, ww82_23, ww82_24, ww82_25, ww82_26, ww82_29, ww82_30, ww82_31, ww82_32, ww82_35, rows46, cl_copyRow, e98, sh, ↓iteT, ↓iteF, andT, w32_eq, yL_1, Int.toNat_natCast, Int.toNat_add, Int.toNat_mul, Int.toNat_sub, cel_s, cel_n, up1_cel, upS_cel, cel_cel, up1_s, up1_n, up1_e, rdI_n, rdB_n, Int.reduceMul, Int.reduceDiv, Int.reduceMod, Nat.reduceMul, Nat.reduceSub, Nat.zero_add, Int.zero_add, Nat.add_zero, Int.add_zero, ite_self, Option.toList_some, Option.toList_none, List.cons_append, List.nil_append, rdI_c, and_true, true_and, and_self, not_false_eq_true, not_true_eq_false, if_true, if_false, or_false, false_or, ne_eq, and_false, false_and, rdI_n, Nat.reduceEqDiff, Nat.reduceAdd, Nat.reduceLeDiff, Int.reduceEq, Int.reduceLT, Int.reduceLE, Int.reduceNeg, Int.reduceToNat, Int.reduceAdd, Int.reduceSub, List.append_nil, ki2, ki4, ki5, ki6, ki7, ki8, ki9, ki10, ki11, ki12, ki14, ki15, ki16, ki17, ki18, ki19, ki20, ki21, ki23, ki24, ki27, ki28, ki29, ki30, ki31, ki32, ki33, ki34, ki35, ki36, ki38, ki39, ki47, ki48, ki49, ki50, ki51, ki52, ki57, ki58, ki59, ki60, ki61, ki62, ki66, ki67, ki69, ki70, ki71, ki72, ki73, ki78, ki79, ki80, ki81, ki82, ki83, ki84, ki85, ki86, ki89, ki90, ki91, ki92, ki93, ki94, ki95, ki96, ki97, ki98, ki99, ki101, ki103, ki104, ki105, ki106, ki107, ki108, ki109, ki110, ki111, ki112, ki113, ki114, ki115, ki116, ki117, ki118, ki121, ki122, ki123, ki3000, kb68, kb102, kr26, kr40, kr46, kr56, kw2, kw4, kw5, kw6, kw7, kw8, kw9, kw10, kw11, kw12, kw14, kw15, kw16, kw17, kw18, kw19, kw20, kw21, kw23, kw24, kw27, kw28, kw29, kw30, kw31, kw32, kw33, kw34, kw35, kw36, kw38, kw39, kw41, kw42, kw43, kw44, kw47, kw48, kw49, kw50, kw51, kw52, kw53, kw54, kw57, kw58, kw59, kw60, kw61, kw62, kw63, kw64, kw66, kw67, kw68, kw69, kw70, kw71, kw72, kw73, kw75, kw78, kw79, kw80, kw81, kw82, kw83, kw84, kw85, kw86, kw89, kw90, kw91, kw92, kw93, kw94, kw95, kw96, kw97, kw98, kw99, kw101, kw102, kw103, kw104, kw105, kw106, kw107, kw108, kw109, kw110, kw111, kw112, kw113, kw114, kw115, kw116, kw117, kw118, kw119, kw120, kw121, kw122, kw123, kw124]
    exact q
  · have w := cl_cf hS hp hn hB hc8 n 0 (by omega) (by omega) (cel (cel s 45 (up1 (s 45) 7 p)) 47 (fillF (s 98) (s 47) 35)) 0 (hs.mono (fun a ha => by rw [cel_n (by omega), cel_n (by omega)])) (by simp (disch := omega) only [cel_s, cel_n, up1_s, up1_n, up1_e, put_in, put_out, fill_in, fill_out, Nat.add_sub_cancel_left, Int.toNat_natCast]) (by
      rw [Nat.add_zero, cel_s]
      obtain ⟨⟨A, hA⟩, ha, h0, h1⟩ := hr
      refine ⟨⟨A, hA.congr (fun k hk => fill_in hk) (fun _ => rfl)⟩, ⟨fun k hk => by rw [fill_in (by omega)]; exact ha.1 k hk, fun q hq => by rw [fill_in (by omega)]; exact ha.2 q hq⟩, ?_, ?_⟩
      · rw [fill_in (by omega)]
        exact h0
      · rw [fill_in (by omega)]
        omega) (d + 21 - n) 
    rw [show d + 21 - n + n + 8 = d + 29 by omega] at w
    simp (disch := first | (simp only [nlP_n, nlP_I, nlP_R, catP_I, catP_R, st8_0, st8_1, st8_2, st8_3, st8_4, b01, or_true, true_or, eq_self, iRP98, iRP99, iRP86, iRP97, iRP47, iRP57, rcP0, rcP1, rcP3, rcP13, rcP22, rcP25, rcP37, rcP45, rcP55, rcP65, rcP74, rcP76, rcP77, rcP87, rcP88, rcP100]; done) | omega | assumption | (simp (disch := omega) only [cel_s, cel_n, up1_s, up1_n, up1_e, put_out, fill_in]; omega) | (apply isRow_past; omega) | (apply isRow_seek; omega) | (apply isRow_guess; omega)) only [ww82_0, ww82_1, ww82_2, ww82_5, ww82_6, ww82_7, ww82_10, ww82_11, ww82_12, ww82_15, ww82_16, ww82_19, ww82_20, ww82_21, ww82_22, ww82_23, ww82_24, ww82_25, ww82_26, ww82_29, ww82_30, ww82_31, ww82_32, rows46, cl_copyRow, ↓iteT, ↓iteF, andT, w32_eq, yL_1, Int.toNat_natCast, Int.toNat_add, Int.toNat_mul, Int.toNat_sub, cel_s, cel_n, up1_cel, upS_cel, cel_cel, up1_s, up1_n, up1_e, rdI_n, rdB_n, Int.reduceMul, Int.reduceDiv, Int.reduceMod, Nat.reduceMul, Nat.reduceSub, Nat.zero_add, Int.zero_add, Nat.add_zero, Int.add_zero, ite_self, Option.toList_some, Option.toList_none, List.cons_append, List.nil_append, rdI_c, and_true, true_and, and_self, not_false_eq_true, not_true_eq_false, if_true, if_false, or_false, false_or, ne_eq, and_false, false_and, rdI_n, Nat.reduceEqDiff, Nat.reduceAdd, Nat.reduceLeDiff, Int.reduceEq, Int.reduceLT, Int.reduceLE, Int.reduceNeg, Int.reduceToNat, Int.reduceAdd, Int.reduceSub, List.append_nil, ki2, ki4, ki5, ki6, ki7, ki8, ki9, ki10, ki11, ki12, ki14, ki15, ki16, ki17, ki18, ki19, ki20, ki21, ki23, ki24, ki27, ki28, ki29, ki30, ki31, ki32, ki33, ki34, ki35, ki36, ki38, ki39, ki47, ki48, ki49, ki50, ki51, ki52, ki57, ki58, ki59, ki60, ki61, ki62, ki66, ki67, ki69, ki70, ki71, ki72, ki73, ki78, ki79, ki80, ki81, ki82, ki83, ki84, ki85, ki86, ki89, ki90, ki91, ki92, ki93, ki94, ki95, ki96, ki97, ki98, ki99, ki101, ki103, ki104, ki105, ki106, ki107, ki108, ki109, ki110, ki111, ki112, ki113, ki114, ki115, ki116, ki117, ki118, ki121, ki122, ki123, ki3000, kb68, kb102, kr26, kr40, kr46, kr56, kw2, kw4, kw5, kw6, kw7, kw8, kw9, kw10, kw11, kw12, kw14, kw15, kw16, kw17, kw18, kw19, kw20, kw21, kw23, kw24, kw27, kw28, kw29, kw30, kw31, kw32, kw33, kw34, kw35, kw36, kw38, kw39, kw41, kw42, kw43, kw44, kw47, kw48, kw49, kw50, kw51, kw52, kw53, kw54, kw57, kw58, kw59, kw60, kw61, kw62, kw63, kw64, kw66, kw67, kw68, kw69, kw70, kw71, kw72, kw73, kw75, kw78, kw79, kw80, kw81, kw82, kw83, kw84, kw85, kw86, kw89, kw90, kw91, kw92, kw93, kw94, kw95, kw96, kw97, kw98, kw99, kw101, kw102, kw103, kw104, kw105, kw106, kw107, kw108, kw109, kw110, kw111, kw112, kw113, kw114, kw115, kw116, kw117, kw118, kw119, kw120, kw121, kw122, kw123, kw124]
    refine w _ (fun s1 f1 => ?_)
    simp (disch := first | (simp only [nlP_n, nlP_I, nlP_R, catP_I, catP_R, st8_0, st8_1, st8_2, st8_3, st8_4, b01, or_true, true_or, eq_self, iRP98, iRP99, iRP86, iRP97, iRP47, iRP57, rcP0, rcP1, rcP3, rcP13, rcP22, rcP25, rcP37, rcP45, rcP55, rcP65, rcP74, rcP76, rcP77, rcP87, rcP88, rcP100]; done) | omega | assumption | (simp (disch := omega) only [cel_s, cel_n, up1_s, up1_n, up1_e, put_out, fill_in]; omega) | (apply isRow_past; omega) | (apply isRow_seek; omega) | (apply isRow_guess; omega)) only [ww82_35, ↓iteT, ↓iteF, andT, w32_eq, yL_1, Int.toNat_natCast, Int.toNat_add, Int.toNat_mul, Int.toNat_sub, cel_s, cel_n, up1_cel, upS_cel, cel_cel, up1_s, up1_n, up1_e, rdI_n, rdB_n, Int.reduceMul, Int.reduceDiv, Int.reduceMod, Nat.reduceMul, Nat.reduceSub, Nat.zero_add, Int.zero_add, Nat.add_zero, Int.add_zero, ite_self, Option.toList_some, Option.toList_none, List.cons_append, List.nil_append, rdI_c, and_true, true_and, and_self, not_false_eq_true, not_true_eq_false, if_true, if_false, or_false, false_or, ne_eq, and_false, false_and, rdI_n, Nat.reduceEqDiff, Nat.reduceAdd, Nat.reduceLeDiff, Int.reduceEq, Int.reduceLT, Int.reduceLE, Int.reduceNeg, Int.reduceToNat, Int.reduceAdd, Int.reduceSub, List.append_nil, ki2, ki4, ki5, ki6, ki7, ki8, ki9, ki10, ki11, ki12, ki14, ki15, ki16, ki17, ki18, ki19, ki20, ki21, ki23, ki24, ki27, ki28, ki29, ki30, ki31, ki32, ki33, ki34, ki35, ki36, ki38, ki39, ki47, ki48, ki49, ki50, ki51, ki52, ki57, ki58, ki59, ki60, ki61, ki62, ki66, ki67, ki69, ki70, ki71, ki72, ki73, ki78, ki79, ki80, ki81, ki82, ki83, ki84, ki85, ki86, ki89, ki90, ki91, ki92, ki93, ki94, ki95, ki96, ki97, ki98, ki99, ki101, ki103, ki104, ki105, ki106, ki107, ki108, ki109, ki110, ki111, ki112, ki113, ki114, ki115, ki116, ki117, ki118, ki121, ki122, ki123, ki3000, kb68, kb102, kr26, kr40, kr46, kr56, kw2, kw4, kw5, kw6, kw7, kw8, kw9, kw10, kw11, kw12, kw14, kw15, kw16, kw17, kw18, kw19, kw20, kw21, kw23, kw24, kw27, kw28, kw29, kw30, kw31, kw32, kw33, kw34, kw35, kw36, kw38, kw39, kw41, kw42, kw43, kw44, kw47, kw48, kw49, kw50, kw51, kw52, kw53, kw54, kw57, kw58, kw59, kw60, kw61, kw62, kw63, kw64, kw66, kw67, kw68, kw69, kw70, kw71, kw72, kw73, kw75, kw78, kw79, kw80, kw81, kw82, kw83, kw84, kw85, kw86, kw89, kw90, kw91, kw92, kw93, kw94, kw95, kw96, kw97, kw98, kw99, kw101, kw102, kw103, kw104, kw105, kw106, kw107, kw108, kw109, kw110, kw111, kw112, kw113, kw114, kw115, kw116, kw117, kw118, kw119, kw120, kw121, kw122, kw123, kw124]
    exact hq s1 (fun a a1 a2 a3 => by rw [f1 a a1 a2 (by omega), cel_n (by omega), cel_n (by omega)])
theorem g_reach : ag_reach Rall := by
  intro n σ v1 v2 hn hI oS i1 i2
  have hT := RthrC (x := 0) hI
  have hx := hI.rx
  obtain ⟨a2, p0, p3⟩ := Rpeople hI
  have hy2 := yL_eq i2
  have w2 := fun Q d σ => wi_ (d := d) (σ := σ) (Q := Q) i2 i0 in32_4
  generalize hPe : (σ 13 1).toNat = P at *
  simp only [ee136, ee241]
  by_cases c1 : 0 ≤ v1 ∧ v1 < σ 13 1
  · obtain ⟨p, rfl⟩ := Int.eq_ofNat_of_zero_le c1.1
    by_cases c2 : 0 ≤ v2 ∧ v2 ≤ 4
    · obtain ⟨k, rfl⟩ := Int.eq_ofNat_of_zero_le c2.1
      have hk : k ≤ 4 := by omega
      have hR := RsL.of hx.1
      have hst := Rsteps hI
      have hS := stS_ok hR (show p < P by omega)
      have S0 : stS (σ 13) (σ 17) (σ 18) (σ 19) (σ 20) (σ 21) (σ 15) P p (σ 98) 0 0 = σ 98 := rfl
      generalize stS (σ 13) (σ 17) (σ 18) (σ 19) (σ 20) (σ 21) (σ 15) P p (σ 98) = S at *
      simp (disch := first | (simp only [nlP_n, nlP_I, nlP_R, catP_I, catP_R, st8_0, st8_1, st8_2, st8_3, st8_4, b01, or_true, true_or, eq_self, iRP98, iRP99, iRP86, iRP97, iRP47, iRP57, rcP0, rcP1, rcP3, rcP13, rcP22, rcP25, rcP37, rcP45, rcP55, rcP65, rcP74, rcP76, rcP77, rcP87, rcP88, rcP100]; done) | omega | assumption | (simp (disch := omega) only [cel_s, cel_n, up1_s, up1_n, up1_e, put_out, fill_in]; omega) | (apply isRow_past; omega) | (apply isRow_seek; omega) | (apply isRow_guess; omega)) only [ww136_0, ww136_1, ww136_2, ww136_5, ww136_8, ww136_10, ww136_11, ww136_12, ww136_15, ww136_16, ww136_17, ww136_20, ww136_22, ww136_23, ww136_24, ww136_27, ww136_28, ww136_31, ww136_32, ww136_33, cl_isP, ↓iteT, ↓iteF, andT, w32_eq, yL_1, Int.toNat_natCast, Int.toNat_add, Int.toNat_mul, Int.toNat_sub, cel_s, cel_n, up1_cel, upS_cel, cel_cel, up1_s, up1_n, up1_e, rdI_n, rdB_n, Int.reduceMul, Int.reduceDiv, Int.reduceMod, Nat.reduceMul, Nat.reduceSub, Nat.zero_add, Int.zero_add, Nat.add_zero, Int.add_zero, ite_self, Option.toList_some, Option.toList_none, List.cons_append, List.nil_append, rdI_c, and_true, true_and, and_self, not_false_eq_true, not_true_eq_false, if_true, if_false, or_false, false_or, ne_eq, and_false, false_and, rdI_n, Nat.reduceEqDiff, Nat.reduceAdd, Nat.reduceLeDiff, Int.reduceEq, Int.reduceLT, Int.reduceLE, Int.reduceNeg, Int.reduceToNat, Int.reduceAdd, Int.reduceSub, List.append_nil, ki2, ki4, ki5, ki6, ki7, ki8, ki9, ki10, ki11, ki12, ki14, ki15, ki16, ki17, ki18, ki19, ki20, ki21, ki23, ki24, ki27, ki28, ki29, ki30, ki31, ki32, ki33, ki34, ki35, ki36, ki38, ki39, ki47, ki48, ki49, ki50, ki51, ki52, ki57, ki58, ki59, ki60, ki61, ki62, ki66, ki67, ki69, ki70, ki71, ki72, ki73, ki78, ki79, ki80, ki81, ki82, ki83, ki84, ki85, ki86, ki89, ki90, ki91, ki92, ki93, ki94, ki95, ki96, ki97, ki98, ki99, ki101, ki103, ki104, ki105, ki106, ki107, ki108, ki109, ki110, ki111, ki112, ki113, ki114, ki115, ki116, ki117, ki118, ki121, ki122, ki123, ki3000, kb68, kb102, kr26, kr40, kr46, kr56, kw2, kw4, kw5, kw6, kw7, kw8, kw9, kw10, kw11, kw12, kw14, kw15, kw16, kw17, kw18, kw19, kw20, kw21, kw23, kw24, kw27, kw28, kw29, kw30, kw31, kw32, kw33, kw34, kw35, kw36, kw38, kw39, kw41, kw42, kw43, kw44, kw47, kw48, kw49, kw50, kw51, kw52, kw53, kw54, kw57, kw58, kw59, kw60, kw61, kw62, kw63, kw64, kw66, kw67, kw68, kw69, kw70, kw71, kw72, kw73, kw75, kw78, kw79, kw80, kw81, kw82, kw83, kw84, kw85, kw86, kw89, kw90, kw91, kw92, kw93, kw94, kw95, kw96, kw97, kw98, kw99, kw101, kw102, kw103, kw104, kw105, kw106, kw107, kw108, kw109, kw110, kw111, kw112, kw113, kw114, kw115, kw116, kw117, kw118, kw119, kw120, kw121, kw122, kw123, kw124]
      refine cl_behind (B := 60 * n) hS (by omega) (by omega) hk (by omega) ⟨rfl, rfl, rfl, rfl, rfl, rfl, rfl⟩ ⟨⟨_, hx.1⟩, by rw [S0]; exact agr.refl, hst.2.1, hst.2.2⟩ (fun s1 f1 => ?_)
      have hI1 : Rall n s1 := by
        refine Rall.same hI (fun a ha => ?_) ?_
        · have hne : ∀ k, Rsee k = false → a ≠ k := fun k hk e => by rw [e, hk] at ha; exact absurd ha (by decide)
          refine f1 a (hne 23 rfl) (hne 24 rfl) (fun q => ?_)
          rcases (show a = 45 ∨ a = 46 ∨ a = 47 ∨ a = 48 ∨ a = 49 ∨ a = 50 ∨ a = 51 ∨ a = 52 by omega) with e | e | e | e | e | e | e | e
          · exact hne 45 rfl e
          · exact hne 46 rfl e
          · exact hne 47 rfl e
          · exact hne 48 rfl e
          · exact hne 49 rfl e
          · exact hne 50 rfl e
          · exact hne 51 rfl e
          · exact hne 52 rfl e
        · rw [f1 1 (by decide) (by decide) (by omega), f1 25 (by decide) (by decide) (by omega), f1 100 (by decide) (by decide) (by omega)]
          exact ⟨rfl, rfl, rfl, rfl, rfl, rfl, rfl, rfl⟩
      have k101 := f1 101 (by decide) (by decide) (by omega)
      have k2 : s1 101 2 = σ 13 1 := by rw [k101]; exact a2
      have hS' := hS
      simp (disch := first | (simp only [nlP_n, nlP_I, nlP_R, catP_I, catP_R, st8_0, st8_1, st8_2, st8_3, st8_4, b01, or_true, true_or, eq_self, iRP98, iRP99, iRP86, iRP97, iRP47, iRP57, rcP0, rcP1, rcP3, rcP13, rcP22, rcP25, rcP37, rcP45, rcP55, rcP65, rcP74, rcP76, rcP77, rcP87, rcP88, rcP100]; done) | omega | assumption | (simp (disch := omega) only [cel_s, cel_n, up1_s, up1_n, up1_e, put_out, fill_in]; omega) | (apply isRow_past; omega) | (apply isRow_seek; omega) | (apply isRow_guess; omega)) only [ww136_36, ww241_0, ww241_1, ww241_2, ww241_5, ww241_6, ww241_7, ww241_10, ww241_13, ww241_15, ww241_16, ww241_17, ww241_18, ww241_19, ww241_22, ww241_25, ww241_28, ww241_30, ww241_31, ww241_32, ww241_33, ww241_34, cl_misP, k2, hy2, w2, ↓iteT, ↓iteF, andT, w32_eq, yL_1, Int.toNat_natCast, Int.toNat_add, Int.toNat_mul, Int.toNat_sub, cel_s, cel_n, up1_cel, upS_cel, cel_cel, up1_s, up1_n, up1_e, rdI_n, rdB_n, Int.reduceMul, Int.reduceDiv, Int.reduceMod, Nat.reduceMul, Nat.reduceSub, Nat.zero_add, Int.zero_add, Nat.add_zero, Int.add_zero, ite_self, Option.toList_some, Option.toList_none, List.cons_append, List.nil_append, rdI_c, and_true, true_and, and_self, not_false_eq_true, not_true_eq_false, if_true, if_false, or_false, false_or, ne_eq, and_false, false_and, rdI_n, Nat.reduceEqDiff, Nat.reduceAdd, Nat.reduceLeDiff, Int.reduceEq, Int.reduceLT, Int.reduceLE, Int.reduceNeg, Int.reduceToNat, Int.reduceAdd, Int.reduceSub, List.append_nil, ki2, ki4, ki5, ki6, ki7, ki8, ki9, ki10, ki11, ki12, ki14, ki15, ki16, ki17, ki18, ki19, ki20, ki21, ki23, ki24, ki27, ki28, ki29, ki30, ki31, ki32, ki33, ki34, ki35, ki36, ki38, ki39, ki47, ki48, ki49, ki50, ki51, ki52, ki57, ki58, ki59, ki60, ki61, ki62, ki66, ki67, ki69, ki70, ki71, ki72, ki73, ki78, ki79, ki80, ki81, ki82, ki83, ki84, ki85, ki86, ki89, ki90, ki91, ki92, ki93, ki94, ki95, ki96, ki97, ki98, ki99, ki101, ki103, ki104, ki105, ki106, ki107, ki108, ki109, ki110, ki111, ki112, ki113, ki114, ki115, ki116, ki117, ki118, ki121, ki122, ki123, ki3000, kb68, kb102, kr26, kr40, kr46, kr56, kw2, kw4, kw5, kw6, kw7, kw8, kw9, kw10, kw11, kw12, kw14, kw15, kw16, kw17, kw18, kw19, kw20, kw21, kw23, kw24, kw27, kw28, kw29, kw30, kw31, kw32, kw33, kw34, kw35, kw36, kw38, kw39, kw41, kw42, kw43, kw44, kw47, kw48, kw49, kw50, kw51, kw52, kw53, kw54, kw57, kw58, kw59, kw60, kw61, kw62, kw63, kw64, kw66, kw67, kw68, kw69, kw70, kw71, kw72, kw73, kw75, kw78, kw79, kw80, kw81, kw82, kw83, kw84, kw85, kw86, kw89, kw90, kw91, kw92, kw93, kw94, kw95, kw96, kw97, kw98, kw99, kw101, kw102, kw103, kw104, kw105, kw106, kw107, kw108, kw109, kw110, kw111, kw112, kw113, kw114, kw115, kw116, kw117, kw118, kw119, kw120, kw121, kw122, kw123, kw124]
      refine cl_level (P := P) hS' (show p < P by omega) (by omega) hk (by rw [cel_n (by decide), k101, S0]; exact hR) (by rw [cel_n (by decide), k101]; omega) (fun s2 f2 e2 h109 => ?_)
      have hm := fun (Q : Option mw_V → mw_S → Prop) (d : Nat) => wp_mre (d := d) (p := p) (n := k) (M := 9 ^ k) (cell := cellN S p k) (s := s2) (Q := Q) (by omega) (Nat.pow_le_pow_right (n := 9) (j := 4) (by decide) hk) e2 (fun i hi => by
        rw [show 25 * i + 3 + p = 25 * i + (3 + p) by omega, h109 i hi (3 + p) (by omega), mvs, if_pos (show 3 + p < 6 by omega)]
        have := cell8 hS (show p < 3 by omega) k i
        unfold cellN
        omega) (fun i => by
        have := cell8 hS (show p < 3 by omega) k i
        unfold cellN
        omega) (9 ^ k) 0 (by omega)
      rw [or_same, show orX (fun i => 2 ^ cellN S p k i) 0 = 0 from rfl] at hm
      simp (disch := first | (simp only [nlP_n, nlP_I, nlP_R, catP_I, catP_R, st8_0, st8_1, st8_2, st8_3, st8_4, b01, or_true, true_or, eq_self, iRP98, iRP99, iRP86, iRP97, iRP47, iRP57, rcP0, rcP1, rcP3, rcP13, rcP22, rcP25, rcP37, rcP45, rcP55, rcP65, rcP74, rcP76, rcP77, rcP87, rcP88, rcP100]; done) | omega | assumption | (simp (disch := omega) only [cel_s, cel_n, up1_s, up1_n, up1_e, put_out, fill_in]; omega) | (apply isRow_past; omega) | (apply isRow_seek; omega) | (apply isRow_guess; omega)) only [ww241_37, ww241_38, ww241_39, ww241_40, ↓iteT, ↓iteF, andT, w32_eq, yL_1, Int.toNat_natCast, Int.toNat_add, Int.toNat_mul, Int.toNat_sub, cel_s, cel_n, up1_cel, upS_cel, cel_cel, up1_s, up1_n, up1_e, rdI_n, rdB_n, Int.reduceMul, Int.reduceDiv, Int.reduceMod, Nat.reduceMul, Nat.reduceSub, Nat.zero_add, Int.zero_add, Nat.add_zero, Int.add_zero, ite_self, Option.toList_some, Option.toList_none, List.cons_append, List.nil_append, rdI_c, and_true, true_and, and_self, not_false_eq_true, not_true_eq_false, if_true, if_false, or_false, false_or, ne_eq, and_false, false_and, rdI_n, Nat.reduceEqDiff, Nat.reduceAdd, Nat.reduceLeDiff, Int.reduceEq, Int.reduceLT, Int.reduceLE, Int.reduceNeg, Int.reduceToNat, Int.reduceAdd, Int.reduceSub, List.append_nil, ki2, ki4, ki5, ki6, ki7, ki8, ki9, ki10, ki11, ki12, ki14, ki15, ki16, ki17, ki18, ki19, ki20, ki21, ki23, ki24, ki27, ki28, ki29, ki30, ki31, ki32, ki33, ki34, ki35, ki36, ki38, ki39, ki47, ki48, ki49, ki50, ki51, ki52, ki57, ki58, ki59, ki60, ki61, ki62, ki66, ki67, ki69, ki70, ki71, ki72, ki73, ki78, ki79, ki80, ki81, ki82, ki83, ki84, ki85, ki86, ki89, ki90, ki91, ki92, ki93, ki94, ki95, ki96, ki97, ki98, ki99, ki101, ki103, ki104, ki105, ki106, ki107, ki108, ki109, ki110, ki111, ki112, ki113, ki114, ki115, ki116, ki117, ki118, ki121, ki122, ki123, ki3000, kb68, kb102, kr26, kr40, kr46, kr56, kw2, kw4, kw5, kw6, kw7, kw8, kw9, kw10, kw11, kw12, kw14, kw15, kw16, kw17, kw18, kw19, kw20, kw21, kw23, kw24, kw27, kw28, kw29, kw30, kw31, kw32, kw33, kw34, kw35, kw36, kw38, kw39, kw41, kw42, kw43, kw44, kw47, kw48, kw49, kw50, kw51, kw52, kw53, kw54, kw57, kw58, kw59, kw60, kw61, kw62, kw63, kw64, kw66, kw67, kw68, kw69, kw70, kw71, kw72, kw73, kw75, kw78, kw79, kw80, kw81, kw82, kw83, kw84, kw85, kw86, kw89, kw90, kw91, kw92, kw93, kw94, kw95, kw96, kw97, kw98, kw99, kw101, kw102, kw103, kw104, kw105, kw106, kw107, kw108, kw109, kw110, kw111, kw112, kw113, kw114, kw115, kw116, kw117, kw118, kw119, kw120, kw121, kw122, kw123, kw124]
      refine (hm _ _).mpr ⟨⟨_, rfl, rfl⟩, frE_R0 hI1 f2⟩
    · simp (disch := first | (simp only [nlP_n, nlP_I, nlP_R, catP_I, catP_R, st8_0, st8_1, st8_2, st8_3, st8_4, b01, or_true, true_or, eq_self, iRP98, iRP99, iRP86, iRP97, iRP47, iRP57, rcP0, rcP1, rcP3, rcP13, rcP22, rcP25, rcP37, rcP45, rcP55, rcP65, rcP74, rcP76, rcP77, rcP87, rcP88, rcP100]; done) | omega | assumption | (simp (disch := omega) only [cel_s, cel_n, up1_s, up1_n, up1_e, put_out, fill_in]; omega) | (apply isRow_past; omega) | (apply isRow_seek; omega) | (apply isRow_guess; omega)) only [ww136_0, ww136_1, ww136_2, ww136_5, ww136_8, ww136_10, ww136_11, ww136_12, ww136_15, ww136_16, ww136_17, ww136_20, ww136_22, ww241_0, ww241_1, ww241_2, ww241_5, ww241_6, ww241_7, ww241_10, ww241_13, ww241_15, ww241_16, ww241_17, ww241_18, ww241_19, ww241_22, ww241_25, ww241_28, ww241_30, cl_isP, cl_misP, a2, hy2, w2, ↓iteT, ↓iteF, andT, w32_eq, yL_1, Int.toNat_natCast, Int.toNat_add, Int.toNat_mul, Int.toNat_sub, cel_s, cel_n, up1_cel, upS_cel, cel_cel, up1_s, up1_n, up1_e, rdI_n, rdB_n, Int.reduceMul, Int.reduceDiv, Int.reduceMod, Nat.reduceMul, Nat.reduceSub, Nat.zero_add, Int.zero_add, Nat.add_zero, Int.add_zero, ite_self, Option.toList_some, Option.toList_none, List.cons_append, List.nil_append, rdI_c, and_true, true_and, and_self, not_false_eq_true, not_true_eq_false, if_true, if_false, or_false, false_or, ne_eq, and_false, false_and, rdI_n, Nat.reduceEqDiff, Nat.reduceAdd, Nat.reduceLeDiff, Int.reduceEq, Int.reduceLT, Int.reduceLE, Int.reduceNeg, Int.reduceToNat, Int.reduceAdd, Int.reduceSub, List.append_nil, ki2, ki4, ki5, ki6, ki7, ki8, ki9, ki10, ki11, ki12, ki14, ki15, ki16, ki17, ki18, ki19, ki20, ki21, ki23, ki24, ki27, ki28, ki29, ki30, ki31, ki32, ki33, ki34, ki35, ki36, ki38, ki39, ki47, ki48, ki49, ki50, ki51, ki52, ki57, ki58, ki59, ki60, ki61, ki62, ki66, ki67, ki69, ki70, ki71, ki72, ki73, ki78, ki79, ki80, ki81, ki82, ki83, ki84, ki85, ki86, ki89, ki90, ki91, ki92, ki93, ki94, ki95, ki96, ki97, ki98, ki99, ki101, ki103, ki104, ki105, ki106, ki107, ki108, ki109, ki110, ki111, ki112, ki113, ki114, ki115, ki116, ki117, ki118, ki121, ki122, ki123, ki3000, kb68, kb102, kr26, kr40, kr46, kr56, kw2, kw4, kw5, kw6, kw7, kw8, kw9, kw10, kw11, kw12, kw14, kw15, kw16, kw17, kw18, kw19, kw20, kw21, kw23, kw24, kw27, kw28, kw29, kw30, kw31, kw32, kw33, kw34, kw35, kw36, kw38, kw39, kw41, kw42, kw43, kw44, kw47, kw48, kw49, kw50, kw51, kw52, kw53, kw54, kw57, kw58, kw59, kw60, kw61, kw62, kw63, kw64, kw66, kw67, kw68, kw69, kw70, kw71, kw72, kw73, kw75, kw78, kw79, kw80, kw81, kw82, kw83, kw84, kw85, kw86, kw89, kw90, kw91, kw92, kw93, kw94, kw95, kw96, kw97, kw98, kw99, kw101, kw102, kw103, kw104, kw105, kw106, kw107, kw108, kw109, kw110, kw111, kw112, kw113, kw114, kw115, kw116, kw117, kw118, kw119, kw120, kw121, kw122, kw123, kw124]
      exact ⟨⟨_, rfl⟩, hT⟩
  · simp (disch := first | (simp only [nlP_n, nlP_I, nlP_R, catP_I, catP_R, st8_0, st8_1, st8_2, st8_3, st8_4, b01, or_true, true_or, eq_self, iRP98, iRP99, iRP86, iRP97, iRP47, iRP57, rcP0, rcP1, rcP3, rcP13, rcP22, rcP25, rcP37, rcP45, rcP55, rcP65, rcP74, rcP76, rcP77, rcP87, rcP88, rcP100]; done) | omega | assumption | (simp (disch := omega) only [cel_s, cel_n, up1_s, up1_n, up1_e, put_out, fill_in]; omega) | (apply isRow_past; omega) | (apply isRow_seek; omega) | (apply isRow_guess; omega)) only [ww136_0, ww136_1, ww136_2, ww136_5, ww136_8, ww136_10, ww136_11, ww136_12, ww136_15, ww136_16, ww136_17, ww136_20, ww136_22, ww241_0, ww241_1, ww241_2, ww241_5, ww241_6, ww241_7, ww241_10, ww241_13, ww241_15, ww241_16, ww241_17, ww241_18, ww241_19, ww241_22, ww241_25, ww241_28, ww241_30, cl_isP, cl_misP, a2, ↓iteT, ↓iteF, andT, w32_eq, yL_1, Int.toNat_natCast, Int.toNat_add, Int.toNat_mul, Int.toNat_sub, cel_s, cel_n, up1_cel, upS_cel, cel_cel, up1_s, up1_n, up1_e, rdI_n, rdB_n, Int.reduceMul, Int.reduceDiv, Int.reduceMod, Nat.reduceMul, Nat.reduceSub, Nat.zero_add, Int.zero_add, Nat.add_zero, Int.add_zero, ite_self, Option.toList_some, Option.toList_none, List.cons_append, List.nil_append, rdI_c, and_true, true_and, and_self, not_false_eq_true, not_true_eq_false, if_true, if_false, or_false, false_or, ne_eq, and_false, false_and, rdI_n, Nat.reduceEqDiff, Nat.reduceAdd, Nat.reduceLeDiff, Int.reduceEq, Int.reduceLT, Int.reduceLE, Int.reduceNeg, Int.reduceToNat, Int.reduceAdd, Int.reduceSub, List.append_nil, ki2, ki4, ki5, ki6, ki7, ki8, ki9, ki10, ki11, ki12, ki14, ki15, ki16, ki17, ki18, ki19, ki20, ki21, ki23, ki24, ki27, ki28, ki29, ki30, ki31, ki32, ki33, ki34, ki35, ki36, ki38, ki39, ki47, ki48, ki49, ki50, ki51, ki52, ki57, ki58, ki59, ki60, ki61, ki62, ki66, ki67, ki69, ki70, ki71, ki72, ki73, ki78, ki79, ki80, ki81, ki82, ki83, ki84, ki85, ki86, ki89, ki90, ki91, ki92, ki93, ki94, ki95, ki96, ki97, ki98, ki99, ki101, ki103, ki104, ki105, ki106, ki107, ki108, ki109, ki110, ki111, ki112, ki113, ki114, ki115, ki116, ki117, ki118, ki121, ki122, ki123, ki3000, kb68, kb102, kr26, kr40, kr46, kr56, kw2, kw4, kw5, kw6, kw7, kw8, kw9, kw10, kw11, kw12, kw14, kw15, kw16, kw17, kw18, kw19, kw20, kw21, kw23, kw24, kw27, kw28, kw29, kw30, kw31, kw32, kw33, kw34, kw35, kw36, kw38, kw39, kw41, kw42, kw43, kw44, kw47, kw48, kw49, kw50, kw51, kw52, kw53, kw54, kw57, kw58, kw59, kw60, kw61, kw62, kw63, kw64, kw66, kw67, kw68, kw69, kw70, kw71, kw72, kw73, kw75, kw78, kw79, kw80, kw81, kw82, kw83, kw84, kw85, kw86, kw89, kw90, kw91, kw92, kw93, kw94, kw95, kw96, kw97, kw98, kw99, kw101, kw102, kw103, kw104, kw105, kw106, kw107, kw108, kw109, kw110, kw111, kw112, kw113, kw114, kw115, kw116, kw117, kw118, kw119, kw120, kw121, kw122, kw123, kw124]
    exact ⟨⟨_, rfl⟩, hT⟩
