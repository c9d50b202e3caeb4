/-! a step: the class -/
theorem actC_out {deep T : Int} {f : Nat → Int} {w : Nat} {x : Int} (hw : w < 6) (t0 : 0 ≤ T) (t1 : T ≤ 4) {k : Nat} (hk : 10 ≤ k) : actC deep T f w x k = f k := by
  have h1 := thT_ge (pl := fun k => f (6 + k)) (z := gdF f w) t0
  have h2 := thT_ge (pl := fun k => f (6 + k)) (z := hpF w (x - 5)) t0
  have q1 : 6 + (thT T (fun k => f (6 + k)) (gdF f w)).toNat < 10 := by
    by_cases h : thT T (fun k => f (6 + k)) (gdF f w) = -1
    · omega
    · have := thT_rng t0 h
      omega
  have q2 : 6 + (thT T (fun k => f (6 + k)) (hpF w (x - 5))).toNat < 10 := by
    by_cases h : thT T (fun k => f (6 + k)) (hpF w (x - 5)) = -1
    · omega
    · have := thT_rng t0 h
      omega
  unfold actC
  (repeat' split) <;> first | rfl | rw [up1_n (by omega)]
theorem actC_cell {deep T : Int} {f : Nat → Int} {w : Nat} {x : Int} (hw : w < 6) (hc : ∀ k, k < 6 → 0 ≤ f k ∧ f k < deep) : ∀ k, k < 6 → 0 ≤ actC deep T f w x k ∧ actC deep T f w x k < deep := fun k hk => by
  have h := hc k hk
  have hw' := hc w hw
  unfold actC
  by_cases c0 : canI deep T f (fun k => f (6 + k)) w x = 0
  · rw [if_pos c0]
    exact h
  · rw [if_neg c0]
    by_cases c1 : x = 1
    · rw [if_pos c1]
      subst c1
      have g : 0 < f w := by
        unfold canI at c0
        simp at c0
        omega
      by_cases e : k = w
      · subst e
        rw [up1_s]
        omega
      · rw [up1_n e]
        exact h
    · rw [if_neg c1]
      by_cases c2 : x = 2
      · rw [if_pos c2]
        subst c2
        have g : f w < deep - 1 := by
          unfold canI at c0
          simp at c0
          omega
        by_cases e : k = w
        · subst e
          rw [up1_s]
          omega
        · rw [up1_n e]
          exact h
      · rw [if_neg c2]
        (repeat' split) <;> first | exact h | (rw [up1_n (by omega)]; exact h)
/-- what was told: four digits, five digits -/
def td4 (t : Int) : Prop := 0 ≤ t ∧ t < 1048576 ∧ t % 16 ≤ 8 ∧ t / 16 % 16 ≤ 8 ∧ t / 256 % 16 ≤ 8 ∧ t / 4096 % 16 ≤ 8
def td5 (t : Int) : Prop := td4 t ∧ t / 65536 % 16 ≤ 8
theorem tb_td {t x : Int} (h : td4 t) (x0 : 0 ≤ x) (x8 : x ≤ 8) : td5 (tbF t x) := by
  unfold td4 at h
  unfold td5 td4 tbF
  omega
theorem td_dg {t l : Int} (h : td5 t) : 0 ≤ dgF t l ∧ dgF t l ≤ 8 := by
  unfold td5 td4 at h
  unfold dgF
  (repeat' split) <;> omega
/-- a row of the class's state that can be walked on -/
def rowI (deep : Int) (f : Nat → Int) : Prop := (∀ k, k < 6 → 0 ≤ f k ∧ f k < deep) ∧ (∀ p, p < 3 → 0 ≤ f (10 + p) ∧ f (10 + p) ≤ 9) ∧ (∀ p, p < 3 → td4 (f (13 + p)))
def ph1s (deep T : Int) (p : Nat) (x : Int) (f : Nat → Int) : Nat → Int := up1 (actC deep T (up1 f (13 + p) (tbF (f (13 + p)) x)) p x) (19 + p) (canI deep T (up1 f (13 + p) (tbF (f (13 + p)) x)) (fun k => up1 f (13 + p) (tbF (f (13 + p)) x) (6 + k)) p x)
def ph1C (deep T : Int) : Nat → Nat → Int → (Nat → Int) → Nat → Int
  | 0, _, _, f => f
  | n + 1, p, rest, f => ph1C deep T n (p + 1) (rest / 9) (ph1s deep T p (rest % 9) f)
theorem ph1s_13 {deep T : Int} {p : Nat} {x : Int} {f : Nat → Int} (hp : p < 3) (t0 : 0 ≤ T) (t1 : T ≤ 4) (j : Nat) (hj : j < 3) : ph1s deep T p x f (13 + j) = if j = p then tbF (f (13 + p)) x else f (13 + j) := by
  unfold ph1s
  rw [up1_n (by omega), actC_out (by omega) t0 t1 (by omega)]
  by_cases e : j = p
  · subst e
    rw [if_pos rfl, up1_s]
  · rw [if_neg e, up1_n (by omega)]
theorem ph1s_row {deep T : Int} {p : Nat} {x : Int} {f : Nat → Int} (hp : p < 3) (t0 : 0 ≤ T) (t1 : T ≤ 4) (x0 : 0 ≤ x) (x8 : x ≤ 8) (h : rowI deep f) : rowI deep (ph1s deep T p x f) := by
  obtain ⟨h1, h2, h3⟩ := h
  refine ⟨fun k hk => ?_, fun j hj => ?_, fun j hj => ?_⟩
  · unfold ph1s
    rw [up1_n (by omega)]
    exact actC_cell (by omega) (fun k hk => by rw [up1_n (by omega)]; exact h1 k hk) k hk
  · unfold ph1s
    rw [up1_n (by omega), actC_out (by omega) t0 t1 (by omega), up1_n (by omega)]
    exact h2 j hj
  · rw [ph1s_13 hp t0 t1 j hj]
    split
    · exact (tb_td (h3 p hp) x0 x8).1
    · exact h3 j hj
theorem ph1C_row {deep T : Int} (t0 : 0 ≤ T) (t1 : T ≤ 4) : ∀ (n p : Nat) (rest : Int) (f : Nat → Int), p + n ≤ 3 → 0 ≤ rest → rowI deep f → (∀ j, j < p → td5 (f (13 + j))) → rowI deep (ph1C deep T n p rest f) ∧ ∀ j, j < p + n → td5 (ph1C deep T n p rest f (13 + j))
  | 0, _, _, _, _, _, h, h2 => ⟨h, h2⟩
  | n + 1, p, rest, f, hp, hr, h, h2 => by
    unfold ph1C
    have q := ph1C_row t0 t1 n (p + 1) (rest / 9) (ph1s deep T p (rest % 9) f) (by omega) (by omega) (ph1s_row (by omega) t0 t1 (by omega) (by omega) h) (fun j hj => by
      rw [ph1s_13 (by omega) t0 t1 j (by omega)]
      by_cases e : j = p
      · rw [if_pos e]
        exact tb_td (h.2.2 p (by omega)) (by omega) (by omega)
      · rw [if_neg e]
        exact h2 j (by omega))
    exact ⟨q.1, fun j hj => q.2 j (by omega)⟩
theorem ne9 : ¬ i32 9 = 0 := by decide
theorem wp_adv1 {b P : Nat} {x0 : Int} {σ : mw_S} {l6 : Option mw_V} (hb : isRow b) (hb2 : 25 < b) (hP : σ 13 1 = P) (hP3 : P ≤ 3) (d0 : 2 ≤ σ 13 0) (d1 : σ 13 0 ≤ 9) (t0 : 0 ≤ σ 13 2) (t1 : σ 13 2 ≤ 4) : ∀ (n p : Nat) (rest : Int) (f : Nat → Int) (l5 : Option mw_V), p + n = P → 0 ≤ rest → rest < 1000000 → rowI (σ 13 0) f → ∃ rest' l5', ∀ (d : Nat) (Q : Option mw_V → mw_S → Prop), mw_WP (d + 4) 88 5 [some (jR 22), some (jR b), some (jI x0), some (jI rest), some (jI p), l5, l6] [] (cel σ b f) Q ↔ mw_WP (d + 4) 88 69 [some (jR 22), some (jR b), some (jI x0), some (jI rest'), some (jI P), l5', l6] [] (cel σ b (ph1C (σ 13 0) (σ 13 2) n p rest f)) Q
  | 0, p, rest, f, l5, h, r0, r1, hf => by
    refine ⟨rest, l5, fun d Q => ?_⟩
    unfold ph1C
    obtain rfl : p = P := by omega
    simp (disch := first | (simp only [nlP_n, nlP_I, nlP_R, catP_I, catP_R, st8_0, st8_1, st8_2, st8_3, st8_4, b01, or_true, true_or, eq_self, iRP98, iRP99, iRP86, iRP97, iRP47, iRP57, rcP0, rcP1, rcP3, rcP13, rcP22, rcP25, rcP37, rcP45, rcP55, rcP65, rcP74, rcP76, rcP77, rcP87, rcP88, rcP100]; done) | omega | assumption | (simp (disch := omega) only [cel_s, cel_n, up1_s, up1_n, up1_e, put_out, fill_in]; omega) | (apply isRow_past; omega) | (apply isRow_seek; omega) | (apply isRow_guess; omega)) only [ww88_5, ww88_7, ww88_8, ww88_11i3, ww88_11i13, ww88_11i77, ww88_11i88, ww88_14, hP, ↓iteT, ↓iteF, andT, w32_eq, yL_1, Int.toNat_natCast, Int.toNat_add, Int.toNat_mul, Int.toNat_sub, cel_s, cel_n, up1_cel, upS_cel, cel_cel, up1_s, up1_n, up1_e, rdI_n, rdB_n, Int.reduceMul, Int.reduceDiv, Int.reduceMod, Nat.reduceMul, Nat.reduceSub, Nat.zero_add, Int.zero_add, Nat.add_zero, Int.add_zero, ite_self, Option.toList_some, Option.toList_none, List.cons_append, List.nil_append, rdI_c, and_true, true_and, and_self, not_false_eq_true, not_true_eq_false, if_true, if_false, or_false, false_or, ne_eq, and_false, false_and, rdI_n, Nat.reduceEqDiff, Nat.reduceAdd, Nat.reduceLeDiff, Int.reduceEq, Int.reduceLT, Int.reduceLE, Int.reduceNeg, Int.reduceToNat, Int.reduceAdd, Int.reduceSub, List.append_nil, ki2, ki4, ki5, ki6, ki7, ki8, ki9, ki10, ki11, ki12, ki14, ki15, ki16, ki17, ki18, ki19, ki20, ki21, ki23, ki24, ki27, ki28, ki29, ki30, ki31, ki32, ki33, ki34, ki35, ki36, ki38, ki39, ki47, ki48, ki49, ki50, ki51, ki52, ki57, ki58, ki59, ki60, ki61, ki62, ki66, ki67, ki69, ki70, ki71, ki72, ki73, ki78, ki79, ki80, ki81, ki82, ki83, ki84, ki85, ki86, ki89, ki90, ki91, ki92, ki93, ki94, ki95, ki96, ki97, ki98, ki99, ki101, ki103, ki104, ki105, ki106, ki107, ki108, ki109, ki110, ki111, ki112, ki113, ki114, ki115, ki116, ki117, ki118, ki121, ki122, ki123, ki3000, kb68, kb102, kr26, kr40, kr46, kr56, kw2, kw4, kw5, kw6, kw7, kw8, kw9, kw10, kw11, kw12, kw14, kw15, kw16, kw17, kw18, kw19, kw20, kw21, kw23, kw24, kw27, kw28, kw29, kw30, kw31, kw32, kw33, kw34, kw35, kw36, kw38, kw39, kw41, kw42, kw43, kw44, kw47, kw48, kw49, kw50, kw51, kw52, kw53, kw54, kw57, kw58, kw59, kw60, kw61, kw62, kw63, kw64, kw66, kw67, kw68, kw69, kw70, kw71, kw72, kw73, kw75, kw78, kw79, kw80, kw81, kw82, kw83, kw84, kw85, kw86, kw89, kw90, kw91, kw92, kw93, kw94, kw95, kw96, kw97, kw98, kw99, kw101, kw102, kw103, kw104, kw105, kw106, kw107, kw108, kw109, kw110, kw111, kw112, kw113, kw114, kw115, kw116, kw117, kw118, kw119, kw120, kw121, kw122, kw123, kw124]
  | n + 1, p, rest, f, l5, h, r0, r1, hf => by
    have e1 := hb.rI
    have e2 := hb.wI
    have e3 := hb.2.2
    obtain ⟨f1, f2, f3⟩ := hf
    obtain ⟨g1, g2, g3, g4, g5, g6⟩ := f3 p (by omega)
    obtain ⟨rest', l5', ih⟩ := wp_adv1 (x0 := x0) (σ := σ) (l6 := l6) hb hb2 hP hP3 d0 d1 t0 t1 n (p + 1) (rest / 9) (ph1s (σ 13 0) (σ 13 2) p (rest % 9) f) (some (jI (rest % 9))) (by omega) (by omega) (by omega) (ph1s_row (by omega) t0 t1 (by omega) (by omega) ⟨f1, f2, f3⟩)
    refine ⟨rest', l5', fun d Q => ?_⟩
    unfold ph1C
    have ihq := ih d Q
    (try simp only [ic1] at ihq)
    have z1 := zRem_eq (x := rest) (y := 9) ⟨by omega, by omega⟩ r0 (by omega) (by omega)
    have z2 := zDiv_eq (x := rest) (y := 9) ⟨by omega, by omega⟩ r0 (by omega) (by omega)
    have ca := f1 p (by omega)
    have hact := fun (Q' : Option mw_V → mw_S → Prop) (d' : Nat) => cl_act (d := d') (b := b) (w := p) (x := rest % 9) (σ := cel σ b (up1 f (13 + p) (tbF (f (13 + p)) (rest % 9)))) (Q := Q') (by omega) hb (by omega) (by omega) (by simp (disch := omega) only [cel_s, cel_n, up1_s, up1_n, up1_e, put_in, put_out, fill_in, fill_out, Nat.add_sub_cancel_left, Int.toNat_natCast]; omega) (by simp (disch := omega) only [cel_s, cel_n, up1_s, up1_n, up1_e, put_in, put_out, fill_in, fill_out, Nat.add_sub_cancel_left, Int.toNat_natCast]; omega) (by simp (disch := omega) only [cel_s, cel_n, up1_s, up1_n, up1_e, put_in, put_out, fill_in, fill_out, Nat.add_sub_cancel_left, Int.toNat_natCast]; omega) (by simp (disch := omega) only [cel_s, cel_n, up1_s, up1_n, up1_e, put_in, put_out, fill_in, fill_out, Nat.add_sub_cancel_left, Int.toNat_natCast]; omega) (by simp (disch := omega) only [cel_s, cel_n, up1_s, up1_n, up1_e, put_in, put_out, fill_in, fill_out, Nat.add_sub_cancel_left, Int.toNat_natCast]; omega) (by simp (disch := omega) only [cel_s, cel_n, up1_s, up1_n, up1_e, put_in, put_out, fill_in, fill_out, Nat.add_sub_cancel_left, Int.toNat_natCast]; omega)
    simp (disch := omega) only [cel_s, cel_n, cel_cel] at hact
    unfold ph1s
    simp (disch := first | (simp only [nlP_n, nlP_I, nlP_R, catP_I, catP_R, st8_0, st8_1, st8_2, st8_3, st8_4, b01, or_true, true_or, eq_self, iRP98, iRP99, iRP86, iRP97, iRP47, iRP57, rcP0, rcP1, rcP3, rcP13, rcP22, rcP25, rcP37, rcP45, rcP55, rcP65, rcP74, rcP76, rcP77, rcP87, rcP88, rcP100]; done) | omega | assumption | (simp (disch := omega) only [cel_s, cel_n, up1_s, up1_n, up1_e, put_out, fill_in]; omega) | (apply isRow_past; omega) | (apply isRow_seek; omega) | (apply isRow_guess; omega)) only [ww88_5, ww88_7, ww88_8, ww88_11i3, ww88_11i13, ww88_11i77, ww88_11i88, ww88_14, ww88_17, ww88_18, ww88_20, ww88_21, ww88_23, ww88_24, ww88_26, ww88_27, ww88_28, ww88_29, ww88_31, ww88_33, ww88_34, ww88_35, ww88_37, ww88_39, ww88_40, ww88_41, ww88_43, ww88_46, ww88_47, ww88_48, ww88_50, ww88_52, ww88_53, ww88_54, ww88_55, ww88_57, ww88_59, ww88_62, ww88_63, hP, z1, z2, ne9, cl_tb, hact, ↓iteT, ↓iteF, andT, w32_eq, yL_1, Int.toNat_natCast, Int.toNat_add, Int.toNat_mul, Int.toNat_sub, cel_s, cel_n, up1_cel, upS_cel, cel_cel, up1_s, up1_n, up1_e, rdI_n, rdB_n, Int.reduceMul, Int.reduceDiv, Int.reduceMod, Nat.reduceMul, Nat.reduceSub, Nat.zero_add, Int.zero_add, Nat.add_zero, Int.add_zero, ite_self, Option.toList_some, Option.toList_none, List.cons_append, List.nil_append, rdI_c, and_true, true_and, and_self, not_false_eq_true, not_true_eq_false, if_true, if_false, or_false, false_or, ne_eq, and_false, false_and, rdI_n, Nat.reduceEqDiff, Nat.reduceAdd, Nat.reduceLeDiff, Int.reduceEq, Int.reduceLT, Int.reduceLE, Int.reduceNeg, Int.reduceToNat, Int.reduceAdd, Int.reduceSub, List.append_nil, ki2, ki4, ki5, ki6, ki7, ki8, ki9, ki10, ki11, ki12, ki14, ki15, ki16, ki17, ki18, ki19, ki20, ki21, ki23, ki24, ki27, ki28, ki29, ki30, ki31, ki32, ki33, ki34, ki35, ki36, ki38, ki39, ki47, ki48, ki49, ki50, ki51, ki52, ki57, ki58, ki59, ki60, ki61, ki62, ki66, ki67, ki69, ki70, ki71, ki72, ki73, ki78, ki79, ki80, ki81, ki82, ki83, ki84, ki85, ki86, ki89, ki90, ki91, ki92, ki93, ki94, ki95, ki96, ki97, ki98, ki99, ki101, ki103, ki104, ki105, ki106, ki107, ki108, ki109, ki110, ki111, ki112, ki113, ki114, ki115, ki116, ki117, ki118, ki121, ki122, ki123, ki3000, kb68, kb102, kr26, kr40, kr46, kr56, kw2, kw4, kw5, kw6, kw7, kw8, kw9, kw10, kw11, kw12, kw14, kw15, kw16, kw17, kw18, kw19, kw20, kw21, kw23, kw24, kw27, kw28, kw29, kw30, kw31, kw32, kw33, kw34, kw35, kw36, kw38, kw39, kw41, kw42, kw43, kw44, kw47, kw48, kw49, kw50, kw51, kw52, kw53, kw54, kw57, kw58, kw59, kw60, kw61, kw62, kw63, kw64, kw66, kw67, kw68, kw69, kw70, kw71, kw72, kw73, kw75, kw78, kw79, kw80, kw81, kw82, kw83, kw84, kw85, kw86, kw89, kw90, kw91, kw92, kw93, kw94, kw95, kw96, kw97, kw98, kw99, kw101, kw102, kw103, kw104, kw105, kw106, kw107, kw108, kw109, kw110, kw111, kw112, kw113, kw114, kw115, kw116, kw117, kw118, kw119, kw120, kw121, kw122, kw123, kw124]
    rw [ww88_66]
    exact ihq
def ph2s (ar wh fr to does code late : Nat → Int) (p : Nat) (f : Nat → Int) : Nat → Int :=
  let l := mirF (dgF (f (13 + p)) (late p))
  let f1 := up1 f (10 + p) (boF (f (10 + p)) l)
  let x := choC ar wh fr to does code f1 p l (f1 p) (f1 (10 + p))
  let f2 := up1 f1 (16 + p) x
  up1 (actC (ar 0) (ar 2) f2 (3 + p) x) (22 + p) (canI (ar 0) (ar 2) f2 (fun k => f2 (6 + k)) (3 + p) x)
def ph2C (ar wh fr to does code late : Nat → Int) : Nat → Nat → (Nat → Int) → Nat → Int
  | 0, _, f => f
  | n + 1, p, f => ph2C ar wh fr to does code late n (p + 1) (ph2s ar wh fr to does code late p f)
theorem choC_rng {ar wh fr to does code c : Nat → Int} {p : Nat} {late mine bored : Int} (h : arOK ar wh fr to does code) (l0 : 0 ≤ late) (l8 : late ≤ 8) : 0 ≤ choC ar wh fr to does code c p late mine bored ∧ choC ar wh fr to does code c p late mine bored ≤ 8 := chF_rng h l0 l8 _ _ (by have := h.1; omega)
theorem ph2s_13 {ar wh fr to does code late : Nat → Int} {p : Nat} {f : Nat → Int} (hp : p < 3) (t0 : 0 ≤ ar 2) (t1 : ar 2 ≤ 4) (j : Nat) (hj : j < 3) : ph2s ar wh fr to does code late p f (13 + j) = f (13 + j) := by
  unfold ph2s
  rw [up1_n (by omega), actC_out (by omega) t0 t1 (by omega), up1_n (by omega), up1_n (by omega)]
theorem ph2s_row {ar wh fr to does code late : Nat → Int} {p : Nat} {f : Nat → Int} (hp : p < 3) (t0 : 0 ≤ ar 2) (t1 : ar 2 ≤ 4) (h : rowI (ar 0) f) : rowI (ar 0) (ph2s ar wh fr to does code late p f) := by
  obtain ⟨h1, h2, h3⟩ := h
  refine ⟨fun k hk => ?_, fun j hj => ?_, fun j hj => ?_⟩
  · unfold ph2s
    rw [up1_n (by omega)]
    exact actC_cell (by omega) (fun k hk => by rw [up1_n (by omega), up1_n (by omega)]; exact h1 k hk) k hk
  · unfold ph2s
    rw [up1_n (by omega), actC_out (by omega) t0 t1 (by omega), up1_n (by omega)]
    by_cases e : j = p
    · subst e
      rw [up1_s]
      exact boF_rng (h2 j hj).1 (h2 j hj).2
    · rw [up1_n (by omega)]
      exact h2 j hj
  · rw [ph2s_13 hp t0 t1 j hj]
    exact h3 j hj
theorem ph2C_row {ar wh fr to does code late : Nat → Int} (t0 : 0 ≤ ar 2) (t1 : ar 2 ≤ 4) : ∀ (n p : Nat) (f : Nat → Int), p + n ≤ 3 → rowI (ar 0) f → rowI (ar 0) (ph2C ar wh fr to does code late n p f)
  | 0, _, _, _, h => h
  | n + 1, p, f, hp, h => by
    unfold ph2C
    exact ph2C_row t0 t1 n (p + 1) _ (by omega) (ph2s_row (by omega) t0 t1 h)
theorem cel_J {σ : mw_S} {b : Nat} {N W N1 W1 f : Nat → Int} (hb : 25 < b) : cel (cel (cel (cel (cel σ 24 N) 23 W) b f) 24 N1) 23 W1 = cel (cel (cel σ 24 N1) 23 W1) b f := by
  funext c
  unfold cel
  by_cases h1 : c = b
  · subst h1
    rw [if_neg (by omega), if_neg (by omega), if_pos rfl, if_pos rfl]
  · rw [if_neg h1]
    by_cases h2 : c = 23
    · rw [if_pos h2, if_neg h1, if_pos h2]
    · by_cases h3 : c = 24
      · rw [if_neg h2, if_pos h3, if_neg h1, if_neg h2, if_pos h3]
      · rw [if_neg h2, if_neg h3, if_neg h1, if_neg h2, if_neg h3, if_neg h2, if_neg h3]
theorem wp_adv2 {b P : Nat} {x0 : Int} {σ : mw_S} {l3 : Option mw_V} (hb : isRow b) (hb2 : 25 < b) (hl3 : mw_nlo l3 = true) (hP : σ 13 1 = P) (hP3 : P ≤ 3) (d0 : 2 ≤ σ 13 0) (d1 : σ 13 0 ≤ 9) (t0 : 0 ≤ σ 13 2) (t1 : σ 13 2 ≤ 4) (ha : arOK (σ 13) (σ 17) (σ 18) (σ 19) (σ 20) (σ 21)) (hl : ∀ p, p < P → 0 ≤ σ 15 p ∧ σ 15 p ≤ 4) : ∀ (n p : Nat) (N W f : Nat → Int) (l5 l6 : Option mw_V), p + n = P → rowI (σ 13 0) f → (∀ j, j < P → td5 (f (13 + j))) → ∃ N' W' l5' l6', ∀ (d : Nat) (Q : Option mw_V → mw_S → Prop), mw_WP (d + 4) 88 72 [some (jR 22), some (jR b), some (jI x0), l3, some (jI p), l5, l6] [] (cel (cel (cel σ 24 N) 23 W) b f) Q ↔ mw_WP (d + 4) 88 171 [some (jR 22), some (jR b), some (jI x0), l3, some (jI P), l5', l6'] [] (cel (cel (cel σ 24 N') 23 W') b (ph2C (σ 13) (σ 17) (σ 18) (σ 19) (σ 20) (σ 21) (σ 15) n p f)) Q
  | 0, p, N, W, f, l5, l6, h, hf, hd => by
    refine ⟨N, W, l5, l6, fun d Q => ?_⟩
    unfold ph2C
    obtain rfl : p = P := by omega
    simp (disch := first | (simp only [nlP_n, nlP_I, nlP_R, catP_I, catP_R, st8_0, st8_1, st8_2, st8_3, st8_4, b01, or_true, true_or, eq_self, iRP98, iRP99, iRP86, iRP97, iRP47, iRP57, rcP0, rcP1, rcP3, rcP13, rcP22, rcP25, rcP37, rcP45, rcP55, rcP65, rcP74, rcP76, rcP77, rcP87, rcP88, rcP100]; done) | omega | assumption | (simp (disch := omega) only [cel_s, cel_n, up1_s, up1_n, up1_e, put_out, fill_in]; omega) | (apply isRow_past; omega) | (apply isRow_seek; omega) | (apply isRow_guess; omega)) only [ww88_72, ww88_74, ww88_75, ww88_78i3, ww88_78i13, ww88_78i77, ww88_78i88, ww88_81, hP, ↓iteT, ↓iteF, andT, w32_eq, yL_1, Int.toNat_natCast, Int.toNat_add, Int.toNat_mul, Int.toNat_sub, cel_s, cel_n, up1_cel, upS_cel, cel_cel, up1_s, up1_n, up1_e, rdI_n, rdB_n, Int.reduceMul, Int.reduceDiv, Int.reduceMod, Nat.reduceMul, Nat.reduceSub, Nat.zero_add, Int.zero_add, Nat.add_zero, Int.add_zero, ite_self, Option.toList_some, Option.toList_none, List.cons_append, List.nil_append, rdI_c, and_true, true_and, and_self, not_false_eq_true, not_true_eq_false, if_true, if_false, or_false, false_or, ne_eq, and_false, false_and, rdI_n, Nat.reduceEqDiff, Nat.reduceAdd, Nat.reduceLeDiff, Int.reduceEq, Int.reduceLT, Int.reduceLE, Int.reduceNeg, Int.reduceToNat, Int.reduceAdd, Int.reduceSub, List.append_nil, ki2, ki4, ki5, ki6, ki7, ki8, ki9, ki10, ki11, ki12, ki14, ki15, ki16, ki17, ki18, ki19, ki20, ki21, ki23, ki24, ki27, ki28, ki29, ki30, ki31, ki32, ki33, ki34, ki35, ki36, ki38, ki39, ki47, ki48, ki49, ki50, ki51, ki52, ki57, ki58, ki59, ki60, ki61, ki62, ki66, ki67, ki69, ki70, ki71, ki72, ki73, ki78, ki79, ki80, ki81, ki82, ki83, ki84, ki85, ki86, ki89, ki90, ki91, ki92, ki93, ki94, ki95, ki96, ki97, ki98, ki99, ki101, ki103, ki104, ki105, ki106, ki107, ki108, ki109, ki110, ki111, ki112, ki113, ki114, ki115, ki116, ki117, ki118, ki121, ki122, ki123, ki3000, kb68, kb102, kr26, kr40, kr46, kr56, kw2, kw4, kw5, kw6, kw7, kw8, kw9, kw10, kw11, kw12, kw14, kw15, kw16, kw17, kw18, kw19, kw20, kw21, kw23, kw24, kw27, kw28, kw29, kw30, kw31, kw32, kw33, kw34, kw35, kw36, kw38, kw39, kw41, kw42, kw43, kw44, kw47, kw48, kw49, kw50, kw51, kw52, kw53, kw54, kw57, kw58, kw59, kw60, kw61, kw62, kw63, kw64, kw66, kw67, kw68, kw69, kw70, kw71, kw72, kw73, kw75, kw78, kw79, kw80, kw81, kw82, kw83, kw84, kw85, kw86, kw89, kw90, kw91, kw92, kw93, kw94, kw95, kw96, kw97, kw98, kw99, kw101, kw102, kw103, kw104, kw105, kw106, kw107, kw108, kw109, kw110, kw111, kw112, kw113, kw114, kw115, kw116, kw117, kw118, kw119, kw120, kw121, kw122, kw123, kw124]
  | n + 1, p, N, W, f, l5, l6, h, hf, hd => by
    have e1 := hb.rI
    have e2 := hb.wI
    have e3 := hb.2.2
    obtain ⟨f1, f2, f3⟩ := hf
    obtain ⟨q1, q2⟩ := hl p (by omega)
    have g := hd p (by omega)
    have gd := td_dg (l := σ 15 p) g
    have gm := mirF_rng gd.1 gd.2
    have gb := f2 p (by omega)
    have gbo := boF_rng (l := mirF (dgF (f (13 + p)) (σ 15 p))) gb.1 gb.2
    have gc := f1 p (by omega)
    have gc3 := f1 (3 + p) (by omega)
    generalize hl' : mirF (dgF (f (13 + p)) (σ 15 p)) = l at *
    let fa := up1 f (10 + p) (boF (f (10 + p)) l)
    have hfa : fa = up1 f (10 + p) (boF (f (10 + p)) l) := rfl
    have fa1 : fa p = f p := by rw [hfa, up1_n (by omega)]
    have fa2 : fa (10 + p) = boF (f (10 + p)) l := by rw [hfa, up1_s]
    have fa3 : fa (3 + p) = f (3 + p) := by rw [hfa, up1_n (by omega)]
    obtain ⟨W1, N1, hch⟩ := cl_chosen (b := b) (p := p) (late := l) (mine := fa p) (bored := fa (10 + p)) (σ := cel (cel (cel σ 24 N) 23 W) b fa) hb (by omega) (by omega) (by simp (disch := omega) only [cel_s, cel_n, up1_s, up1_n, up1_e, put_in, put_out, fill_in, fill_out, Nat.add_sub_cancel_left, Int.toNat_natCast]; exact ha) (by simp (disch := omega) only [cel_s, cel_n, up1_s, up1_n, up1_e, put_in, put_out, fill_in, fill_out, Nat.add_sub_cancel_left, Int.toNat_natCast]; omega) (by simp (disch := omega) only [cel_s, cel_n, up1_s, up1_n, up1_e, put_in, put_out, fill_in, fill_out, Nat.add_sub_cancel_left, Int.toNat_natCast]; omega) (by simp (disch := omega) only [cel_s, cel_n, up1_s, up1_n, up1_e, put_in, put_out, fill_in, fill_out, Nat.add_sub_cancel_left, Int.toNat_natCast]; omega) (by simp (disch := omega) only [cel_s, cel_n, up1_s, up1_n, up1_e, put_in, put_out, fill_in, fill_out, Nat.add_sub_cancel_left, Int.toNat_natCast]; omega) gm.1 gm.2 (by omega) (by omega) (by omega) (by omega)
    simp (disch := omega) only [cel_s, cel_n, cel_J] at hch
    have hx := choC_rng (c := fa) (p := p) (mine := fa p) (bored := fa (10 + p)) ha gm.1 gm.2
    generalize hxe : choC (σ 13) (σ 17) (σ 18) (σ 19) (σ 20) (σ 21) fa p l (fa p) (fa (10 + p)) = x at *
    have hact := fun (Q' : Option mw_V → mw_S → Prop) (d' : Nat) => cl_act (d := d') (b := b) (w := 3 + p) (x := x) (σ := cel (cel (cel σ 24 N1) 23 W1) b (up1 fa (16 + p) x)) (Q := Q') (by omega) hb hx.1 hx.2 (by simp (disch := omega) only [cel_s, cel_n, up1_s, up1_n, up1_e, put_in, put_out, fill_in, fill_out, Nat.add_sub_cancel_left, Int.toNat_natCast]; omega) (by simp (disch := omega) only [cel_s, cel_n, up1_s, up1_n, up1_e, put_in, put_out, fill_in, fill_out, Nat.add_sub_cancel_left, Int.toNat_natCast]; omega) (by simp (disch := omega) only [cel_s, cel_n, up1_s, up1_n, up1_e, put_in, put_out, fill_in, fill_out, Nat.add_sub_cancel_left, Int.toNat_natCast]; omega) (by simp (disch := omega) only [cel_s, cel_n, up1_s, up1_n, up1_e, put_in, put_out, fill_in, fill_out, Nat.add_sub_cancel_left, Int.toNat_natCast]; omega) (by simp (disch := omega) only [cel_s, cel_n, up1_s, up1_n, up1_e, put_in, put_out, fill_in, fill_out, Nat.add_sub_cancel_left, Int.toNat_natCast]; omega) (by simp (disch := omega) only [cel_s, cel_n, up1_s, up1_n, up1_e, put_in, put_out, fill_in, fill_out, Nat.add_sub_cancel_left, Int.toNat_natCast]; omega)
    simp (disch := omega) only [cel_s, cel_n, cel_cel, show ((3 + p : Nat) : Int) = 3 + (p : Int) from rfl] at hact
    have hs : ph2s (σ 13) (σ 17) (σ 18) (σ 19) (σ 20) (σ 21) (σ 15) p f = up1 (actC (σ 13 0) (σ 13 2) (up1 fa (16 + p) x) (3 + p) x) (22 + p) (canI (σ 13 0) (σ 13 2) (up1 fa (16 + p) x) (fun k => up1 fa (16 + p) x (6 + k)) (3 + p) x) := by
      unfold ph2s
      simp only [hl', ← hfa, hxe]
    obtain ⟨N', W', l5', l6', ih⟩ := wp_adv2 (x0 := x0) (σ := σ) (l3 := l3) hb hb2 hl3 hP hP3 d0 d1 t0 t1 ha hl n (p + 1) N1 W1 (ph2s (σ 13) (σ 17) (σ 18) (σ 19) (σ 20) (σ 21) (σ 15) p f) (some (jI l)) (some (jI x)) (by omega) (ph2s_row (by omega) t0 t1 ⟨f1, f2, f3⟩) (fun j hj => by rw [ph2s_13 (by omega) t0 t1 j (by omega)]; exact hd j hj)
    refine ⟨N', W', l5', l6', fun d Q => ?_⟩
    unfold ph2C
    have ihq := ih d Q
    (try simp only [ic1] at ihq)
    rw [hs]
    have hlt := fun (Q' : Option mw_V → mw_S → Prop) (d' : Nat) => cl_late (d := d') (p := p) (t := f (13 + p)) (σ := cel (cel (cel σ 24 N) 23 W) b f) (Q := Q') (by omega) g.1.1 g.1.2.1 (by simp (disch := omega) only [cel_s, cel_n, up1_s, up1_n, up1_e, put_in, put_out, fill_in, fill_out, Nat.add_sub_cancel_left, Int.toNat_natCast]; omega) (by simp (disch := omega) only [cel_s, cel_n, up1_s, up1_n, up1_e, put_in, put_out, fill_in, fill_out, Nat.add_sub_cancel_left, Int.toNat_natCast]; omega) (by simp (disch := omega) only [cel_s, cel_n, up1_s, up1_n, up1_e, put_in, put_out, fill_in, fill_out, Nat.add_sub_cancel_left, Int.toNat_natCast]; omega) (by simp (disch := omega) only [cel_s, cel_n, up1_s, up1_n, up1_e, put_in, put_out, fill_in, fill_out, Nat.add_sub_cancel_left, Int.toNat_natCast]; omega)
    simp (disch := omega) only [cel_s, cel_n, hl'] at hlt
    have hbo := fun (Q' : Option mw_V → mw_S → Prop) (d' : Nat) => cl_bored (d := d') (b := b) (p := p) (l := l) (σ := cel (cel (cel σ 24 N) 23 W) b f) (Q := Q') hb (by omega) (by simp (disch := omega) only [cel_s, cel_n, up1_s, up1_n, up1_e, put_in, put_out, fill_in, fill_out, Nat.add_sub_cancel_left, Int.toNat_natCast]; omega) (by simp (disch := omega) only [cel_s, cel_n, up1_s, up1_n, up1_e, put_in, put_out, fill_in, fill_out, Nat.add_sub_cancel_left, Int.toNat_natCast]; omega)
    simp (disch := omega) only [cel_s, cel_n] at hbo
    simp (disch := first | (simp only [nlP_n, nlP_I, nlP_R, catP_I, catP_R, st8_0, st8_1, st8_2, st8_3, st8_4, b01, or_true, true_or, eq_self, iRP98, iRP99, iRP86, iRP97, iRP47, iRP57, rcP0, rcP1, rcP3, rcP13, rcP22, rcP25, rcP37, rcP45, rcP55, rcP65, rcP74, rcP76, rcP77, rcP87, rcP88, rcP100]; done) | omega | assumption | (simp (disch := omega) only [cel_s, cel_n, up1_s, up1_n, up1_e, put_out, fill_in]; omega) | (apply isRow_past; omega) | (apply isRow_seek; omega) | (apply isRow_guess; omega)) only [ww88_72, ww88_74, ww88_75, ww88_78i3, ww88_78i13, ww88_78i77, ww88_78i88, ww88_81, ww88_84, ww88_85, ww88_86, ww88_88, ww88_90, ww88_91, ww88_92, ww88_94, ww88_97, ww88_99, ww88_100, ww88_102, ww88_104, ww88_105, ww88_106, ww88_108, ww88_110, ww88_113, hP, hlt, hbo, ↓iteT, ↓iteF, andT, w32_eq, yL_1, Int.toNat_natCast, Int.toNat_add, Int.toNat_mul, Int.toNat_sub, cel_s, cel_n, up1_cel, upS_cel, cel_cel, up1_s, up1_n, up1_e, rdI_n, rdB_n, Int.reduceMul, Int.reduceDiv, Int.reduceMod, Nat.reduceMul, Nat.reduceSub, Nat.zero_add, Int.zero_add, Nat.add_zero, Int.add_zero, ite_self, Option.toList_some, Option.toList_none, List.cons_append, List.nil_append, rdI_c, and_true, true_and, and_self, not_false_eq_true, not_true_eq_false, if_true, if_false, or_false, false_or, ne_eq, and_false, false_and, rdI_n, Nat.reduceEqDiff, Nat.reduceAdd, Nat.reduceLeDiff, Int.reduceEq, Int.reduceLT, Int.reduceLE, Int.reduceNeg, Int.reduceToNat, Int.reduceAdd, Int.reduceSub, List.append_nil, ki2, ki4, ki5, ki6, ki7, ki8, ki9, ki10, ki11, ki12, ki14, ki15, ki16, ki17, ki18, ki19, ki20, ki21, ki23, ki24, ki27, ki28, ki29, ki30, ki31, ki32, ki33, ki34, ki35, ki36, ki38, ki39, ki47, ki48, ki49, ki50, ki51, ki52, ki57, ki58, ki59, ki60, ki61, ki62, ki66, ki67, ki69, ki70, ki71, ki72, ki73, ki78, ki79, ki80, ki81, ki82, ki83, ki84, ki85, ki86, ki89, ki90, ki91, ki92, ki93, ki94, ki95, ki96, ki97, ki98, ki99, ki101, ki103, ki104, ki105, ki106, ki107, ki108, ki109, ki110, ki111, ki112, ki113, ki114, ki115, ki116, ki117, ki118, ki121, ki122, ki123, ki3000, kb68, kb102, kr26, kr40, kr46, kr56, kw2, kw4, kw5, kw6, kw7, kw8, kw9, kw10, kw11, kw12, kw14, kw15, kw16, kw17, kw18, kw19, kw20, kw21, kw23, kw24, kw27, kw28, kw29, kw30, kw31, kw32, kw33, kw34, kw35, kw36, kw38, kw39, kw41, kw42, kw43, kw44, kw47, kw48, kw49, kw50, kw51, kw52, kw53, kw54, kw57, kw58, kw59, kw60, kw61, kw62, kw63, kw64, kw66, kw67, kw68, kw69, kw70, kw71, kw72, kw73, kw75, kw78, kw79, kw80, kw81, kw82, kw83, kw84, kw85, kw86, kw89, kw90, kw91, kw92, kw93, kw94, kw95, kw96, kw97, kw98, kw99, kw101, kw102, kw103, kw104, kw105, kw106, kw107, kw108, kw109, kw110, kw111, kw112, kw113, kw114, kw115, kw116, kw117, kw118, kw119, kw120, kw121, kw122, kw123, kw124]
    rw [← hfa]
    simp (disch := first | (simp only [nlP_n, nlP_I, nlP_R, catP_I, catP_R, st8_0, st8_1, st8_2, st8_3, st8_4, b01, or_true, true_or, eq_self, iRP98, iRP99, iRP86, iRP97, iRP47, iRP57, rcP0, rcP1, rcP3, rcP13, rcP22, rcP25, rcP37, rcP45, rcP55, rcP65, rcP74, rcP76, rcP77, rcP87, rcP88, rcP100]; done) | omega | assumption | (simp (disch := omega) only [cel_s, cel_n, up1_s, up1_n, up1_e, put_out, fill_in]; omega) | (apply isRow_past; omega) | (apply isRow_seek; omega) | (apply isRow_guess; omega)) only [ww88_114, ww88_115, ww88_116, ww88_118, ww88_120, ww88_121, ww88_122, ww88_124, ww88_125, ww88_126, ww88_127, ww88_129, ww88_131, ww88_132, ww88_133, ww88_136, ww88_138, ww88_139, ww88_141, ww88_143, ww88_144, ww88_146, ww88_147, ww88_148, ww88_150, ww88_152, ww88_153, ww88_154, ww88_155, ww88_156, ww88_158, ww88_159, ww88_161, ww88_164, ww88_165, hch, hact, ↓iteT, ↓iteF, andT, w32_eq, yL_1, Int.toNat_natCast, Int.toNat_add, Int.toNat_mul, Int.toNat_sub, cel_s, cel_n, up1_cel, upS_cel, cel_cel, up1_s, up1_n, up1_e, rdI_n, rdB_n, Int.reduceMul, Int.reduceDiv, Int.reduceMod, Nat.reduceMul, Nat.reduceSub, Nat.zero_add, Int.zero_add, Nat.add_zero, Int.add_zero, ite_self, Option.toList_some, Option.toList_none, List.cons_append, List.nil_append, rdI_c, and_true, true_and, and_self, not_false_eq_true, not_true_eq_false, if_true, if_false, or_false, false_or, ne_eq, and_false, false_and, rdI_n, Nat.reduceEqDiff, Nat.reduceAdd, Nat.reduceLeDiff, Int.reduceEq, Int.reduceLT, Int.reduceLE, Int.reduceNeg, Int.reduceToNat, Int.reduceAdd, Int.reduceSub, List.append_nil, ki2, ki4, ki5, ki6, ki7, ki8, ki9, ki10, ki11, ki12, ki14, ki15, ki16, ki17, ki18, ki19, ki20, ki21, ki23, ki24, ki27, ki28, ki29, ki30, ki31, ki32, ki33, ki34, ki35, ki36, ki38, ki39, ki47, ki48, ki49, ki50, ki51, ki52, ki57, ki58, ki59, ki60, ki61, ki62, ki66, ki67, ki69, ki70, ki71, ki72, ki73, ki78, ki79, ki80, ki81, ki82, ki83, ki84, ki85, ki86, ki89, ki90, ki91, ki92, ki93, ki94, ki95, ki96, ki97, ki98, ki99, ki101, ki103, ki104, ki105, ki106, ki107, ki108, ki109, ki110, ki111, ki112, ki113, ki114, ki115, ki116, ki117, ki118, ki121, ki122, ki123, ki3000, kb68, kb102, kr26, kr40, kr46, kr56, kw2, kw4, kw5, kw6, kw7, kw8, kw9, kw10, kw11, kw12, kw14, kw15, kw16, kw17, kw18, kw19, kw20, kw21, kw23, kw24, kw27, kw28, kw29, kw30, kw31, kw32, kw33, kw34, kw35, kw36, kw38, kw39, kw41, kw42, kw43, kw44, kw47, kw48, kw49, kw50, kw51, kw52, kw53, kw54, kw57, kw58, kw59, kw60, kw61, kw62, kw63, kw64, kw66, kw67, kw68, kw69, kw70, kw71, kw72, kw73, kw75, kw78, kw79, kw80, kw81, kw82, kw83, kw84, kw85, kw86, kw89, kw90, kw91, kw92, kw93, kw94, kw95, kw96, kw97, kw98, kw99, kw101, kw102, kw103, kw104, kw105, kw106, kw107, kw108, kw109, kw110, kw111, kw112, kw113, kw114, kw115, kw116, kw117, kw118, kw119, kw120, kw121, kw122, kw123, kw124]
    rw [ww88_168]
    rw [hs] at ihq
    exact ihq
/-- a step on a row of the class: how many things passed, the row -/
def advF (ar wh fr to does code late : Nat → Int) (P : Nat) (x : Int) (c : Nat → Int) : Int × (Nat → Int) :=
  let f2 := ph2C ar wh fr to does code late P 0 (ph1C (ar 0) (ar 2) P 0 x c)
  paC (ar 2) P P 0 0 0 (up1 f2 34 (f2 34 + 1))
theorem ph1C_34 {deep T : Int} (t0 : 0 ≤ T) (t1 : T ≤ 4) {k : Nat} (hk : 25 ≤ k) : ∀ (n p : Nat) (rest : Int) (f : Nat → Int), p + n ≤ 3 → ph1C deep T n p rest f k = f k
  | 0, _, _, _, _ => rfl
  | n + 1, p, rest, f, hp => by
    unfold ph1C
    rw [ph1C_34 t0 t1 hk n (p + 1) _ _ (by omega)]
    unfold ph1s
    rw [up1_n (by omega), actC_out (by omega) t0 t1 (by omega), up1_n (by omega)]
theorem ph2C_34 {ar wh fr to does code late : Nat → Int} (t0 : 0 ≤ ar 2) (t1 : ar 2 ≤ 4) {k : Nat} (hk : 25 ≤ k) : ∀ (n p : Nat) (f : Nat → Int), p + n ≤ 3 → ph2C ar wh fr to does code late n p f k = f k
  | 0, _, _, _ => rfl
  | n + 1, p, f, hp => by
    unfold ph2C
    rw [ph2C_34 t0 t1 hk n (p + 1) _ (by omega)]
    unfold ph2s
    rw [up1_n (by omega), actC_out (by omega) t0 t1 (by omega), up1_n (by omega), up1_n (by omega)]
theorem cl_advance {b P : Nat} {x : Int} {σ : mw_S} (hb : isRow b) (hb2 : 25 < b) (hP : σ 13 1 = P) (hP3 : P ≤ 3) (d0 : 2 ≤ σ 13 0) (d1 : σ 13 0 ≤ 9) (t0 : 0 ≤ σ 13 2) (t1 : σ 13 2 ≤ 4) (ha : arOK (σ 13) (σ 17) (σ 18) (σ 19) (σ 20) (σ 21)) (hl : ∀ p, p < P → 0 ≤ σ 15 p ∧ σ 15 p ≤ 4) (x0 : 0 ≤ x) (x1 : x < 1000000) (hf : rowI (σ 13 0) (σ b)) (s0 : 0 ≤ σ b 34) (s1 : σ b 34 < 1000000000) : ∃ W N, ∀ (d : Nat) (Q : Option mw_V → mw_S → Prop), mw_Call (d + 5) 88 [jR 22, jR b, jI x] σ Q ↔ Q (some (jI (advF (σ 13) (σ 17) (σ 18) (σ 19) (σ 20) (σ 21) (σ 15) P x (σ b)).1)) (cel (cel (cel σ 24 N) 23 W) b (advF (σ 13) (σ 17) (σ 18) (σ 19) (σ 20) (σ 21) (σ 15) P x (σ b)).2) := by
  have e1 := hb.rI
  have e2 := hb.wI
  have e3 := hb.2.2
  obtain ⟨r', l5', h1⟩ := wp_adv1 (b := b) (P := P) (x0 := x) (σ := σ) (l6 := none) hb hb2 hP hP3 d0 d1 t0 t1 P 0 x (σ b) none (by omega) x0 x1 hf
  rw [cel_self rfl] at h1
  have hr1 := ph1C_row (deep := σ 13 0) t0 t1 P 0 x (σ b) (by omega) x0 hf (fun j hj => by omega)
  obtain ⟨N, W, l5'', l6'', h2⟩ := wp_adv2 (b := b) (P := P) (x0 := x) (σ := σ) (l3 := some (jI r')) hb hb2 rfl hP hP3 d0 d1 t0 t1 ha hl P 0 (σ 24) (σ 23) (ph1C (σ 13 0) (σ 13 2) P 0 x (σ b)) l5' none (by omega) hr1.1 (fun j hj => hr1.2 j (by omega))
  rw [cel_self (σ := σ) rfl, cel_self (σ := σ) rfl] at h2
  have hr2 := ph2C_row (ar := σ 13) (wh := σ 17) (fr := σ 18) (to := σ 19) (does := σ 20) (code := σ 21) (late := σ 15) t0 t1 P 0 _ (by omega) hr1.1
  have k34 : ph2C (σ 13) (σ 17) (σ 18) (σ 19) (σ 20) (σ 21) (σ 15) P 0 (ph1C (σ 13 0) (σ 13 2) P 0 x (σ b)) 34 = σ b 34 := by
    rw [ph2C_34 t0 t1 (by omega) P 0 _ (by omega), ph1C_34 t0 t1 (by omega) P 0 _ _ (by omega)]
  refine ⟨W, N, fun d Q => ?_⟩
  unfold advF
  generalize ph2C (σ 13) (σ 17) (σ 18) (σ 19) (σ 20) (σ 21) (σ 15) P 0 (ph1C (σ 13 0) (σ 13 2) P 0 x (σ b)) = f2 at *
  have hps := fun (Q' : Option mw_V → mw_S → Prop) (d' : Nat) => cl_pass (d := d') (b := b) (σ := cel (cel (cel σ 24 N) 23 W) b (up1 f2 34 (f2 34 + 1))) (Q := Q') hb (by omega) P (by simp (disch := omega) only [cel_s, cel_n, up1_s, up1_n, up1_e, put_in, put_out, fill_in, fill_out, Nat.add_sub_cancel_left, Int.toNat_natCast]; exact hP) hP3 (by simp (disch := omega) only [cel_s, cel_n, up1_s, up1_n, up1_e, put_in, put_out, fill_in, fill_out, Nat.add_sub_cancel_left, Int.toNat_natCast]; omega) (by simp (disch := omega) only [cel_s, cel_n, up1_s, up1_n, up1_e, put_in, put_out, fill_in, fill_out, Nat.add_sub_cancel_left, Int.toNat_natCast]; omega) (by
    simp only [cel_s]
    exact fun j hj => by rw [up1_n (by omega)]; exact ⟨(hr2.2.2 j hj).1, (hr2.2.2 j hj).2.1, (hr2.2.2 j hj).2.2.1⟩)
  simp (disch := omega) only [cel_s, cel_n, cel_cel] at hps
  have st : mw_Call (d + 5) 88 [jR 22, jR b, jI x] σ Q ↔ mw_WP (d + 4) 88 5 [some (jR 22), some (jR b), some (jI x), some (jI x), some (jI ((0 : Nat) : Int)), none, none] [] σ Q := by
    rw [ee88]
    simp (disch := first | (simp only [nlP_n, nlP_I, nlP_R, catP_I, catP_R, st8_0, st8_1, st8_2, st8_3, st8_4, b01, or_true, true_or, eq_self, iRP98, iRP99, iRP86, iRP97, iRP47, iRP57, rcP0, rcP1, rcP3, rcP13, rcP22, rcP25, rcP37, rcP45, rcP55, rcP65, rcP74, rcP76, rcP77, rcP87, rcP88, rcP100]; done) | omega | assumption | (simp (disch := omega) only [cel_s, cel_n, up1_s, up1_n, up1_e, put_out, fill_in]; omega) | (apply isRow_past; omega) | (apply isRow_seek; omega) | (apply isRow_guess; omega)) only [ww88_0, ww88_1, ww88_2, ww88_3, ↓iteT, ↓iteF, andT, w32_eq, yL_1, Int.toNat_natCast, Int.toNat_add, Int.toNat_mul, Int.toNat_sub, cel_s, cel_n, up1_cel, upS_cel, cel_cel, up1_s, up1_n, up1_e, rdI_n, rdB_n, Int.reduceMul, Int.reduceDiv, Int.reduceMod, Nat.reduceMul, Nat.reduceSub, Nat.zero_add, Int.zero_add, Nat.add_zero, Int.add_zero, ite_self, Option.toList_some, Option.toList_none, List.cons_append, List.nil_append, rdI_c, and_true, true_and, and_self, not_false_eq_true, not_true_eq_false, if_true, if_false, or_false, false_or, ne_eq, and_false, false_and, rdI_n, Nat.reduceEqDiff, Nat.reduceAdd, Nat.reduceLeDiff, Int.reduceEq, Int.reduceLT, Int.reduceLE, Int.reduceNeg, Int.reduceToNat, Int.reduceAdd, Int.reduceSub, List.append_nil, ki2, ki4, ki5, ki6, ki7, ki8, ki9, ki10, ki11, ki12, ki14, ki15, ki16, ki17, ki18, ki19, ki20, ki21, ki23, ki24, ki27, ki28, ki29, ki30, ki31, ki32, ki33, ki34, ki35, ki36, ki38, ki39, ki47, ki48, ki49, ki50, ki51, ki52, ki57, ki58, ki59, ki60, ki61, ki62, ki66, ki67, ki69, ki70, ki71, ki72, ki73, ki78, ki79, ki80, ki81, ki82, ki83, ki84, ki85, ki86, ki89, ki90, ki91, ki92, ki93, ki94, ki95, ki96, ki97, ki98, ki99, ki101, ki103, ki104, ki105, ki106, ki107, ki108, ki109, ki110, ki111, ki112, ki113, ki114, ki115, ki116, ki117, ki118, ki121, ki122, ki123, ki3000, kb68, kb102, kr26, kr40, kr46, kr56, kw2, kw4, kw5, kw6, kw7, kw8, kw9, kw10, kw11, kw12, kw14, kw15, kw16, kw17, kw18, kw19, kw20, kw21, kw23, kw24, kw27, kw28, kw29, kw30, kw31, kw32, kw33, kw34, kw35, kw36, kw38, kw39, kw41, kw42, kw43, kw44, kw47, kw48, kw49, kw50, kw51, kw52, kw53, kw54, kw57, kw58, kw59, kw60, kw61, kw62, kw63, kw64, kw66, kw67, kw68, kw69, kw70, kw71, kw72, kw73, kw75, kw78, kw79, kw80, kw81, kw82, kw83, kw84, kw85, kw86, kw89, kw90, kw91, kw92, kw93, kw94, kw95, kw96, kw97, kw98, kw99, kw101, kw102, kw103, kw104, kw105, kw106, kw107, kw108, kw109, kw110, kw111, kw112, kw113, kw114, kw115, kw116, kw117, kw118, kw119, kw120, kw121, kw122, kw123, kw124]
    exact Iff.rfl
  have st2 : mw_WP (d + 4) 88 69 [some (jR 22), some (jR b), some (jI x), some (jI r'), some (jI P), l5', none] [] (cel σ b (ph1C (σ 13 0) (σ 13 2) P 0 x (σ b))) Q ↔ mw_WP (d + 4) 88 72 [some (jR 22), some (jR b), some (jI x), some (jI r'), some (jI ((0 : Nat) : Int)), l5', none] [] (cel σ b (ph1C (σ 13 0) (σ 13 2) P 0 x (σ b))) Q := by
    simp (disch := first | (simp only [nlP_n, nlP_I, nlP_R, catP_I, catP_R, st8_0, st8_1, st8_2, st8_3, st8_4, b01, or_true, true_or, eq_self, iRP98, iRP99, iRP86, iRP97, iRP47, iRP57, rcP0, rcP1, rcP3, rcP13, rcP22, rcP25, rcP37, rcP45, rcP55, rcP65, rcP74, rcP76, rcP77, rcP87, rcP88, rcP100]; done) | omega | assumption | (simp (disch := omega) only [cel_s, cel_n, up1_s, up1_n, up1_e, put_out, fill_in]; omega) | (apply isRow_past; omega) | (apply isRow_seek; omega) | (apply isRow_guess; omega)) only [ww88_69, ww88_70, ↓iteT, ↓iteF, andT, w32_eq, yL_1, Int.toNat_natCast, Int.toNat_add, Int.toNat_mul, Int.toNat_sub, cel_s, cel_n, up1_cel, upS_cel, cel_cel, up1_s, up1_n, up1_e, rdI_n, rdB_n, Int.reduceMul, Int.reduceDiv, Int.reduceMod, Nat.reduceMul, Nat.reduceSub, Nat.zero_add, Int.zero_add, Nat.add_zero, Int.add_zero, ite_self, Option.toList_some, Option.toList_none, List.cons_append, List.nil_append, rdI_c, and_true, true_and, and_self, not_false_eq_true, not_true_eq_false, if_true, if_false, or_false, false_or, ne_eq, and_false, false_and, rdI_n, Nat.reduceEqDiff, Nat.reduceAdd, Nat.reduceLeDiff, Int.reduceEq, Int.reduceLT, Int.reduceLE, Int.reduceNeg, Int.reduceToNat, Int.reduceAdd, Int.reduceSub, List.append_nil, ki2, ki4, ki5, ki6, ki7, ki8, ki9, ki10, ki11, ki12, ki14, ki15, ki16, ki17, ki18, ki19, ki20, ki21, ki23, ki24, ki27, ki28, ki29, ki30, ki31, ki32, ki33, ki34, ki35, ki36, ki38, ki39, ki47, ki48, ki49, ki50, ki51, ki52, ki57, ki58, ki59, ki60, ki61, ki62, ki66, ki67, ki69, ki70, ki71, ki72, ki73, ki78, ki79, ki80, ki81, ki82, ki83, ki84, ki85, ki86, ki89, ki90, ki91, ki92, ki93, ki94, ki95, ki96, ki97, ki98, ki99, ki101, ki103, ki104, ki105, ki106, ki107, ki108, ki109, ki110, ki111, ki112, ki113, ki114, ki115, ki116, ki117, ki118, ki121, ki122, ki123, ki3000, kb68, kb102, kr26, kr40, kr46, kr56, kw2, kw4, kw5, kw6, kw7, kw8, kw9, kw10, kw11, kw12, kw14, kw15, kw16, kw17, kw18, kw19, kw20, kw21, kw23, kw24, kw27, kw28, kw29, kw30, kw31, kw32, kw33, kw34, kw35, kw36, kw38, kw39, kw41, kw42, kw43, kw44, kw47, kw48, kw49, kw50, kw51, kw52, kw53, kw54, kw57, kw58, kw59, kw60, kw61, kw62, kw63, kw64, kw66, kw67, kw68, kw69, kw70, kw71, kw72, kw73, kw75, kw78, kw79, kw80, kw81, kw82, kw83, kw84, kw85, kw86, kw89, kw90, kw91, kw92, kw93, kw94, kw95, kw96, kw97, kw98, kw99, kw101, kw102, kw103, kw104, kw105, kw106, kw107, kw108, kw109, kw110, kw111, kw112, kw113, kw114, kw115, kw116, kw117, kw118, kw119, kw120, kw121, kw122, kw123, kw124]
    exact Iff.rfl
  rw [st, h1 d Q, st2, h2 d Q]
  simp (disch := first | (simp only [nlP_n, nlP_I, nlP_R, catP_I, catP_R, st8_0, st8_1, st8_2, st8_3, st8_4, b01, or_true, true_or, eq_self, iRP98, iRP99, iRP86, iRP97, iRP47, iRP57, rcP0, rcP1, rcP3, rcP13, rcP22, rcP25, rcP37, rcP45, rcP55, rcP65, rcP74, rcP76, rcP77, rcP87, rcP88, rcP100]; done) | omega | assumption | (simp (disch := omega) only [cel_s, cel_n, up1_s, up1_n, up1_e, put_out, fill_in]; omega) | (apply isRow_past; omega) | (apply isRow_seek; omega) | (apply isRow_guess; omega)) only [ww88_171, ww88_172, ww88_174, ww88_175, ww88_176, ww88_177, ww88_178, ww88_179, ww88_180, ww88_181, ww88_184, k34, ↓iteT, ↓iteF, andT, w32_eq, yL_1, Int.toNat_natCast, Int.toNat_add, Int.toNat_mul, Int.toNat_sub, cel_s, cel_n, up1_cel, upS_cel, cel_cel, up1_s, up1_n, up1_e, rdI_n, rdB_n, Int.reduceMul, Int.reduceDiv, Int.reduceMod, Nat.reduceMul, Nat.reduceSub, Nat.zero_add, Int.zero_add, Nat.add_zero, Int.add_zero, ite_self, Option.toList_some, Option.toList_none, List.cons_append, List.nil_append, rdI_c, and_true, true_and, and_self, not_false_eq_true, not_true_eq_false, if_true, if_false, or_false, false_or, ne_eq, and_false, false_and, rdI_n, Nat.reduceEqDiff, Nat.reduceAdd, Nat.reduceLeDiff, Int.reduceEq, Int.reduceLT, Int.reduceLE, Int.reduceNeg, Int.reduceToNat, Int.reduceAdd, Int.reduceSub, List.append_nil, ki2, ki4, ki5, ki6, ki7, ki8, ki9, ki10, ki11, ki12, ki14, ki15, ki16, ki17, ki18, ki19, ki20, ki21, ki23, ki24, ki27, ki28, ki29, ki30, ki31, ki32, ki33, ki34, ki35, ki36, ki38, ki39, ki47, ki48, ki49, ki50, ki51, ki52, ki57, ki58, ki59, ki60, ki61, ki62, ki66, ki67, ki69, ki70, ki71, ki72, ki73, ki78, ki79, ki80, ki81, ki82, ki83, ki84, ki85, ki86, ki89, ki90, ki91, ki92, ki93, ki94, ki95, ki96, ki97, ki98, ki99, ki101, ki103, ki104, ki105, ki106, ki107, ki108, ki109, ki110, ki111, ki112, ki113, ki114, ki115, ki116, ki117, ki118, ki121, ki122, ki123, ki3000, kb68, kb102, kr26, kr40, kr46, kr56, kw2, kw4, kw5, kw6, kw7, kw8, kw9, kw10, kw11, kw12, kw14, kw15, kw16, kw17, kw18, kw19, kw20, kw21, kw23, kw24, kw27, kw28, kw29, kw30, kw31, kw32, kw33, kw34, kw35, kw36, kw38, kw39, kw41, kw42, kw43, kw44, kw47, kw48, kw49, kw50, kw51, kw52, kw53, kw54, kw57, kw58, kw59, kw60, kw61, kw62, kw63, kw64, kw66, kw67, kw68, kw69, kw70, kw71, kw72, kw73, kw75, kw78, kw79, kw80, kw81, kw82, kw83, kw84, kw85, kw86, kw89, kw90, kw91, kw92, kw93, kw94, kw95, kw96, kw97, kw98, kw99, kw101, kw102, kw103, kw104, kw105, kw106, kw107, kw108, kw109, kw110, kw111, kw112, kw113, kw114, kw115, kw116, kw117, kw118, kw119, kw120, kw121, kw122, kw123, kw124]
  simp only [k34] at hps
  simp (disch := first | (simp only [nlP_n, nlP_I, nlP_R, catP_I, catP_R, st8_0, st8_1, st8_2, st8_3, st8_4, b01, or_true, true_or, eq_self, iRP98, iRP99, iRP86, iRP97, iRP47, iRP57, rcP0, rcP1, rcP3, rcP13, rcP22, rcP25, rcP37, rcP45, rcP55, rcP65, rcP74, rcP76, rcP77, rcP87, rcP88, rcP100]; done) | omega | assumption | (simp (disch := omega) only [cel_s, cel_n, up1_s, up1_n, up1_e, put_out, fill_in]; omega) | (apply isRow_past; omega) | (apply isRow_seek; omega) | (apply isRow_guess; omega)) only [ww88_171, ww88_172, ww88_174, ww88_175, ww88_176, ww88_177, ww88_178, ww88_179, ww88_180, ww88_181, ww88_184, k34, hps, ↓iteT, ↓iteF, andT, w32_eq, yL_1, Int.toNat_natCast, Int.toNat_add, Int.toNat_mul, Int.toNat_sub, cel_s, cel_n, up1_cel, upS_cel, cel_cel, up1_s, up1_n, up1_e, rdI_n, rdB_n, Int.reduceMul, Int.reduceDiv, Int.reduceMod, Nat.reduceMul, Nat.reduceSub, Nat.zero_add, Int.zero_add, Nat.add_zero, Int.add_zero, ite_self, Option.toList_some, Option.toList_none, List.cons_append, List.nil_append, rdI_c, and_true, true_and, and_self, not_false_eq_true, not_true_eq_false, if_true, if_false, or_false, false_or, ne_eq, and_false, false_and, rdI_n, Nat.reduceEqDiff, Nat.reduceAdd, Nat.reduceLeDiff, Int.reduceEq, Int.reduceLT, Int.reduceLE, Int.reduceNeg, Int.reduceToNat, Int.reduceAdd, Int.reduceSub, List.append_nil, ki2, ki4, ki5, ki6, ki7, ki8, ki9, ki10, ki11, ki12, ki14, ki15, ki16, ki17, ki18, ki19, ki20, ki21, ki23, ki24, ki27, ki28, ki29, ki30, ki31, ki32, ki33, ki34, ki35, ki36, ki38, ki39, ki47, ki48, ki49, ki50, ki51, ki52, ki57, ki58, ki59, ki60, ki61, ki62, ki66, ki67, ki69, ki70, ki71, ki72, ki73, ki78, ki79, ki80, ki81, ki82, ki83, ki84, ki85, ki86, ki89, ki90, ki91, ki92, ki93, ki94, ki95, ki96, ki97, ki98, ki99, ki101, ki103, ki104, ki105, ki106, ki107, ki108, ki109, ki110, ki111, ki112, ki113, ki114, ki115, ki116, ki117, ki118, ki121, ki122, ki123, ki3000, kb68, kb102, kr26, kr40, kr46, kr56, kw2, kw4, kw5, kw6, kw7, kw8, kw9, kw10, kw11, kw12, kw14, kw15, kw16, kw17, kw18, kw19, kw20, kw21, kw23, kw24, kw27, kw28, kw29, kw30, kw31, kw32, kw33, kw34, kw35, kw36, kw38, kw39, kw41, kw42, kw43, kw44, kw47, kw48, kw49, kw50, kw51, kw52, kw53, kw54, kw57, kw58, kw59, kw60, kw61, kw62, kw63, kw64, kw66, kw67, kw68, kw69, kw70, kw71, kw72, kw73, kw75, kw78, kw79, kw80, kw81, kw82, kw83, kw84, kw85, kw86, kw89, kw90, kw91, kw92, kw93, kw94, kw95, kw96, kw97, kw98, kw99, kw101, kw102, kw103, kw104, kw105, kw106, kw107, kw108, kw109, kw110, kw111, kw112, kw113, kw114, kw115, kw116, kw117, kw118, kw119, kw120, kw121, kw122, kw123, kw124]
