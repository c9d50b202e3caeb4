/-! hours, both -/
theorem Rmid.congr {deep : Int} {c A c' A' : Nat → Int} (h : Rmid deep c A) (hc : ∀ k, k < 35 → c' k = c k) (hA : ∀ k, 41 ≤ k → k < 88 → A' k = A k) : Rmid deep c' A' := by
  obtain ⟨h1, h2, h3, h4, h5⟩ := h
  refine ⟨fun k hk => ?_, fun t ht => ?_, fun p hp => ?_, fun p hp => ?_, fun p hp => ?_⟩
  · rw [hc _ (by omega), hA _ (by omega) (by omega)]
    exact h1 k hk
  · rw [hc _ (by omega), hA _ (by omega) (by omega)]
    exact h2 t ht
  · rw [hc _ (by omega), hA _ (by omega) (by omega)]
    exact h3 p hp
  · obtain ⟨a0, a1, a2, a3⟩ := h4 p hp
    rw [hc _ (by omega), hA _ (by omega) (by omega), hA _ (by omega) (by omega), hA _ (by omega) (by omega), hA _ (by omega) (by omega)]
    exact ⟨a0, a1, a2, fun k hk => by rw [hA _ (by omega) (by omega)]; exact a3 k hk⟩
  · rw [hc _ (by omega), hc _ (by omega), hc _ (by omega), hA _ (by omega) (by omega), hA _ (by omega) (by omega)]
    exact h5 p hp
theorem Rst.congr {ar wh fr to does code late c A c' A' : Nat → Int} {P : Nat} (h : Rst ar wh fr to does code late P c A) (hc : ∀ k, k < 35 → c' k = c k) (hA : ∀ k, A' k = A k) : Rst ar wh fr to does code late P c' A' := by
  obtain ⟨g, a, hok, hrel, hl, hm⟩ := h
  have e : A' = A := funext hA
  subst e
  exact ⟨g, a, hok, hrel, hl, hm.congr hc (fun _ _ _ => rfl)⟩
theorem Rx.congr {ar wh fr to does code late c A c' A' : Nat → Int} {P : Nat} {B : Int} (h : Rx ar wh fr to does code late P B c A) (hc : ∀ k, k < 35 → c' k = c k) (hA : ∀ k, A' k = A k) : Rx ar wh fr to does code late P B c' A' := by
  obtain ⟨h1, h2, h3, h4⟩ := h
  have h1' := h1.congr hc hA
  have e : A' = A := funext hA
  subst e
  have g := h1.1
  refine ⟨h1', ?_, fun p hp => ?_, fun q hq => ?_⟩
  · rw [hc 34 (by omega)]
    exact h2
  · rw [hc 34 (by omega), hc _ (by omega), hc _ (by omega)]
    exact h3 p hp
  · rw [hc _ (by omega)]
    exact h4 q hq
/-- the stage's numbers of hours -/
def hG (g : Nat → Int) (k tp cf ff fg : Int) : Nat → Int := fun j => if j = 1 then k else if j = 2 then tp else if j = 3 then cf else if j = 4 then ff else if j = 5 then fg else g j
theorem hG_1 {g : Nat → Int} {k tp cf ff fg : Int} : hG g k tp cf ff fg 1 = k := rfl
theorem hG_2 {g : Nat → Int} {k tp cf ff fg : Int} : hG g k tp cf ff fg 2 = tp := rfl
theorem hG_3 {g : Nat → Int} {k tp cf ff fg : Int} : hG g k tp cf ff fg 3 = cf := rfl
theorem hG_4 {g : Nat → Int} {k tp cf ff fg : Int} : hG g k tp cf ff fg 4 = ff := rfl
theorem hG_5 {g : Nat → Int} {k tp cf ff fg : Int} : hG g k tp cf ff fg 5 = fg := rfl
theorem uG_1 {g : Nat → Int} {k tp cf ff fg x : Int} : up1 (hG g k tp cf ff fg) 1 x = hG g x tp cf ff fg := by
  funext j
  unfold up1 hG
  (repeat' split) <;> first | rfl | omega
theorem uG_2 {g : Nat → Int} {k tp cf ff fg x : Int} : up1 (hG g k tp cf ff fg) 2 x = hG g k x cf ff fg := by
  funext j
  unfold up1 hG
  (repeat' split) <;> first | rfl | omega
theorem uG_3 {g : Nat → Int} {k tp cf ff fg x : Int} : up1 (hG g k tp cf ff fg) 3 x = hG g k tp x ff fg := by
  funext j
  unfold up1 hG
  (repeat' split) <;> first | rfl | omega
theorem uG_4 {g : Nat → Int} {k tp cf ff fg x : Int} : up1 (hG g k tp cf ff fg) 4 x = hG g k tp cf x fg := by
  funext j
  unfold up1 hG
  (repeat' split) <;> first | rfl | omega
theorem uG_5 {g : Nat → Int} {k tp cf ff fg x : Int} : up1 (hG g k tp cf ff fg) 5 x = hG g k tp cf ff x := by
  funext j
  unfold up1 hG
  (repeat' split) <;> first | rfl | omega
theorem hG_0 {g : Nat → Int} {k tp cf ff fg : Int} : up1 (up1 (up1 (up1 (up1 g 1 k) 2 tp) 3 cf) 4 ff) 5 fg = hG g k tp cf ff fg := by
  funext j
  unfold up1 hG
  (repeat' split) <;> first | rfl | omega
/-- the first copy that could not -/
def fzF (f : Nat → Int) : Nat → Nat → Int
  | 0, _ => -1
  | n + 1, p => if f (22 + p) = 0 then p else fzF f n (p + 1)
theorem fzF_rng (f : Nat → Int) : ∀ (n p : Nat), fzF f n p = -1 ∨ (p : Int) ≤ fzF f n p ∧ fzF f n p < p + n
  | 0, _ => Or.inl rfl
  | n + 1, p => by
    unfold fzF
    split
    · exact Or.inr ⟨by omega, by omega⟩
    · rcases fzF_rng f n (p + 1) with h | h
      · exact Or.inl h
      · exact Or.inr ⟨by omega, by omega⟩
def ffF (ff k z : Int) : Int := if ff = -1 ∧ z ≠ -1 then k else ff
def fgF (ff fg z : Int) : Int := if ff = -1 ∧ z ≠ -1 then z else fg
theorem wp_note {d b P : Nat} {k tp : Int} {σ : mw_S} {g : Nat → Int} {Q : Option mw_V → mw_S → Prop} (hb : isRow b) (hb2 : 25 < b) (hP : σ 13 1 = P) (hP3 : P ≤ 3) (k0 : 0 ≤ k) (hf : ∀ j, j < P → 0 ≤ σ b (22 + j) ∧ σ b (22 + j) ≤ 1) : ∀ (n p : Nat) (cf ff fg : Int), p + n = P → 0 ≤ cf → cf + n < 1000000 → (mw_WP d 110 2 [some (jR 22), some (jR b), some (jI p)] [] (cel σ 22 (hG g k tp cf ff fg)) Q ↔ Q none (cel σ 22 (hG g k tp (cf + cnF (σ b) n p) (ffF ff k (fzF (σ b) n p)) (fgF ff fg (fzF (σ b) n p)))))
  | 0, p, cf, ff, fg, h, c0, c1 => by
    unfold cnF fzF ffF fgF
    rw [if_neg (fun q => q.2 rfl), if_neg (fun q => q.2 rfl), Int.add_zero]
    simp (disch := first | (simp only [nlP_n, nlP_I, nlP_R, catP_I, catP_R, st8_0, st8_1, st8_2, st8_3, st8_4, b01, or_true, true_or, eq_self, iRP98, iRP99, iRP86, iRP97, iRP47, iRP57, rcP0, rcP1, rcP3, rcP13, rcP22, rcP25, rcP37, rcP45, rcP55, rcP65, rcP74, rcP76, rcP77, rcP87, rcP88, rcP100]; done) | omega | assumption | (simp (disch := omega) only [cel_s, cel_n, up1_s, up1_n, up1_e, put_out, fill_in]; omega) | (apply isRow_past; omega) | (apply isRow_seek; omega) | (apply isRow_guess; omega)) only [ww110_2, ww110_3, ww110_4, ww110_7i3, ww110_7i13, ww110_7i77, ww110_7i88, ww110_10, ww110_59, hP, ↓iteT, ↓iteF, andT, w32_eq, yL_1, Int.toNat_natCast, Int.toNat_add, Int.toNat_mul, Int.toNat_sub, cel_s, cel_n, up1_cel, upS_cel, cel_cel, up1_s, up1_n, up1_e, rdI_n, rdB_n, Int.reduceMul, Int.reduceDiv, Int.reduceMod, Nat.reduceMul, Nat.reduceSub, Nat.zero_add, Int.zero_add, Nat.add_zero, Int.add_zero, ite_self, Option.toList_some, Option.toList_none, List.cons_append, List.nil_append, rdI_c, and_true, true_and, and_self, not_false_eq_true, not_true_eq_false, if_true, if_false, or_false, false_or, ne_eq, and_false, false_and, rdI_n, Nat.reduceEqDiff, Nat.reduceAdd, Nat.reduceLeDiff, Int.reduceEq, Int.reduceLT, Int.reduceLE, Int.reduceNeg, Int.reduceToNat, Int.reduceAdd, Int.reduceSub, List.append_nil, ki2, ki4, ki5, ki6, ki7, ki8, ki9, ki10, ki11, ki12, ki14, ki15, ki16, ki17, ki18, ki19, ki20, ki21, ki23, ki24, ki27, ki28, ki29, ki30, ki31, ki32, ki33, ki34, ki35, ki36, ki38, ki39, ki47, ki48, ki49, ki50, ki51, ki52, ki57, ki58, ki59, ki60, ki61, ki62, ki66, ki67, ki69, ki70, ki71, ki72, ki73, ki78, ki79, ki80, ki81, ki82, ki83, ki84, ki85, ki86, ki89, ki90, ki91, ki92, ki93, ki94, ki95, ki96, ki97, ki98, ki99, ki101, ki103, ki104, ki105, ki106, ki107, ki108, ki109, ki110, ki111, ki112, ki113, ki114, ki115, ki116, ki117, ki118, ki121, ki122, ki123, ki3000, kb68, kb102, kr26, kr40, kr46, kr56, kw2, kw4, kw5, kw6, kw7, kw8, kw9, kw10, kw11, kw12, kw14, kw15, kw16, kw17, kw18, kw19, kw20, kw21, kw23, kw24, kw27, kw28, kw29, kw30, kw31, kw32, kw33, kw34, kw35, kw36, kw38, kw39, kw41, kw42, kw43, kw44, kw47, kw48, kw49, kw50, kw51, kw52, kw53, kw54, kw57, kw58, kw59, kw60, kw61, kw62, kw63, kw64, kw66, kw67, kw68, kw69, kw70, kw71, kw72, kw73, kw75, kw78, kw79, kw80, kw81, kw82, kw83, kw84, kw85, kw86, kw89, kw90, kw91, kw92, kw93, kw94, kw95, kw96, kw97, kw98, kw99, kw101, kw102, kw103, kw104, kw105, kw106, kw107, kw108, kw109, kw110, kw111, kw112, kw113, kw114, kw115, kw116, kw117, kw118, kw119, kw120, kw121, kw122, kw123, kw124]
  | n + 1, p, cf, ff, fg, h, c0, c1 => by
    have e1 := hb.rI
    have e3 := hb.2.2
    have ih := fun cf ff fg => wp_note (d := d) (tp := tp) (g := g) (Q := Q) hb hb2 hP hP3 k0 hf n (p + 1) cf ff fg (by omega)
    simp only [ic1] at ih
    have hp := hf p (by omega)
    unfold cnF fzF
    by_cases c : σ b (22 + p) = 0
    · rw [c, if_pos rfl, show cf + (1 - 0 + cnF (σ b) n (p + 1)) = cf + 1 + cnF (σ b) n (p + 1) by omega]
      have np : ¬ ((p : Int) = -1) := by omega
      by_cases c2 : ff = -1
      · have ihq := ih (cf + 1) k p (by omega) (by omega)
        have e4 : ffF k k (fzF (σ b) n (p + 1)) = k := by unfold ffF; rw [if_neg (by omega)]
        have e5 : fgF k p (fzF (σ b) n (p + 1)) = p := by unfold fgF; rw [if_neg (by omega)]
        rw [e4, e5] at ihq
        have e6 : ffF ff k p = k := by unfold ffF; rw [if_pos ⟨c2, np⟩]
        have e7 : fgF ff fg p = p := by unfold fgF; rw [if_pos ⟨c2, np⟩]
        rw [e6, e7]
        simp (disch := first | (simp only [nlP_n, nlP_I, nlP_R, catP_I, catP_R, st8_0, st8_1, st8_2, st8_3, st8_4, b01, or_true, true_or, eq_self, iRP98, iRP99, iRP86, iRP97, iRP47, iRP57, rcP0, rcP1, rcP3, rcP13, rcP22, rcP25, rcP37, rcP45, rcP55, rcP65, rcP74, rcP76, rcP77, rcP87, rcP88, rcP100]; done) | omega | assumption | (simp (disch := omega) only [cel_s, cel_n, up1_s, up1_n, up1_e, put_out, fill_in]; omega) | (apply isRow_past; omega) | (apply isRow_seek; omega) | (apply isRow_guess; omega)) only [ww110_2, ww110_3, ww110_4, ww110_7i3, ww110_7i13, ww110_7i77, ww110_7i88, ww110_10, ww110_13, ww110_14, ww110_16, ww110_17, ww110_18, ww110_19, ww110_22, ww110_23, ww110_24, ww110_27, ww110_28, ww110_29, ww110_32, ww110_33, ww110_36, ww110_37, ww110_40, ww110_41, ww110_42, ww110_45, ww110_48, ww110_49, ww110_50, ww110_53, hP, c, hG_1, hG_3, hG_4, uG_3, uG_4, uG_5, ↓iteT, ↓iteF, andT, w32_eq, yL_1, Int.toNat_natCast, Int.toNat_add, Int.toNat_mul, Int.toNat_sub, cel_s, cel_n, up1_cel, upS_cel, cel_cel, up1_s, up1_n, up1_e, rdI_n, rdB_n, Int.reduceMul, Int.reduceDiv, Int.reduceMod, Nat.reduceMul, Nat.reduceSub, Nat.zero_add, Int.zero_add, Nat.add_zero, Int.add_zero, ite_self, Option.toList_some, Option.toList_none, List.cons_append, List.nil_append, rdI_c, and_true, true_and, and_self, not_false_eq_true, not_true_eq_false, if_true, if_false, or_false, false_or, ne_eq, and_false, false_and, rdI_n, Nat.reduceEqDiff, Nat.reduceAdd, Nat.reduceLeDiff, Int.reduceEq, Int.reduceLT, Int.reduceLE, Int.reduceNeg, Int.reduceToNat, Int.reduceAdd, Int.reduceSub, List.append_nil, ki2, ki4, ki5, ki6, ki7, ki8, ki9, ki10, ki11, ki12, ki14, ki15, ki16, ki17, ki18, ki19, ki20, ki21, ki23, ki24, ki27, ki28, ki29, ki30, ki31, ki32, ki33, ki34, ki35, ki36, ki38, ki39, ki47, ki48, ki49, ki50, ki51, ki52, ki57, ki58, ki59, ki60, ki61, ki62, ki66, ki67, ki69, ki70, ki71, ki72, ki73, ki78, ki79, ki80, ki81, ki82, ki83, ki84, ki85, ki86, ki89, ki90, ki91, ki92, ki93, ki94, ki95, ki96, ki97, ki98, ki99, ki101, ki103, ki104, ki105, ki106, ki107, ki108, ki109, ki110, ki111, ki112, ki113, ki114, ki115, ki116, ki117, ki118, ki121, ki122, ki123, ki3000, kb68, kb102, kr26, kr40, kr46, kr56, kw2, kw4, kw5, kw6, kw7, kw8, kw9, kw10, kw11, kw12, kw14, kw15, kw16, kw17, kw18, kw19, kw20, kw21, kw23, kw24, kw27, kw28, kw29, kw30, kw31, kw32, kw33, kw34, kw35, kw36, kw38, kw39, kw41, kw42, kw43, kw44, kw47, kw48, kw49, kw50, kw51, kw52, kw53, kw54, kw57, kw58, kw59, kw60, kw61, kw62, kw63, kw64, kw66, kw67, kw68, kw69, kw70, kw71, kw72, kw73, kw75, kw78, kw79, kw80, kw81, kw82, kw83, kw84, kw85, kw86, kw89, kw90, kw91, kw92, kw93, kw94, kw95, kw96, kw97, kw98, kw99, kw101, kw102, kw103, kw104, kw105, kw106, kw107, kw108, kw109, kw110, kw111, kw112, kw113, kw114, kw115, kw116, kw117, kw118, kw119, kw120, kw121, kw122, kw123, kw124]
        rw [ww110_56]
        exact ihq
      · have ihq := ih (cf + 1) ff fg (by omega) (by omega)
        have e4 : ∀ z, ffF ff k z = ff := fun z => by unfold ffF; rw [if_neg (fun q => c2 q.1)]
        have e5 : ∀ z, fgF ff fg z = fg := fun z => by unfold fgF; rw [if_neg (fun q => c2 q.1)]
        rw [e4, e5] at ihq ⊢
        simp (disch := first | (simp only [nlP_n, nlP_I, nlP_R, catP_I, catP_R, st8_0, st8_1, st8_2, st8_3, st8_4, b01, or_true, true_or, eq_self, iRP98, iRP99, iRP86, iRP97, iRP47, iRP57, rcP0, rcP1, rcP3, rcP13, rcP22, rcP25, rcP37, rcP45, rcP55, rcP65, rcP74, rcP76, rcP77, rcP87, rcP88, rcP100]; done) | omega | assumption | (simp (disch := omega) only [cel_s, cel_n, up1_s, up1_n, up1_e, put_out, fill_in]; omega) | (apply isRow_past; omega) | (apply isRow_seek; omega) | (apply isRow_guess; omega)) only [ww110_2, ww110_3, ww110_4, ww110_7i3, ww110_7i13, ww110_7i77, ww110_7i88, ww110_10, ww110_13, ww110_14, ww110_16, ww110_17, ww110_18, ww110_19, ww110_22, ww110_23, ww110_24, ww110_27, ww110_28, ww110_29, ww110_32, ww110_33, ww110_36, ww110_37, ww110_40, ww110_41, ww110_42, ww110_45, ww110_48, ww110_49, ww110_50, ww110_53, hP, c, hG_1, hG_3, hG_4, uG_3, uG_4, uG_5, ↓iteT, ↓iteF, andT, w32_eq, yL_1, Int.toNat_natCast, Int.toNat_add, Int.toNat_mul, Int.toNat_sub, cel_s, cel_n, up1_cel, upS_cel, cel_cel, up1_s, up1_n, up1_e, rdI_n, rdB_n, Int.reduceMul, Int.reduceDiv, Int.reduceMod, Nat.reduceMul, Nat.reduceSub, Nat.zero_add, Int.zero_add, Nat.add_zero, Int.add_zero, ite_self, Option.toList_some, Option.toList_none, List.cons_append, List.nil_append, rdI_c, and_true, true_and, and_self, not_false_eq_true, not_true_eq_false, if_true, if_false, or_false, false_or, ne_eq, and_false, false_and, rdI_n, Nat.reduceEqDiff, Nat.reduceAdd, Nat.reduceLeDiff, Int.reduceEq, Int.reduceLT, Int.reduceLE, Int.reduceNeg, Int.reduceToNat, Int.reduceAdd, Int.reduceSub, List.append_nil, ki2, ki4, ki5, ki6, ki7, ki8, ki9, ki10, ki11, ki12, ki14, ki15, ki16, ki17, ki18, ki19, ki20, ki21, ki23, ki24, ki27, ki28, ki29, ki30, ki31, ki32, ki33, ki34, ki35, ki36, ki38, ki39, ki47, ki48, ki49, ki50, ki51, ki52, ki57, ki58, ki59, ki60, ki61, ki62, ki66, ki67, ki69, ki70, ki71, ki72, ki73, ki78, ki79, ki80, ki81, ki82, ki83, ki84, ki85, ki86, ki89, ki90, ki91, ki92, ki93, ki94, ki95, ki96, ki97, ki98, ki99, ki101, ki103, ki104, ki105, ki106, ki107, ki108, ki109, ki110, ki111, ki112, ki113, ki114, ki115, ki116, ki117, ki118, ki121, ki122, ki123, ki3000, kb68, kb102, kr26, kr40, kr46, kr56, kw2, kw4, kw5, kw6, kw7, kw8, kw9, kw10, kw11, kw12, kw14, kw15, kw16, kw17, kw18, kw19, kw20, kw21, kw23, kw24, kw27, kw28, kw29, kw30, kw31, kw32, kw33, kw34, kw35, kw36, kw38, kw39, kw41, kw42, kw43, kw44, kw47, kw48, kw49, kw50, kw51, kw52, kw53, kw54, kw57, kw58, kw59, kw60, kw61, kw62, kw63, kw64, kw66, kw67, kw68, kw69, kw70, kw71, kw72, kw73, kw75, kw78, kw79, kw80, kw81, kw82, kw83, kw84, kw85, kw86, kw89, kw90, kw91, kw92, kw93, kw94, kw95, kw96, kw97, kw98, kw99, kw101, kw102, kw103, kw104, kw105, kw106, kw107, kw108, kw109, kw110, kw111, kw112, kw113, kw114, kw115, kw116, kw117, kw118, kw119, kw120, kw121, kw122, kw123, kw124]
        rw [ww110_56]
        exact ihq
    · have e : σ b (22 + p) = 1 := by omega
      rw [if_neg c, e, show cf + (1 - 1 + cnF (σ b) n (p + 1)) = cf + cnF (σ b) n (p + 1) by omega]
      have ihq := ih cf ff fg (by omega) (by omega)
      simp (disch := first | (simp only [nlP_n, nlP_I, nlP_R, catP_I, catP_R, st8_0, st8_1, st8_2, st8_3, st8_4, b01, or_true, true_or, eq_self, iRP98, iRP99, iRP86, iRP97, iRP47, iRP57, rcP0, rcP1, rcP3, rcP13, rcP22, rcP25, rcP37, rcP45, rcP55, rcP65, rcP74, rcP76, rcP77, rcP87, rcP88, rcP100]; done) | omega | assumption | (simp (disch := omega) only [cel_s, cel_n, up1_s, up1_n, up1_e, put_out, fill_in]; omega) | (apply isRow_past; omega) | (apply isRow_seek; omega) | (apply isRow_guess; omega)) only [ww110_2, ww110_3, ww110_4, ww110_7i3, ww110_7i13, ww110_7i77, ww110_7i88, ww110_10, ww110_13, ww110_14, ww110_16, ww110_17, ww110_18, ww110_19, ww110_22, ww110_23, ww110_24, ww110_27, ww110_28, ww110_29, ww110_32, ww110_33, ww110_36, ww110_37, ww110_40, ww110_41, ww110_42, ww110_45, ww110_48, ww110_49, ww110_50, ww110_53, hP, e, ↓iteT, ↓iteF, andT, w32_eq, yL_1, Int.toNat_natCast, Int.toNat_add, Int.toNat_mul, Int.toNat_sub, cel_s, cel_n, up1_cel, upS_cel, cel_cel, up1_s, up1_n, up1_e, rdI_n, rdB_n, Int.reduceMul, Int.reduceDiv, Int.reduceMod, Nat.reduceMul, Nat.reduceSub, Nat.zero_add, Int.zero_add, Nat.add_zero, Int.add_zero, ite_self, Option.toList_some, Option.toList_none, List.cons_append, List.nil_append, rdI_c, and_true, true_and, and_self, not_false_eq_true, not_true_eq_false, if_true, if_false, or_false, false_or, ne_eq, and_false, false_and, rdI_n, Nat.reduceEqDiff, Nat.reduceAdd, Nat.reduceLeDiff, Int.reduceEq, Int.reduceLT, Int.reduceLE, Int.reduceNeg, Int.reduceToNat, Int.reduceAdd, Int.reduceSub, List.append_nil, ki2, ki4, ki5, ki6, ki7, ki8, ki9, ki10, ki11, ki12, ki14, ki15, ki16, ki17, ki18, ki19, ki20, ki21, ki23, ki24, ki27, ki28, ki29, ki30, ki31, ki32, ki33, ki34, ki35, ki36, ki38, ki39, ki47, ki48, ki49, ki50, ki51, ki52, ki57, ki58, ki59, ki60, ki61, ki62, ki66, ki67, ki69, ki70, ki71, ki72, ki73, ki78, ki79, ki80, ki81, ki82, ki83, ki84, ki85, ki86, ki89, ki90, ki91, ki92, ki93, ki94, ki95, ki96, ki97, ki98, ki99, ki101, ki103, ki104, ki105, ki106, ki107, ki108, ki109, ki110, ki111, ki112, ki113, ki114, ki115, ki116, ki117, ki118, ki121, ki122, ki123, ki3000, kb68, kb102, kr26, kr40, kr46, kr56, kw2, kw4, kw5, kw6, kw7, kw8, kw9, kw10, kw11, kw12, kw14, kw15, kw16, kw17, kw18, kw19, kw20, kw21, kw23, kw24, kw27, kw28, kw29, kw30, kw31, kw32, kw33, kw34, kw35, kw36, kw38, kw39, kw41, kw42, kw43, kw44, kw47, kw48, kw49, kw50, kw51, kw52, kw53, kw54, kw57, kw58, kw59, kw60, kw61, kw62, kw63, kw64, kw66, kw67, kw68, kw69, kw70, kw71, kw72, kw73, kw75, kw78, kw79, kw80, kw81, kw82, kw83, kw84, kw85, kw86, kw89, kw90, kw91, kw92, kw93, kw94, kw95, kw96, kw97, kw98, kw99, kw101, kw102, kw103, kw104, kw105, kw106, kw107, kw108, kw109, kw110, kw111, kw112, kw113, kw114, kw115, kw116, kw117, kw118, kw119, kw120, kw121, kw122, kw123, kw124]
      rw [ww110_56]
      exact ihq
theorem cl_note {d b P : Nat} {k tp cf ff fg : Int} {σ : mw_S} {g : Nat → Int} {Q : Option mw_V → mw_S → Prop} (hb : isRow b) (hb2 : 25 < b) (hP : σ 13 1 = P) (hP3 : P ≤ 3) (k0 : 0 ≤ k) (hf : ∀ j, j < P → 0 ≤ σ b (22 + j) ∧ σ b (22 + j) ≤ 1) (c0 : 0 ≤ cf) (c1 : cf + P < 1000000) : mw_Call (d + 1) 110 [jR 22, jR b] (cel σ 22 (hG g k tp cf ff fg)) Q ↔ Q none (cel σ 22 (hG g k tp (cf + cnF (σ b) P 0) (ffF ff k (fzF (σ b) P 0)) (fgF ff fg (fzF (σ b) P 0)))) := by
  have h := wp_note (d := d) (tp := tp) (g := g) (Q := Q) hb hb2 hP hP3 k0 hf P 0 cf ff fg (by omega) c0 (by omega)
  rw [ee110]
  simp (disch := first | (simp only [nlP_n, nlP_I, nlP_R, catP_I, catP_R, st8_0, st8_1, st8_2, st8_3, st8_4, b01, or_true, true_or, eq_self, iRP98, iRP99, iRP86, iRP97, iRP47, iRP57, rcP0, rcP1, rcP3, rcP13, rcP22, rcP25, rcP37, rcP45, rcP55, rcP65, rcP74, rcP76, rcP77, rcP87, rcP88, rcP100]; done) | omega | assumption | (simp (disch := omega) only [cel_s, cel_n, up1_s, up1_n, up1_e, put_out, fill_in]; omega) | (apply isRow_past; omega) | (apply isRow_seek; omega) | (apply isRow_guess; omega)) only [ww110_0, ww110_1, ↓iteT, ↓iteF, andT, w32_eq, yL_1, Int.toNat_natCast, Int.toNat_add, Int.toNat_mul, Int.toNat_sub, cel_s, cel_n, up1_cel, upS_cel, cel_cel, up1_s, up1_n, up1_e, rdI_n, rdB_n, Int.reduceMul, Int.reduceDiv, Int.reduceMod, Nat.reduceMul, Nat.reduceSub, Nat.zero_add, Int.zero_add, Nat.add_zero, Int.add_zero, ite_self, Option.toList_some, Option.toList_none, List.cons_append, List.nil_append, rdI_c, and_true, true_and, and_self, not_false_eq_true, not_true_eq_false, if_true, if_false, or_false, false_or, ne_eq, and_false, false_and, rdI_n, Nat.reduceEqDiff, Nat.reduceAdd, Nat.reduceLeDiff, Int.reduceEq, Int.reduceLT, Int.reduceLE, Int.reduceNeg, Int.reduceToNat, Int.reduceAdd, Int.reduceSub, List.append_nil, ki2, ki4, ki5, ki6, ki7, ki8, ki9, ki10, ki11, ki12, ki14, ki15, ki16, ki17, ki18, ki19, ki20, ki21, ki23, ki24, ki27, ki28, ki29, ki30, ki31, ki32, ki33, ki34, ki35, ki36, ki38, ki39, ki47, ki48, ki49, ki50, ki51, ki52, ki57, ki58, ki59, ki60, ki61, ki62, ki66, ki67, ki69, ki70, ki71, ki72, ki73, ki78, ki79, ki80, ki81, ki82, ki83, ki84, ki85, ki86, ki89, ki90, ki91, ki92, ki93, ki94, ki95, ki96, ki97, ki98, ki99, ki101, ki103, ki104, ki105, ki106, ki107, ki108, ki109, ki110, ki111, ki112, ki113, ki114, ki115, ki116, ki117, ki118, ki121, ki122, ki123, ki3000, kb68, kb102, kr26, kr40, kr46, kr56, kw2, kw4, kw5, kw6, kw7, kw8, kw9, kw10, kw11, kw12, kw14, kw15, kw16, kw17, kw18, kw19, kw20, kw21, kw23, kw24, kw27, kw28, kw29, kw30, kw31, kw32, kw33, kw34, kw35, kw36, kw38, kw39, kw41, kw42, kw43, kw44, kw47, kw48, kw49, kw50, kw51, kw52, kw53, kw54, kw57, kw58, kw59, kw60, kw61, kw62, kw63, kw64, kw66, kw67, kw68, kw69, kw70, kw71, kw72, kw73, kw75, kw78, kw79, kw80, kw81, kw82, kw83, kw84, kw85, kw86, kw89, kw90, kw91, kw92, kw93, kw94, kw95, kw96, kw97, kw98, kw99, kw101, kw102, kw103, kw104, kw105, kw106, kw107, kw108, kw109, kw110, kw111, kw112, kw113, kw114, kw115, kw116, kw117, kw118, kw119, kw120, kw121, kw122, kw123, kw124]
  exact h
/-- hours done on a row of the class: steps, passed, could not, first failure's step and copy, the row -/
def hrF (ar wh fr to does code late v : Nat → Int) (P : Nat) : Nat → Nat → Int → Int → Int → Int → (Nat → Int) → Int × Int × Int × Int × Int × (Nat → Int)
  | 0, i, tp, cf, ff, fg, c => (i, tp, cf, ff, fg, c)
  | n + 1, i, tp, cf, ff, fg, c => if 0 ≤ v i ∧ v i < nin P then
      hrF ar wh fr to does code late v P n (i + 1) (tp + (advF ar wh fr to does code late P (v i) c).1) (cf + cnF (advF ar wh fr to does code late P (v i) c).2 P 0) (ffF ff i (fzF (advF ar wh fr to does code late P (v i) c).2 P 0)) (fgF ff fg (fzF (advF ar wh fr to does code late P (v i) c).2 P 0)) (advF ar wh fr to does code late P (v i) c).2
    else (i, tp, cf, ff, fg, c)
theorem cel_J2 {σ : mw_S} {b : Nat} {N W N1 W1 G c c' : Nat → Int} (hb : 25 < b) : cel (cel (cel (cel (cel (cel (cel σ 24 N) 23 W) 22 G) b c) 24 N1) 23 W1) b c' = cel (cel (cel (cel σ 24 N1) 23 W1) 22 G) b c' := by
  funext z
  unfold cel
  by_cases h1 : z = b
  · rw [if_pos h1, if_pos h1]
  · rw [if_neg h1, if_neg h1]
    by_cases h2 : z = 23
    · subst h2
      simp [h1]
    · rw [if_neg h2]
      by_cases h3 : z = 24
      · subst h3
        simp [h1]
      · rw [if_neg h3]
        by_cases h4 : z = 22
        · rw [if_neg h1, if_pos h4, if_pos h4]
        · rw [if_neg h1, if_neg h4, if_neg h2, if_neg h3, if_neg h4, if_neg h2, if_neg h3]
theorem cel_b22 {σ : mw_S} {b : Nat} {G c : Nat → Int} (hb : 25 < b) : cel (cel σ b c) 22 G = cel (cel σ 22 G) b c := by
  funext z
  unfold cel
  by_cases h1 : z = 22
  · rw [if_pos h1, if_neg (by omega), if_pos h1]
  · rw [if_neg h1]
    by_cases h2 : z = b
    · rw [if_pos h2, if_pos h2]
    · rw [if_neg h2, if_neg h2, if_neg h1]
theorem cel_sw2 {σ : mw_S} {b : Nat} {G G' c : Nat → Int} (hb : 25 < b) : cel (cel (cel σ 22 G) b c) 22 G' = cel (cel σ 22 G') b c := cel_sw (by omega)
theorem wp_hours {b P t : Nat} {sz : Nat} {σ : mw_S} {g : Nat → Int} (hb : isRow b) (hb2 : 45 < b) (ht : t < 4) (hsz : σ 38 t = sz) (hsz2 : sz ≤ 40) (hok : ∀ i, i < sz → in64 (σ (41 + t) i)) : ∀ (n i : Nat) (tp cf ff fg B : Int) (c A N W : Nat → Int) (l5 l6 : Option mw_V), i + n = sz → 0 ≤ tp → tp ≤ 3 * i → 0 ≤ cf → cf ≤ 3 * i → B + n < 1000000 → Rx (σ 13) (σ 17) (σ 18) (σ 19) (σ 20) (σ 21) (σ 15) P B c A → ∃ N' W', ∀ (d : Nat) (Q : Option mw_V → mw_S → Prop), mw_WP (d + 5) 109 28 [some (jR 22), some (jR b), some (jR 37), some (jI t), some (jI i), l5, l6] [] (cel (cel (cel (cel σ 24 N) 23 W) 22 (hG g i tp cf ff fg)) b c) Q ↔ Q none (cel (cel (cel (cel σ 24 N') 23 W') 22 (hG g (hrF (σ 13) (σ 17) (σ 18) (σ 19) (σ 20) (σ 21) (σ 15) (σ (41 + t)) P n i tp cf ff fg c).1 (hrF (σ 13) (σ 17) (σ 18) (σ 19) (σ 20) (σ 21) (σ 15) (σ (41 + t)) P n i tp cf ff fg c).2.1 (hrF (σ 13) (σ 17) (σ 18) (σ 19) (σ 20) (σ 21) (σ 15) (σ (41 + t)) P n i tp cf ff fg c).2.2.1 (hrF (σ 13) (σ 17) (σ 18) (σ 19) (σ 20) (σ 21) (σ 15) (σ (41 + t)) P n i tp cf ff fg c).2.2.2.1 (hrF (σ 13) (σ 17) (σ 18) (σ 19) (σ 20) (σ 21) (σ 15) (σ (41 + t)) P n i tp cf ff fg c).2.2.2.2.1)) b (hrF (σ 13) (σ 17) (σ 18) (σ 19) (σ 20) (σ 21) (σ 15) (σ (41 + t)) P n i tp cf ff fg c).2.2.2.2.2)
  | 0, i, tp, cf, ff, fg, B, c, A, N, W, l5, l6, h, t0, t1, c0, c1, hB, hx => by
    refine ⟨N, W, fun d Q => ?_⟩
    unfold hrF
    obtain rfl : i = sz := by omega
    simp (disch := first | (simp only [nlP_n, nlP_I, nlP_R, catP_I, catP_R, st8_0, st8_1, st8_2, st8_3, st8_4, b01, or_true, true_or, eq_self, iRP98, iRP99, iRP86, iRP97, iRP47, iRP57, rcP0, rcP1, rcP3, rcP13, rcP22, rcP25, rcP37, rcP45, rcP55, rcP65, rcP74, rcP76, rcP77, rcP87, rcP88, rcP100]; done) | omega | assumption | (simp (disch := omega) only [cel_s, cel_n, up1_s, up1_n, up1_e, put_out, fill_in]; omega) | (apply isRow_past; omega) | (apply isRow_seek; omega) | (apply isRow_guess; omega)) only [ww109_28, ww109_30, ww109_31, ww109_32, ww109_35, ww109_95, cl_size, hsz, ↓iteT, ↓iteF, andT, w32_eq, yL_1, Int.toNat_natCast, Int.toNat_add, Int.toNat_mul, Int.toNat_sub, cel_s, cel_n, up1_cel, upS_cel, cel_cel, up1_s, up1_n, up1_e, rdI_n, rdB_n, Int.reduceMul, Int.reduceDiv, Int.reduceMod, Nat.reduceMul, Nat.reduceSub, Nat.zero_add, Int.zero_add, Nat.add_zero, Int.add_zero, ite_self, Option.toList_some, Option.toList_none, List.cons_append, List.nil_append, rdI_c, and_true, true_and, and_self, not_false_eq_true, not_true_eq_false, if_true, if_false, or_false, false_or, ne_eq, and_false, false_and, rdI_n, Nat.reduceEqDiff, Nat.reduceAdd, Nat.reduceLeDiff, Int.reduceEq, Int.reduceLT, Int.reduceLE, Int.reduceNeg, Int.reduceToNat, Int.reduceAdd, Int.reduceSub, List.append_nil, ki2, ki4, ki5, ki6, ki7, ki8, ki9, ki10, ki11, ki12, ki14, ki15, ki16, ki17, ki18, ki19, ki20, ki21, ki23, ki24, ki27, ki28, ki29, ki30, ki31, ki32, ki33, ki34, ki35, ki36, ki38, ki39, ki47, ki48, ki49, ki50, ki51, ki52, ki57, ki58, ki59, ki60, ki61, ki62, ki66, ki67, ki69, ki70, ki71, ki72, ki73, ki78, ki79, ki80, ki81, ki82, ki83, ki84, ki85, ki86, ki89, ki90, ki91, ki92, ki93, ki94, ki95, ki96, ki97, ki98, ki99, ki101, ki103, ki104, ki105, ki106, ki107, ki108, ki109, ki110, ki111, ki112, ki113, ki114, ki115, ki116, ki117, ki118, ki121, ki122, ki123, ki3000, kb68, kb102, kr26, kr40, kr46, kr56, kw2, kw4, kw5, kw6, kw7, kw8, kw9, kw10, kw11, kw12, kw14, kw15, kw16, kw17, kw18, kw19, kw20, kw21, kw23, kw24, kw27, kw28, kw29, kw30, kw31, kw32, kw33, kw34, kw35, kw36, kw38, kw39, kw41, kw42, kw43, kw44, kw47, kw48, kw49, kw50, kw51, kw52, kw53, kw54, kw57, kw58, kw59, kw60, kw61, kw62, kw63, kw64, kw66, kw67, kw68, kw69, kw70, kw71, kw72, kw73, kw75, kw78, kw79, kw80, kw81, kw82, kw83, kw84, kw85, kw86, kw89, kw90, kw91, kw92, kw93, kw94, kw95, kw96, kw97, kw98, kw99, kw101, kw102, kw103, kw104, kw105, kw106, kw107, kw108, kw109, kw110, kw111, kw112, kw113, kw114, kw115, kw116, kw117, kw118, kw119, kw120, kw121, kw122, kw123, kw124]
  | n + 1, i, tp, cf, ff, fg, B, c, A, N, W, l5, l6, h, t0, t1, c0, c1, hB, hx => by
    have hi := hok i (by omega)
    obtain ⟨hi0, hi1⟩ := hi
    obtain ⟨⟨g1, g2, g3, g4, g5, g6⟩, -⟩ := hx.1
    have hD := fun (Q' : Option mw_V → mw_S → Prop) (d' : Nat) (s : mw_S) (hs : s 13 1 = P) => cl_areD (d := d') (σ := s) (Q := Q') (v := σ (41 + t) i) (P := P) hs g2 hi0 hi1
    have hsi : (i : Int) < σ 38 t := by omega
    unfold hrF
    by_cases cd : 0 ≤ σ (41 + t) i ∧ σ (41 + t) i < nin P
    · rw [if_pos cd]
      have r := nin_rng P
      have hz := zI_1 (x := σ (41 + t) i) (by omega) (by omega)
      have hx' := hx.step (x := σ (41 + t) i) cd.1
      obtain ⟨⟨q1, q1b, q1c, q1d⟩, -⟩ := st_rel (x := σ (41 + t) i) hx.1 cd.1
      have hst := hx.2.1
      obtain ⟨W1, N1, hadv⟩ := cl_advance (b := b) (P := P) (x := σ (41 + t) i) (σ := cel (cel (cel (cel σ 24 N) 23 W) 22 (hG g i tp cf ff fg)) b c) hb (by omega) (by simp (disch := omega) only [cel_s, cel_n, up1_s, up1_n, up1_e, put_in, put_out, fill_in, fill_out, Nat.add_sub_cancel_left, Int.toNat_natCast]; exact g1) g2 (by simp (disch := omega) only [cel_s, cel_n, up1_s, up1_n, up1_e, put_in, put_out, fill_in, fill_out, Nat.add_sub_cancel_left, Int.toNat_natCast]; omega) (by simp (disch := omega) only [cel_s, cel_n, up1_s, up1_n, up1_e, put_in, put_out, fill_in, fill_out, Nat.add_sub_cancel_left, Int.toNat_natCast]; omega) (by simp (disch := omega) only [cel_s, cel_n, up1_s, up1_n, up1_e, put_in, put_out, fill_in, fill_out, Nat.add_sub_cancel_left, Int.toNat_natCast]; omega) (by simp (disch := omega) only [cel_s, cel_n, up1_s, up1_n, up1_e, put_in, put_out, fill_in, fill_out, Nat.add_sub_cancel_left, Int.toNat_natCast]; omega) (by simp (disch := omega) only [cel_s, cel_n, up1_s, up1_n, up1_e, put_in, put_out, fill_in, fill_out, Nat.add_sub_cancel_left, Int.toNat_natCast]; exact hx.1.2.2.1) (by simp (disch := omega) only [cel_s, cel_n, up1_s, up1_n, up1_e, put_in, put_out, fill_in, fill_out, Nat.add_sub_cancel_left, Int.toNat_natCast]; exact fun p hp => (hx.1.2.2.2.2.1 p hp).2) cd.1 (by omega) (by simp (disch := omega) only [cel_s, cel_n, up1_s, up1_n, up1_e, put_in, put_out, fill_in, fill_out, Nat.add_sub_cancel_left, Int.toNat_natCast]; exact hx.1.2.2.2.2.2.rowI) (by simp (disch := omega) only [cel_s, cel_n, up1_s, up1_n, up1_e, put_in, put_out, fill_in, fill_out, Nat.add_sub_cancel_left, Int.toNat_natCast]; omega) (by simp (disch := omega) only [cel_s, cel_n, up1_s, up1_n, up1_e, put_in, put_out, fill_in, fill_out, Nat.add_sub_cancel_left, Int.toNat_natCast]; omega)
      simp (disch := omega) only [cel_s, cel_n, cel_J2] at hadv
      generalize hap : (advF (σ 13) (σ 17) (σ 18) (σ 19) (σ 20) (σ 21) (σ 15) P (σ (41 + t) i) c).1 = ap at *
      generalize hac : (advF (σ 13) (σ 17) (σ 18) (σ 19) (σ 20) (σ 21) (σ 15) P (σ (41 + t) i) c).2 = ac at *
      have hfl : ∀ j, j < P → 0 ≤ ac (22 + j) ∧ ac (22 + j) ≤ 1 := fun j hj => by
        have := hx'.1.2.2.2.2.2.2.2.2.2 j (by omega)
        exact ⟨this.2.2.2.2.2.2.1, this.2.2.2.2.2.2.2⟩
      have hcn := cnF_rng (f := ac) P 0 (fun k _ hk => hfl k (by omega))
      have hno := fun (Q' : Option mw_V → mw_S → Prop) (d' : Nat) => cl_note (d := d') (b := b) (P := P) (k := i) (tp := tp + ap) (cf := cf) (ff := ff) (fg := fg) (σ := cel (cel (cel σ 24 N1) 23 W1) b ac) (g := g) (Q := Q') hb (by omega) (by simp (disch := omega) only [cel_s, cel_n, up1_s, up1_n, up1_e, put_in, put_out, fill_in, fill_out, Nat.add_sub_cancel_left, Int.toNat_natCast]; exact g1) g2 (by omega) (by simp (disch := omega) only [cel_s, cel_n, up1_s, up1_n, up1_e, put_in, put_out, fill_in, fill_out, Nat.add_sub_cancel_left, Int.toNat_natCast]; exact hfl) c0 (by omega)
      simp (disch := omega) only [cel_s] at hno
      simp only [fun G => cel_b22 (σ := cel (cel σ 24 N1) 23 W1) (b := b) (G := G) (c := ac) (by omega)] at hno
      obtain ⟨N', W', ih⟩ := wp_hours (σ := σ) (g := g) hb hb2 ht hsz hsz2 hok n (i + 1) (tp + ap) (cf + cnF ac P 0) (ffF ff i (fzF ac P 0)) (fgF ff fg (fzF ac P 0)) (B + 1) ac (stM (σ 13) (σ 17) (σ 18) (σ 19) (σ 20) (σ 21) P (σ (41 + t) i) A) N1 W1 (some (jL (σ (41 + t) i))) none (by omega) (by omega) (by omega) (by omega) (by omega) (by omega) hx'
      refine ⟨N', W', fun d Q => ?_⟩
      have ihq := ih d Q
      simp only [ic1] at ihq
      simp (disch := first | (simp only [nlP_n, nlP_I, nlP_R, catP_I, catP_R, st8_0, st8_1, st8_2, st8_3, st8_4, b01, or_true, true_or, eq_self, iRP98, iRP99, iRP86, iRP97, iRP47, iRP57, rcP0, rcP1, rcP3, rcP13, rcP22, rcP25, rcP37, rcP45, rcP55, rcP65, rcP74, rcP76, rcP77, rcP87, rcP88, rcP100]; done) | omega | assumption | (simp (disch := omega) only [cel_s, cel_n, up1_s, up1_n, up1_e, put_out, fill_in]; omega) | (apply isRow_past; omega) | (apply isRow_seek; omega) | (apply isRow_guess; omega)) only [ww109_28, ww109_30, ww109_31, ww109_32, ww109_35, ww109_38, ww109_39, ww109_40, ww109_42, ww109_45, ww109_47, ww109_48, ww109_50, ww109_53, ww109_56, ww109_57, ww109_58, ww109_59, ww109_62, ww109_63, ww109_64, ww109_66, ww109_67, ww109_70, ww109_71, ww109_74, ww109_75, ww109_76, ww109_79, ww109_80, ww109_81, ww109_84, ww109_85, ww109_86, ww109_89, cl_size, hsz, cl_at, hD, hz, hadv, hno, hG_1, hG_2, uG_1, uG_2, cel_sw2, ↓iteT, ↓iteF, andT, w32_eq, yL_1, Int.toNat_natCast, Int.toNat_add, Int.toNat_mul, Int.toNat_sub, cel_s, cel_n, up1_cel, upS_cel, cel_cel, up1_s, up1_n, up1_e, rdI_n, rdB_n, Int.reduceMul, Int.reduceDiv, Int.reduceMod, Nat.reduceMul, Nat.reduceSub, Nat.zero_add, Int.zero_add, Nat.add_zero, Int.add_zero, ite_self, Option.toList_some, Option.toList_none, List.cons_append, List.nil_append, rdI_c, and_true, true_and, and_self, not_false_eq_true, not_true_eq_false, if_true, if_false, or_false, false_or, ne_eq, and_false, false_and, rdI_n, Nat.reduceEqDiff, Nat.reduceAdd, Nat.reduceLeDiff, Int.reduceEq, Int.reduceLT, Int.reduceLE, Int.reduceNeg, Int.reduceToNat, Int.reduceAdd, Int.reduceSub, List.append_nil, ki2, ki4, ki5, ki6, ki7, ki8, ki9, ki10, ki11, ki12, ki14, ki15, ki16, ki17, ki18, ki19, ki20, ki21, ki23, ki24, ki27, ki28, ki29, ki30, ki31, ki32, ki33, ki34, ki35, ki36, ki38, ki39, ki47, ki48, ki49, ki50, ki51, ki52, ki57, ki58, ki59, ki60, ki61, ki62, ki66, ki67, ki69, ki70, ki71, ki72, ki73, ki78, ki79, ki80, ki81, ki82, ki83, ki84, ki85, ki86, ki89, ki90, ki91, ki92, ki93, ki94, ki95, ki96, ki97, ki98, ki99, ki101, ki103, ki104, ki105, ki106, ki107, ki108, ki109, ki110, ki111, ki112, ki113, ki114, ki115, ki116, ki117, ki118, ki121, ki122, ki123, ki3000, kb68, kb102, kr26, kr40, kr46, kr56, kw2, kw4, kw5, kw6, kw7, kw8, kw9, kw10, kw11, kw12, kw14, kw15, kw16, kw17, kw18, kw19, kw20, kw21, kw23, kw24, kw27, kw28, kw29, kw30, kw31, kw32, kw33, kw34, kw35, kw36, kw38, kw39, kw41, kw42, kw43, kw44, kw47, kw48, kw49, kw50, kw51, kw52, kw53, kw54, kw57, kw58, kw59, kw60, kw61, kw62, kw63, kw64, kw66, kw67, kw68, kw69, kw70, kw71, kw72, kw73, kw75, kw78, kw79, kw80, kw81, kw82, kw83, kw84, kw85, kw86, kw89, kw90, kw91, kw92, kw93, kw94, kw95, kw96, kw97, kw98, kw99, kw101, kw102, kw103, kw104, kw105, kw106, kw107, kw108, kw109, kw110, kw111, kw112, kw113, kw114, kw115, kw116, kw117, kw118, kw119, kw120, kw121, kw122, kw123, kw124]
      rw [ww109_92]
      exact ihq
    · rw [if_neg cd]
      refine ⟨N, W, fun d Q => ?_⟩
      simp (disch := first | (simp only [nlP_n, nlP_I, nlP_R, catP_I, catP_R, st8_0, st8_1, st8_2, st8_3, st8_4, b01, or_true, true_or, eq_self, iRP98, iRP99, iRP86, iRP97, iRP47, iRP57, rcP0, rcP1, rcP3, rcP13, rcP22, rcP25, rcP37, rcP45, rcP55, rcP65, rcP74, rcP76, rcP77, rcP87, rcP88, rcP100]; done) | omega | assumption | (simp (disch := omega) only [cel_s, cel_n, up1_s, up1_n, up1_e, put_out, fill_in]; omega) | (apply isRow_past; omega) | (apply isRow_seek; omega) | (apply isRow_guess; omega)) only [ww109_28, ww109_30, ww109_31, ww109_32, ww109_35, ww109_38, ww109_39, ww109_40, ww109_42, ww109_45, ww109_47, ww109_48, ww109_50, ww109_53, ww109_56, cl_size, hsz, cl_at, hD, ↓iteT, ↓iteF, andT, w32_eq, yL_1, Int.toNat_natCast, Int.toNat_add, Int.toNat_mul, Int.toNat_sub, cel_s, cel_n, up1_cel, upS_cel, cel_cel, up1_s, up1_n, up1_e, rdI_n, rdB_n, Int.reduceMul, Int.reduceDiv, Int.reduceMod, Nat.reduceMul, Nat.reduceSub, Nat.zero_add, Int.zero_add, Nat.add_zero, Int.add_zero, ite_self, Option.toList_some, Option.toList_none, List.cons_append, List.nil_append, rdI_c, and_true, true_and, and_self, not_false_eq_true, not_true_eq_false, if_true, if_false, or_false, false_or, ne_eq, and_false, false_and, rdI_n, Nat.reduceEqDiff, Nat.reduceAdd, Nat.reduceLeDiff, Int.reduceEq, Int.reduceLT, Int.reduceLE, Int.reduceNeg, Int.reduceToNat, Int.reduceAdd, Int.reduceSub, List.append_nil, ki2, ki4, ki5, ki6, ki7, ki8, ki9, ki10, ki11, ki12, ki14, ki15, ki16, ki17, ki18, ki19, ki20, ki21, ki23, ki24, ki27, ki28, ki29, ki30, ki31, ki32, ki33, ki34, ki35, ki36, ki38, ki39, ki47, ki48, ki49, ki50, ki51, ki52, ki57, ki58, ki59, ki60, ki61, ki62, ki66, ki67, ki69, ki70, ki71, ki72, ki73, ki78, ki79, ki80, ki81, ki82, ki83, ki84, ki85, ki86, ki89, ki90, ki91, ki92, ki93, ki94, ki95, ki96, ki97, ki98, ki99, ki101, ki103, ki104, ki105, ki106, ki107, ki108, ki109, ki110, ki111, ki112, ki113, ki114, ki115, ki116, ki117, ki118, ki121, ki122, ki123, ki3000, kb68, kb102, kr26, kr40, kr46, kr56, kw2, kw4, kw5, kw6, kw7, kw8, kw9, kw10, kw11, kw12, kw14, kw15, kw16, kw17, kw18, kw19, kw20, kw21, kw23, kw24, kw27, kw28, kw29, kw30, kw31, kw32, kw33, kw34, kw35, kw36, kw38, kw39, kw41, kw42, kw43, kw44, kw47, kw48, kw49, kw50, kw51, kw52, kw53, kw54, kw57, kw58, kw59, kw60, kw61, kw62, kw63, kw64, kw66, kw67, kw68, kw69, kw70, kw71, kw72, kw73, kw75, kw78, kw79, kw80, kw81, kw82, kw83, kw84, kw85, kw86, kw89, kw90, kw91, kw92, kw93, kw94, kw95, kw96, kw97, kw98, kw99, kw101, kw102, kw103, kw104, kw105, kw106, kw107, kw108, kw109, kw110, kw111, kw112, kw113, kw114, kw115, kw116, kw117, kw118, kw119, kw120, kw121, kw122, kw123, kw124]
