/-! rows kept and brought back -/
def fillF (g h : Nat → Int) (i : Nat) : Nat → Int := fun k => if k < i then g k else h k
theorem fill_0 {g h : Nat → Int} : fillF g h 0 = h := by
  funext k
  unfold fillF
  rw [if_neg (by omega)]
theorem fill_s {g h : Nat → Int} {i : Nat} : up1 (fillF g h i) i (g i) = fillF g h (i + 1) := by
  funext k
  unfold up1 fillF
  by_cases e : k = i
  · subst e
    rw [if_pos rfl, if_pos (by omega)]
  · rw [if_neg e]
    by_cases c : k < i
    · rw [if_pos c, if_pos (by omega)]
    · rw [if_neg c, if_neg (by omega)]
theorem fill_in {g h : Nat → Int} {i k : Nat} (hk : k < i) : fillF g h i k = g k := if_pos hk
theorem fill_out {g h : Nat → Int} {i k : Nat} (hk : i ≤ k) : fillF g h i k = h k := if_neg (by omega)
/-- a row put into another one from a place on -/
def putF (g h : Nat → Int) (a n : Nat) : Nat → Int := fun k => if a ≤ k ∧ k < a + n then g (k - a) else h k
theorem put_0 {g h : Nat → Int} {a : Nat} : putF g h a 0 = h := by
  funext k
  unfold putF
  rw [if_neg (by omega)]
theorem put_s {g h : Nat → Int} {a i : Nat} : up1 (putF g h a i) (a + i) (g i) = putF g h a (i + 1) := by
  funext k
  unfold up1 putF
  by_cases e : k = a + i
  · subst e
    rw [if_pos rfl, if_pos (by omega), show a + i - a = i by omega]
  · rw [if_neg e]
    by_cases c : a ≤ k ∧ k < a + i
    · rw [if_pos c, if_pos (by omega)]
    · rw [if_neg c, if_neg (by omega)]
theorem put_in {g h : Nat → Int} {a n k : Nat} (h1 : a ≤ k) (h2 : k < a + n) : putF g h a n k = g (k - a) := if_pos ⟨h1, h2⟩
theorem put_out {g h : Nat → Int} {a n k : Nat} (h1 : k < a ∨ a + n ≤ k) : putF g h a n k = h k := if_neg (by omega)
theorem wp_keeps {d : Nat} {σ : mw_S} {Q : Option mw_V → mw_S → Prop} : ∀ (n i : Nat), i + n = 47 → (mw_WP d 214 2 [some (jR 100), some (jI i)] [] (cel σ 107 (fillF (fun k => σ 101 (41 + k)) (σ 107) i)) Q ↔ Q none (cel σ 107 (fillF (fun k => σ 101 (41 + k)) (σ 107) 47)))
  | 0, i, h => by
    obtain rfl : i = 47 := by omega
    simp only [ww214_2, ww214_3, ww214_5, ww214_29, catP_I, catP_R, st8_0, st8_1, st8_2, st8_3, st8_4, nlP_n, nlP_I, nlP_R, Option.toList_some, Option.toList_none, List.cons_append, List.nil_append, rdI_c, and_true, true_and, and_self, not_false_eq_true, not_true_eq_false, if_true, if_false, eq_self, or_true, true_or, or_false, false_or, ne_eq, and_false, false_and, rdI_n, Nat.reduceEqDiff, Nat.reduceAdd, Nat.reduceLeDiff, Int.reduceEq, Int.reduceLT, Int.reduceLE, Int.reduceNeg, Int.reduceToNat, Int.reduceAdd, Int.reduceSub, b01, List.append_nil, rcP0, rcP1, rcP3, rcP13, rcP22, rcP25, rcP37, rcP45, rcP55, rcP65, rcP74, rcP76, rcP77, rcP87, rcP88, rcP100]
    rw [if_pos (by omega)]
  | n + 1, i, h => by
    have ih := wp_keeps (d := d) (σ := σ) (Q := Q) n (i + 1) (by omega)
    have e2 : w32 ((i : Int) + 1) = ((i + 1 : Nat) : Int) := by rw [w32_eq (by omega) (by omega)]; omega
    have hMi : i < 1000000 := by omega
    simp only [ww214_2, ww214_3, ww214_5, ww214_8, ww214_9, ww214_12, ww214_13, ww214_14, ww214_17, ww214_19, ww214_20, ww214_21, ww214_22, ww214_23, catP_I, catP_R, st8_0, st8_1, st8_2, st8_3, st8_4, nlP_n, nlP_I, nlP_R, Option.toList_some, Option.toList_none, List.cons_append, List.nil_append, rdI_c, and_true, true_and, and_self, not_false_eq_true, not_true_eq_false, if_true, if_false, eq_self, or_true, true_or, or_false, false_or, ne_eq, and_false, false_and, rdI_n, Nat.reduceEqDiff, Nat.reduceAdd, Nat.reduceLeDiff, Int.reduceEq, Int.reduceLT, Int.reduceLE, Int.reduceNeg, Int.reduceToNat, Int.reduceAdd, Int.reduceSub, b01, List.append_nil, rcP0, rcP1, rcP3, rcP13, rcP22, rcP25, rcP37, rcP45, rcP55, rcP65, rcP74, rcP76, rcP77, rcP87, rcP88, rcP100, ki2, ki4, ki5, ki6, ki7, ki8, ki9, ki10, ki11, ki12, ki14, ki15, ki16, ki17, ki18, ki19, ki20, ki21, ki23, ki24, ki27, ki28, ki29, ki30, ki31, ki32, ki33, ki34, ki35, ki36, ki38, ki39, ki47, ki48, ki49, ki50, ki51, ki52, ki57, ki58, ki59, ki60, ki61, ki62, ki66, ki67, ki69, ki70, ki71, ki72, ki73, ki78, ki79, ki80, ki81, ki82, ki83, ki84, ki85, ki86, ki89, ki90, ki91, ki92, ki93, ki94, ki95, ki96, ki97, ki98, ki99, ki101, ki103, ki104, ki105, ki106, ki107, ki108, ki109, ki110, ki111, ki112, ki113, ki114, ki115, ki116, ki117, ki118, ki121, ki122, ki123, ki3000, kb68, kb102, kr26, kr40, kr46, kr56, kw2, kw4, kw5, kw6, kw7, kw8, kw9, kw10, kw11, kw12, kw14, kw15, kw16, kw17, kw18, kw19, kw20, kw21, kw23, kw24, kw27, kw28, kw29, kw30, kw31, kw32, kw33, kw34, kw35, kw36, kw38, kw39, kw41, kw42, kw43, kw44, kw47, kw48, kw49, kw50, kw51, kw52, kw53, kw54, kw57, kw58, kw59, kw60, kw61, kw62, kw63, kw64, kw66, kw67, kw68, kw69, kw70, kw71, kw72, kw73, kw75, kw78, kw79, kw80, kw81, kw82, kw83, kw84, kw85, kw86, kw89, kw90, kw91, kw92, kw93, kw94, kw95, kw96, kw97, kw98, kw99, kw101, kw102, kw103, kw104, kw105, kw106, kw107, kw108, kw109, kw110, kw111, kw112, kw113, kw114, kw115, kw116, kw117, kw118, kw119, kw120, kw121, kw122, kw123, kw124, e2, wq41, tq41, hMi, Int.toNat_natCast, cel_n, up1_cel]
    rw [if_neg (by omega), ww214_26, fill_s (g := fun k => σ 101 (41 + k)), ih]
    exact ⟨fun q => q.2.2, fun q => ⟨by omega, by omega, q⟩⟩
theorem cl_keeps {d : Nat} {σ : mw_S} {Q : Option mw_V → mw_S → Prop} : mw_Call (d + 1) 214 [jR 100] σ Q ↔ Q none (cel σ 107 (fillF (fun k => σ 101 (41 + k)) (σ 107) 47)) := by
  rw [ee214]
  simp only [ww214_0, ww214_1, catP_I, catP_R, st8_0, st8_1, st8_2, st8_3, st8_4, nlP_n, nlP_I, nlP_R, Option.toList_some, Option.toList_none, List.cons_append, List.nil_append, rdI_c, and_true, true_and, and_self, not_false_eq_true, not_true_eq_false, if_true, if_false, eq_self, or_true, true_or, or_false, false_or, ne_eq, and_false, false_and, rdI_n, Nat.reduceEqDiff, Nat.reduceAdd, Nat.reduceLeDiff, Int.reduceEq, Int.reduceLT, Int.reduceLE, Int.reduceNeg, Int.reduceToNat, Int.reduceAdd, Int.reduceSub, b01, List.append_nil, rcP0, rcP1, rcP3, rcP13, rcP22, rcP25, rcP37, rcP45, rcP55, rcP65, rcP74, rcP76, rcP77, rcP87, rcP88, rcP100]
  have h := wp_keeps (d := d) (σ := σ) (Q := Q) 47 0 (by omega)
  rw [fill_0, cel_self rfl] at h
  exact h
theorem wp_again {d : Nat} {σ : mw_S} {Q : Option mw_V → mw_S → Prop} : ∀ (n i : Nat), i + n = 47 → (mw_WP d 215 2 [some (jR 100), some (jI i)] [] (cel σ 101 (putF (σ 107) (σ 101) 41 i)) Q ↔ Q none (cel σ 101 (putF (σ 107) (σ 101) 41 47)))
  | 0, i, h => by
    obtain rfl : i = 47 := by omega
    simp only [ww215_2, ww215_3, ww215_5, ww215_29, catP_I, catP_R, st8_0, st8_1, st8_2, st8_3, st8_4, nlP_n, nlP_I, nlP_R, Option.toList_some, Option.toList_none, List.cons_append, List.nil_append, rdI_c, and_true, true_and, and_self, not_false_eq_true, not_true_eq_false, if_true, if_false, eq_self, or_true, true_or, or_false, false_or, ne_eq, and_false, false_and, rdI_n, Nat.reduceEqDiff, Nat.reduceAdd, Nat.reduceLeDiff, Int.reduceEq, Int.reduceLT, Int.reduceLE, Int.reduceNeg, Int.reduceToNat, Int.reduceAdd, Int.reduceSub, b01, List.append_nil, rcP0, rcP1, rcP3, rcP13, rcP22, rcP25, rcP37, rcP45, rcP55, rcP65, rcP74, rcP76, rcP77, rcP87, rcP88, rcP100]
    rw [if_pos (by omega)]
  | n + 1, i, h => by
    have ih := wp_again (d := d) (σ := σ) (Q := Q) n (i + 1) (by omega)
    have e2 : w32 ((i : Int) + 1) = ((i + 1 : Nat) : Int) := by rw [w32_eq (by omega) (by omega)]; omega
    have hMi : i < 1000000 := by omega
    simp only [ww215_2, ww215_3, ww215_5, ww215_8, ww215_9, ww215_12, ww215_14, ww215_15, ww215_16, ww215_17, ww215_20, ww215_21, ww215_22, ww215_23, catP_I, catP_R, st8_0, st8_1, st8_2, st8_3, st8_4, nlP_n, nlP_I, nlP_R, Option.toList_some, Option.toList_none, List.cons_append, List.nil_append, rdI_c, and_true, true_and, and_self, not_false_eq_true, not_true_eq_false, if_true, if_false, eq_self, or_true, true_or, or_false, false_or, ne_eq, and_false, false_and, rdI_n, Nat.reduceEqDiff, Nat.reduceAdd, Nat.reduceLeDiff, Int.reduceEq, Int.reduceLT, Int.reduceLE, Int.reduceNeg, Int.reduceToNat, Int.reduceAdd, Int.reduceSub, b01, List.append_nil, rcP0, rcP1, rcP3, rcP13, rcP22, rcP25, rcP37, rcP45, rcP55, rcP65, rcP74, rcP76, rcP77, rcP87, rcP88, rcP100, ki2, ki4, ki5, ki6, ki7, ki8, ki9, ki10, ki11, ki12, ki14, ki15, ki16, ki17, ki18, ki19, ki20, ki21, ki23, ki24, ki27, ki28, ki29, ki30, ki31, ki32, ki33, ki34, ki35, ki36, ki38, ki39, ki47, ki48, ki49, ki50, ki51, ki52, ki57, ki58, ki59, ki60, ki61, ki62, ki66, ki67, ki69, ki70, ki71, ki72, ki73, ki78, ki79, ki80, ki81, ki82, ki83, ki84, ki85, ki86, ki89, ki90, ki91, ki92, ki93, ki94, ki95, ki96, ki97, ki98, ki99, ki101, ki103, ki104, ki105, ki106, ki107, ki108, ki109, ki110, ki111, ki112, ki113, ki114, ki115, ki116, ki117, ki118, ki121, ki122, ki123, ki3000, kb68, kb102, kr26, kr40, kr46, kr56, kw2, kw4, kw5, kw6, kw7, kw8, kw9, kw10, kw11, kw12, kw14, kw15, kw16, kw17, kw18, kw19, kw20, kw21, kw23, kw24, kw27, kw28, kw29, kw30, kw31, kw32, kw33, kw34, kw35, kw36, kw38, kw39, kw41, kw42, kw43, kw44, kw47, kw48, kw49, kw50, kw51, kw52, kw53, kw54, kw57, kw58, kw59, kw60, kw61, kw62, kw63, kw64, kw66, kw67, kw68, kw69, kw70, kw71, kw72, kw73, kw75, kw78, kw79, kw80, kw81, kw82, kw83, kw84, kw85, kw86, kw89, kw90, kw91, kw92, kw93, kw94, kw95, kw96, kw97, kw98, kw99, kw101, kw102, kw103, kw104, kw105, kw106, kw107, kw108, kw109, kw110, kw111, kw112, kw113, kw114, kw115, kw116, kw117, kw118, kw119, kw120, kw121, kw122, kw123, kw124, e2, wq41, tq41, hMi, Int.toNat_natCast, cel_n, up1_cel]
    rw [if_neg (by omega), ww215_26, put_s, ih]
    exact ⟨fun q => q.2.2, fun q => ⟨by omega, by omega, q⟩⟩
theorem cl_again {d : Nat} {σ : mw_S} {Q : Option mw_V → mw_S → Prop} : mw_Call (d + 1) 215 [jR 100] σ Q ↔ Q none (cel σ 101 (putF (σ 107) (σ 101) 41 47)) := by
  rw [ee215]
  simp only [ww215_0, ww215_1, catP_I, catP_R, st8_0, st8_1, st8_2, st8_3, st8_4, nlP_n, nlP_I, nlP_R, Option.toList_some, Option.toList_none, List.cons_append, List.nil_append, rdI_c, and_true, true_and, and_self, not_false_eq_true, not_true_eq_false, if_true, if_false, eq_self, or_true, true_or, or_false, false_or, ne_eq, and_false, false_and, rdI_n, Nat.reduceEqDiff, Nat.reduceAdd, Nat.reduceLeDiff, Int.reduceEq, Int.reduceLT, Int.reduceLE, Int.reduceNeg, Int.reduceToNat, Int.reduceAdd, Int.reduceSub, b01, List.append_nil, rcP0, rcP1, rcP3, rcP13, rcP22, rcP25, rcP37, rcP45, rcP55, rcP65, rcP74, rcP76, rcP77, rcP87, rcP88, rcP100]
  have h := wp_again (d := d) (σ := σ) (Q := Q) 47 0 (by omega)
  rw [put_0, cel_self rfl] at h
  exact h
/-- rows shifted down by one, the eldest forgotten -/
def shiftF (f : Nat → Int) (i : Nat) : Nat → Int := fun k => if 89 ≤ k ∧ k < 89 + i then f (k + 47) else f k
theorem shift_s {f : Nat → Int} {i : Nat} (h : i < 423) : up1 (shiftF f i) (89 + i) (shiftF f i (136 + i)) = shiftF f (i + 1) := by
  funext k
  unfold up1 shiftF
  by_cases e : k = 89 + i
  · subst e
    rw [if_pos rfl, if_neg (by omega), if_pos (by omega), show 89 + i + 47 = 136 + i by omega]
  · rw [if_neg e]
    by_cases c : 89 ≤ k ∧ k < 89 + i
    · rw [if_pos c, if_pos (by omega)]
    · rw [if_neg c, if_neg (by omega)]
theorem shift_0 {f : Nat → Int} : shiftF f 0 = f := by
  funext k
  unfold shiftF
  rw [if_neg (by omega)]
theorem wp_notes1 {d : Nat} {σ : mw_S} {Q : Option mw_V → mw_S → Prop} : ∀ (n i : Nat), i + n = 423 → (mw_WP d 216 14 [some (jR 100), some (jI i)] [] (cel σ 101 (shiftF (σ 101) i)) Q ↔ mw_WP d 216 46 [some (jR 100), some (jI 423)] [] (cel σ 101 (shiftF (σ 101) 423)) Q)
  | 0, i, h => by
    obtain rfl : i = 423 := by omega
    simp only [ww216_14, ww216_15, ww216_18, catP_I, catP_R, st8_0, st8_1, st8_2, st8_3, st8_4, nlP_n, nlP_I, nlP_R, Option.toList_some, Option.toList_none, List.cons_append, List.nil_append, rdI_c, and_true, true_and, and_self, not_false_eq_true, not_true_eq_false, if_true, if_false, eq_self, or_true, true_or, or_false, false_or, ne_eq, and_false, false_and, rdI_n, Nat.reduceEqDiff, Nat.reduceAdd, Nat.reduceLeDiff, Int.reduceEq, Int.reduceLT, Int.reduceLE, Int.reduceNeg, Int.reduceToNat, Int.reduceAdd, Int.reduceSub, b01, List.append_nil, rcP0, rcP1, rcP3, rcP13, rcP22, rcP25, rcP37, rcP45, rcP55, rcP65, rcP74, rcP76, rcP77, rcP87, rcP88, rcP100]
    rw [if_pos (by omega)]
    rfl
  | n + 1, i, h => by
    have ih := wp_notes1 (d := d) (σ := σ) (Q := Q) n (i + 1) (by omega)
    have e2 : w32 ((i : Int) + 1) = ((i + 1 : Nat) : Int) := by rw [w32_eq (by omega) (by omega)]; omega
    have e3 : w32 (136 + (i : Int)) = 136 + (i : Int) := w32_eq (by omega) (by omega)
    have e4 : (136 + (i : Int)).toNat = 136 + i := by omega
    have hMi : i < 1000000 := by omega
    simp only [ww216_14, ww216_15, ww216_18, ww216_21, ww216_22, ww216_25, ww216_27, ww216_28, ww216_29, ww216_30, ww216_33, ww216_36, ww216_37, ww216_38, ww216_39, ww216_40, catP_I, catP_R, st8_0, st8_1, st8_2, st8_3, st8_4, nlP_n, nlP_I, nlP_R, Option.toList_some, Option.toList_none, List.cons_append, List.nil_append, rdI_c, and_true, true_and, and_self, not_false_eq_true, not_true_eq_false, if_true, if_false, eq_self, or_true, true_or, or_false, false_or, ne_eq, and_false, false_and, rdI_n, Nat.reduceEqDiff, Nat.reduceAdd, Nat.reduceLeDiff, Int.reduceEq, Int.reduceLT, Int.reduceLE, Int.reduceNeg, Int.reduceToNat, Int.reduceAdd, Int.reduceSub, b01, List.append_nil, rcP0, rcP1, rcP3, rcP13, rcP22, rcP25, rcP37, rcP45, rcP55, rcP65, rcP74, rcP76, rcP77, rcP87, rcP88, rcP100, ki2, ki4, ki5, ki6, ki7, ki8, ki9, ki10, ki11, ki12, ki14, ki15, ki16, ki17, ki18, ki19, ki20, ki21, ki23, ki24, ki27, ki28, ki29, ki30, ki31, ki32, ki33, ki34, ki35, ki36, ki38, ki39, ki47, ki48, ki49, ki50, ki51, ki52, ki57, ki58, ki59, ki60, ki61, ki62, ki66, ki67, ki69, ki70, ki71, ki72, ki73, ki78, ki79, ki80, ki81, ki82, ki83, ki84, ki85, ki86, ki89, ki90, ki91, ki92, ki93, ki94, ki95, ki96, ki97, ki98, ki99, ki101, ki103, ki104, ki105, ki106, ki107, ki108, ki109, ki110, ki111, ki112, ki113, ki114, ki115, ki116, ki117, ki118, ki121, ki122, ki123, ki3000, kb68, kb102, kr26, kr40, kr46, kr56, kw2, kw4, kw5, kw6, kw7, kw8, kw9, kw10, kw11, kw12, kw14, kw15, kw16, kw17, kw18, kw19, kw20, kw21, kw23, kw24, kw27, kw28, kw29, kw30, kw31, kw32, kw33, kw34, kw35, kw36, kw38, kw39, kw41, kw42, kw43, kw44, kw47, kw48, kw49, kw50, kw51, kw52, kw53, kw54, kw57, kw58, kw59, kw60, kw61, kw62, kw63, kw64, kw66, kw67, kw68, kw69, kw70, kw71, kw72, kw73, kw75, kw78, kw79, kw80, kw81, kw82, kw83, kw84, kw85, kw86, kw89, kw90, kw91, kw92, kw93, kw94, kw95, kw96, kw97, kw98, kw99, kw101, kw102, kw103, kw104, kw105, kw106, kw107, kw108, kw109, kw110, kw111, kw112, kw113, kw114, kw115, kw116, kw117, kw118, kw119, kw120, kw121, kw122, kw123, kw124, e2, e3, e4, wq89, tq89, hMi, cel_s, up1_cel]
    rw [if_neg (by omega), ww216_43, shift_s (by omega), ih]
    exact ⟨fun q => q.2.2, fun q => ⟨by omega, by omega, q⟩⟩
theorem wp_notes2 {d : Nat} {m : Nat} {σ : mw_S} {Q : Option mw_V → mw_S → Prop} (hm : m < 10) (hN : σ 101 88 = m) : ∀ (n i : Nat), i + n = 47 → (mw_WP d 216 59 [some (jR 100), some (jI i)] [] (cel σ 101 (putF (σ 107) (σ 101) (89 + 47 * m) i)) Q ↔ mw_WP d 216 97 [some (jR 100), some (jI 47)] [] (cel σ 101 (putF (σ 107) (σ 101) (89 + 47 * m) 47)) Q)
  | 0, i, h => by
    obtain rfl : i = 47 := by omega
    simp only [ww216_59, ww216_60, ww216_62, catP_I, catP_R, st8_0, st8_1, st8_2, st8_3, st8_4, nlP_n, nlP_I, nlP_R, Option.toList_some, Option.toList_none, List.cons_append, List.nil_append, rdI_c, and_true, true_and, and_self, not_false_eq_true, not_true_eq_false, if_true, if_false, eq_self, or_true, true_or, or_false, false_or, ne_eq, and_false, false_and, rdI_n, Nat.reduceEqDiff, Nat.reduceAdd, Nat.reduceLeDiff, Int.reduceEq, Int.reduceLT, Int.reduceLE, Int.reduceNeg, Int.reduceToNat, Int.reduceAdd, Int.reduceSub, b01, List.append_nil, rcP0, rcP1, rcP3, rcP13, rcP22, rcP25, rcP37, rcP45, rcP55, rcP65, rcP74, rcP76, rcP77, rcP87, rcP88, rcP100]
    rw [if_pos (by omega)]
    rfl
  | n + 1, i, h => by
    have ih := wp_notes2 (d := d) (σ := σ) (Q := Q) hm hN n (i + 1) (by omega)
    have e2 : w32 ((i : Int) + 1) = ((i + 1 : Nat) : Int) := by rw [w32_eq (by omega) (by omega)]; omega
    have e0 : putF (σ 107) (σ 101) (89 + 47 * m) i 88 = m := by rw [put_out (Or.inl (by omega)), hN]
    have e3 : w32 (47 * (m : Int)) = 47 * (m : Int) := w32_eq (by omega) (by omega)
    have e4 : w32 (89 + 47 * (m : Int)) = 89 + 47 * (m : Int) := w32_eq (by omega) (by omega)
    have e5 : w32 (89 + 47 * (m : Int) + (i : Int)) = ((89 + 47 * m + i : Nat) : Int) := by rw [w32_eq (by omega) (by omega)]; omega
    simp only [ww216_59, ww216_60, ww216_62, ww216_65, ww216_66, ww216_69, ww216_71, ww216_73, ww216_74, ww216_77, ww216_79, ww216_80, ww216_81, ww216_82, ww216_83, ww216_84, ww216_85, ww216_88, ww216_89, ww216_90, ww216_91, catP_I, catP_R, st8_0, st8_1, st8_2, st8_3, st8_4, nlP_n, nlP_I, nlP_R, Option.toList_some, Option.toList_none, List.cons_append, List.nil_append, rdI_c, and_true, true_and, and_self, not_false_eq_true, not_true_eq_false, if_true, if_false, eq_self, or_true, true_or, or_false, false_or, ne_eq, and_false, false_and, rdI_n, Nat.reduceEqDiff, Nat.reduceAdd, Nat.reduceLeDiff, Int.reduceEq, Int.reduceLT, Int.reduceLE, Int.reduceNeg, Int.reduceToNat, Int.reduceAdd, Int.reduceSub, b01, List.append_nil, rcP0, rcP1, rcP3, rcP13, rcP22, rcP25, rcP37, rcP45, rcP55, rcP65, rcP74, rcP76, rcP77, rcP87, rcP88, rcP100, ki2, ki4, ki5, ki6, ki7, ki8, ki9, ki10, ki11, ki12, ki14, ki15, ki16, ki17, ki18, ki19, ki20, ki21, ki23, ki24, ki27, ki28, ki29, ki30, ki31, ki32, ki33, ki34, ki35, ki36, ki38, ki39, ki47, ki48, ki49, ki50, ki51, ki52, ki57, ki58, ki59, ki60, ki61, ki62, ki66, ki67, ki69, ki70, ki71, ki72, ki73, ki78, ki79, ki80, ki81, ki82, ki83, ki84, ki85, ki86, ki89, ki90, ki91, ki92, ki93, ki94, ki95, ki96, ki97, ki98, ki99, ki101, ki103, ki104, ki105, ki106, ki107, ki108, ki109, ki110, ki111, ki112, ki113, ki114, ki115, ki116, ki117, ki118, ki121, ki122, ki123, ki3000, kb68, kb102, kr26, kr40, kr46, kr56, kw2, kw4, kw5, kw6, kw7, kw8, kw9, kw10, kw11, kw12, kw14, kw15, kw16, kw17, kw18, kw19, kw20, kw21, kw23, kw24, kw27, kw28, kw29, kw30, kw31, kw32, kw33, kw34, kw35, kw36, kw38, kw39, kw41, kw42, kw43, kw44, kw47, kw48, kw49, kw50, kw51, kw52, kw53, kw54, kw57, kw58, kw59, kw60, kw61, kw62, kw63, kw64, kw66, kw67, kw68, kw69, kw70, kw71, kw72, kw73, kw75, kw78, kw79, kw80, kw81, kw82, kw83, kw84, kw85, kw86, kw89, kw90, kw91, kw92, kw93, kw94, kw95, kw96, kw97, kw98, kw99, kw101, kw102, kw103, kw104, kw105, kw106, kw107, kw108, kw109, kw110, kw111, kw112, kw113, kw114, kw115, kw116, kw117, kw118, kw119, kw120, kw121, kw122, kw123, kw124, e0, e2, e3, e4, e5, cel_s, cel_n, up1_cel, Int.toNat_natCast]
    rw [if_neg (by omega), ww216_94, put_s, ih]
    exact ⟨fun q => q.2.2, fun q => ⟨by omega, by omega, q⟩⟩
