/-! laws: fits, smallest, sure agree -/
theorem uI1 {n : Nat} (hn : n < 2147483648) : zUshr (n : Int) 1 = ((n / 2 : Nat) : Int) := zUshrN (k := 1) (by decide) hn
theorem uI2 {n : Nat} (hn : n < 2147483648) : zUshr (n : Int) 2 = ((n / 4 : Nat) : Int) := zUshrN (k := 2) (by decide) hn
theorem uI4 {n : Nat} (hn : n < 2147483648) : zUshr (n : Int) 4 = ((n / 16 : Nat) : Int) := zUshrN (k := 4) (by decide) hn
theorem uI8 {n : Nat} (hn : n < 2147483648) : zUshr (n : Int) 8 = ((n / 256 : Nat) : Int) := zUshrN (k := 8) (by decide) hn
theorem uI16 {n : Nat} (hn : n < 2147483648) : zUshr (n : Int) 16 = ((n / 65536 : Nat) : Int) := zUshrN (k := 16) (by decide) hn
theorem aI5 {n : Nat} (hn : n < 2147483648) : zAnd (n : Int) 1431655765 = ((n &&& 1431655765 : Nat) : Int) := zAndN (b := 1431655765) hn (by decide)
theorem aI3 {n : Nat} (hn : n < 2147483648) : zAnd (n : Int) 858993459 = ((n &&& 858993459 : Nat) : Int) := zAndN (b := 858993459) hn (by decide)
theorem aIf {n : Nat} (hn : n < 2147483648) : zAnd (n : Int) 252645135 = ((n &&& 252645135 : Nat) : Int) := zAndN (b := 252645135) hn (by decide)
theorem aI63 {n : Nat} (hn : n < 2147483648) : zAnd (n : Int) 63 = ((n &&& 63 : Nat) : Int) := zAndN (b := 63) hn (by decide)
theorem w32_subN {a b : Nat} (h : b ≤ a) (ha : a < 2147483648) : w32 ((a : Int) - (b : Int)) = ((a - b : Nat) : Int) := by
  rw [w32_eq (by omega) (by omega)]
  omega
theorem w32_addN {a b : Nat} (h : a + b < 2147483648) : w32 ((a : Int) + (b : Int)) = ((a + b : Nat) : Int) := by
  rw [w32_eq (by omega) (by omega)]
  omega
def bcA (n : Nat) : Nat := n - (n / 2 &&& 1431655765)
def bcB (n : Nat) : Nat := (bcA n &&& 858993459) + (bcA n / 4 &&& 858993459)
def bcC (n : Nat) : Nat := (bcB n + bcB n / 16) &&& 252645135
def bcD (n : Nat) : Nat := bcC n + bcC n / 256
def bcE (n : Nat) : Nat := bcD n + bcD n / 65536
theorem bc_val : ∀ n, n < 512 → (bcE n &&& 63) = popN n := by decide +kernel
theorem cl_bcI {d n : Nat} {σ : mw_S} {Q : Option mw_V → mw_S → Prop} (hn : n < 512) : mw_Call (d + 1) 279 [jI (n : Int)] σ Q ↔ Q (some (jI (popN n : Nat))) σ := by
  rw [ee279, ← bc_val n hn]
  have l1 : (n / 2 &&& 1431655765) ≤ n / 2 := Nat.and_le_left
  have lA : bcA n ≤ n := Nat.sub_le _ _
  have l2 : (bcA n &&& 858993459) ≤ bcA n := Nat.and_le_left
  have l3 : (bcA n / 4 &&& 858993459) ≤ bcA n / 4 := Nat.and_le_left
  have lB : bcB n ≤ 1024 := by
    unfold bcB
    omega
  have lC : bcC n ≤ bcB n + bcB n / 16 := Nat.and_le_left
  have lD : bcD n ≤ 4096 := by
    unfold bcD
    omega
  have lE : bcE n ≤ 8192 := by
    unfold bcE
    omega
  have st1 : mw_WP d 279 0 [some (jI (n : Int))] [] σ Q ↔ mw_WP d 279 10 [some (jI (bcA n : Nat))] [] σ Q := by
    have u := uI1 (n := n) (by omega)
    have a5 := aI5 (n := n / 2) (by omega)
    have ws := w32_subN (a := n) (b := n / 2 &&& 1431655765) (by omega) (by omega)
    rw [show n - (n / 2 &&& 1431655765) = bcA n from rfl] at ws
    simp only [ww279_0, ww279_1, ww279_2, ww279_3, ww279_4, ww279_7, ww279_8, ww279_9, catP_I, catP_R, st8_0, st8_1, st8_2, st8_3, st8_4, nlP_n, nlP_I, nlP_R, Option.toList_some, Option.toList_none, List.cons_append, List.nil_append, rdI_c, and_true, true_and, and_self, not_false_eq_true, not_true_eq_false, if_true, if_false, eq_self, or_true, true_or, or_false, false_or, ne_eq, and_false, false_and, rdI_n, Nat.reduceEqDiff, Nat.reduceAdd, Nat.reduceLeDiff, Int.reduceEq, Int.reduceLT, Int.reduceLE, Int.reduceNeg, Int.reduceToNat, Int.reduceAdd, Int.reduceSub, b01, List.append_nil, rcP0, rcP1, rcP3, rcP13, rcP22, rcP25, rcP37, rcP45, rcP55, rcP65, rcP74, rcP76, rcP77, rcP87, rcP88, rcP100, u, a5, ws]
  have st2 : mw_WP d 279 10 [some (jI (bcA n : Nat))] [] σ Q ↔ mw_WP d 279 24 [some (jI (bcB n : Nat))] [] σ Q := by
    have u := uI2 (n := bcA n) (by omega)
    have a5 := aI3 (n := bcA n) (by omega)
    have a6 := aI3 (n := bcA n / 4) (by omega)
    have ws := w32_addN (a := bcA n &&& 858993459) (b := bcA n / 4 &&& 858993459) (by omega)
    rw [show (bcA n &&& 858993459) + (bcA n / 4 &&& 858993459) = bcB n from rfl] at ws
    simp only [ww279_10, ww279_11, ww279_14, ww279_15, ww279_16, ww279_17, ww279_18, ww279_21, ww279_22, ww279_23, catP_I, catP_R, st8_0, st8_1, st8_2, st8_3, st8_4, nlP_n, nlP_I, nlP_R, Option.toList_some, Option.toList_none, List.cons_append, List.nil_append, rdI_c, and_true, true_and, and_self, not_false_eq_true, not_true_eq_false, if_true, if_false, eq_self, or_true, true_or, or_false, false_or, ne_eq, and_false, false_and, rdI_n, Nat.reduceEqDiff, Nat.reduceAdd, Nat.reduceLeDiff, Int.reduceEq, Int.reduceLT, Int.reduceLE, Int.reduceNeg, Int.reduceToNat, Int.reduceAdd, Int.reduceSub, b01, List.append_nil, rcP0, rcP1, rcP3, rcP13, rcP22, rcP25, rcP37, rcP45, rcP55, rcP65, rcP74, rcP76, rcP77, rcP87, rcP88, rcP100, u, a5, a6, ws]
  have st3 : mw_WP d 279 24 [some (jI (bcB n : Nat))] [] σ Q ↔ mw_WP d 279 34 [some (jI (bcC n : Nat))] [] σ Q := by
    have u := uI4 (n := bcB n) (by omega)
    have ws := w32_addN (a := bcB n) (b := bcB n / 16) (by omega)
    have a5 := aIf (n := bcB n + bcB n / 16) (by omega)
    rw [show (bcB n + bcB n / 16) &&& 252645135 = bcC n from rfl] at a5
    simp only [ww279_24, ww279_25, ww279_26, ww279_27, ww279_28, ww279_29, ww279_32, ww279_33, catP_I, catP_R, st8_0, st8_1, st8_2, st8_3, st8_4, nlP_n, nlP_I, nlP_R, Option.toList_some, Option.toList_none, List.cons_append, List.nil_append, rdI_c, and_true, true_and, and_self, not_false_eq_true, not_true_eq_false, if_true, if_false, eq_self, or_true, true_or, or_false, false_or, ne_eq, and_false, false_and, rdI_n, Nat.reduceEqDiff, Nat.reduceAdd, Nat.reduceLeDiff, Int.reduceEq, Int.reduceLT, Int.reduceLE, Int.reduceNeg, Int.reduceToNat, Int.reduceAdd, Int.reduceSub, b01, List.append_nil, rcP0, rcP1, rcP3, rcP13, rcP22, rcP25, rcP37, rcP45, rcP55, rcP65, rcP74, rcP76, rcP77, rcP87, rcP88, rcP100, u, ws, a5]
  have st4 : mw_WP d 279 34 [some (jI (bcC n : Nat))] [] σ Q ↔ mw_WP d 279 41 [some (jI (bcD n : Nat))] [] σ Q := by
    have u := uI8 (n := bcC n) (by omega)
    have ws := w32_addN (a := bcC n) (b := bcC n / 256) (by omega)
    rw [show bcC n + bcC n / 256 = bcD n from rfl] at ws
    simp only [ww279_34, ww279_35, ww279_36, ww279_38, ww279_39, ww279_40, catP_I, catP_R, st8_0, st8_1, st8_2, st8_3, st8_4, nlP_n, nlP_I, nlP_R, Option.toList_some, Option.toList_none, List.cons_append, List.nil_append, rdI_c, and_true, true_and, and_self, not_false_eq_true, not_true_eq_false, if_true, if_false, eq_self, or_true, true_or, or_false, false_or, ne_eq, and_false, false_and, rdI_n, Nat.reduceEqDiff, Nat.reduceAdd, Nat.reduceLeDiff, Int.reduceEq, Int.reduceLT, Int.reduceLE, Int.reduceNeg, Int.reduceToNat, Int.reduceAdd, Int.reduceSub, b01, List.append_nil, rcP0, rcP1, rcP3, rcP13, rcP22, rcP25, rcP37, rcP45, rcP55, rcP65, rcP74, rcP76, rcP77, rcP87, rcP88, rcP100, u, ws]
  rw [st1, st2, st3, st4]
  have u := uI16 (n := bcD n) (by omega)
  have ws := w32_addN (a := bcD n) (b := bcD n / 65536) (by omega)
  rw [show bcD n + bcD n / 65536 = bcE n from rfl] at ws
  have an := aI63 (n := bcE n) (by omega)
  simp only [ww279_41, ww279_42, ww279_43, ww279_45, ww279_46, ww279_47, ww279_48, ww279_49, ww279_51, ww279_52, catP_I, catP_R, st8_0, st8_1, st8_2, st8_3, st8_4, nlP_n, nlP_I, nlP_R, Option.toList_some, Option.toList_none, List.cons_append, List.nil_append, rdI_c, and_true, true_and, and_self, not_false_eq_true, not_true_eq_false, if_true, if_false, eq_self, or_true, true_or, or_false, false_or, ne_eq, and_false, false_and, rdI_n, Nat.reduceEqDiff, Nat.reduceAdd, Nat.reduceLeDiff, Int.reduceEq, Int.reduceLT, Int.reduceLE, Int.reduceNeg, Int.reduceToNat, Int.reduceAdd, Int.reduceSub, b01, List.append_nil, rcP0, rcP1, rcP3, rcP13, rcP22, rcP25, rcP37, rcP45, rcP55, rcP65, rcP74, rcP76, rcP77, rcP87, rcP88, rcP100, u, ws, an]
/-- what was learnt stands there -/
def learnt (s : mw_S) (T S : Nat → Nat) (sz : Nat) : Prop := okT T sz ∧ ∀ l, l < 5 → s 66 l = (MU T S sz l : Int) ∧ s 67 l = (CA T S sz l : Int) ∧ s 68 l = bI (FI T S sz l)
theorem cl_open {d l sz : Nat} {T S : Nat → Nat} {s : mw_S} {Q : Option mw_V → mw_S → Prop} (h : learnt s T S sz) (hl : l < 5) (hf : FI T S sz l = true) : mw_Call (d + 2) 31 [jR 65, jI l] s Q ↔ Q (some (jI (OPN T S sz l : Nat))) s := by
  obtain ⟨h1, h2, h3⟩ := h.2 l hl
  have m1 := MU_lt (S := S) (l := l) h.1
  have m2 := CA_lt (S := S) (l := l) h.1
  have o := zOrN (a := MU T S sz l) (b := CA T S sz l) (by omega) (by omega)
  have lt : MU T S sz l ||| CA T S sz l < 512 := Nat.or_lt_two_pow (n := 9) m1 m2
  have b := fun (Q' : Option mw_V → mw_S → Prop) (d' : Nat) => cl_bcI (d := d') (n := MU T S sz l ||| CA T S sz l) (σ := s) (Q := Q') lt
  have p := pop_le (or_0 (MU_0 (T := T) (S := S) (sz := sz) (l := l)) (CA_0 hf))
  unfold OPN
  generalize popN (MU T S sz l ||| CA T S sz l) = z at *
  rw [ee31, show ((8 - z : Nat) : Int) = 8 - (z : Int) by omega]
  simp (disch := first | (simp only [nlP_n, nlP_I, nlP_R, catP_I, catP_R, st8_0, st8_1, st8_2, st8_3, st8_4, b01, or_true, true_or, eq_self, iRP98, iRP99, iRP86, iRP97, iRP47, iRP57, rcP0, rcP1, rcP3, rcP13, rcP22, rcP25, rcP37, rcP45, rcP55, rcP65, rcP74, rcP76, rcP77, rcP87, rcP88, rcP100]; done) | omega | assumption | (simp (disch := omega) only [cel_s, cel_n, up1_s, up1_n, up1_e, put_out, fill_in]; omega) | (apply isRow_past; omega) | (apply isRow_seek; omega) | (apply isRow_guess; omega)) only [ww31_0, ww31_2, ww31_3, ww31_6, ww31_7, ww31_8, ww31_9, ww31_12, ww31_13, ww31_14, ww31_15, ww31_18, ww31_19, h1, h2, o, b, ↓iteT, ↓iteF, andT, w32_eq, yL_1, Int.toNat_natCast, Int.toNat_add, Int.toNat_mul, Int.toNat_sub, cel_s, cel_n, up1_cel, upS_cel, cel_cel, up1_s, up1_n, up1_e, rdI_n, rdB_n, Int.reduceMul, Int.reduceDiv, Int.reduceMod, Nat.reduceMul, Nat.reduceSub, Nat.zero_add, Int.zero_add, Nat.add_zero, Int.add_zero, ite_self, Option.toList_some, Option.toList_none, List.cons_append, List.nil_append, rdI_c, and_true, true_and, and_self, not_false_eq_true, not_true_eq_false, if_true, if_false, or_false, false_or, ne_eq, and_false, false_and, rdI_n, Nat.reduceEqDiff, Nat.reduceAdd, Nat.reduceLeDiff, Int.reduceEq, Int.reduceLT, Int.reduceLE, Int.reduceNeg, Int.reduceToNat, Int.reduceAdd, Int.reduceSub, List.append_nil, ki2, ki4, ki5, ki6, ki7, ki8, ki9, ki10, ki11, ki12, ki14, ki15, ki16, ki17, ki18, ki19, ki20, ki21, ki23, ki24, ki27, ki28, ki29, ki30, ki31, ki32, ki33, ki34, ki35, ki36, ki38, ki39, ki47, ki48, ki49, ki50, ki51, ki52, ki57, ki58, ki59, ki60, ki61, ki62, ki66, ki67, ki69, ki70, ki71, ki72, ki73, ki78, ki79, ki80, ki81, ki82, ki83, ki84, ki85, ki86, ki89, ki90, ki91, ki92, ki93, ki94, ki95, ki96, ki97, ki98, ki99, ki101, ki103, ki104, ki105, ki106, ki107, ki108, ki109, ki110, ki111, ki112, ki113, ki114, ki115, ki116, ki117, ki118, ki121, ki122, ki123, ki3000, kb68, kb102, kr26, kr40, kr46, kr56, kw2, kw4, kw5, kw6, kw7, kw8, kw9, kw10, kw11, kw12, kw14, kw15, kw16, kw17, kw18, kw19, kw20, kw21, kw23, kw24, kw27, kw28, kw29, kw30, kw31, kw32, kw33, kw34, kw35, kw36, kw38, kw39, kw41, kw42, kw43, kw44, kw47, kw48, kw49, kw50, kw51, kw52, kw53, kw54, kw57, kw58, kw59, kw60, kw61, kw62, kw63, kw64, kw66, kw67, kw68, kw69, kw70, kw71, kw72, kw73, kw75, kw78, kw79, kw80, kw81, kw82, kw83, kw84, kw85, kw86, kw89, kw90, kw91, kw92, kw93, kw94, kw95, kw96, kw97, kw98, kw99, kw101, kw102, kw103, kw104, kw105, kw106, kw107, kw108, kw109, kw110, kw111, kw112, kw113, kw114, kw115, kw116, kw117, kw118, kw119, kw120, kw121, kw122, kw123, kw124]
theorem OPN_le {T S : Nat → Nat} {sz l : Nat} : OPN T S sz l ≤ 8 := Nat.sub_le _ _
def manyF (T S : Nat → Nat) (sz l : Nat) : Nat := if FI T S sz l = true then 2 ^ OPN T S sz l else 0
theorem many_le {T S : Nat → Nat} {sz l : Nat} : manyF T S sz l ≤ 256 := by
  unfold manyF
  split
  · exact pow8 OPN_le
  · omega
theorem sum_le {f : Nat → Nat} {c : Nat} (h : ∀ j, f j ≤ c) : ∀ n, sumN f n ≤ c * n
  | 0 => Nat.le_refl _
  | n + 1 => by
    unfold sumN
    have := sum_le h n
    have := h n
    rw [Nat.mul_add]
    omega
theorem bI_t : bI true = 1 := rfl
theorem bI_f : bI false = 0 := rfl
theorem wp_fitting {d sz : Nat} {T S : Nat → Nat} {s : mw_S} {Q : Option mw_V → mw_S → Prop} (h : learnt s T S sz) : ∀ (n l : Nat), l + n = 5 → (mw_WP (d + 2) 32 4 [some (jR 65), some (jI (sumN (manyF T S sz) l : Nat)), some (jI l)] [] s Q ↔ Q (some (jI (sumN (manyF T S sz) 5 : Nat))) s)
  | 0, l, e => by
    obtain rfl : l = 5 := by omega
    simp (disch := first | (simp only [nlP_n, nlP_I, nlP_R, catP_I, catP_R, st8_0, st8_1, st8_2, st8_3, st8_4, b01, or_true, true_or, eq_self, iRP98, iRP99, iRP86, iRP97, iRP47, iRP57, rcP0, rcP1, rcP3, rcP13, rcP22, rcP25, rcP37, rcP45, rcP55, rcP65, rcP74, rcP76, rcP77, rcP87, rcP88, rcP100]; done) | omega | assumption | (simp (disch := omega) only [cel_s, cel_n, up1_s, up1_n, up1_e, put_out, fill_in]; omega) | (apply isRow_past; omega) | (apply isRow_seek; omega) | (apply isRow_guess; omega)) only [ww32_4, ww32_5, ww32_6, ww32_34, ww32_35, ↓iteT, ↓iteF, andT, w32_eq, yL_1, Int.toNat_natCast, Int.toNat_add, Int.toNat_mul, Int.toNat_sub, cel_s, cel_n, up1_cel, upS_cel, cel_cel, up1_s, up1_n, up1_e, rdI_n, rdB_n, Int.reduceMul, Int.reduceDiv, Int.reduceMod, Nat.reduceMul, Nat.reduceSub, Nat.zero_add, Int.zero_add, Nat.add_zero, Int.add_zero, ite_self, Option.toList_some, Option.toList_none, List.cons_append, List.nil_append, rdI_c, and_true, true_and, and_self, not_false_eq_true, not_true_eq_false, if_true, if_false, or_false, false_or, ne_eq, and_false, false_and, rdI_n, Nat.reduceEqDiff, Nat.reduceAdd, Nat.reduceLeDiff, Int.reduceEq, Int.reduceLT, Int.reduceLE, Int.reduceNeg, Int.reduceToNat, Int.reduceAdd, Int.reduceSub, List.append_nil, ki2, ki4, ki5, ki6, ki7, ki8, ki9, ki10, ki11, ki12, ki14, ki15, ki16, ki17, ki18, ki19, ki20, ki21, ki23, ki24, ki27, ki28, ki29, ki30, ki31, ki32, ki33, ki34, ki35, ki36, ki38, ki39, ki47, ki48, ki49, ki50, ki51, ki52, ki57, ki58, ki59, ki60, ki61, ki62, ki66, ki67, ki69, ki70, ki71, ki72, ki73, ki78, ki79, ki80, ki81, ki82, ki83, ki84, ki85, ki86, ki89, ki90, ki91, ki92, ki93, ki94, ki95, ki96, ki97, ki98, ki99, ki101, ki103, ki104, ki105, ki106, ki107, ki108, ki109, ki110, ki111, ki112, ki113, ki114, ki115, ki116, ki117, ki118, ki121, ki122, ki123, ki3000, kb68, kb102, kr26, kr40, kr46, kr56, kw2, kw4, kw5, kw6, kw7, kw8, kw9, kw10, kw11, kw12, kw14, kw15, kw16, kw17, kw18, kw19, kw20, kw21, kw23, kw24, kw27, kw28, kw29, kw30, kw31, kw32, kw33, kw34, kw35, kw36, kw38, kw39, kw41, kw42, kw43, kw44, kw47, kw48, kw49, kw50, kw51, kw52, kw53, kw54, kw57, kw58, kw59, kw60, kw61, kw62, kw63, kw64, kw66, kw67, kw68, kw69, kw70, kw71, kw72, kw73, kw75, kw78, kw79, kw80, kw81, kw82, kw83, kw84, kw85, kw86, kw89, kw90, kw91, kw92, kw93, kw94, kw95, kw96, kw97, kw98, kw99, kw101, kw102, kw103, kw104, kw105, kw106, kw107, kw108, kw109, kw110, kw111, kw112, kw113, kw114, kw115, kw116, kw117, kw118, kw119, kw120, kw121, kw122, kw123, kw124]
  | n + 1, l, e => by
    have ih := wp_fitting (d := d) (Q := Q) h n (l + 1) (by omega)
    rw [ic1] at ih
    obtain ⟨h1, h2, h3⟩ := h.2 l (by omega)
    have b := sum_le (f := manyF T S sz) (c := 256) (fun _ => many_le) l
    have b2 := many_le (T := T) (S := S) (sz := sz) (l := l)
    rw [show sumN (manyF T S sz) (l + 1) = sumN (manyF T S sz) l + manyF T S sz l from rfl] at ih
    rw [← ih]
    generalize sumN (manyF T S sz) l = acc at *
    unfold manyF at b2 ⊢
    by_cases c : FI T S sz l = true
    · rw [if_pos c] at b2 ⊢
      rw [c, bI_t] at h3
      have o := fun (Q' : Option mw_V → mw_S → Prop) (d' : Nat) => cl_open (d := d') (Q := Q') h (show l < 5 by omega) c
      have sh := zShl1 (OPN_le (T := T) (S := S) (sz := sz) (l := l))
      have st : mw_WP (d + 2) 32 4 [some (jR 65), some (jI acc), some (jI l)] [] s Q ↔ mw_WP (d + 2) 32 31 [some (jR 65), some (jI ((acc : Int) + (2 ^ OPN T S sz l : Nat))), some (jI ((l : Int) + 1))] [] s Q := by
        generalize 2 ^ OPN T S sz l = p at *
        simp (disch := first | (simp only [nlP_n, nlP_I, nlP_R, catP_I, catP_R, st8_0, st8_1, st8_2, st8_3, st8_4, b01, or_true, true_or, eq_self, iRP98, iRP99, iRP86, iRP97, iRP47, iRP57, rcP0, rcP1, rcP3, rcP13, rcP22, rcP25, rcP37, rcP45, rcP55, rcP65, rcP74, rcP76, rcP77, rcP87, rcP88, rcP100]; done) | omega | assumption | (simp (disch := omega) only [cel_s, cel_n, up1_s, up1_n, up1_e, put_out, fill_in]; omega) | (apply isRow_past; omega) | (apply isRow_seek; omega) | (apply isRow_guess; omega)) only [ww32_4, ww32_5, ww32_6, ww32_9, ww32_10, ww32_13, ww32_14, ww32_15, ww32_18, ww32_19, ww32_20, ww32_21, ww32_22, ww32_25, ww32_26, ww32_27, ww32_28, h3, o, sh, ↓iteT, ↓iteF, andT, w32_eq, yL_1, Int.toNat_natCast, Int.toNat_add, Int.toNat_mul, Int.toNat_sub, cel_s, cel_n, up1_cel, upS_cel, cel_cel, up1_s, up1_n, up1_e, rdI_n, rdB_n, Int.reduceMul, Int.reduceDiv, Int.reduceMod, Nat.reduceMul, Nat.reduceSub, Nat.zero_add, Int.zero_add, Nat.add_zero, Int.add_zero, ite_self, Option.toList_some, Option.toList_none, List.cons_append, List.nil_append, rdI_c, and_true, true_and, and_self, not_false_eq_true, not_true_eq_false, if_true, if_false, or_false, false_or, ne_eq, and_false, false_and, rdI_n, Nat.reduceEqDiff, Nat.reduceAdd, Nat.reduceLeDiff, Int.reduceEq, Int.reduceLT, Int.reduceLE, Int.reduceNeg, Int.reduceToNat, Int.reduceAdd, Int.reduceSub, List.append_nil, ki2, ki4, ki5, ki6, ki7, ki8, ki9, ki10, ki11, ki12, ki14, ki15, ki16, ki17, ki18, ki19, ki20, ki21, ki23, ki24, ki27, ki28, ki29, ki30, ki31, ki32, ki33, ki34, ki35, ki36, ki38, ki39, ki47, ki48, ki49, ki50, ki51, ki52, ki57, ki58, ki59, ki60, ki61, ki62, ki66, ki67, ki69, ki70, ki71, ki72, ki73, ki78, ki79, ki80, ki81, ki82, ki83, ki84, ki85, ki86, ki89, ki90, ki91, ki92, ki93, ki94, ki95, ki96, ki97, ki98, ki99, ki101, ki103, ki104, ki105, ki106, ki107, ki108, ki109, ki110, ki111, ki112, ki113, ki114, ki115, ki116, ki117, ki118, ki121, ki122, ki123, ki3000, kb68, kb102, kr26, kr40, kr46, kr56, kw2, kw4, kw5, kw6, kw7, kw8, kw9, kw10, kw11, kw12, kw14, kw15, kw16, kw17, kw18, kw19, kw20, kw21, kw23, kw24, kw27, kw28, kw29, kw30, kw31, kw32, kw33, kw34, kw35, kw36, kw38, kw39, kw41, kw42, kw43, kw44, kw47, kw48, kw49, kw50, kw51, kw52, kw53, kw54, kw57, kw58, kw59, kw60, kw61, kw62, kw63, kw64, kw66, kw67, kw68, kw69, kw70, kw71, kw72, kw73, kw75, kw78, kw79, kw80, kw81, kw82, kw83, kw84, kw85, kw86, kw89, kw90, kw91, kw92, kw93, kw94, kw95, kw96, kw97, kw98, kw99, kw101, kw102, kw103, kw104, kw105, kw106, kw107, kw108, kw109, kw110, kw111, kw112, kw113, kw114, kw115, kw116, kw117, kw118, kw119, kw120, kw121, kw122, kw123, kw124]
      rw [st, ww32_31]
      exact Iff.rfl
    · rw [if_neg c, Nat.add_zero]
      rw [Bool.eq_false_iff.mpr c, bI_f] at h3
      have st : mw_WP (d + 2) 32 4 [some (jR 65), some (jI acc), some (jI l)] [] s Q ↔ mw_WP (d + 2) 32 31 [some (jR 65), some (jI acc), some (jI ((l : Int) + 1))] [] s Q := by
        simp (disch := first | (simp only [nlP_n, nlP_I, nlP_R, catP_I, catP_R, st8_0, st8_1, st8_2, st8_3, st8_4, b01, or_true, true_or, eq_self, iRP98, iRP99, iRP86, iRP97, iRP47, iRP57, rcP0, rcP1, rcP3, rcP13, rcP22, rcP25, rcP37, rcP45, rcP55, rcP65, rcP74, rcP76, rcP77, rcP87, rcP88, rcP100]; done) | omega | assumption | (simp (disch := omega) only [cel_s, cel_n, up1_s, up1_n, up1_e, put_out, fill_in]; omega) | (apply isRow_past; omega) | (apply isRow_seek; omega) | (apply isRow_guess; omega)) only [ww32_4, ww32_5, ww32_6, ww32_9, ww32_10, ww32_13, ww32_14, ww32_15, ww32_18, ww32_19, ww32_20, ww32_21, ww32_22, ww32_25, ww32_26, ww32_27, ww32_28, h3, ↓iteT, ↓iteF, andT, w32_eq, yL_1, Int.toNat_natCast, Int.toNat_add, Int.toNat_mul, Int.toNat_sub, cel_s, cel_n, up1_cel, upS_cel, cel_cel, up1_s, up1_n, up1_e, rdI_n, rdB_n, Int.reduceMul, Int.reduceDiv, Int.reduceMod, Nat.reduceMul, Nat.reduceSub, Nat.zero_add, Int.zero_add, Nat.add_zero, Int.add_zero, ite_self, Option.toList_some, Option.toList_none, List.cons_append, List.nil_append, rdI_c, and_true, true_and, and_self, not_false_eq_true, not_true_eq_false, if_true, if_false, or_false, false_or, ne_eq, and_false, false_and, rdI_n, Nat.reduceEqDiff, Nat.reduceAdd, Nat.reduceLeDiff, Int.reduceEq, Int.reduceLT, Int.reduceLE, Int.reduceNeg, Int.reduceToNat, Int.reduceAdd, Int.reduceSub, List.append_nil, ki2, ki4, ki5, ki6, ki7, ki8, ki9, ki10, ki11, ki12, ki14, ki15, ki16, ki17, ki18, ki19, ki20, ki21, ki23, ki24, ki27, ki28, ki29, ki30, ki31, ki32, ki33, ki34, ki35, ki36, ki38, ki39, ki47, ki48, ki49, ki50, ki51, ki52, ki57, ki58, ki59, ki60, ki61, ki62, ki66, ki67, ki69, ki70, ki71, ki72, ki73, ki78, ki79, ki80, ki81, ki82, ki83, ki84, ki85, ki86, ki89, ki90, ki91, ki92, ki93, ki94, ki95, ki96, ki97, ki98, ki99, ki101, ki103, ki104, ki105, ki106, ki107, ki108, ki109, ki110, ki111, ki112, ki113, ki114, ki115, ki116, ki117, ki118, ki121, ki122, ki123, ki3000, kb68, kb102, kr26, kr40, kr46, kr56, kw2, kw4, kw5, kw6, kw7, kw8, kw9, kw10, kw11, kw12, kw14, kw15, kw16, kw17, kw18, kw19, kw20, kw21, kw23, kw24, kw27, kw28, kw29, kw30, kw31, kw32, kw33, kw34, kw35, kw36, kw38, kw39, kw41, kw42, kw43, kw44, kw47, kw48, kw49, kw50, kw51, kw52, kw53, kw54, kw57, kw58, kw59, kw60, kw61, kw62, kw63, kw64, kw66, kw67, kw68, kw69, kw70, kw71, kw72, kw73, kw75, kw78, kw79, kw80, kw81, kw82, kw83, kw84, kw85, kw86, kw89, kw90, kw91, kw92, kw93, kw94, kw95, kw96, kw97, kw98, kw99, kw101, kw102, kw103, kw104, kw105, kw106, kw107, kw108, kw109, kw110, kw111, kw112, kw113, kw114, kw115, kw116, kw117, kw118, kw119, kw120, kw121, kw122, kw123, kw124]
      rw [st, ww32_31]
      exact Iff.rfl
theorem cl_fitting {d sz : Nat} {T S : Nat → Nat} {s : mw_S} {Q : Option mw_V → mw_S → Prop} (h : learnt s T S sz) : mw_Call (d + 3) 32 [jR 65] s Q ↔ Q (some (jI (sumN (manyF T S sz) 5 : Nat))) s := by
  rw [ee32, ← wp_fitting (d := d) (Q := Q) h 5 0 (by omega)]
  simp (disch := first | (simp only [nlP_n, nlP_I, nlP_R, catP_I, catP_R, st8_0, st8_1, st8_2, st8_3, st8_4, b01, or_true, true_or, eq_self, iRP98, iRP99, iRP86, iRP97, iRP47, iRP57, rcP0, rcP1, rcP3, rcP13, rcP22, rcP25, rcP37, rcP45, rcP55, rcP65, rcP74, rcP76, rcP77, rcP87, rcP88, rcP100]; done) | omega | assumption | (simp (disch := omega) only [cel_s, cel_n, up1_s, up1_n, up1_e, put_out, fill_in]; omega) | (apply isRow_past; omega) | (apply isRow_seek; omega) | (apply isRow_guess; omega)) only [ww32_0, ww32_1, ww32_2, ww32_3, ↓iteT, ↓iteF, andT, w32_eq, yL_1, Int.toNat_natCast, Int.toNat_add, Int.toNat_mul, Int.toNat_sub, cel_s, cel_n, up1_cel, upS_cel, cel_cel, up1_s, up1_n, up1_e, rdI_n, rdB_n, Int.reduceMul, Int.reduceDiv, Int.reduceMod, Nat.reduceMul, Nat.reduceSub, Nat.zero_add, Int.zero_add, Nat.add_zero, Int.add_zero, ite_self, Option.toList_some, Option.toList_none, List.cons_append, List.nil_append, rdI_c, and_true, true_and, and_self, not_false_eq_true, not_true_eq_false, if_true, if_false, or_false, false_or, ne_eq, and_false, false_and, rdI_n, Nat.reduceEqDiff, Nat.reduceAdd, Nat.reduceLeDiff, Int.reduceEq, Int.reduceLT, Int.reduceLE, Int.reduceNeg, Int.reduceToNat, Int.reduceAdd, Int.reduceSub, List.append_nil, ki2, ki4, ki5, ki6, ki7, ki8, ki9, ki10, ki11, ki12, ki14, ki15, ki16, ki17, ki18, ki19, ki20, ki21, ki23, ki24, ki27, ki28, ki29, ki30, ki31, ki32, ki33, ki34, ki35, ki36, ki38, ki39, ki47, ki48, ki49, ki50, ki51, ki52, ki57, ki58, ki59, ki60, ki61, ki62, ki66, ki67, ki69, ki70, ki71, ki72, ki73, ki78, ki79, ki80, ki81, ki82, ki83, ki84, ki85, ki86, ki89, ki90, ki91, ki92, ki93, ki94, ki95, ki96, ki97, ki98, ki99, ki101, ki103, ki104, ki105, ki106, ki107, ki108, ki109, ki110, ki111, ki112, ki113, ki114, ki115, ki116, ki117, ki118, ki121, ki122, ki123, ki3000, kb68, kb102, kr26, kr40, kr46, kr56, kw2, kw4, kw5, kw6, kw7, kw8, kw9, kw10, kw11, kw12, kw14, kw15, kw16, kw17, kw18, kw19, kw20, kw21, kw23, kw24, kw27, kw28, kw29, kw30, kw31, kw32, kw33, kw34, kw35, kw36, kw38, kw39, kw41, kw42, kw43, kw44, kw47, kw48, kw49, kw50, kw51, kw52, kw53, kw54, kw57, kw58, kw59, kw60, kw61, kw62, kw63, kw64, kw66, kw67, kw68, kw69, kw70, kw71, kw72, kw73, kw75, kw78, kw79, kw80, kw81, kw82, kw83, kw84, kw85, kw86, kw89, kw90, kw91, kw92, kw93, kw94, kw95, kw96, kw97, kw98, kw99, kw101, kw102, kw103, kw104, kw105, kw106, kw107, kw108, kw109, kw110, kw111, kw112, kw113, kw114, kw115, kw116, kw117, kw118, kw119, kw120, kw121, kw122, kw123, kw124]
  exact Iff.rfl
theorem lrS_learnt {s : mw_S} {sz : Nat} {T S : Nat → Nat} (hT : okT T sz) : learnt (lrS s sz T S) T S sz := by
  refine ⟨hT, fun l hl => ?_⟩
  unfold lrS
  simp (disch := omega) only [cel_s, cel_n, up1_s, up1_n, up1_e, put_in, put_out, fill_in, fill_out, Nat.add_sub_cancel_left, Int.toNat_natCast]
  refine ⟨?_, ?_, ?_⟩ <;> first | rfl | trivial
theorem lawL_fit {T S : Nat → Nat} {sz : Nat} : ∀ r l, lawL (fun late se => ftN T S late se sz 0) (r + 1) l = fitL T S sz l ++ lawL (fun late se => ftN T S late se sz 0) r (l + 1) := fun _ _ => rfl
theorem lawL_len2 {T S : Nat → Nat} {sz : Nat} (hT : okT T sz) : ∀ r l, (lawL (fun late se => ftN T S late se sz 0) r l).length + sumN (manyF T S sz) l = sumN (manyF T S sz) (l + r)
  | 0, l => by
    show 0 + _ = _
    rw [Nat.zero_add, Nat.add_zero]
  | r + 1, l => by
    rw [lawL_fit, List.length_append, fitL_len hT]
    have ih := lawL_len2 (S := S) hT r (l + 1)
    rw [show l + 1 + r = l + (r + 1) by omega] at ih
    rw [← ih]
    show (if FI T S sz l = true then 2 ^ OPN T S sz l else 0) + _ + sumN (manyF T S sz) l = _ + (sumN (manyF T S sz) l + (if FI T S sz l = true then 2 ^ OPN T S sz l else 0))
    omega
theorem allL_len {w : Nat → Nat} {sz : Nat} (hT : okT (tw w) sz) : (allL w sz).length = sumN (manyF (tw w) (sw w) sz) 5 := by
  have := lawL_len2 (S := sw w) hT 5 0
  rw [show sumN (manyF (tw w) (sw w) sz) 0 = 0 from rfl] at this
  exact this
/-- what a call of a law's kind is told: a tray, seen -/
theorem seen_get {n : Nat} {σ : mw_S} {t : Nat} (hI : Rall n σ) (ht : t < 4) (c1 : ¬ σ 38 t = -1) (c2 : ¬ (σ 38 t < 1 ∨ 30 < σ 38 t)) (c3 : svF (σ (41 + t)) (σ 38 t).toNat 0 = true) : ∃ (sz : Nat) (w : Nat → Nat), 1 ≤ sz ∧ sz ≤ 30 ∧ seenC σ t sz w ∧ σ 123 t = sz ∧ seenAt σ t sz w ∧ okT (tw w) sz := by
  obtain ⟨q1, q2, q3, q4, q5, q6, q7⟩ : 0 ≤ σ 122 t ∧ σ 122 t ≤ 3 ∧ σ 39 t = σ 122 t ∧ σ 38 t = σ 123 t ∧ 0 ≤ σ 38 t ∧ σ 38 t ≤ 40 ∧ ∀ i : Nat, (i : Int) < σ 38 t → σ 124 (40 * t + i) = σ (41 + t) i := by
    rcases hI.2.2.2.2.2.1 t ht with h | h
    · exact absurd h.2 c1
    · exact h
  obtain ⟨sz, hsz⟩ := Int.eq_ofNat_of_zero_le q5
  rw [hsz, Int.toNat_natCast] at c3
  have hv := svF_all sz 0 c3
  have hw : ∀ i, i < sz → σ (41 + t) i = ((σ (41 + t) i).toNat : Int) ∧ (σ (41 + t) i).toNat < 81 := fun i hi => by
    have := hv i (by omega) (by omega)
    omega
  refine ⟨sz, fun i => (σ (41 + t) i).toNat, by omega, by omega, ⟨hsz, hw⟩, by omega, fun i hi => ?_, fun k hk => ?_⟩
  · rw [q7 i (by omega)]
    exact hw i hi
  · unfold tw
    have := (hw k hk).2
    show (σ (41 + t) k).toNat / 9 ≤ 8
    omega
/-- what a call of a law's kind is refused by -/
def noS (s : mw_S) (v : Int) : Int := if 0 ≤ v ∧ v < 4 then (if s 38 v.toNat = -1 then -6 else if s 38 v.toNat < 1 ∨ 30 < s 38 v.toNat then -4 else if svF (s (41 + v.toNat)) (s 38 v.toNat).toNat 0 = true then 0 else -3) else -2
theorem noS_same {s σ : mw_S} {v : Int} (h1 : s 38 = σ 38) (h2 : ∀ t, t < 4 → s (41 + t) = σ (41 + t)) : noS s v = noS σ v := by
  unfold noS
  by_cases c : 0 ≤ v ∧ v < 4
  · rw [if_pos c, if_pos c, h1, h2 _ (by omega)]
  · rw [if_neg c, if_neg c]
theorem noS_0 {n : Nat} {σ : mw_S} {v : Int} (hI : Rall n σ) (h : noS σ v = 0) : ∃ (t sz : Nat) (w : Nat → Nat), v = t ∧ t < 4 ∧ 1 ≤ sz ∧ sz ≤ 30 ∧ seenC σ t sz w ∧ σ 123 t = sz ∧ seenAt σ t sz w ∧ okT (tw w) sz := by
  unfold noS at h
  by_cases c : 0 ≤ v ∧ v < 4
  · rw [if_pos c] at h
    obtain ⟨t, rfl⟩ := Int.eq_ofNat_of_zero_le c.1
    rw [Int.toNat_natCast] at h
    by_cases c1 : σ 38 t = -1
    · rw [if_pos c1] at h
      exact absurd h (by decide)
    · rw [if_neg c1] at h
      by_cases c2 : σ 38 t < 1 ∨ 30 < σ 38 t
      · rw [if_pos c2] at h
        exact absurd h (by decide)
      · rw [if_neg c2] at h
        by_cases c3 : svF (σ (41 + t)) (σ 38 t).toNat 0 = true
        · obtain ⟨sz, w, hh⟩ := seen_get hI (by omega) c1 c2 c3
          exact ⟨t, sz, w, rfl, by omega, hh⟩
        · rw [if_neg c3] at h
          exact absurd h (by decide)
  · rw [if_neg c] at h
    exact absurd h (by decide)
theorem noS_neg {σ : mw_S} {v : Int} : -7 ≤ noS σ v ∧ noS σ v ≤ 0 := by
  unfold noS
  split
  · split
    · omega
    · split
      · omega
      · split <;> omega
  · omega
theorem cl_seenN {n d : Nat} {v : Int} {σ : mw_S} {Q : Option mw_V → mw_S → Prop} (hI : Rall n σ) (hok : ∀ t i, t < 4 → in64 (σ (41 + t) i)) : mw_Call (d + 10) 166 [jR 0, jI v] σ Q ↔ Q (some (jI (noS σ v))) σ := cl_seen hI.2.2.2.2.2.1 hok
theorem cl_mseenN {n d : Nat} {v : Int} {s : mw_S} {Q : Option mw_V → mw_S → Prop} (hv : in32 v) (hI : Rall n s) (hok : ∀ t i, t < 4 → in64 (s (41 + t) i)) : mw_Call (d + 10) 242 [jR 100, jI v] s Q ↔ Q (some (jI (noS s v))) s := cl_mseen hv hI.2.2.2.2.2.1 hok
theorem trays_in {σ : mw_S} (oS : mw_okS σ) : ∀ t i, t < 4 → in64 (σ (41 + t) i) := fun t i _ => (oS (41 + t) i).2
/-- both refuse, or neither -/
theorem law_ref {n : Nat} {σ : mw_S} {v : Int} (hI : Rall n σ) (oS : mw_okS σ) (iv : in32 v) : (∀ (Q : Option mw_V → mw_S → Prop) (d : Nat), mw_Call (d + 10) 166 [jR 0, jI v] σ Q ↔ Q (some (jI (noS σ v))) σ) ∧ (∀ (Q : Option mw_V → mw_S → Prop) (d : Nat), mw_Call (d + 10) 242 [jR 100, jI v] (cel σ 100 (up1 (σ 100) 0 0)) Q ↔ Q (some (jI (noS σ v))) (cel σ 100 (up1 (σ 100) 0 0))) := by
  refine ⟨fun Q d => cl_seenN hI (trays_in oS), fun Q d => ?_⟩
  rw [cl_mseenN iv (RthrC (x := 0) hI) (fun t i ht => by rw [cel_n (by omega)]; exact trays_in oS t i ht), noS_same (s := cel σ 100 (up1 (σ 100) 0 0)) (σ := σ) (by rw [cel_n (by decide)]) (fun t ht => by rw [cel_n (by omega)])]
/-- the state behind the class's learning -/
def lrnS (σ : mw_S) (sz : Nat) (w : Nat → Nat) : mw_S := lrS (cel (cel (cel σ 65 (up1 (σ 65) 10 sz)) 69 (fillF (fun k => (tw w k : Int)) (σ 69) sz)) 70 (fillF (fun k => (sw w k : Int)) (σ 70) sz)) sz (tw w) (sw w)
theorem lrn_n {σ : mw_S} {sz a : Nat} {w : Nat → Nat} (h : a < 65 ∨ 70 < a) : lrnS σ sz w a = σ a := by
  unfold lrnS lrS
  rw [cel_n (by omega), cel_n (by omega), cel_n (by omega), cel_n (by omega), cel_n (by omega), cel_n (by omega)]
theorem Rall.far {n : Nat} {σ s : mw_S} (h : Rall n σ) (h1 : ∀ a, a < 65 ∨ (75 < a ∧ a < 100) ∨ (100 < a ∧ a < 105) ∨ 121 < a → s a = σ a) (h2 : s 100 5 = σ 100 5 ∧ s 100 13 = σ 100 13 ∧ s 100 14 = σ 100 14) : Rall n s := by
  refine Rall.same h (fun a ha => h1 a ?_) ?_
  · unfold Rsee at ha
    simp at ha
    omega
  · rw [h1 1 (by omega), h1 25 (by omega)]
    exact ⟨rfl, rfl, rfl, rfl, rfl, h2⟩
theorem lrn_R {n : Nat} {σ s : mw_S} {sz : Nat} {w : Nat → Nat} (h : Rall n σ) : Rall n (lrnS σ sz w) := h.far (fun a ha => lrn_n (by omega)) (by rw [lrn_n (by omega)]; exact ⟨rfl, rfl, rfl⟩)
theorem lrn_ref {n : Nat} {σ : mw_S} {v : Int} {sz : Nat} {w : Nat → Nat} (hI : Rall n σ) (oS : mw_okS σ) (iv : in32 v) : (∀ (Q : Option mw_V → mw_S → Prop) (d : Nat), mw_Call (d + 10) 242 [jR 100, jI v] (cel (lrnS σ sz w) 100 (up1 (lrnS σ sz w 100) 0 0)) Q ↔ Q (some (jI (noS σ v))) (cel (lrnS σ sz w) 100 (up1 (lrnS σ sz w 100) 0 0))) := by
  intro Q d
  rw [cl_mseenN iv (RthrC (x := 0) (lrn_R (s := σ) hI)) (fun t i ht => by rw [cel_n (by omega), lrn_n (by omega)]; exact trays_in oS t i ht), noS_same (s := cel (lrnS σ sz w) 100 (up1 (lrnS σ sz w 100) 0 0)) (σ := σ) (by rw [cel_n (by decide), lrn_n (by omega)]) (fun t ht => by rw [cel_n (by omega), lrn_n (by omega)])]
theorem lrn_seen {σ : mw_S} {t sz : Nat} {w : Nat → Nat} (h1 : σ 123 t = sz) (h2 : seenAt σ t sz w) : (cel (lrnS σ sz w) 100 (up1 (lrnS σ sz w 100) 0 0)) 123 t = sz ∧ seenAt (cel (lrnS σ sz w) 100 (up1 (lrnS σ sz w 100) 0 0)) t sz w := by
  unfold seenAt
  rw [cel_n (by decide), cel_n (by decide), lrn_n (by omega), lrn_n (by omega)]
  exact ⟨h1, h2⟩
theorem g_fits : ag_fits Rall := by
  intro n σ v1 hn hI oS i1
  have hT := RthrC (x := 0) hI
  obtain ⟨r1, r2⟩ := law_ref hI oS i1
  simp only [ee137, ee247]
  by_cases c : noS σ v1 = 0
  · obtain ⟨t, sz, w, rfl, ht, s1, s30, hC, h123, hA, hO⟩ := noS_0 hI c
    have hl := fun (Q : Option mw_V → mw_S → Prop) (d : Nat) => cl_learn (d := d) (s := σ) (Q := Q) ht hC s30
    have hf := fun (Q : Option mw_V → mw_S → Prop) (d : Nat) => cl_fitting (d := d) (s := lrnS σ sz w) (Q := Q) (lrS_learnt hO)
    have r3 := lrn_ref (sz := sz) (w := w) hI oS i1
    obtain ⟨x1, x2⟩ := lrn_seen h123 hA
    have hy := fun (Q : Option mw_V → mw_S → Prop) (d : Nat) => cl_laysFits (d := d) (Q := Q) ht x1 (by omega) x2
    have hll := allL_len hO
    rw [c] at r1 r2 r3
    have hlrn : lrS (cel (cel (cel σ 65 (up1 (σ 65) 10 sz)) 69 (fillF (fun k => (tw w k : Int)) (σ 69) sz)) 70 (fillF (fun k => (sw w k : Int)) (σ 70) sz)) sz (tw w) (sw w) = lrnS σ sz w := rfl
    rw [hlrn] at hl
    have hR := lrn_R (s := σ) (sz := sz) (w := w) hI
    generalize lrnS σ sz w = A at *
    rw [hll] at hy
    simp (disch := first | (simp only [nlP_n, nlP_I, nlP_R, catP_I, catP_R, st8_0, st8_1, st8_2, st8_3, st8_4, b01, or_true, true_or, eq_self, iRP98, iRP99, iRP86, iRP97, iRP47, iRP57, rcP0, rcP1, rcP3, rcP13, rcP22, rcP25, rcP37, rcP45, rcP55, rcP65, rcP74, rcP76, rcP77, rcP87, rcP88, rcP100]; done) | omega | assumption | (simp (disch := omega) only [cel_s, cel_n, up1_s, up1_n, up1_e, put_out, fill_in]; omega) | (apply isRow_past; omega) | (apply isRow_seek; omega) | (apply isRow_guess; omega)) only [ww137_0, ww137_1, ww137_2, ww137_5, ww137_6, ww137_7, ww137_10, ww137_11, ww137_12, ww137_13, ww137_16, ww137_17, ww137_20, ww137_21, ww137_24, ww137_25, ww137_28, ww137_31, ww247_0, ww247_1, ww247_2, ww247_5, ww247_6, ww247_7, ww247_10, ww247_11, ww247_12, ww247_15, ww247_16, ww247_17, ww247_18, ww247_19, ww247_22, ww247_23, ww247_26, r1, hl, hf, r3, hy, ↓iteT, ↓iteF, andT, w32_eq, yL_1, Int.toNat_natCast, Int.toNat_add, Int.toNat_mul, Int.toNat_sub, cel_s, cel_n, up1_cel, upS_cel, cel_cel, up1_s, up1_n, up1_e, rdI_n, rdB_n, Int.reduceMul, Int.reduceDiv, Int.reduceMod, Nat.reduceMul, Nat.reduceSub, Nat.zero_add, Int.zero_add, Nat.add_zero, Int.add_zero, ite_self, Option.toList_some, Option.toList_none, List.cons_append, List.nil_append, rdI_c, and_true, true_and, and_self, not_false_eq_true, not_true_eq_false, if_true, if_false, or_false, false_or, ne_eq, and_false, false_and, rdI_n, Nat.reduceEqDiff, Nat.reduceAdd, Nat.reduceLeDiff, Int.reduceEq, Int.reduceLT, Int.reduceLE, Int.reduceNeg, Int.reduceToNat, Int.reduceAdd, Int.reduceSub, List.append_nil, ki2, ki4, ki5, ki6, ki7, ki8, ki9, ki10, ki11, ki12, ki14, ki15, ki16, ki17, ki18, ki19, ki20, ki21, ki23, ki24, ki27, ki28, ki29, ki30, ki31, ki32, ki33, ki34, ki35, ki36, ki38, ki39, ki47, ki48, ki49, ki50, ki51, ki52, ki57, ki58, ki59, ki60, ki61, ki62, ki66, ki67, ki69, ki70, ki71, ki72, ki73, ki78, ki79, ki80, ki81, ki82, ki83, ki84, ki85, ki86, ki89, ki90, ki91, ki92, ki93, ki94, ki95, ki96, ki97, ki98, ki99, ki101, ki103, ki104, ki105, ki106, ki107, ki108, ki109, ki110, ki111, ki112, ki113, ki114, ki115, ki116, ki117, ki118, ki121, ki122, ki123, ki3000, kb68, kb102, kr26, kr40, kr46, kr56, kw2, kw4, kw5, kw6, kw7, kw8, kw9, kw10, kw11, kw12, kw14, kw15, kw16, kw17, kw18, kw19, kw20, kw21, kw23, kw24, kw27, kw28, kw29, kw30, kw31, kw32, kw33, kw34, kw35, kw36, kw38, kw39, kw41, kw42, kw43, kw44, kw47, kw48, kw49, kw50, kw51, kw52, kw53, kw54, kw57, kw58, kw59, kw60, kw61, kw62, kw63, kw64, kw66, kw67, kw68, kw69, kw70, kw71, kw72, kw73, kw75, kw78, kw79, kw80, kw81, kw82, kw83, kw84, kw85, kw86, kw89, kw90, kw91, kw92, kw93, kw94, kw95, kw96, kw97, kw98, kw99, kw101, kw102, kw103, kw104, kw105, kw106, kw107, kw108, kw109, kw110, kw111, kw112, kw113, kw114, kw115, kw116, kw117, kw118, kw119, kw120, kw121, kw122, kw123, kw124]
    refine ⟨⟨_, rfl⟩, ?_⟩
    refine (hR.mono (Nat.le_succ n)).far (fun a ha => ?_) ?_
    · rw [cel_n (by omega), cel_n (by omega)]
    · simp (disch := omega) only [cel_s, cel_n, up1_s, up1_n, up1_e, put_in, put_out, fill_in, fill_out, Nat.add_sub_cancel_left, Int.toNat_natCast]
      refine ⟨?_, ?_, ?_⟩ <;> first | rfl | trivial
  · have := noS_neg (σ := σ) (v := v1)
    generalize noS σ v1 = z at *
    simp (disch := first | (simp only [nlP_n, nlP_I, nlP_R, catP_I, catP_R, st8_0, st8_1, st8_2, st8_3, st8_4, b01, or_true, true_or, eq_self, iRP98, iRP99, iRP86, iRP97, iRP47, iRP57, rcP0, rcP1, rcP3, rcP13, rcP22, rcP25, rcP37, rcP45, rcP55, rcP65, rcP74, rcP76, rcP77, rcP87, rcP88, rcP100]; done) | omega | assumption | (simp (disch := omega) only [cel_s, cel_n, up1_s, up1_n, up1_e, put_out, fill_in]; omega) | (apply isRow_past; omega) | (apply isRow_seek; omega) | (apply isRow_guess; omega)) only [ww137_0, ww137_1, ww137_2, ww137_5, ww137_6, ww137_7, ww137_10, ww137_11, ww247_0, ww247_1, ww247_2, ww247_5, ww247_6, ww247_7, ww247_10, ww247_11, ww247_12, ww247_15, ww247_16, r1, r2, ↓iteT, ↓iteF, andT, w32_eq, yL_1, Int.toNat_natCast, Int.toNat_add, Int.toNat_mul, Int.toNat_sub, cel_s, cel_n, up1_cel, upS_cel, cel_cel, up1_s, up1_n, up1_e, rdI_n, rdB_n, Int.reduceMul, Int.reduceDiv, Int.reduceMod, Nat.reduceMul, Nat.reduceSub, Nat.zero_add, Int.zero_add, Nat.add_zero, Int.add_zero, ite_self, Option.toList_some, Option.toList_none, List.cons_append, List.nil_append, rdI_c, and_true, true_and, and_self, not_false_eq_true, not_true_eq_false, if_true, if_false, or_false, false_or, ne_eq, and_false, false_and, rdI_n, Nat.reduceEqDiff, Nat.reduceAdd, Nat.reduceLeDiff, Int.reduceEq, Int.reduceLT, Int.reduceLE, Int.reduceNeg, Int.reduceToNat, Int.reduceAdd, Int.reduceSub, List.append_nil, ki2, ki4, ki5, ki6, ki7, ki8, ki9, ki10, ki11, ki12, ki14, ki15, ki16, ki17, ki18, ki19, ki20, ki21, ki23, ki24, ki27, ki28, ki29, ki30, ki31, ki32, ki33, ki34, ki35, ki36, ki38, ki39, ki47, ki48, ki49, ki50, ki51, ki52, ki57, ki58, ki59, ki60, ki61, ki62, ki66, ki67, ki69, ki70, ki71, ki72, ki73, ki78, ki79, ki80, ki81, ki82, ki83, ki84, ki85, ki86, ki89, ki90, ki91, ki92, ki93, ki94, ki95, ki96, ki97, ki98, ki99, ki101, ki103, ki104, ki105, ki106, ki107, ki108, ki109, ki110, ki111, ki112, ki113, ki114, ki115, ki116, ki117, ki118, ki121, ki122, ki123, ki3000, kb68, kb102, kr26, kr40, kr46, kr56, kw2, kw4, kw5, kw6, kw7, kw8, kw9, kw10, kw11, kw12, kw14, kw15, kw16, kw17, kw18, kw19, kw20, kw21, kw23, kw24, kw27, kw28, kw29, kw30, kw31, kw32, kw33, kw34, kw35, kw36, kw38, kw39, kw41, kw42, kw43, kw44, kw47, kw48, kw49, kw50, kw51, kw52, kw53, kw54, kw57, kw58, kw59, kw60, kw61, kw62, kw63, kw64, kw66, kw67, kw68, kw69, kw70, kw71, kw72, kw73, kw75, kw78, kw79, kw80, kw81, kw82, kw83, kw84, kw85, kw86, kw89, kw90, kw91, kw92, kw93, kw94, kw95, kw96, kw97, kw98, kw99, kw101, kw102, kw103, kw104, kw105, kw106, kw107, kw108, kw109, kw110, kw111, kw112, kw113, kw114, kw115, kw116, kw117, kw118, kw119, kw120, kw121, kw122, kw123, kw124]
    exact ⟨⟨_, rfl⟩, hT⟩
