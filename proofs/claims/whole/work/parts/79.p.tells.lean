/-! laws: how they part, the class -/
theorem and_low {c y : Nat} (hc : c < 512) : c &&& y = c &&& y % 512 := by
  apply Nat.eq_of_testBit_eq
  intro k
  rw [Nat.testBit_and, Nat.testBit_and, show 512 = 2 ^ 9 from rfl, Nat.testBit_mod_two_pow]
  by_cases q : k < 9
  · rw [decide_eq_true q, Bool.true_and]
  · rw [big0 hc (by omega)]
    rfl
theorem xor511 : ∀ x, x < 512 → 511 - x = 511 ^^^ x := by decide +kernel
theorem xorM1 : ∀ x : Nat, x < 512 → zXor (x : Int) (-1) = -(x : Int) - 1 := by decide +kernel
theorem zAndNeg {c x : Nat} (hc : c < 512) (hx : x < 512) : zAnd (c : Int) (-(x : Int) - 1) = ((c &&& (511 ^^^ x) : Nat) : Int) := by
  have e : i32 (c : Int) &&& i32 (-(x : Int) - 1) = nI (c &&& (511 ^^^ x)) := by
    apply Int32.toBitVec_inj.mp
    apply BitVec.eq_of_toNat_eq
    rw [Int32.toBitVec_and, BitVec.toNat_and, pk_tn (Nat.lt_of_le_of_lt Nat.and_le_left (by omega))]
    have h1 : (i32 (c : Int)).toBitVec.toNat = c := pk_tn (by omega)
    have h2 : (i32 (-(x : Int) - 1)).toBitVec.toNat = 4294967295 - x := by
      show (BitVec.ofInt 32 (-(x : Int) - 1)).toNat = _
      rw [BitVec.toNat_ofInt]
      omega
    rw [h1, h2, and_low hc, show (4294967295 - x) % 512 = 511 - x by omega, xor511 x hx]
  unfold zAnd
  rw [e, nI_toInt (Nat.lt_of_le_of_lt Nat.and_le_left (by omega))]
/-- what was told, with a doing that comes next -/
def tX (T : Nat → Nat) (sz x k : Nat) : Nat := if k < sz then T k else if k = sz then x else 0
theorem tX_le {T : Nat → Nat} {sz x : Nat} (hT : okT T sz) (hx : x ≤ 8) (k : Nat) : tX T sz x k ≤ 8 := by
  unfold tX
  split
  · exact hT k (by omega)
  · split <;> omega
def eX (T : Nat → Nat) (sz x l j : Nat) : Nat := dN (tX T sz x) l (sz + j)
theorem eX_le {T : Nat → Nat} {sz x l : Nat} (hT : okT T sz) (hx : x ≤ 8) (j : Nat) : eX T sz x l j ≤ 8 := dN_le (fun _ => tX_le hT hx _)
theorem wp_key {d set : Nat} {e : Nat → Nat} {s : mw_S} {Q : Option mw_V → mw_S → Prop} (he : ∀ j, j < 5 → s 71 j = (e j : Int) ∧ e j ≤ 8) (hs : set < 512) : ∀ (n j a : Nat) (l4 : Option mw_V), j + n = 5 → a < 9 ^ j → (mw_WP d 38 4 [some (jR 65), some (jI set), some (jI a), some (jI j), l4] [] s Q ↔ Q (some (jI (cdN e set n j a : Nat))) s)
  | 0, j, a, l4, h, ha => by
    obtain rfl : j = 5 := by omega
    unfold cdN
    simp (disch := first | (simp only [nlP_n, nlP_I, nlP_R, catP_I, catP_R, st8_0, st8_1, st8_2, st8_3, st8_4, b01, or_true, true_or, eq_self, iRP98, iRP99, iRP86, iRP97, iRP47, iRP57, rcP0, rcP1, rcP3, rcP13, rcP22, rcP25, rcP37, rcP45, rcP55, rcP65, rcP74, rcP76, rcP77, rcP87, rcP88, rcP100]; done) | omega | assumption | (simp (disch := omega) only [cel_s, cel_n, up1_s, up1_n, up1_e, put_out, fill_in]; omega) | (apply isRow_past; omega) | (apply isRow_seek; omega) | (apply isRow_guess; omega)) only [ww38_4, ww38_5, ww38_6, ww38_57, ww38_58, ↓iteT, ↓iteF, andT, w32_eq, yL_1, Int.toNat_natCast, Int.toNat_add, Int.toNat_mul, Int.toNat_sub, cel_s, cel_n, up1_cel, upS_cel, cel_cel, up1_s, up1_n, up1_e, rdI_n, rdB_n, Int.reduceMul, Int.reduceDiv, Int.reduceMod, Nat.reduceMul, Nat.reduceSub, Nat.zero_add, Int.zero_add, Nat.add_zero, Int.add_zero, ite_self, Option.toList_some, Option.toList_none, List.cons_append, List.nil_append, rdI_c, and_true, true_and, and_self, not_false_eq_true, not_true_eq_false, if_true, if_false, or_false, false_or, ne_eq, and_false, false_and, rdI_n, Nat.reduceEqDiff, Nat.reduceAdd, Nat.reduceLeDiff, Int.reduceEq, Int.reduceLT, Int.reduceLE, Int.reduceNeg, Int.reduceToNat, Int.reduceAdd, Int.reduceSub, List.append_nil, ki2, ki4, ki5, ki6, ki7, ki8, ki9, ki10, ki11, ki12, ki14, ki15, ki16, ki17, ki18, ki19, ki20, ki21, ki23, ki24, ki27, ki28, ki29, ki30, ki31, ki32, ki33, ki34, ki35, ki36, ki38, ki39, ki47, ki48, ki49, ki50, ki51, ki52, ki57, ki58, ki59, ki60, ki61, ki62, ki66, ki67, ki69, ki70, ki71, ki72, ki73, ki78, ki79, ki80, ki81, ki82, ki83, ki84, ki85, ki86, ki89, ki90, ki91, ki92, ki93, ki94, ki95, ki96, ki97, ki98, ki99, ki101, ki103, ki104, ki105, ki106, ki107, ki108, ki109, ki110, ki111, ki112, ki113, ki114, ki115, ki116, ki117, ki118, ki121, ki122, ki123, ki3000, kb68, kb102, kr26, kr40, kr46, kr56, kw2, kw4, kw5, kw6, kw7, kw8, kw9, kw10, kw11, kw12, kw14, kw15, kw16, kw17, kw18, kw19, kw20, kw21, kw23, kw24, kw27, kw28, kw29, kw30, kw31, kw32, kw33, kw34, kw35, kw36, kw38, kw39, kw41, kw42, kw43, kw44, kw47, kw48, kw49, kw50, kw51, kw52, kw53, kw54, kw57, kw58, kw59, kw60, kw61, kw62, kw63, kw64, kw66, kw67, kw68, kw69, kw70, kw71, kw72, kw73, kw75, kw78, kw79, kw80, kw81, kw82, kw83, kw84, kw85, kw86, kw89, kw90, kw91, kw92, kw93, kw94, kw95, kw96, kw97, kw98, kw99, kw101, kw102, kw103, kw104, kw105, kw106, kw107, kw108, kw109, kw110, kw111, kw112, kw113, kw114, kw115, kw116, kw117, kw118, kw119, kw120, kw121, kw122, kw123, kw124]
  | n + 1, j, a, l4, h, ha => by
    obtain ⟨e1, e2⟩ := he j (by omega)
    have p9 : (9 : Nat) ^ (j + 1) = 9 * 9 ^ j := by rw [Nat.pow_succ, Nat.mul_comm]
    have p5 : (9 : Nat) ^ j ≤ 6561 := (show (9 : Nat) ^ j ≤ 9 ^ 4 from Nat.pow_le_pow_right (by decide) (by omega))
    have hk : keepN set (e j) ≤ 8 := Nat.le_trans keepN_le e2
    unfold cdN
    have hs1 := zShrN (a := set) (k := e j) (s := (e j : Int)) (shK (e j) (by omega)) (by omega)
    have hdl : set / 2 ^ e j ≤ set := Nat.div_le_self _ _
    have ha1 := zAndN (a := set / 2 ^ e j) (b := 1) (by omega) (by omega)
    rw [Nat.and_one_is_mod] at ha1
    have lt : 9 * a + keepN set (e j) < 9 ^ (j + 1) := by omega
    rcases (show set / 2 ^ e j % 2 = 1 ∨ set / 2 ^ e j % 2 = 0 by omega) with q | q
    · have ih := wp_key (d := d) (Q := Q) he hs n (j + 1) (9 * a + keepN set (e j)) (some (jI 1)) (by omega) lt
      rw [← ih]
      have hkv : keepN set (e j) = 0 := by
        unfold keepN
        rw [if_pos q]
      rw [hkv, Nat.add_zero, ic1, show ((9 * a : Nat) : Int) = 9 * (a : Int) by omega]
      rw [q] at ha1
      generalize 9 ^ j = p at *
      have ha2 : zAnd ((set / 2 ^ e j : Nat) : Int) 1 = 1 := ha1
      have cm : (9 : Int) * (a : Int) = (a : Int) * 9 := Int.mul_comm _ _
      have st : mw_WP d 38 4 [some (jR 65), some (jI set), some (jI a), some (jI j), l4] [] s Q ↔ mw_WP d 38 54 [some (jR 65), some (jI set), some (jI (9 * (a : Int))), some (jI ((j : Int) + 1)), some (jI 1)] [] s Q := by
        rw [cm]
        simp (disch := first | (simp only [nlP_n, nlP_I, nlP_R, catP_I, catP_R, st8_0, st8_1, st8_2, st8_3, st8_4, b01, or_true, true_or, eq_self, iRP98, iRP99, iRP86, iRP97, iRP47, iRP57, rcP0, rcP1, rcP3, rcP13, rcP22, rcP25, rcP37, rcP45, rcP55, rcP65, rcP74, rcP76, rcP77, rcP87, rcP88, rcP100]; done) | omega | assumption | (simp (disch := omega) only [cel_s, cel_n, up1_s, up1_n, up1_e, put_out, fill_in]; omega) | (apply isRow_past; omega) | (apply isRow_seek; omega) | (apply isRow_guess; omega)) only [ww38_4, ww38_5, ww38_6, ww38_9, ww38_10, ww38_11, ww38_14, ww38_15, ww38_16, ww38_17, ww38_18, ww38_19, ww38_20, ww38_23, ww38_24, ww38_27, ww38_28, ww38_30, ww38_31, ww38_33, ww38_34, ww38_36, ww38_39, ww38_40, ww38_43, ww38_44, ww38_47, ww38_48, ww38_49, ww38_50, ww38_51, e1, hs1, ha2, ↓iteT, ↓iteF, andT, w32_eq, yL_1, Int.toNat_natCast, Int.toNat_add, Int.toNat_mul, Int.toNat_sub, cel_s, cel_n, up1_cel, upS_cel, cel_cel, up1_s, up1_n, up1_e, rdI_n, rdB_n, Int.reduceMul, Int.reduceDiv, Int.reduceMod, Nat.reduceMul, Nat.reduceSub, Nat.zero_add, Int.zero_add, Nat.add_zero, Int.add_zero, ite_self, Option.toList_some, Option.toList_none, List.cons_append, List.nil_append, rdI_c, and_true, true_and, and_self, not_false_eq_true, not_true_eq_false, if_true, if_false, or_false, false_or, ne_eq, and_false, false_and, rdI_n, Nat.reduceEqDiff, Nat.reduceAdd, Nat.reduceLeDiff, Int.reduceEq, Int.reduceLT, Int.reduceLE, Int.reduceNeg, Int.reduceToNat, Int.reduceAdd, Int.reduceSub, List.append_nil, ki2, ki4, ki5, ki6, ki7, ki8, ki9, ki10, ki11, ki12, ki14, ki15, ki16, ki17, ki18, ki19, ki20, ki21, ki23, ki24, ki27, ki28, ki29, ki30, ki31, ki32, ki33, ki34, ki35, ki36, ki38, ki39, ki47, ki48, ki49, ki50, ki51, ki52, ki57, ki58, ki59, ki60, ki61, ki62, ki66, ki67, ki69, ki70, ki71, ki72, ki73, ki78, ki79, ki80, ki81, ki82, ki83, ki84, ki85, ki86, ki89, ki90, ki91, ki92, ki93, ki94, ki95, ki96, ki97, ki98, ki99, ki101, ki103, ki104, ki105, ki106, ki107, ki108, ki109, ki110, ki111, ki112, ki113, ki114, ki115, ki116, ki117, ki118, ki121, ki122, ki123, ki3000, kb68, kb102, kr26, kr40, kr46, kr56, kw2, kw4, kw5, kw6, kw7, kw8, kw9, kw10, kw11, kw12, kw14, kw15, kw16, kw17, kw18, kw19, kw20, kw21, kw23, kw24, kw27, kw28, kw29, kw30, kw31, kw32, kw33, kw34, kw35, kw36, kw38, kw39, kw41, kw42, kw43, kw44, kw47, kw48, kw49, kw50, kw51, kw52, kw53, kw54, kw57, kw58, kw59, kw60, kw61, kw62, kw63, kw64, kw66, kw67, kw68, kw69, kw70, kw71, kw72, kw73, kw75, kw78, kw79, kw80, kw81, kw82, kw83, kw84, kw85, kw86, kw89, kw90, kw91, kw92, kw93, kw94, kw95, kw96, kw97, kw98, kw99, kw101, kw102, kw103, kw104, kw105, kw106, kw107, kw108, kw109, kw110, kw111, kw112, kw113, kw114, kw115, kw116, kw117, kw118, kw119, kw120, kw121, kw122, kw123, kw124]
      rw [st, ww38_54]
    · have ih := wp_key (d := d) (Q := Q) he hs n (j + 1) (9 * a + keepN set (e j)) (some (jI 0)) (by omega) lt
      rw [← ih]
      have hkv : keepN set (e j) = e j := by
        unfold keepN
        rw [if_neg (by omega)]
      rw [hkv, ic1, show ((9 * a + e j : Nat) : Int) = (a : Int) * 9 + (e j : Int) by omega]
      rw [q] at ha1
      generalize 9 ^ j = p at *
      have ha2 : zAnd ((set / 2 ^ e j : Nat) : Int) 1 = 0 := ha1
      have st : mw_WP d 38 4 [some (jR 65), some (jI set), some (jI a), some (jI j), l4] [] s Q ↔ mw_WP d 38 54 [some (jR 65), some (jI set), some (jI ((a : Int) * 9 + (e j : Int))), some (jI ((j : Int) + 1)), some (jI 0)] [] s Q := by
        simp (disch := first | (simp only [nlP_n, nlP_I, nlP_R, catP_I, catP_R, st8_0, st8_1, st8_2, st8_3, st8_4, b01, or_true, true_or, eq_self, iRP98, iRP99, iRP86, iRP97, iRP47, iRP57, rcP0, rcP1, rcP3, rcP13, rcP22, rcP25, rcP37, rcP45, rcP55, rcP65, rcP74, rcP76, rcP77, rcP87, rcP88, rcP100]; done) | omega | assumption | (simp (disch := omega) only [cel_s, cel_n, up1_s, up1_n, up1_e, put_out, fill_in]; omega) | (apply isRow_past; omega) | (apply isRow_seek; omega) | (apply isRow_guess; omega)) only [ww38_4, ww38_5, ww38_6, ww38_9, ww38_10, ww38_11, ww38_14, ww38_15, ww38_16, ww38_17, ww38_18, ww38_19, ww38_20, ww38_23, ww38_24, ww38_27, ww38_28, ww38_30, ww38_31, ww38_33, ww38_34, ww38_36, ww38_39, ww38_40, ww38_43, ww38_44, ww38_47, ww38_48, ww38_49, ww38_50, ww38_51, e1, hs1, ha2, ↓iteT, ↓iteF, andT, w32_eq, yL_1, Int.toNat_natCast, Int.toNat_add, Int.toNat_mul, Int.toNat_sub, cel_s, cel_n, up1_cel, upS_cel, cel_cel, up1_s, up1_n, up1_e, rdI_n, rdB_n, Int.reduceMul, Int.reduceDiv, Int.reduceMod, Nat.reduceMul, Nat.reduceSub, Nat.zero_add, Int.zero_add, Nat.add_zero, Int.add_zero, ite_self, Option.toList_some, Option.toList_none, List.cons_append, List.nil_append, rdI_c, and_true, true_and, and_self, not_false_eq_true, not_true_eq_false, if_true, if_false, or_false, false_or, ne_eq, and_false, false_and, rdI_n, Nat.reduceEqDiff, Nat.reduceAdd, Nat.reduceLeDiff, Int.reduceEq, Int.reduceLT, Int.reduceLE, Int.reduceNeg, Int.reduceToNat, Int.reduceAdd, Int.reduceSub, List.append_nil, ki2, ki4, ki5, ki6, ki7, ki8, ki9, ki10, ki11, ki12, ki14, ki15, ki16, ki17, ki18, ki19, ki20, ki21, ki23, ki24, ki27, ki28, ki29, ki30, ki31, ki32, ki33, ki34, ki35, ki36, ki38, ki39, ki47, ki48, ki49, ki50, ki51, ki52, ki57, ki58, ki59, ki60, ki61, ki62, ki66, ki67, ki69, ki70, ki71, ki72, ki73, ki78, ki79, ki80, ki81, ki82, ki83, ki84, ki85, ki86, ki89, ki90, ki91, ki92, ki93, ki94, ki95, ki96, ki97, ki98, ki99, ki101, ki103, ki104, ki105, ki106, ki107, ki108, ki109, ki110, ki111, ki112, ki113, ki114, ki115, ki116, ki117, ki118, ki121, ki122, ki123, ki3000, kb68, kb102, kr26, kr40, kr46, kr56, kw2, kw4, kw5, kw6, kw7, kw8, kw9, kw10, kw11, kw12, kw14, kw15, kw16, kw17, kw18, kw19, kw20, kw21, kw23, kw24, kw27, kw28, kw29, kw30, kw31, kw32, kw33, kw34, kw35, kw36, kw38, kw39, kw41, kw42, kw43, kw44, kw47, kw48, kw49, kw50, kw51, kw52, kw53, kw54, kw57, kw58, kw59, kw60, kw61, kw62, kw63, kw64, kw66, kw67, kw68, kw69, kw70, kw71, kw72, kw73, kw75, kw78, kw79, kw80, kw81, kw82, kw83, kw84, kw85, kw86, kw89, kw90, kw91, kw92, kw93, kw94, kw95, kw96, kw97, kw98, kw99, kw101, kw102, kw103, kw104, kw105, kw106, kw107, kw108, kw109, kw110, kw111, kw112, kw113, kw114, kw115, kw116, kw117, kw118, kw119, kw120, kw121, kw122, kw123, kw124]
      rw [st, ww38_54]
theorem cl_key {d set : Nat} {e : Nat → Nat} {s : mw_S} {Q : Option mw_V → mw_S → Prop} (he : ∀ j, j < 5 → s 71 j = (e j : Int) ∧ e j ≤ 8) (hs : set < 512) : mw_Call (d + 1) 38 [jR 65, jI set] s Q ↔ Q (some (jI (cdN e set 5 0 0 : Nat))) s := by
  rw [ee38, ← wp_key (d := d) (Q := Q) he hs 5 0 0 none (by omega) (by decide)]
  simp (disch := first | (simp only [nlP_n, nlP_I, nlP_R, catP_I, catP_R, st8_0, st8_1, st8_2, st8_3, st8_4, b01, or_true, true_or, eq_self, iRP98, iRP99, iRP86, iRP97, iRP47, iRP57, rcP0, rcP1, rcP3, rcP13, rcP22, rcP25, rcP37, rcP45, rcP55, rcP65, rcP74, rcP76, rcP77, rcP87, rcP88, rcP100]; done) | omega | assumption | (simp (disch := omega) only [cel_s, cel_n, up1_s, up1_n, up1_e, put_out, fill_in]; omega) | (apply isRow_past; omega) | (apply isRow_seek; omega) | (apply isRow_guess; omega)) only [ww38_0, ww38_1, ww38_2, ww38_3, ↓iteT, ↓iteF, andT, w32_eq, yL_1, Int.toNat_natCast, Int.toNat_add, Int.toNat_mul, Int.toNat_sub, cel_s, cel_n, up1_cel, upS_cel, cel_cel, up1_s, up1_n, up1_e, rdI_n, rdB_n, Int.reduceMul, Int.reduceDiv, Int.reduceMod, Nat.reduceMul, Nat.reduceSub, Nat.zero_add, Int.zero_add, Nat.add_zero, Int.add_zero, ite_self, Option.toList_some, Option.toList_none, List.cons_append, List.nil_append, rdI_c, and_true, true_and, and_self, not_false_eq_true, not_true_eq_false, if_true, if_false, or_false, false_or, ne_eq, and_false, false_and, rdI_n, Nat.reduceEqDiff, Nat.reduceAdd, Nat.reduceLeDiff, Int.reduceEq, Int.reduceLT, Int.reduceLE, Int.reduceNeg, Int.reduceToNat, Int.reduceAdd, Int.reduceSub, List.append_nil, ki2, ki4, ki5, ki6, ki7, ki8, ki9, ki10, ki11, ki12, ki14, ki15, ki16, ki17, ki18, ki19, ki20, ki21, ki23, ki24, ki27, ki28, ki29, ki30, ki31, ki32, ki33, ki34, ki35, ki36, ki38, ki39, ki47, ki48, ki49, ki50, ki51, ki52, ki57, ki58, ki59, ki60, ki61, ki62, ki66, ki67, ki69, ki70, ki71, ki72, ki73, ki78, ki79, ki80, ki81, ki82, ki83, ki84, ki85, ki86, ki89, ki90, ki91, ki92, ki93, ki94, ki95, ki96, ki97, ki98, ki99, ki101, ki103, ki104, ki105, ki106, ki107, ki108, ki109, ki110, ki111, ki112, ki113, ki114, ki115, ki116, ki117, ki118, ki121, ki122, ki123, ki3000, kb68, kb102, kr26, kr40, kr46, kr56, kw2, kw4, kw5, kw6, kw7, kw8, kw9, kw10, kw11, kw12, kw14, kw15, kw16, kw17, kw18, kw19, kw20, kw21, kw23, kw24, kw27, kw28, kw29, kw30, kw31, kw32, kw33, kw34, kw35, kw36, kw38, kw39, kw41, kw42, kw43, kw44, kw47, kw48, kw49, kw50, kw51, kw52, kw53, kw54, kw57, kw58, kw59, kw60, kw61, kw62, kw63, kw64, kw66, kw67, kw68, kw69, kw70, kw71, kw72, kw73, kw75, kw78, kw79, kw80, kw81, kw82, kw83, kw84, kw85, kw86, kw89, kw90, kw91, kw92, kw93, kw94, kw95, kw96, kw97, kw98, kw99, kw101, kw102, kw103, kw104, kw105, kw106, kw107, kw108, kw109, kw110, kw111, kw112, kw113, kw114, kw115, kw116, kw117, kw118, kw119, kw120, kw121, kw122, kw123, kw124]
  exact Iff.rfl
/-- the parts stand in their rows -/
def ptOK (s : mw_S) (P : List (Nat × Nat)) : Prop := s 65 11 = P.length ∧ ∀ k, k < P.length → s 72 k = ((P.getD k (0, 0)).1 : Int) ∧ s 73 k = ((P.getD k (0, 0)).2 : Int)
/-- nothing but the parts has changed -/
def frP (s s' : mw_S) : Prop := (∀ a, a ≠ 65 → a ≠ 71 → a ≠ 72 → a ≠ 73 → s' a = s a) ∧ ∀ k, k ≠ 11 → s' 65 k = s 65 k
theorem frP.trans {s s' s'' : mw_S} (h1 : frP s s') (h2 : frP s' s'') : frP s s'' := ⟨fun a a1 a2 a3 a4 => by rw [h2.1 a a1 a2 a3 a4, h1.1 a a1 a2 a3 a4], fun k hk => by rw [h2.2 k hk, h1.2 k hk]⟩
theorem frP.refl {s : mw_S} : frP s s := ⟨fun _ _ _ _ _ => rfl, fun _ _ => rfl⟩
theorem pt_add {k z : Nat} {P2 : List (Nat × Nat)} : ∀ P1 : List (Nat × Nat), (∀ p, p ∈ P1 → p.1 ≠ k) → adP k z (P1 ++ P2) = P1 ++ adP k z P2
  | [], _ => rfl
  | (a, b) :: r, h => by
    show (if a = k then (a, b + z) :: (r ++ P2) else (a, b) :: adP k z (r ++ P2)) = _
    rw [if_neg (h (a, b) (by simp)), pt_add r (fun p hp => h p (by simp [hp]))]
    rfl
theorem wp_add {d k z B : Nat} {s : mw_S} {P : List (Nat × Nat)} {Q : Option mw_V → mw_S → Prop} (hP : ptOK s P) (hl : P.length < 160) (hB : ∀ p, p ∈ P → p.2 ≤ B) (hBz : B + z < 2147483648) (hQ : ∀ s', frP s s' → s' 71 = s 71 → ptOK s' (adP k z P) → Q none s') : ∀ (P2 P1 : List (Nat × Nat)), P = P1 ++ P2 → (∀ p, p ∈ P1 → p.1 ≠ k) → mw_WP d 39 2 [some (jR 65), some (jI k), some (jI z), some (jI (P1.length : Nat))] [] s Q
  | [], P1, e, h1 => by
    rw [List.append_nil] at e
    subst e
    have h11 := hP.1
    have ha : adP k z P = P ++ [(k, z)] := by
      have := pt_add (k := k) (z := z) (P2 := []) P h1
      rw [List.append_nil] at this
      exact this
    rw [ha] at hQ
    simp (disch := first | (simp only [nlP_n, nlP_I, nlP_R, catP_I, catP_R, st8_0, st8_1, st8_2, st8_3, st8_4, b01, or_true, true_or, eq_self, iRP98, iRP99, iRP86, iRP97, iRP47, iRP57, rcP0, rcP1, rcP3, rcP13, rcP22, rcP25, rcP37, rcP45, rcP55, rcP65, rcP74, rcP76, rcP77, rcP87, rcP88, rcP100]; done) | omega | assumption | (simp (disch := omega) only [cel_s, cel_n, up1_s, up1_n, up1_e, put_out, fill_in]; omega) | (apply isRow_past; omega) | (apply isRow_seek; omega) | (apply isRow_guess; omega)) only [ww39_2, ww39_3, ww39_4, ww39_7, ww39_37, ww39_38, ww39_41, ww39_44, ww39_47, ww39_48, ww39_51, ww39_52, ww39_55, ww39_56, ww39_57, ww39_58, ww39_61, ww39_62, ww39_65, ww39_66, ww39_67, ww39_68, ww39_69, ww39_72, ww39_73, ww39_74, ww39_77, h11, cel_sw, ↓iteT, ↓iteF, andT, w32_eq, yL_1, Int.toNat_natCast, Int.toNat_add, Int.toNat_mul, Int.toNat_sub, cel_s, cel_n, up1_cel, upS_cel, cel_cel, up1_s, up1_n, up1_e, rdI_n, rdB_n, Int.reduceMul, Int.reduceDiv, Int.reduceMod, Nat.reduceMul, Nat.reduceSub, Nat.zero_add, Int.zero_add, Nat.add_zero, Int.add_zero, ite_self, Option.toList_some, Option.toList_none, List.cons_append, List.nil_append, rdI_c, and_true, true_and, and_self, not_false_eq_true, not_true_eq_false, if_true, if_false, or_false, false_or, ne_eq, and_false, false_and, rdI_n, Nat.reduceEqDiff, Nat.reduceAdd, Nat.reduceLeDiff, Int.reduceEq, Int.reduceLT, Int.reduceLE, Int.reduceNeg, Int.reduceToNat, Int.reduceAdd, Int.reduceSub, List.append_nil, ki2, ki4, ki5, ki6, ki7, ki8, ki9, ki10, ki11, ki12, ki14, ki15, ki16, ki17, ki18, ki19, ki20, ki21, ki23, ki24, ki27, ki28, ki29, ki30, ki31, ki32, ki33, ki34, ki35, ki36, ki38, ki39, ki47, ki48, ki49, ki50, ki51, ki52, ki57, ki58, ki59, ki60, ki61, ki62, ki66, ki67, ki69, ki70, ki71, ki72, ki73, ki78, ki79, ki80, ki81, ki82, ki83, ki84, ki85, ki86, ki89, ki90, ki91, ki92, ki93, ki94, ki95, ki96, ki97, ki98, ki99, ki101, ki103, ki104, ki105, ki106, ki107, ki108, ki109, ki110, ki111, ki112, ki113, ki114, ki115, ki116, ki117, ki118, ki121, ki122, ki123, ki3000, kb68, kb102, kr26, kr40, kr46, kr56, kw2, kw4, kw5, kw6, kw7, kw8, kw9, kw10, kw11, kw12, kw14, kw15, kw16, kw17, kw18, kw19, kw20, kw21, kw23, kw24, kw27, kw28, kw29, kw30, kw31, kw32, kw33, kw34, kw35, kw36, kw38, kw39, kw41, kw42, kw43, kw44, kw47, kw48, kw49, kw50, kw51, kw52, kw53, kw54, kw57, kw58, kw59, kw60, kw61, kw62, kw63, kw64, kw66, kw67, kw68, kw69, kw70, kw71, kw72, kw73, kw75, kw78, kw79, kw80, kw81, kw82, kw83, kw84, kw85, kw86, kw89, kw90, kw91, kw92, kw93, kw94, kw95, kw96, kw97, kw98, kw99, kw101, kw102, kw103, kw104, kw105, kw106, kw107, kw108, kw109, kw110, kw111, kw112, kw113, kw114, kw115, kw116, kw117, kw118, kw119, kw120, kw121, kw122, kw123, kw124]
    refine hQ _ ⟨fun a a1 a2 a3 a4 => ?_, fun k hk => ?_⟩ ?_ ⟨?_, fun i hi => ?_⟩
    · rw [cel_n (by omega), cel_n (by omega), cel_n (by omega)]
    · rw [cel_s, up1_n hk]
    · simp (disch := omega) only [cel_s, cel_n, up1_s, up1_n, up1_e, put_in, put_out, fill_in, fill_out, Nat.add_sub_cancel_left, Int.toNat_natCast]
    · simp (disch := omega) only [cel_s, cel_n, up1_s, up1_n, up1_e, put_in, put_out, fill_in, fill_out, Nat.add_sub_cancel_left, Int.toNat_natCast]
      rw [List.length_append]
      rfl
    · rw [List.length_append, List.length_singleton] at hi
      simp (disch := omega) only [cel_s, cel_n, up1_s, up1_n, up1_e, put_in, put_out, fill_in, fill_out, Nat.add_sub_cancel_left, Int.toNat_natCast]
      by_cases c : i = P.length
      · rw [c, up1_s, up1_s]
        simp
      · rw [up1_n c, up1_n c]
        have := hP.2 i (by omega)
        rw [List.getD_eq_getElem?_getD, List.getElem?_append_left (by omega), ← List.getD_eq_getElem?_getD]
        exact this
  | (a, b) :: P2, P1, e, h1 => by
    have h11 := hP.1
    have hlen : P.length = P1.length + (P2.length + 1) := by rw [e, List.length_append, List.length_cons]
    obtain ⟨k1, k2⟩ := hP.2 P1.length (by omega)
    have hg : P.getD P1.length (0, 0) = (a, b) := by
      rw [e]
      simp
    rw [hg] at k1 k2
    have hb := hB (a, b) (by rw [e]; simp)
    have hb2 : b ≤ B := hb
    by_cases c : a = k
    · have ha : adP k z P = P1 ++ (a, b + z) :: P2 := by
        rw [e, pt_add P1 h1]
        unfold adP
        rw [if_pos c]
      rw [ha] at hQ
      have k1' : s 72 P1.length = (a : Int) := k1
      have k2' : s 73 P1.length = (b : Int) := k2
      simp (disch := first | (simp only [nlP_n, nlP_I, nlP_R, catP_I, catP_R, st8_0, st8_1, st8_2, st8_3, st8_4, b01, or_true, true_or, eq_self, iRP98, iRP99, iRP86, iRP97, iRP47, iRP57, rcP0, rcP1, rcP3, rcP13, rcP22, rcP25, rcP37, rcP45, rcP55, rcP65, rcP74, rcP76, rcP77, rcP87, rcP88, rcP100]; done) | omega | assumption | (simp (disch := omega) only [cel_s, cel_n, up1_s, up1_n, up1_e, put_out, fill_in]; omega) | (apply isRow_past; omega) | (apply isRow_seek; omega) | (apply isRow_guess; omega)) only [ww39_2, ww39_3, ww39_4, ww39_7, ww39_10, ww39_11, ww39_14, ww39_15, ww39_16, ww39_17, ww39_20, ww39_21, ww39_24, ww39_25, ww39_26, ww39_27, ww39_28, ww39_29, ww39_30, h11, k1', k2', ↓iteT, ↓iteF, andT, w32_eq, yL_1, Int.toNat_natCast, Int.toNat_add, Int.toNat_mul, Int.toNat_sub, cel_s, cel_n, up1_cel, upS_cel, cel_cel, up1_s, up1_n, up1_e, rdI_n, rdB_n, Int.reduceMul, Int.reduceDiv, Int.reduceMod, Nat.reduceMul, Nat.reduceSub, Nat.zero_add, Int.zero_add, Nat.add_zero, Int.add_zero, ite_self, Option.toList_some, Option.toList_none, List.cons_append, List.nil_append, rdI_c, and_true, true_and, and_self, not_false_eq_true, not_true_eq_false, if_true, if_false, or_false, false_or, ne_eq, and_false, false_and, rdI_n, Nat.reduceEqDiff, Nat.reduceAdd, Nat.reduceLeDiff, Int.reduceEq, Int.reduceLT, Int.reduceLE, Int.reduceNeg, Int.reduceToNat, Int.reduceAdd, Int.reduceSub, List.append_nil, ki2, ki4, ki5, ki6, ki7, ki8, ki9, ki10, ki11, ki12, ki14, ki15, ki16, ki17, ki18, ki19, ki20, ki21, ki23, ki24, ki27, ki28, ki29, ki30, ki31, ki32, ki33, ki34, ki35, ki36, ki38, ki39, ki47, ki48, ki49, ki50, ki51, ki52, ki57, ki58, ki59, ki60, ki61, ki62, ki66, ki67, ki69, ki70, ki71, ki72, ki73, ki78, ki79, ki80, ki81, ki82, ki83, ki84, ki85, ki86, ki89, ki90, ki91, ki92, ki93, ki94, ki95, ki96, ki97, ki98, ki99, ki101, ki103, ki104, ki105, ki106, ki107, ki108, ki109, ki110, ki111, ki112, ki113, ki114, ki115, ki116, ki117, ki118, ki121, ki122, ki123, ki3000, kb68, kb102, kr26, kr40, kr46, kr56, kw2, kw4, kw5, kw6, kw7, kw8, kw9, kw10, kw11, kw12, kw14, kw15, kw16, kw17, kw18, kw19, kw20, kw21, kw23, kw24, kw27, kw28, kw29, kw30, kw31, kw32, kw33, kw34, kw35, kw36, kw38, kw39, kw41, kw42, kw43, kw44, kw47, kw48, kw49, kw50, kw51, kw52, kw53, kw54, kw57, kw58, kw59, kw60, kw61, kw62, kw63, kw64, kw66, kw67, kw68, kw69, kw70, kw71, kw72, kw73, kw75, kw78, kw79, kw80, kw81, kw82, kw83, kw84, kw85, kw86, kw89, kw90, kw91, kw92, kw93, kw94, kw95, kw96, kw97, kw98, kw99, kw101, kw102, kw103, kw104, kw105, kw106, kw107, kw108, kw109, kw110, kw111, kw112, kw113, kw114, kw115, kw116, kw117, kw118, kw119, kw120, kw121, kw122, kw123, kw124]
      refine hQ _ ⟨fun a a1 a2 a3 a4 => ?_, fun k hk => ?_⟩ ?_ ⟨?_, fun i hi => ?_⟩
      · rw [cel_n (by omega)]
      · simp (disch := omega) only [cel_s, cel_n, up1_s, up1_n, up1_e, put_in, put_out, fill_in, fill_out, Nat.add_sub_cancel_left, Int.toNat_natCast]
      · simp (disch := omega) only [cel_s, cel_n, up1_s, up1_n, up1_e, put_in, put_out, fill_in, fill_out, Nat.add_sub_cancel_left, Int.toNat_natCast]
      · simp (disch := omega) only [cel_s, cel_n, up1_s, up1_n, up1_e, put_in, put_out, fill_in, fill_out, Nat.add_sub_cancel_left, Int.toNat_natCast]
        rw [h11, hlen, List.length_append, List.length_cons]
      · rw [List.length_append, List.length_cons] at hi
        simp (disch := omega) only [cel_s, cel_n, up1_s, up1_n, up1_e, put_in, put_out, fill_in, fill_out, Nat.add_sub_cancel_left, Int.toNat_natCast]
        by_cases ci : i = P1.length
        · rw [ci, up1_s, k1']
          simp
        · rw [up1_n ci]
          have := hP.2 i (by omega)
          have e2 : (P1 ++ (a, b + z) :: P2).getD i (0, 0) = P.getD i (0, 0) := by
            rw [e]
            by_cases ci2 : i < P1.length
            · rw [List.getD_eq_getElem?_getD, List.getD_eq_getElem?_getD, List.getElem?_append_left ci2, List.getElem?_append_left ci2]
            · rw [List.getD_eq_getElem?_getD, List.getD_eq_getElem?_getD, List.getElem?_append_right (by omega), List.getElem?_append_right (by omega)]
              obtain ⟨m, hm⟩ : ∃ m, i - P1.length = m + 1 := ⟨i - P1.length - 1, by omega⟩
              rw [hm, List.getElem?_cons_succ, List.getElem?_cons_succ]
          rw [e2]
          exact this
    · have ih := wp_add (d := d) hP hl hB hBz hQ P2 (P1 ++ [(a, b)]) (by rw [e]; simp) (fun p hp => by
        rcases List.mem_append.mp hp with q | q
        · exact h1 p q
        · rw [List.mem_singleton.mp q]
          exact c)
      rw [show (((P1 ++ [(a, b)]).length : Nat) : Int) = (P1.length : Int) + 1 by rw [List.length_append]; rfl] at ih
      have k1' : s 72 P1.length = (a : Int) := k1
      have st : mw_WP d 39 2 [some (jR 65), some (jI k), some (jI z), some (jI (P1.length : Nat))] [] s Q ↔ mw_WP d 39 34 [some (jR 65), some (jI k), some (jI z), some (jI ((P1.length : Int) + 1))] [] s Q := by
        simp (disch := first | (simp only [nlP_n, nlP_I, nlP_R, catP_I, catP_R, st8_0, st8_1, st8_2, st8_3, st8_4, b01, or_true, true_or, eq_self, iRP98, iRP99, iRP86, iRP97, iRP47, iRP57, rcP0, rcP1, rcP3, rcP13, rcP22, rcP25, rcP37, rcP45, rcP55, rcP65, rcP74, rcP76, rcP77, rcP87, rcP88, rcP100]; done) | omega | assumption | (simp (disch := omega) only [cel_s, cel_n, up1_s, up1_n, up1_e, put_out, fill_in]; omega) | (apply isRow_past; omega) | (apply isRow_seek; omega) | (apply isRow_guess; omega)) only [ww39_2, ww39_3, ww39_4, ww39_7, ww39_10, ww39_11, ww39_14, ww39_15, ww39_16, ww39_17, ww39_20, ww39_21, ww39_24, ww39_25, ww39_26, ww39_27, ww39_28, ww39_29, ww39_30, ww39_31, h11, k1', ↓iteT, ↓iteF, andT, w32_eq, yL_1, Int.toNat_natCast, Int.toNat_add, Int.toNat_mul, Int.toNat_sub, cel_s, cel_n, up1_cel, upS_cel, cel_cel, up1_s, up1_n, up1_e, rdI_n, rdB_n, Int.reduceMul, Int.reduceDiv, Int.reduceMod, Nat.reduceMul, Nat.reduceSub, Nat.zero_add, Int.zero_add, Nat.add_zero, Int.add_zero, ite_self, Option.toList_some, Option.toList_none, List.cons_append, List.nil_append, rdI_c, and_true, true_and, and_self, not_false_eq_true, not_true_eq_false, if_true, if_false, or_false, false_or, ne_eq, and_false, false_and, rdI_n, Nat.reduceEqDiff, Nat.reduceAdd, Nat.reduceLeDiff, Int.reduceEq, Int.reduceLT, Int.reduceLE, Int.reduceNeg, Int.reduceToNat, Int.reduceAdd, Int.reduceSub, List.append_nil, ki2, ki4, ki5, ki6, ki7, ki8, ki9, ki10, ki11, ki12, ki14, ki15, ki16, ki17, ki18, ki19, ki20, ki21, ki23, ki24, ki27, ki28, ki29, ki30, ki31, ki32, ki33, ki34, ki35, ki36, ki38, ki39, ki47, ki48, ki49, ki50, ki51, ki52, ki57, ki58, ki59, ki60, ki61, ki62, ki66, ki67, ki69, ki70, ki71, ki72, ki73, ki78, ki79, ki80, ki81, ki82, ki83, ki84, ki85, ki86, ki89, ki90, ki91, ki92, ki93, ki94, ki95, ki96, ki97, ki98, ki99, ki101, ki103, ki104, ki105, ki106, ki107, ki108, ki109, ki110, ki111, ki112, ki113, ki114, ki115, ki116, ki117, ki118, ki121, ki122, ki123, ki3000, kb68, kb102, kr26, kr40, kr46, kr56, kw2, kw4, kw5, kw6, kw7, kw8, kw9, kw10, kw11, kw12, kw14, kw15, kw16, kw17, kw18, kw19, kw20, kw21, kw23, kw24, kw27, kw28, kw29, kw30, kw31, kw32, kw33, kw34, kw35, kw36, kw38, kw39, kw41, kw42, kw43, kw44, kw47, kw48, kw49, kw50, kw51, kw52, kw53, kw54, kw57, kw58, kw59, kw60, kw61, kw62, kw63, kw64, kw66, kw67, kw68, kw69, kw70, kw71, kw72, kw73, kw75, kw78, kw79, kw80, kw81, kw82, kw83, kw84, kw85, kw86, kw89, kw90, kw91, kw92, kw93, kw94, kw95, kw96, kw97, kw98, kw99, kw101, kw102, kw103, kw104, kw105, kw106, kw107, kw108, kw109, kw110, kw111, kw112, kw113, kw114, kw115, kw116, kw117, kw118, kw119, kw120, kw121, kw122, kw123, kw124]
      rw [st, ww39_34]
      exact ih
theorem cl_addP {d k z B : Nat} {s : mw_S} {P : List (Nat × Nat)} {Q : Option mw_V → mw_S → Prop} (hP : ptOK s P) (hl : P.length < 160) (hB : ∀ p, p ∈ P → p.2 ≤ B) (hBz : B + z < 2147483648) (hQ : ∀ s', frP s s' → s' 71 = s 71 → ptOK s' (adP k z P) → Q none s') : mw_Call (d + 1) 39 [jR 65, jI k, jI z] s Q := by
  have := wp_add (d := d) hP hl hB hBz hQ P [] rfl (fun p hp => absurd hp (by simp))
  rw [ee39]
  simp (disch := first | (simp only [nlP_n, nlP_I, nlP_R, catP_I, catP_R, st8_0, st8_1, st8_2, st8_3, st8_4, b01, or_true, true_or, eq_self, iRP98, iRP99, iRP86, iRP97, iRP47, iRP57, rcP0, rcP1, rcP3, rcP13, rcP22, rcP25, rcP37, rcP45, rcP55, rcP65, rcP74, rcP76, rcP77, rcP87, rcP88, rcP100]; done) | omega | assumption | (simp (disch := omega) only [cel_s, cel_n, up1_s, up1_n, up1_e, put_out, fill_in]; omega) | (apply isRow_past; omega) | (apply isRow_seek; omega) | (apply isRow_guess; omega)) only [ww39_0, ww39_1, ↓iteT, ↓iteF, andT, w32_eq, yL_1, Int.toNat_natCast, Int.toNat_add, Int.toNat_mul, Int.toNat_sub, cel_s, cel_n, up1_cel, upS_cel, cel_cel, up1_s, up1_n, up1_e, rdI_n, rdB_n, Int.reduceMul, Int.reduceDiv, Int.reduceMod, Nat.reduceMul, Nat.reduceSub, Nat.zero_add, Int.zero_add, Nat.add_zero, Int.add_zero, ite_self, Option.toList_some, Option.toList_none, List.cons_append, List.nil_append, rdI_c, and_true, true_and, and_self, not_false_eq_true, not_true_eq_false, if_true, if_false, or_false, false_or, ne_eq, and_false, false_and, rdI_n, Nat.reduceEqDiff, Nat.reduceAdd, Nat.reduceLeDiff, Int.reduceEq, Int.reduceLT, Int.reduceLE, Int.reduceNeg, Int.reduceToNat, Int.reduceAdd, Int.reduceSub, List.append_nil, ki2, ki4, ki5, ki6, ki7, ki8, ki9, ki10, ki11, ki12, ki14, ki15, ki16, ki17, ki18, ki19, ki20, ki21, ki23, ki24, ki27, ki28, ki29, ki30, ki31, ki32, ki33, ki34, ki35, ki36, ki38, ki39, ki47, ki48, ki49, ki50, ki51, ki52, ki57, ki58, ki59, ki60, ki61, ki62, ki66, ki67, ki69, ki70, ki71, ki72, ki73, ki78, ki79, ki80, ki81, ki82, ki83, ki84, ki85, ki86, ki89, ki90, ki91, ki92, ki93, ki94, ki95, ki96, ki97, ki98, ki99, ki101, ki103, ki104, ki105, ki106, ki107, ki108, ki109, ki110, ki111, ki112, ki113, ki114, ki115, ki116, ki117, ki118, ki121, ki122, ki123, ki3000, kb68, kb102, kr26, kr40, kr46, kr56, kw2, kw4, kw5, kw6, kw7, kw8, kw9, kw10, kw11, kw12, kw14, kw15, kw16, kw17, kw18, kw19, kw20, kw21, kw23, kw24, kw27, kw28, kw29, kw30, kw31, kw32, kw33, kw34, kw35, kw36, kw38, kw39, kw41, kw42, kw43, kw44, kw47, kw48, kw49, kw50, kw51, kw52, kw53, kw54, kw57, kw58, kw59, kw60, kw61, kw62, kw63, kw64, kw66, kw67, kw68, kw69, kw70, kw71, kw72, kw73, kw75, kw78, kw79, kw80, kw81, kw82, kw83, kw84, kw85, kw86, kw89, kw90, kw91, kw92, kw93, kw94, kw95, kw96, kw97, kw98, kw99, kw101, kw102, kw103, kw104, kw105, kw106, kw107, kw108, kw109, kw110, kw111, kw112, kw113, kw114, kw115, kw116, kw117, kw118, kw119, kw120, kw121, kw122, kw123, kw124]
  exact this
/-- the parts of one lateness added -/
def adS (key : Nat → Nat) (z : Nat) : List Nat → List (Nat × Nat) → List (Nat × Nat)
  | [], P => P
  | s :: r, P => adS key z r (adP (key s) z P)
theorem adP_bnd {k z B : Nat} : ∀ P : List (Nat × Nat), z ≤ B → (∀ p, p ∈ P → p.2 + z ≤ B) → ∀ p, p ∈ adP k z P → p.2 ≤ B
  | [], hz, _, p, h => by
    unfold adP at h
    rw [List.mem_singleton.mp h]
    exact hz
  | (a, b) :: r, hz, hB, p, h => by
    unfold adP at h
    have h0 : b + z ≤ B := hB (a, b) (by simp)
    by_cases c : a = k
    · rw [if_pos c] at h
      rcases List.mem_cons.mp h with q | q
      · rw [q]
        exact h0
      · have := hB p (by simp [q])
        omega
    · rw [if_neg c] at h
      rcases List.mem_cons.mp h with q | q
      · rw [q]
        show b ≤ B
        omega
      · exact adP_bnd r hz (fun p hp => hB p (by simp [hp])) p q
theorem wp_parts {d l com op z a : Nat} {e : Nat → Nat} {Q : Option mw_V → mw_S → Prop} (ha : a < 512) (ho : op < 512) (hz : z ≤ 256) (hl : l < 5) : ∀ (n i sub : Nat) (s : mw_S) (P : List (Nat × Nat)) (B : Nat), i + n = 32 → sub &&& op = sub → (∀ j, j < 5 → s 71 j = (e j : Int) ∧ e j ≤ 8) → s 66 l = (a : Int) → ptOK s P → P.length + n ≤ 160 → B + 256 * n ≤ 1000000 → (∀ p, p ∈ P → p.2 ≤ B) → (∀ s', frP s s' → s' 71 = s 71 → ptOK s' (adS (fun x => cdN e (a ||| x) 5 0 0) z (sbL op n sub) P) → Q none s') → mw_WP (d + 1) 37 83 [some (jR 65), some (jI l), some (jI com), some (jI op), some (jI z), some (jI sub), some (jI i)] [] s Q
  | 0, i, sub, s, P, B, h, hsb, he, h66, hP, hl1, hB1, hB, hQ => by
    obtain rfl : i = 32 := by omega
    simp (disch := first | (simp only [nlP_n, nlP_I, nlP_R, catP_I, catP_R, st8_0, st8_1, st8_2, st8_3, st8_4, b01, or_true, true_or, eq_self, iRP98, iRP99, iRP86, iRP97, iRP47, iRP57, rcP0, rcP1, rcP3, rcP13, rcP22, rcP25, rcP37, rcP45, rcP55, rcP65, rcP74, rcP76, rcP77, rcP87, rcP88, rcP100]; done) | omega | assumption | (simp (disch := omega) only [cel_s, cel_n, up1_s, up1_n, up1_e, put_out, fill_in]; omega) | (apply isRow_past; omega) | (apply isRow_seek; omega) | (apply isRow_guess; omega)) only [ww37_83, ww37_85, ww37_87, ww37_129, ↓iteT, ↓iteF, andT, w32_eq, yL_1, Int.toNat_natCast, Int.toNat_add, Int.toNat_mul, Int.toNat_sub, cel_s, cel_n, up1_cel, upS_cel, cel_cel, up1_s, up1_n, up1_e, rdI_n, rdB_n, Int.reduceMul, Int.reduceDiv, Int.reduceMod, Nat.reduceMul, Nat.reduceSub, Nat.zero_add, Int.zero_add, Nat.add_zero, Int.add_zero, ite_self, Option.toList_some, Option.toList_none, List.cons_append, List.nil_append, rdI_c, and_true, true_and, and_self, not_false_eq_true, not_true_eq_false, if_true, if_false, or_false, false_or, ne_eq, and_false, false_and, rdI_n, Nat.reduceEqDiff, Nat.reduceAdd, Nat.reduceLeDiff, Int.reduceEq, Int.reduceLT, Int.reduceLE, Int.reduceNeg, Int.reduceToNat, Int.reduceAdd, Int.reduceSub, List.append_nil, ki2, ki4, ki5, ki6, ki7, ki8, ki9, ki10, ki11, ki12, ki14, ki15, ki16, ki17, ki18, ki19, ki20, ki21, ki23, ki24, ki27, ki28, ki29, ki30, ki31, ki32, ki33, ki34, ki35, ki36, ki38, ki39, ki47, ki48, ki49, ki50, ki51, ki52, ki57, ki58, ki59, ki60, ki61, ki62, ki66, ki67, ki69, ki70, ki71, ki72, ki73, ki78, ki79, ki80, ki81, ki82, ki83, ki84, ki85, ki86, ki89, ki90, ki91, ki92, ki93, ki94, ki95, ki96, ki97, ki98, ki99, ki101, ki103, ki104, ki105, ki106, ki107, ki108, ki109, ki110, ki111, ki112, ki113, ki114, ki115, ki116, ki117, ki118, ki121, ki122, ki123, ki3000, kb68, kb102, kr26, kr40, kr46, kr56, kw2, kw4, kw5, kw6, kw7, kw8, kw9, kw10, kw11, kw12, kw14, kw15, kw16, kw17, kw18, kw19, kw20, kw21, kw23, kw24, kw27, kw28, kw29, kw30, kw31, kw32, kw33, kw34, kw35, kw36, kw38, kw39, kw41, kw42, kw43, kw44, kw47, kw48, kw49, kw50, kw51, kw52, kw53, kw54, kw57, kw58, kw59, kw60, kw61, kw62, kw63, kw64, kw66, kw67, kw68, kw69, kw70, kw71, kw72, kw73, kw75, kw78, kw79, kw80, kw81, kw82, kw83, kw84, kw85, kw86, kw89, kw90, kw91, kw92, kw93, kw94, kw95, kw96, kw97, kw98, kw99, kw101, kw102, kw103, kw104, kw105, kw106, kw107, kw108, kw109, kw110, kw111, kw112, kw113, kw114, kw115, kw116, kw117, kw118, kw119, kw120, kw121, kw122, kw123, kw124]
    exact hQ s frP.refl rfl hP
  | n + 1, i, sub, s, P, B, h, hsb, he, h66, hP, hl1, hB1, hB, hQ => by
    have hsl : sub < 512 := by
      rw [← hsb]
      exact Nat.lt_of_le_of_lt Nat.and_le_right ho
    have zo := zOrN (a := a) (b := sub) (by omega) (by omega)
    have hk := fun (Q' : Option mw_V → mw_S → Prop) (d' : Nat) => cl_key (d := d') (set := a ||| sub) (e := e) (s := s) (Q := Q') he (Nat.or_lt_two_pow (n := 9) ha hsl)
    unfold sbL at hQ
    simp (disch := first | (simp only [nlP_n, nlP_I, nlP_R, catP_I, catP_R, st8_0, st8_1, st8_2, st8_3, st8_4, b01, or_true, true_or, eq_self, iRP98, iRP99, iRP86, iRP97, iRP47, iRP57, rcP0, rcP1, rcP3, rcP13, rcP22, rcP25, rcP37, rcP45, rcP55, rcP65, rcP74, rcP76, rcP77, rcP87, rcP88, rcP100]; done) | omega | assumption | (simp (disch := omega) only [cel_s, cel_n, up1_s, up1_n, up1_e, put_out, fill_in]; omega) | (apply isRow_past; omega) | (apply isRow_seek; omega) | (apply isRow_guess; omega)) only [ww37_83, ww37_85, ww37_87, ww37_90, ww37_91, ww37_92, ww37_93, ww37_96, ww37_97, ww37_98, ww37_100, ww37_101, ww37_104, ww37_106, h66, zo, hk, ↓iteT, ↓iteF, andT, w32_eq, yL_1, Int.toNat_natCast, Int.toNat_add, Int.toNat_mul, Int.toNat_sub, cel_s, cel_n, up1_cel, upS_cel, cel_cel, up1_s, up1_n, up1_e, rdI_n, rdB_n, Int.reduceMul, Int.reduceDiv, Int.reduceMod, Nat.reduceMul, Nat.reduceSub, Nat.zero_add, Int.zero_add, Nat.add_zero, Int.add_zero, ite_self, Option.toList_some, Option.toList_none, List.cons_append, List.nil_append, rdI_c, and_true, true_and, and_self, not_false_eq_true, not_true_eq_false, if_true, if_false, or_false, false_or, ne_eq, and_false, false_and, rdI_n, Nat.reduceEqDiff, Nat.reduceAdd, Nat.reduceLeDiff, Int.reduceEq, Int.reduceLT, Int.reduceLE, Int.reduceNeg, Int.reduceToNat, Int.reduceAdd, Int.reduceSub, List.append_nil, ki2, ki4, ki5, ki6, ki7, ki8, ki9, ki10, ki11, ki12, ki14, ki15, ki16, ki17, ki18, ki19, ki20, ki21, ki23, ki24, ki27, ki28, ki29, ki30, ki31, ki32, ki33, ki34, ki35, ki36, ki38, ki39, ki47, ki48, ki49, ki50, ki51, ki52, ki57, ki58, ki59, ki60, ki61, ki62, ki66, ki67, ki69, ki70, ki71, ki72, ki73, ki78, ki79, ki80, ki81, ki82, ki83, ki84, ki85, ki86, ki89, ki90, ki91, ki92, ki93, ki94, ki95, ki96, ki97, ki98, ki99, ki101, ki103, ki104, ki105, ki106, ki107, ki108, ki109, ki110, ki111, ki112, ki113, ki114, ki115, ki116, ki117, ki118, ki121, ki122, ki123, ki3000, kb68, kb102, kr26, kr40, kr46, kr56, kw2, kw4, kw5, kw6, kw7, kw8, kw9, kw10, kw11, kw12, kw14, kw15, kw16, kw17, kw18, kw19, kw20, kw21, kw23, kw24, kw27, kw28, kw29, kw30, kw31, kw32, kw33, kw34, kw35, kw36, kw38, kw39, kw41, kw42, kw43, kw44, kw47, kw48, kw49, kw50, kw51, kw52, kw53, kw54, kw57, kw58, kw59, kw60, kw61, kw62, kw63, kw64, kw66, kw67, kw68, kw69, kw70, kw71, kw72, kw73, kw75, kw78, kw79, kw80, kw81, kw82, kw83, kw84, kw85, kw86, kw89, kw90, kw91, kw92, kw93, kw94, kw95, kw96, kw97, kw98, kw99, kw101, kw102, kw103, kw104, kw105, kw106, kw107, kw108, kw109, kw110, kw111, kw112, kw113, kw114, kw115, kw116, kw117, kw118, kw119, kw120, kw121, kw122, kw123, kw124]
    refine cl_addP (B := B) hP (by omega) hB (by omega) (fun s1 f1 e71 p1 => ?_)
    by_cases c : sub = 0
    · rw [if_pos c] at hQ
      simp (disch := first | (simp only [nlP_n, nlP_I, nlP_R, catP_I, catP_R, st8_0, st8_1, st8_2, st8_3, st8_4, b01, or_true, true_or, eq_self, iRP98, iRP99, iRP86, iRP97, iRP47, iRP57, rcP0, rcP1, rcP3, rcP13, rcP22, rcP25, rcP37, rcP45, rcP55, rcP65, rcP74, rcP76, rcP77, rcP87, rcP88, rcP100]; done) | omega | assumption | (simp (disch := omega) only [cel_s, cel_n, up1_s, up1_n, up1_e, put_out, fill_in]; omega) | (apply isRow_past; omega) | (apply isRow_seek; omega) | (apply isRow_guess; omega)) only [ww37_109, ww37_111, ww37_114, ↓iteT, ↓iteF, andT, w32_eq, yL_1, Int.toNat_natCast, Int.toNat_add, Int.toNat_mul, Int.toNat_sub, cel_s, cel_n, up1_cel, upS_cel, cel_cel, up1_s, up1_n, up1_e, rdI_n, rdB_n, Int.reduceMul, Int.reduceDiv, Int.reduceMod, Nat.reduceMul, Nat.reduceSub, Nat.zero_add, Int.zero_add, Nat.add_zero, Int.add_zero, ite_self, Option.toList_some, Option.toList_none, List.cons_append, List.nil_append, rdI_c, and_true, true_and, and_self, not_false_eq_true, not_true_eq_false, if_true, if_false, or_false, false_or, ne_eq, and_false, false_and, rdI_n, Nat.reduceEqDiff, Nat.reduceAdd, Nat.reduceLeDiff, Int.reduceEq, Int.reduceLT, Int.reduceLE, Int.reduceNeg, Int.reduceToNat, Int.reduceAdd, Int.reduceSub, List.append_nil, ki2, ki4, ki5, ki6, ki7, ki8, ki9, ki10, ki11, ki12, ki14, ki15, ki16, ki17, ki18, ki19, ki20, ki21, ki23, ki24, ki27, ki28, ki29, ki30, ki31, ki32, ki33, ki34, ki35, ki36, ki38, ki39, ki47, ki48, ki49, ki50, ki51, ki52, ki57, ki58, ki59, ki60, ki61, ki62, ki66, ki67, ki69, ki70, ki71, ki72, ki73, ki78, ki79, ki80, ki81, ki82, ki83, ki84, ki85, ki86, ki89, ki90, ki91, ki92, ki93, ki94, ki95, ki96, ki97, ki98, ki99, ki101, ki103, ki104, ki105, ki106, ki107, ki108, ki109, ki110, ki111, ki112, ki113, ki114, ki115, ki116, ki117, ki118, ki121, ki122, ki123, ki3000, kb68, kb102, kr26, kr40, kr46, kr56, kw2, kw4, kw5, kw6, kw7, kw8, kw9, kw10, kw11, kw12, kw14, kw15, kw16, kw17, kw18, kw19, kw20, kw21, kw23, kw24, kw27, kw28, kw29, kw30, kw31, kw32, kw33, kw34, kw35, kw36, kw38, kw39, kw41, kw42, kw43, kw44, kw47, kw48, kw49, kw50, kw51, kw52, kw53, kw54, kw57, kw58, kw59, kw60, kw61, kw62, kw63, kw64, kw66, kw67, kw68, kw69, kw70, kw71, kw72, kw73, kw75, kw78, kw79, kw80, kw81, kw82, kw83, kw84, kw85, kw86, kw89, kw90, kw91, kw92, kw93, kw94, kw95, kw96, kw97, kw98, kw99, kw101, kw102, kw103, kw104, kw105, kw106, kw107, kw108, kw109, kw110, kw111, kw112, kw113, kw114, kw115, kw116, kw117, kw118, kw119, kw120, kw121, kw122, kw123, kw124]
      exact hQ s1 f1 e71 p1
    · rw [if_neg c] at hQ
      have zs : zAnd ((sub : Int) - 1) (op : Int) = (((sub - 1) &&& op : Nat) : Int) := by
        have := zAndN (a := sub - 1) (b := op) (by omega) (by omega)
        rw [show ((sub - 1 : Nat) : Int) = (sub : Int) - 1 by omega] at this
        exact this
      have ih := wp_parts (d := d) (com := com) (e := e) (Q := Q) ha ho hz hl n (i + 1) ((sub - 1) &&& op) s1 (adP (cdN e (a ||| sub) 5 0 0) z P) (B + z) (by omega) (by rw [Nat.and_assoc, Nat.and_self]) (by rw [e71]; exact he) (by rw [f1.1 66 (by decide) (by decide) (by decide) (by decide)]; exact h66) p1 (by
        have := adP_len (k := cdN e (a ||| sub) 5 0 0) (z := z) P
        omega) (by omega) (adP_bnd P (by omega) (fun p hp => by have := hB p hp; omega)) (fun s2 f2 e2 p2 => hQ s2 (f1.trans f2) (by rw [e2, e71]) p2)
      rw [ic1] at ih
      simp (disch := first | (simp only [nlP_n, nlP_I, nlP_R, catP_I, catP_R, st8_0, st8_1, st8_2, st8_3, st8_4, b01, or_true, true_or, eq_self, iRP98, iRP99, iRP86, iRP97, iRP47, iRP57, rcP0, rcP1, rcP3, rcP13, rcP22, rcP25, rcP37, rcP45, rcP55, rcP65, rcP74, rcP76, rcP77, rcP87, rcP88, rcP100]; done) | omega | assumption | (simp (disch := omega) only [cel_s, cel_n, up1_s, up1_n, up1_e, put_out, fill_in]; omega) | (apply isRow_past; omega) | (apply isRow_seek; omega) | (apply isRow_guess; omega)) only [ww37_109, ww37_111, ww37_114, ww37_115, ww37_117, ww37_118, ww37_119, ww37_120, ww37_121, ww37_123, zs, ↓iteT, ↓iteF, andT, w32_eq, yL_1, Int.toNat_natCast, Int.toNat_add, Int.toNat_mul, Int.toNat_sub, cel_s, cel_n, up1_cel, upS_cel, cel_cel, up1_s, up1_n, up1_e, rdI_n, rdB_n, Int.reduceMul, Int.reduceDiv, Int.reduceMod, Nat.reduceMul, Nat.reduceSub, Nat.zero_add, Int.zero_add, Nat.add_zero, Int.add_zero, ite_self, Option.toList_some, Option.toList_none, List.cons_append, List.nil_append, rdI_c, and_true, true_and, and_self, not_false_eq_true, not_true_eq_false, if_true, if_false, or_false, false_or, ne_eq, and_false, false_and, rdI_n, Nat.reduceEqDiff, Nat.reduceAdd, Nat.reduceLeDiff, Int.reduceEq, Int.reduceLT, Int.reduceLE, Int.reduceNeg, Int.reduceToNat, Int.reduceAdd, Int.reduceSub, List.append_nil, ki2, ki4, ki5, ki6, ki7, ki8, ki9, ki10, ki11, ki12, ki14, ki15, ki16, ki17, ki18, ki19, ki20, ki21, ki23, ki24, ki27, ki28, ki29, ki30, ki31, ki32, ki33, ki34, ki35, ki36, ki38, ki39, ki47, ki48, ki49, ki50, ki51, ki52, ki57, ki58, ki59, ki60, ki61, ki62, ki66, ki67, ki69, ki70, ki71, ki72, ki73, ki78, ki79, ki80, ki81, ki82, ki83, ki84, ki85, ki86, ki89, ki90, ki91, ki92, ki93, ki94, ki95, ki96, ki97, ki98, ki99, ki101, ki103, ki104, ki105, ki106, ki107, ki108, ki109, ki110, ki111, ki112, ki113, ki114, ki115, ki116, ki117, ki118, ki121, ki122, ki123, ki3000, kb68, kb102, kr26, kr40, kr46, kr56, kw2, kw4, kw5, kw6, kw7, kw8, kw9, kw10, kw11, kw12, kw14, kw15, kw16, kw17, kw18, kw19, kw20, kw21, kw23, kw24, kw27, kw28, kw29, kw30, kw31, kw32, kw33, kw34, kw35, kw36, kw38, kw39, kw41, kw42, kw43, kw44, kw47, kw48, kw49, kw50, kw51, kw52, kw53, kw54, kw57, kw58, kw59, kw60, kw61, kw62, kw63, kw64, kw66, kw67, kw68, kw69, kw70, kw71, kw72, kw73, kw75, kw78, kw79, kw80, kw81, kw82, kw83, kw84, kw85, kw86, kw89, kw90, kw91, kw92, kw93, kw94, kw95, kw96, kw97, kw98, kw99, kw101, kw102, kw103, kw104, kw105, kw106, kw107, kw108, kw109, kw110, kw111, kw112, kw113, kw114, kw115, kw116, kw117, kw118, kw119, kw120, kw121, kw122, kw123, kw124]
      rw [ww37_126]
      exact ih
