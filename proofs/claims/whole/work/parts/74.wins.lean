/-! wins -/
theorem yUshrN {n k : Nat} (hk : k < 64) (hn : n < 9223372036854775808) : yUshr (n : Int) (k : Int) = ((n / 2 ^ k : Nat) : Int) := by
  unfold yUshr
  rw [lN_i64, show i32 (k : Int) = nI k from rfl, wb_shr (by omega) hk, lN_toI (Nat.lt_of_le_of_lt (Nat.div_le_self _ _) hn)]
theorem yU1 {n : Nat} (hn : n < 9223372036854775808) : yUshr (n : Int) 1 = ((n / 2 : Nat) : Int) := yUshrN (k := 1) (by omega) hn
theorem yU2 {n : Nat} (hn : n < 9223372036854775808) : yUshr (n : Int) 2 = ((n / 4 : Nat) : Int) := yUshrN (k := 2) (by omega) hn
theorem yU4 {n : Nat} (hn : n < 9223372036854775808) : yUshr (n : Int) 4 = ((n / 16 : Nat) : Int) := yUshrN (k := 4) (by omega) hn
theorem yU8 {n : Nat} (hn : n < 9223372036854775808) : yUshr (n : Int) 8 = ((n / 256 : Nat) : Int) := yUshrN (k := 8) (by omega) hn
theorem yU16 {n : Nat} (hn : n < 9223372036854775808) : yUshr (n : Int) 16 = ((n / 65536 : Nat) : Int) := yUshrN (k := 16) (by omega) hn
theorem yU32 {n : Nat} (hn : n < 9223372036854775808) : yUshr (n : Int) 32 = ((n / 4294967296 : Nat) : Int) := yUshrN (k := 32) (by omega) hn
theorem yA5 {n : Nat} (hn : n < 9223372036854775808) : yAnd (n : Int) 6148914691236517205 = ((n &&& 6148914691236517205 : Nat) : Int) := yAndN (b := 6148914691236517205) hn (by decide)
theorem yA3 {n : Nat} (hn : n < 9223372036854775808) : yAnd (n : Int) 3689348814741910323 = ((n &&& 3689348814741910323 : Nat) : Int) := yAndN (b := 3689348814741910323) hn (by decide)
theorem yAf {n : Nat} (hn : n < 9223372036854775808) : yAnd (n : Int) 1085102592571150095 = ((n &&& 1085102592571150095 : Nat) : Int) := yAndN (b := 1085102592571150095) hn (by decide)
theorem w64_subN {a b : Nat} (h : b ≤ a) (ha : a < 9223372036854775808) : w64 ((a : Int) - (b : Int)) = ((a - b : Nat) : Int) := by
  rw [w64_eq (by omega) (by omega)]
  omega
theorem w64_addN {a b : Nat} (h : a + b < 9223372036854775808) : w64 ((a : Int) + (b : Int)) = ((a + b : Nat) : Int) := by
  rw [w64_eq (by omega) (by omega)]
  omega
theorem and127 {n : Nat} (hn : n < 9223372036854775808) : zAnd (zI (n : Int)) 127 = ((n % 128 : Nat) : Int) := by
  have e : i32 (zI (n : Int)) = (i64 (n : Int)).toInt32 := by
    unfold zI
    rw [i32_of]
  unfold zAnd
  rw [e, show i32 127 = (127 : Int32) by decide, pk_and _ 7 (by decide)]
  have e2 : (i64 (n : Int)).toInt32.toBitVec.toNat % 2 ^ 7 = n % 128 := by
    rw [lN_i64]
    have : (lN n).toInt32.toBitVec.toNat = n % 4294967296 := by
      rw [lN_i]
      show (BitVec.ofNat 32 n).toNat = _
      rw [BitVec.toNat_ofNat]
    rw [this]
    omega
  rw [e2, nI_toInt (by omega)]
theorem mk55 : mk8 85 8 = 6148914691236517205 := by decide
theorem mk33 : mk8 51 8 = 3689348814741910323 := by decide
theorem mk0f : mk8 15 8 = 1085102592571150095 := by decide
theorem cl_bcJ {d : Nat} {p : Nat → Bool} {σ : mw_S} {Q : Option mw_V → mw_S → Prop} (hlt : bitsN p 64 < 2305843009213693952) : mw_Call (d + 1) 280 [jL ((bitsN p 64 : Nat) : Int)] σ Q ↔ Q (some (jI ((cntN p 64 : Nat) : Int))) σ := by
  have hq := (q_all 8 p).1
  have hpk := pkc_b p
  have hc := pkc8 p
  rw [show 8 * 8 = 64 from rfl] at hq
  rw [show 8 + (8 + (8 + (8 + (8 + (8 + (8 + 8)))))) = 64 from rfl] at hc
  have x1 : q1F 8 (bitsN p 64) = bitsN p 64 - (bitsN p 64 / 2 &&& 6148914691236517205) := by unfold q1F; rw [mk55]
  have l1 : (bitsN p 64 / 2 &&& 6148914691236517205) ≤ bitsN p 64 := Nat.le_trans Nat.and_le_left (Nat.div_le_self _ _)
  generalize bitsN p 64 = N at *
  generalize cntN p 64 = K at *
  have x1b : q1F 8 N ≤ N := by rw [x1]; exact Nat.sub_le _ _
  generalize q1F 8 N = A at *
  have x2 : q2F 8 A = (A &&& 3689348814741910323) + (A / 4 &&& 3689348814741910323) := by unfold q2F; rw [mk33]
  have l2 : (A &&& 3689348814741910323) ≤ A := Nat.and_le_left
  have l3 : (A / 4 &&& 3689348814741910323) ≤ A / 4 := Nat.and_le_left
  generalize q2F 8 A = B at *
  have x3 : q3F 8 B = (B + B / 16) &&& 1085102592571150095 := by unfold q3F; rw [mk0f]
  rw [x3] at hq
  generalize pkc p 8 = C at *
  have hB : B < 3458764513820540928 := by omega
  rw [ee280]
  have st1 : mw_WP d 280 0 [some (jL (N : Int)), none] [] σ Q ↔ mw_WP d 280 10 [some (jL (A : Int)), none] [] σ Q := by
    have u := yU1 (n := N) (by omega)
    have a5 := yA5 (n := N / 2) (by omega)
    have ws := w64_subN (a := N) (b := N / 2 &&& 6148914691236517205) l1 (by omega)
    rw [← x1] at ws
    simp only [ww280_0, ww280_1, ww280_2, ww280_3, ww280_4, ww280_7, ww280_8, ww280_9, catP_I, catP_R, st8_0, st8_1, st8_2, st8_3, st8_4, nlP_n, nlP_I, nlP_R, Option.toList_some, Option.toList_none, List.cons_append, List.nil_append, rdI_c, and_true, true_and, and_self, not_false_eq_true, not_true_eq_false, if_true, if_false, eq_self, or_true, true_or, or_false, false_or, ne_eq, and_false, false_and, rdI_n, Nat.reduceEqDiff, Nat.reduceAdd, Nat.reduceLeDiff, Int.reduceEq, Int.reduceLT, Int.reduceLE, Int.reduceNeg, Int.reduceToNat, Int.reduceAdd, Int.reduceSub, b01, List.append_nil, rcP0, rcP1, rcP3, rcP13, rcP22, rcP25, rcP37, rcP45, rcP55, rcP65, rcP74, rcP76, rcP77, rcP87, rcP88, rcP100, u, a5, ws]
  have st2 : mw_WP d 280 10 [some (jL (A : Int)), none] [] σ Q ↔ mw_WP d 280 24 [some (jL (B : Int)), none] [] σ Q := by
    have u := yU2 (n := A) (by omega)
    have a5 := yA3 (n := A) (by omega)
    have a6 := yA3 (n := A / 4) (by omega)
    have ws := w64_addN (a := A &&& 3689348814741910323) (b := A / 4 &&& 3689348814741910323) (by omega)
    rw [← x2] at ws
    simp only [ww280_10, ww280_11, ww280_14, ww280_15, ww280_16, ww280_17, ww280_18, ww280_21, ww280_22, ww280_23, catP_I, catP_R, st8_0, st8_1, st8_2, st8_3, st8_4, nlP_n, nlP_I, nlP_R, Option.toList_some, Option.toList_none, List.cons_append, List.nil_append, rdI_c, and_true, true_and, and_self, not_false_eq_true, not_true_eq_false, if_true, if_false, eq_self, or_true, true_or, or_false, false_or, ne_eq, and_false, false_and, rdI_n, Nat.reduceEqDiff, Nat.reduceAdd, Nat.reduceLeDiff, Int.reduceEq, Int.reduceLT, Int.reduceLE, Int.reduceNeg, Int.reduceToNat, Int.reduceAdd, Int.reduceSub, b01, List.append_nil, rcP0, rcP1, rcP3, rcP13, rcP22, rcP25, rcP37, rcP45, rcP55, rcP65, rcP74, rcP76, rcP77, rcP87, rcP88, rcP100, u, a5, a6, ws]
  have st3 : mw_WP d 280 24 [some (jL (B : Int)), none] [] σ Q ↔ mw_WP d 280 34 [some (jL (C : Int)), none] [] σ Q := by
    have u := yU4 (n := B) (by omega)
    have ws := w64_addN (a := B) (b := B / 16) (by omega)
    have a5 := yAf (n := B + B / 16) (by omega)
    rw [hq] at a5
    simp only [ww280_24, ww280_25, ww280_26, ww280_27, ww280_28, ww280_29, ww280_32, ww280_33, catP_I, catP_R, st8_0, st8_1, st8_2, st8_3, st8_4, nlP_n, nlP_I, nlP_R, Option.toList_some, Option.toList_none, List.cons_append, List.nil_append, rdI_c, and_true, true_and, and_self, not_false_eq_true, not_true_eq_false, if_true, if_false, eq_self, or_true, true_or, or_false, false_or, ne_eq, and_false, false_and, rdI_n, Nat.reduceEqDiff, Nat.reduceAdd, Nat.reduceLeDiff, Int.reduceEq, Int.reduceLT, Int.reduceLE, Int.reduceNeg, Int.reduceToNat, Int.reduceAdd, Int.reduceSub, b01, List.append_nil, rcP0, rcP1, rcP3, rcP13, rcP22, rcP25, rcP37, rcP45, rcP55, rcP65, rcP74, rcP76, rcP77, rcP87, rcP88, rcP100, u, ws, a5]
  have st4 : mw_WP d 280 34 [some (jL (C : Int)), none] [] σ Q ↔ mw_WP d 280 41 [some (jL ((C + C / 256 : Nat) : Int)), none] [] σ Q := by
    have u := yU8 (n := C) (by omega)
    have ws := w64_addN (a := C) (b := C / 256) (by omega)
    simp only [ww280_34, ww280_35, ww280_36, ww280_38, ww280_39, ww280_40, catP_I, catP_R, st8_0, st8_1, st8_2, st8_3, st8_4, nlP_n, nlP_I, nlP_R, Option.toList_some, Option.toList_none, List.cons_append, List.nil_append, rdI_c, and_true, true_and, and_self, not_false_eq_true, not_true_eq_false, if_true, if_false, eq_self, or_true, true_or, or_false, false_or, ne_eq, and_false, false_and, rdI_n, Nat.reduceEqDiff, Nat.reduceAdd, Nat.reduceLeDiff, Int.reduceEq, Int.reduceLT, Int.reduceLE, Int.reduceNeg, Int.reduceToNat, Int.reduceAdd, Int.reduceSub, b01, List.append_nil, rcP0, rcP1, rcP3, rcP13, rcP22, rcP25, rcP37, rcP45, rcP55, rcP65, rcP74, rcP76, rcP77, rcP87, rcP88, rcP100, u, ws]
  have st5 : mw_WP d 280 41 [some (jL ((C + C / 256 : Nat) : Int)), none] [] σ Q ↔ mw_WP d 280 48 [some (jL ((C + C / 256 + (C + C / 256) / 65536 : Nat) : Int)), none] [] σ Q := by
    have u := yU16 (n := C + C / 256) (by omega)
    have ws := w64_addN (a := C + C / 256) (b := (C + C / 256) / 65536) (by omega)
    simp only [ww280_41, ww280_42, ww280_43, ww280_45, ww280_46, ww280_47, catP_I, catP_R, st8_0, st8_1, st8_2, st8_3, st8_4, nlP_n, nlP_I, nlP_R, Option.toList_some, Option.toList_none, List.cons_append, List.nil_append, rdI_c, and_true, true_and, and_self, not_false_eq_true, not_true_eq_false, if_true, if_false, eq_self, or_true, true_or, or_false, false_or, ne_eq, and_false, false_and, rdI_n, Nat.reduceEqDiff, Nat.reduceAdd, Nat.reduceLeDiff, Int.reduceEq, Int.reduceLT, Int.reduceLE, Int.reduceNeg, Int.reduceToNat, Int.reduceAdd, Int.reduceSub, b01, List.append_nil, rcP0, rcP1, rcP3, rcP13, rcP22, rcP25, rcP37, rcP45, rcP55, rcP65, rcP74, rcP76, rcP77, rcP87, rcP88, rcP100, u, ws]
  rw [st1, st2, st3, st4, st5]
  have hC2 : C + C / 256 + (C + C / 256) / 65536 < 2314885530818453536 := by omega
  generalize C + C / 256 + (C + C / 256) / 65536 = D at *
  have u := yU32 (n := D) (by omega)
  have ws := w64_addN (a := D) (b := D / 4294967296) (by omega)
  have an := and127 (n := D + D / 4294967296) (by omega)
  rw [hc] at an
  simp only [ww280_48, ww280_49, ww280_50, ww280_52, ww280_53, ww280_54, ww280_55, ww280_56, ww280_57, ww280_59, ww280_60, catP_I, catP_R, st8_0, st8_1, st8_2, st8_3, st8_4, nlP_n, nlP_I, nlP_R, Option.toList_some, Option.toList_none, List.cons_append, List.nil_append, rdI_c, and_true, true_and, and_self, not_false_eq_true, not_true_eq_false, if_true, if_false, eq_self, or_true, true_or, or_false, false_or, ne_eq, and_false, false_and, rdI_n, Nat.reduceEqDiff, Nat.reduceAdd, Nat.reduceLeDiff, Int.reduceEq, Int.reduceLT, Int.reduceLE, Int.reduceNeg, Int.reduceToNat, Int.reduceAdd, Int.reduceSub, b01, List.append_nil, rcP0, rcP1, rcP3, rcP13, rcP22, rcP25, rcP37, rcP45, rcP55, rcP65, rcP74, rcP76, rcP77, rcP87, rcP88, rcP100, u, ws, an]
theorem bits_ext {p : Nat → Bool} {n : Nat} : ∀ k, bitsN (fun j => decide (j < n) && p j) (n + k) = bitsN p n
  | 0 => by
    rw [Nat.add_zero]
    have : ∀ r, r ≤ n → bitsN (fun j => decide (j < n) && p j) r = bitsN p r := fun r => by
      induction r with
      | zero => intro _; rfl
      | succ r ih =>
        intro hr
        show bitsN _ r + (if (decide (r < n) && p r) = true then 2 ^ r else 0) = bitsN p r + (if p r = true then 2 ^ r else 0)
        rw [ih (by omega), decide_eq_true (show r < n by omega), Bool.true_and]
    exact this n (Nat.le_refl _)
  | k + 1 => by
    show bitsN _ (n + k) + (if (decide (n + k < n) && p (n + k)) = true then 2 ^ (n + k) else 0) = _
    rw [bits_ext k, decide_eq_false (by omega), Bool.false_and, if_neg (by simp), Nat.add_zero]
theorem cnt_ext {p : Nat → Bool} {n : Nat} : ∀ k, cntN (fun j => decide (j < n) && p j) (n + k) = cntN p n
  | 0 => by
    rw [Nat.add_zero]
    have : ∀ r, r ≤ n → cntN (fun j => decide (j < n) && p j) r = cntN p r := fun r => by
      induction r with
      | zero => intro _; rfl
      | succ r ih =>
        intro hr
        show cntN _ r + (if (decide (r < n) && p r) = true then 1 else 0) = cntN p r + (if p r = true then 1 else 0)
        rw [ih (by omega), decide_eq_true (show r < n by omega), Bool.true_and]
    exact this n (Nat.le_refl _)
  | k + 1 => by
    show cntN _ (n + k) + (if (decide (n + k < n) && p (n + k)) = true then 1 else 0) = _
    rw [cnt_ext k, decide_eq_false (by omega), Bool.false_and, if_neg (by simp), Nat.add_zero]
theorem cl_winnable {d late m : Nat} {s : mw_S} {Q : Option mw_V → mw_S → Prop} (m1 : 1 ≤ m) (m4 : m ≤ 4) (l3 : late ≤ 3) (hW : winOK late m 61 (s 75) 0) : mw_Call (d + 2) 16 [jR 74] s Q ↔ Q (some (jI ((cntN (fun j => CW late m (EG late m) j 0) 61 : Nat) : Int))) s := by
  have e1 := bits_ext (p := fun j => CW late m (EG late m) j 0) (n := 61) 3
  have e2 := cnt_ext (p := fun j => CW late m (EG late m) j 0) (n := 61) 3
  have lt := bitsN_lt (fun j => CW late m (EG late m) j 0) 61
  have hb := fun (Q : Option mw_V → mw_S → Prop) (d : Nat) => cl_bcJ (d := d) (p := fun j => decide (j < 61) && CW late m (EG late m) j 0) (σ := s) (Q := Q) (by rw [show 64 = 61 + 3 from rfl, e1]; exact lt)
  rw [show 64 = 61 + 3 from rfl, e1, e2] at hb
  unfold winOK at hW
  rw [ee16]
  simp (disch := first | (simp only [nlP_n, nlP_I, nlP_R, catP_I, catP_R, st8_0, st8_1, st8_2, st8_3, st8_4, b01, or_true, true_or, eq_self, iRP98, iRP99, iRP86, iRP97, iRP47, iRP57, rcP0, rcP1, rcP3, rcP13, rcP22, rcP25, rcP37, rcP45, rcP55, rcP65, rcP74, rcP76, rcP77, rcP87, rcP88, rcP100]; done) | omega | assumption | (simp (disch := omega) only [cel_s, cel_n, up1_s, up1_n, up1_e, put_out, fill_in]; omega) | (apply isRow_past; omega) | (apply isRow_seek; omega) | (apply isRow_guess; omega)) only [ww16_0, ww16_1, ww16_4, ww16_5, ww16_6, ww16_9, hW, hb, ↓iteT, ↓iteF, andT, w32_eq, yL_1, Int.toNat_natCast, Int.toNat_add, Int.toNat_mul, Int.toNat_sub, cel_s, cel_n, up1_cel, upS_cel, cel_cel, up1_s, up1_n, up1_e, rdI_n, rdB_n, Int.reduceMul, Int.reduceDiv, Int.reduceMod, Nat.reduceMul, Nat.reduceSub, Nat.zero_add, Int.zero_add, Nat.add_zero, Int.add_zero, ite_self, Option.toList_some, Option.toList_none, List.cons_append, List.nil_append, rdI_c, and_true, true_and, and_self, not_false_eq_true, not_true_eq_false, if_true, if_false, or_false, false_or, ne_eq, and_false, false_and, rdI_n, Nat.reduceEqDiff, Nat.reduceAdd, Nat.reduceLeDiff, Int.reduceEq, Int.reduceLT, Int.reduceLE, Int.reduceNeg, Int.reduceToNat, Int.reduceAdd, Int.reduceSub, List.append_nil, ki2, ki4, ki5, ki6, ki7, ki8, ki9, ki10, ki11, ki12, ki14, ki15, ki16, ki17, ki18, ki19, ki20, ki21, ki23, ki24, ki27, ki28, ki29, ki30, ki31, ki32, ki33, ki34, ki35, ki36, ki38, ki39, ki47, ki48, ki49, ki50, ki51, ki52, ki57, ki58, ki59, ki60, ki61, ki62, ki66, ki67, ki69, ki70, ki71, ki72, ki73, ki78, ki79, ki80, ki81, ki82, ki83, ki84, ki85, ki86, ki89, ki90, ki91, ki92, ki93, ki94, ki95, ki96, ki97, ki98, ki99, ki101, ki103, ki104, ki105, ki106, ki107, ki108, ki109, ki110, ki111, ki112, ki113, ki114, ki115, ki116, ki117, ki118, ki121, ki122, ki123, ki3000, kb68, kb102, kr26, kr40, kr46, kr56, kw2, kw4, kw5, kw6, kw7, kw8, kw9, kw10, kw11, kw12, kw14, kw15, kw16, kw17, kw18, kw19, kw20, kw21, kw23, kw24, kw27, kw28, kw29, kw30, kw31, kw32, kw33, kw34, kw35, kw36, kw38, kw39, kw41, kw42, kw43, kw44, kw47, kw48, kw49, kw50, kw51, kw52, kw53, kw54, kw57, kw58, kw59, kw60, kw61, kw62, kw63, kw64, kw66, kw67, kw68, kw69, kw70, kw71, kw72, kw73, kw75, kw78, kw79, kw80, kw81, kw82, kw83, kw84, kw85, kw86, kw89, kw90, kw91, kw92, kw93, kw94, kw95, kw96, kw97, kw98, kw99, kw101, kw102, kw103, kw104, kw105, kw106, kw107, kw108, kw109, kw110, kw111, kw112, kw113, kw114, kw115, kw116, kw117, kw118, kw119, kw120, kw121, kw122, kw123, kw124]
theorem wp_mwins {late m : Nat} (m1 : 1 ≤ m) (m4 : m ≤ 4) (l3 : late ≤ 3) : ∀ (r n : Nat) (s : mw_S), n + r = 61 → ∃ W, ∀ (d : Nat) (Q : Option mw_V → mw_S → Prop), mw_WP (d + 200) 263 21 [some (jR 100), some (jI m), some (jI late), some (jI ((cntN (fun j => CW late m (EG late m) j 0) n : Nat) : Int)), some (jI n)] [] s Q ↔ Q (some (jI ((cntN (fun j => CW late m (EG late m) j 0) 61 : Nat) : Int))) (cel (cel s 100 (if r = 0 then s 100 else up1 (up1 (s 100) 46 m) 47 late)) 121 W)
  | 0, n, s, h => by
    obtain rfl : n = 61 := by omega
    refine ⟨s 121, fun d Q => ?_⟩
    rw [if_pos rfl, cel_self (σ := s) rfl, cel_self (σ := s) rfl]
    simp (disch := first | (simp only [nlP_n, nlP_I, nlP_R, catP_I, catP_R, st8_0, st8_1, st8_2, st8_3, st8_4, b01, or_true, true_or, eq_self, iRP98, iRP99, iRP86, iRP97, iRP47, iRP57, rcP0, rcP1, rcP3, rcP13, rcP22, rcP25, rcP37, rcP45, rcP55, rcP65, rcP74, rcP76, rcP77, rcP87, rcP88, rcP100]; done) | omega | assumption | (simp (disch := omega) only [cel_s, cel_n, up1_s, up1_n, up1_e, put_out, fill_in]; omega) | (apply isRow_past; omega) | (apply isRow_seek; omega) | (apply isRow_guess; omega)) only [ww263_21, ww263_23, ww263_25, ww263_53, ww263_54, ↓iteT, ↓iteF, andT, w32_eq, yL_1, Int.toNat_natCast, Int.toNat_add, Int.toNat_mul, Int.toNat_sub, cel_s, cel_n, up1_cel, upS_cel, cel_cel, up1_s, up1_n, up1_e, rdI_n, rdB_n, Int.reduceMul, Int.reduceDiv, Int.reduceMod, Nat.reduceMul, Nat.reduceSub, Nat.zero_add, Int.zero_add, Nat.add_zero, Int.add_zero, ite_self, Option.toList_some, Option.toList_none, List.cons_append, List.nil_append, rdI_c, and_true, true_and, and_self, not_false_eq_true, not_true_eq_false, if_true, if_false, or_false, false_or, ne_eq, and_false, false_and, rdI_n, Nat.reduceEqDiff, Nat.reduceAdd, Nat.reduceLeDiff, Int.reduceEq, Int.reduceLT, Int.reduceLE, Int.reduceNeg, Int.reduceToNat, Int.reduceAdd, Int.reduceSub, List.append_nil, ki2, ki4, ki5, ki6, ki7, ki8, ki9, ki10, ki11, ki12, ki14, ki15, ki16, ki17, ki18, ki19, ki20, ki21, ki23, ki24, ki27, ki28, ki29, ki30, ki31, ki32, ki33, ki34, ki35, ki36, ki38, ki39, ki47, ki48, ki49, ki50, ki51, ki52, ki57, ki58, ki59, ki60, ki61, ki62, ki66, ki67, ki69, ki70, ki71, ki72, ki73, ki78, ki79, ki80, ki81, ki82, ki83, ki84, ki85, ki86, ki89, ki90, ki91, ki92, ki93, ki94, ki95, ki96, ki97, ki98, ki99, ki101, ki103, ki104, ki105, ki106, ki107, ki108, ki109, ki110, ki111, ki112, ki113, ki114, ki115, ki116, ki117, ki118, ki121, ki122, ki123, ki3000, kb68, kb102, kr26, kr40, kr46, kr56, kw2, kw4, kw5, kw6, kw7, kw8, kw9, kw10, kw11, kw12, kw14, kw15, kw16, kw17, kw18, kw19, kw20, kw21, kw23, kw24, kw27, kw28, kw29, kw30, kw31, kw32, kw33, kw34, kw35, kw36, kw38, kw39, kw41, kw42, kw43, kw44, kw47, kw48, kw49, kw50, kw51, kw52, kw53, kw54, kw57, kw58, kw59, kw60, kw61, kw62, kw63, kw64, kw66, kw67, kw68, kw69, kw70, kw71, kw72, kw73, kw75, kw78, kw79, kw80, kw81, kw82, kw83, kw84, kw85, kw86, kw89, kw90, kw91, kw92, kw93, kw94, kw95, kw96, kw97, kw98, kw99, kw101, kw102, kw103, kw104, kw105, kw106, kw107, kw108, kw109, kw110, kw111, kw112, kw113, kw114, kw115, kw116, kw117, kw118, kw119, kw120, kw121, kw122, kw123, kw124]
  | r + 1, n, s, h => by
    obtain ⟨W1, hw⟩ := cl_winOf (late := late) (m := m) (n := n) (s := s) m1 m4 l3 (by omega)
    obtain ⟨W, ih⟩ := wp_mwins m1 m4 l3 r (n + 1) (cel (cel s 100 (up1 (up1 (s 100) 46 m) 47 late)) 121 W1) (by omega)
    refine ⟨W, fun d Q => ?_⟩
    have ihq := ih d Q
    have ceq := CW_eq (late := late) (m := m) (E := EG late m) (left := n) (t := 0) (by omega)
    have hs : cntN (fun j => CW late m (EG late m) j 0) (n + 1) = cntN (fun j => CW late m (EG late m) j 0) n + (if CW late m (EG late m) n 0 = true then 1 else 0) := rfl
    have hle := cnt_le (fun j => CW late m (EG late m) j 0) n
    have hw' := fun Q => hw (d + 198 - 2 * n) Q
    rw [show d + 198 - 2 * n + 2 * n + 2 = d + 200 by omega] at hw'
    have ez : (cel (cel (cel (cel s 100 (up1 (up1 (s 100) 46 m) 47 late)) 121 W1) 100 (if r = 0 then cel (cel s 100 (up1 (up1 (s 100) 46 m) 47 late)) 121 W1 100 else up1 (up1 (cel (cel s 100 (up1 (up1 (s 100) 46 m) 47 late)) 121 W1 100) 46 m) 47 late)) 121 W) = cel (cel s 100 (up1 (up1 (s 100) 46 m) 47 late)) 121 W := by
      have e1 : (if r = 0 then cel (cel s 100 (up1 (up1 (s 100) 46 m) 47 late)) 121 W1 100 else up1 (up1 (cel (cel s 100 (up1 (up1 (s 100) 46 m) 47 late)) 121 W1 100) 46 m) 47 late) = up1 (up1 (s 100) 46 m) 47 late := by
        rw [cel_n (by decide), cel_s]
        split
        · rfl
        · funext k
          unfold up1
          by_cases q : k = 47
          · simp [q]
          · by_cases q2 : k = 46
            · simp [q2]
            · simp [q, q2]
      rw [e1]
      funext z
      unfold cel
      by_cases q : z = 121
      · simp [q]
      · by_cases q2 : z = 100
        · simp [q2]
        · simp [q, q2]
    rw [ez] at ihq
    rw [if_neg (by omega)]
    rw [hs] at ihq
    generalize hz : lwG (wbG late m (EG late m) n 0) (min m n) 1 = z at *
    generalize hk : cntN (fun j => CW late m (EG late m) j 0) n = k at *
    by_cases c : z = 0
    · rw [show decide (z ≠ 0) = false by simp [c]] at ceq
      rw [ceq, if_neg (by simp), Nat.add_zero] at ihq
      simp only [ic1] at ihq
      subst c
      simp (disch := first | (simp only [nlP_n, nlP_I, nlP_R, catP_I, catP_R, st8_0, st8_1, st8_2, st8_3, st8_4, b01, or_true, true_or, eq_self, iRP98, iRP99, iRP86, iRP97, iRP47, iRP57, rcP0, rcP1, rcP3, rcP13, rcP22, rcP25, rcP37, rcP45, rcP55, rcP65, rcP74, rcP76, rcP77, rcP87, rcP88, rcP100]; done) | omega | assumption | (simp (disch := omega) only [cel_s, cel_n, up1_s, up1_n, up1_e, put_out, fill_in]; omega) | (apply isRow_past; omega) | (apply isRow_seek; omega) | (apply isRow_guess; omega)) only [ww263_21, ww263_23, ww263_25, ww263_28, ww263_29, ww263_30, ww263_32, ww263_33, ww263_34, ww263_37, ww263_40, ww263_41, ww263_44, ww263_45, ww263_46, ww263_47, hw', ↓iteT, ↓iteF, andT, w32_eq, yL_1, Int.toNat_natCast, Int.toNat_add, Int.toNat_mul, Int.toNat_sub, cel_s, cel_n, up1_cel, upS_cel, cel_cel, up1_s, up1_n, up1_e, rdI_n, rdB_n, Int.reduceMul, Int.reduceDiv, Int.reduceMod, Nat.reduceMul, Nat.reduceSub, Nat.zero_add, Int.zero_add, Nat.add_zero, Int.add_zero, ite_self, Option.toList_some, Option.toList_none, List.cons_append, List.nil_append, rdI_c, and_true, true_and, and_self, not_false_eq_true, not_true_eq_false, if_true, if_false, or_false, false_or, ne_eq, and_false, false_and, rdI_n, Nat.reduceEqDiff, Nat.reduceAdd, Nat.reduceLeDiff, Int.reduceEq, Int.reduceLT, Int.reduceLE, Int.reduceNeg, Int.reduceToNat, Int.reduceAdd, Int.reduceSub, List.append_nil, ki2, ki4, ki5, ki6, ki7, ki8, ki9, ki10, ki11, ki12, ki14, ki15, ki16, ki17, ki18, ki19, ki20, ki21, ki23, ki24, ki27, ki28, ki29, ki30, ki31, ki32, ki33, ki34, ki35, ki36, ki38, ki39, ki47, ki48, ki49, ki50, ki51, ki52, ki57, ki58, ki59, ki60, ki61, ki62, ki66, ki67, ki69, ki70, ki71, ki72, ki73, ki78, ki79, ki80, ki81, ki82, ki83, ki84, ki85, ki86, ki89, ki90, ki91, ki92, ki93, ki94, ki95, ki96, ki97, ki98, ki99, ki101, ki103, ki104, ki105, ki106, ki107, ki108, ki109, ki110, ki111, ki112, ki113, ki114, ki115, ki116, ki117, ki118, ki121, ki122, ki123, ki3000, kb68, kb102, kr26, kr40, kr46, kr56, kw2, kw4, kw5, kw6, kw7, kw8, kw9, kw10, kw11, kw12, kw14, kw15, kw16, kw17, kw18, kw19, kw20, kw21, kw23, kw24, kw27, kw28, kw29, kw30, kw31, kw32, kw33, kw34, kw35, kw36, kw38, kw39, kw41, kw42, kw43, kw44, kw47, kw48, kw49, kw50, kw51, kw52, kw53, kw54, kw57, kw58, kw59, kw60, kw61, kw62, kw63, kw64, kw66, kw67, kw68, kw69, kw70, kw71, kw72, kw73, kw75, kw78, kw79, kw80, kw81, kw82, kw83, kw84, kw85, kw86, kw89, kw90, kw91, kw92, kw93, kw94, kw95, kw96, kw97, kw98, kw99, kw101, kw102, kw103, kw104, kw105, kw106, kw107, kw108, kw109, kw110, kw111, kw112, kw113, kw114, kw115, kw116, kw117, kw118, kw119, kw120, kw121, kw122, kw123, kw124]
      rw [ww263_50]
      exact ihq
    · rw [show decide (z ≠ 0) = true by simp [c]] at ceq
      rw [ceq, if_pos rfl] at ihq
      simp only [ic1] at ihq
      simp (disch := first | (simp only [nlP_n, nlP_I, nlP_R, catP_I, catP_R, st8_0, st8_1, st8_2, st8_3, st8_4, b01, or_true, true_or, eq_self, iRP98, iRP99, iRP86, iRP97, iRP47, iRP57, rcP0, rcP1, rcP3, rcP13, rcP22, rcP25, rcP37, rcP45, rcP55, rcP65, rcP74, rcP76, rcP77, rcP87, rcP88, rcP100]; done) | omega | assumption | (simp (disch := omega) only [cel_s, cel_n, up1_s, up1_n, up1_e, put_out, fill_in]; omega) | (apply isRow_past; omega) | (apply isRow_seek; omega) | (apply isRow_guess; omega)) only [ww263_21, ww263_23, ww263_25, ww263_28, ww263_29, ww263_30, ww263_32, ww263_33, ww263_34, ww263_37, ww263_40, ww263_41, ww263_44, ww263_45, ww263_46, ww263_47, hw', ↓iteT, ↓iteF, andT, w32_eq, yL_1, Int.toNat_natCast, Int.toNat_add, Int.toNat_mul, Int.toNat_sub, cel_s, cel_n, up1_cel, upS_cel, cel_cel, up1_s, up1_n, up1_e, rdI_n, rdB_n, Int.reduceMul, Int.reduceDiv, Int.reduceMod, Nat.reduceMul, Nat.reduceSub, Nat.zero_add, Int.zero_add, Nat.add_zero, Int.add_zero, ite_self, Option.toList_some, Option.toList_none, List.cons_append, List.nil_append, rdI_c, and_true, true_and, and_self, not_false_eq_true, not_true_eq_false, if_true, if_false, or_false, false_or, ne_eq, and_false, false_and, rdI_n, Nat.reduceEqDiff, Nat.reduceAdd, Nat.reduceLeDiff, Int.reduceEq, Int.reduceLT, Int.reduceLE, Int.reduceNeg, Int.reduceToNat, Int.reduceAdd, Int.reduceSub, List.append_nil, ki2, ki4, ki5, ki6, ki7, ki8, ki9, ki10, ki11, ki12, ki14, ki15, ki16, ki17, ki18, ki19, ki20, ki21, ki23, ki24, ki27, ki28, ki29, ki30, ki31, ki32, ki33, ki34, ki35, ki36, ki38, ki39, ki47, ki48, ki49, ki50, ki51, ki52, ki57, ki58, ki59, ki60, ki61, ki62, ki66, ki67, ki69, ki70, ki71, ki72, ki73, ki78, ki79, ki80, ki81, ki82, ki83, ki84, ki85, ki86, ki89, ki90, ki91, ki92, ki93, ki94, ki95, ki96, ki97, ki98, ki99, ki101, ki103, ki104, ki105, ki106, ki107, ki108, ki109, ki110, ki111, ki112, ki113, ki114, ki115, ki116, ki117, ki118, ki121, ki122, ki123, ki3000, kb68, kb102, kr26, kr40, kr46, kr56, kw2, kw4, kw5, kw6, kw7, kw8, kw9, kw10, kw11, kw12, kw14, kw15, kw16, kw17, kw18, kw19, kw20, kw21, kw23, kw24, kw27, kw28, kw29, kw30, kw31, kw32, kw33, kw34, kw35, kw36, kw38, kw39, kw41, kw42, kw43, kw44, kw47, kw48, kw49, kw50, kw51, kw52, kw53, kw54, kw57, kw58, kw59, kw60, kw61, kw62, kw63, kw64, kw66, kw67, kw68, kw69, kw70, kw71, kw72, kw73, kw75, kw78, kw79, kw80, kw81, kw82, kw83, kw84, kw85, kw86, kw89, kw90, kw91, kw92, kw93, kw94, kw95, kw96, kw97, kw98, kw99, kw101, kw102, kw103, kw104, kw105, kw106, kw107, kw108, kw109, kw110, kw111, kw112, kw113, kw114, kw115, kw116, kw117, kw118, kw119, kw120, kw121, kw122, kw123, kw124]
      rw [ww263_50]
      exact ihq
theorem g_wins : ag_wins Rall := by
  intro n σ v1 v2 hn hI oS i1 i2
  have hT := RthrC (x := 0) hI
  have hG := fun (Q : Option mw_V → mw_S → Prop) (d : Nat) (s : mw_S) => cl_misGame (d := d) (σ := s) (Q := Q) i1 i2
  simp only [ee145, ee263]
  by_cases c2 : (1 ≤ v1 ∧ v1 ≤ 4) ∧ 0 ≤ v2 ∧ v2 ≤ 3
  · obtain ⟨m, rfl⟩ := Int.eq_ofNat_of_zero_le (show 0 ≤ v1 by omega)
    obtain ⟨late, rfl⟩ := Int.eq_ofNat_of_zero_le (show 0 ≤ v2 by omega)
    obtain ⟨W, hW, hs⟩ := cl_solve (late := late) (m := m) (s := σ) (by omega) (by omega) (by omega)
    have r := EG_rng (late := late) (m := m) (by omega) (by omega) (by omega)
    have hf := fun (Q : Option mw_V → mw_S → Prop) (d : Nat) => cl_winnable (d := d) (late := late) (m := m) (s := cel (cel σ 74 (up1 (up1 (up1 (σ 74) 1 m) 2 late) 3 (EG late m))) 75 W) (Q := Q) (by omega) (by omega) (by omega) (by simp (disch := omega) only [cel_s, cel_n, up1_s, up1_n, up1_e, put_in, put_out, fill_in, fill_out, Nat.add_sub_cancel_left, Int.toNat_natCast]; exact hW 0 (by omega))
    obtain ⟨W2, hw⟩ := wp_mwins (late := late) (m := m) (by omega) (by omega) (by omega) 61 0 (cel (cel (cel σ 74 (up1 (up1 (up1 (σ 74) 1 m) 2 late) 3 (EG late m))) 75 W) 100 (up1 (σ 100) 0 0)) (by omega)
    simp (disch := first | (simp only [nlP_n, nlP_I, nlP_R, catP_I, catP_R, st8_0, st8_1, st8_2, st8_3, st8_4, b01, or_true, true_or, eq_self, iRP98, iRP99, iRP86, iRP97, iRP47, iRP57, rcP0, rcP1, rcP3, rcP13, rcP22, rcP25, rcP37, rcP45, rcP55, rcP65, rcP74, rcP76, rcP77, rcP87, rcP88, rcP100]; done) | omega | assumption | (simp (disch := omega) only [cel_s, cel_n, up1_s, up1_n, up1_e, put_out, fill_in]; omega) | (apply isRow_past; omega) | (apply isRow_seek; omega) | (apply isRow_guess; omega)) only [ww145_0, ww145_1, ww145_2, ww145_5, ww145_8, ww145_10, ww145_11, ww145_12, ww145_15, ww145_16, ww145_17, ww145_20, ww145_21, ww145_24, ww145_27, ww263_0, ww263_1, ww263_2, ww263_5, ww263_6, ww263_7, ww263_10, ww263_13, ww263_15, ww263_16, ww263_17, ww263_18, ww263_19, cl_isGame, hs, hf, hG, ↓iteT, ↓iteF, andT, w32_eq, yL_1, Int.toNat_natCast, Int.toNat_add, Int.toNat_mul, Int.toNat_sub, cel_s, cel_n, up1_cel, upS_cel, cel_cel, up1_s, up1_n, up1_e, rdI_n, rdB_n, Int.reduceMul, Int.reduceDiv, Int.reduceMod, Nat.reduceMul, Nat.reduceSub, Nat.zero_add, Int.zero_add, Nat.add_zero, Int.add_zero, ite_self, Option.toList_some, Option.toList_none, List.cons_append, List.nil_append, rdI_c, and_true, true_and, and_self, not_false_eq_true, not_true_eq_false, if_true, if_false, or_false, false_or, ne_eq, and_false, false_and, rdI_n, Nat.reduceEqDiff, Nat.reduceAdd, Nat.reduceLeDiff, Int.reduceEq, Int.reduceLT, Int.reduceLE, Int.reduceNeg, Int.reduceToNat, Int.reduceAdd, Int.reduceSub, List.append_nil, ki2, ki4, ki5, ki6, ki7, ki8, ki9, ki10, ki11, ki12, ki14, ki15, ki16, ki17, ki18, ki19, ki20, ki21, ki23, ki24, ki27, ki28, ki29, ki30, ki31, ki32, ki33, ki34, ki35, ki36, ki38, ki39, ki47, ki48, ki49, ki50, ki51, ki52, ki57, ki58, ki59, ki60, ki61, ki62, ki66, ki67, ki69, ki70, ki71, ki72, ki73, ki78, ki79, ki80, ki81, ki82, ki83, ki84, ki85, ki86, ki89, ki90, ki91, ki92, ki93, ki94, ki95, ki96, ki97, ki98, ki99, ki101, ki103, ki104, ki105, ki106, ki107, ki108, ki109, ki110, ki111, ki112, ki113, ki114, ki115, ki116, ki117, ki118, ki121, ki122, ki123, ki3000, kb68, kb102, kr26, kr40, kr46, kr56, kw2, kw4, kw5, kw6, kw7, kw8, kw9, kw10, kw11, kw12, kw14, kw15, kw16, kw17, kw18, kw19, kw20, kw21, kw23, kw24, kw27, kw28, kw29, kw30, kw31, kw32, kw33, kw34, kw35, kw36, kw38, kw39, kw41, kw42, kw43, kw44, kw47, kw48, kw49, kw50, kw51, kw52, kw53, kw54, kw57, kw58, kw59, kw60, kw61, kw62, kw63, kw64, kw66, kw67, kw68, kw69, kw70, kw71, kw72, kw73, kw75, kw78, kw79, kw80, kw81, kw82, kw83, kw84, kw85, kw86, kw89, kw90, kw91, kw92, kw93, kw94, kw95, kw96, kw97, kw98, kw99, kw101, kw102, kw103, kw104, kw105, kw106, kw107, kw108, kw109, kw110, kw111, kw112, kw113, kw114, kw115, kw116, kw117, kw118, kw119, kw120, kw121, kw122, kw123, kw124]
    refine (hw 599 _).mpr ⟨⟨_, rfl, rfl⟩, ?_⟩
    rw [if_neg (by decide)]
    refine Rall.same (hI.mono (Nat.le_succ n)) ?_ ?_
    · repeat (first | exact see_0 | refine see_cel rfl ?_)
    · simp (disch := first | (simp only [nlP_n, nlP_I, nlP_R, catP_I, catP_R, st8_0, st8_1, st8_2, st8_3, st8_4, b01, or_true, true_or, eq_self, iRP98, iRP99, iRP86, iRP97, iRP47, iRP57, rcP0, rcP1, rcP3, rcP13, rcP22, rcP25, rcP37, rcP45, rcP55, rcP65, rcP74, rcP76, rcP77, rcP87, rcP88, rcP100]; done) | omega | assumption | (simp (disch := omega) only [cel_s, cel_n, up1_s, up1_n, up1_e, put_out, fill_in]; omega) | (apply isRow_past; omega) | (apply isRow_seek; omega) | (apply isRow_guess; omega)) only [↓iteT, ↓iteF, andT, w32_eq, yL_1, Int.toNat_natCast, Int.toNat_add, Int.toNat_mul, Int.toNat_sub, cel_s, cel_n, up1_cel, upS_cel, cel_cel, up1_s, up1_n, up1_e, rdI_n, rdB_n, Int.reduceMul, Int.reduceDiv, Int.reduceMod, Nat.reduceMul, Nat.reduceSub, Nat.zero_add, Int.zero_add, Nat.add_zero, Int.add_zero, ite_self, Option.toList_some, Option.toList_none, List.cons_append, List.nil_append, rdI_c, and_true, true_and, and_self, not_false_eq_true, not_true_eq_false, if_true, if_false, or_false, false_or, ne_eq, and_false, false_and, rdI_n, Nat.reduceEqDiff, Nat.reduceAdd, Nat.reduceLeDiff, Int.reduceEq, Int.reduceLT, Int.reduceLE, Int.reduceNeg, Int.reduceToNat, Int.reduceAdd, Int.reduceSub, List.append_nil, ki2, ki4, ki5, ki6, ki7, ki8, ki9, ki10, ki11, ki12, ki14, ki15, ki16, ki17, ki18, ki19, ki20, ki21, ki23, ki24, ki27, ki28, ki29, ki30, ki31, ki32, ki33, ki34, ki35, ki36, ki38, ki39, ki47, ki48, ki49, ki50, ki51, ki52, ki57, ki58, ki59, ki60, ki61, ki62, ki66, ki67, ki69, ki70, ki71, ki72, ki73, ki78, ki79, ki80, ki81, ki82, ki83, ki84, ki85, ki86, ki89, ki90, ki91, ki92, ki93, ki94, ki95, ki96, ki97, ki98, ki99, ki101, ki103, ki104, ki105, ki106, ki107, ki108, ki109, ki110, ki111, ki112, ki113, ki114, ki115, ki116, ki117, ki118, ki121, ki122, ki123, ki3000, kb68, kb102, kr26, kr40, kr46, kr56, kw2, kw4, kw5, kw6, kw7, kw8, kw9, kw10, kw11, kw12, kw14, kw15, kw16, kw17, kw18, kw19, kw20, kw21, kw23, kw24, kw27, kw28, kw29, kw30, kw31, kw32, kw33, kw34, kw35, kw36, kw38, kw39, kw41, kw42, kw43, kw44, kw47, kw48, kw49, kw50, kw51, kw52, kw53, kw54, kw57, kw58, kw59, kw60, kw61, kw62, kw63, kw64, kw66, kw67, kw68, kw69, kw70, kw71, kw72, kw73, kw75, kw78, kw79, kw80, kw81, kw82, kw83, kw84, kw85, kw86, kw89, kw90, kw91, kw92, kw93, kw94, kw95, kw96, kw97, kw98, kw99, kw101, kw102, kw103, kw104, kw105, kw106, kw107, kw108, kw109, kw110, kw111, kw112, kw113, kw114, kw115, kw116, kw117, kw118, kw119, kw120, kw121, kw122, kw123, kw124]
  · simp (disch := first | (simp only [nlP_n, nlP_I, nlP_R, catP_I, catP_R, st8_0, st8_1, st8_2, st8_3, st8_4, b01, or_true, true_or, eq_self, iRP98, iRP99, iRP86, iRP97, iRP47, iRP57, rcP0, rcP1, rcP3, rcP13, rcP22, rcP25, rcP37, rcP45, rcP55, rcP65, rcP74, rcP76, rcP77, rcP87, rcP88, rcP100]; done) | omega | assumption | (simp (disch := omega) only [cel_s, cel_n, up1_s, up1_n, up1_e, put_out, fill_in]; omega) | (apply isRow_past; omega) | (apply isRow_seek; omega) | (apply isRow_guess; omega)) only [ww145_0, ww145_1, ww145_2, ww145_5, ww145_8, ww145_10, ww145_11, ww145_12, ww145_15, ww145_16, ww145_17, ww145_20, ww145_21, ww145_24, ww145_27, ww263_0, ww263_1, ww263_2, ww263_5, ww263_6, ww263_7, ww263_10, ww263_13, ww263_15, ww263_16, ww263_17, ww263_18, ww263_19, cl_isGame, hG, ↓iteT, ↓iteF, andT, w32_eq, yL_1, Int.toNat_natCast, Int.toNat_add, Int.toNat_mul, Int.toNat_sub, cel_s, cel_n, up1_cel, upS_cel, cel_cel, up1_s, up1_n, up1_e, rdI_n, rdB_n, Int.reduceMul, Int.reduceDiv, Int.reduceMod, Nat.reduceMul, Nat.reduceSub, Nat.zero_add, Int.zero_add, Nat.add_zero, Int.add_zero, ite_self, Option.toList_some, Option.toList_none, List.cons_append, List.nil_append, rdI_c, and_true, true_and, and_self, not_false_eq_true, not_true_eq_false, if_true, if_false, or_false, false_or, ne_eq, and_false, false_and, rdI_n, Nat.reduceEqDiff, Nat.reduceAdd, Nat.reduceLeDiff, Int.reduceEq, Int.reduceLT, Int.reduceLE, Int.reduceNeg, Int.reduceToNat, Int.reduceAdd, Int.reduceSub, List.append_nil, ki2, ki4, ki5, ki6, ki7, ki8, ki9, ki10, ki11, ki12, ki14, ki15, ki16, ki17, ki18, ki19, ki20, ki21, ki23, ki24, ki27, ki28, ki29, ki30, ki31, ki32, ki33, ki34, ki35, ki36, ki38, ki39, ki47, ki48, ki49, ki50, ki51, ki52, ki57, ki58, ki59, ki60, ki61, ki62, ki66, ki67, ki69, ki70, ki71, ki72, ki73, ki78, ki79, ki80, ki81, ki82, ki83, ki84, ki85, ki86, ki89, ki90, ki91, ki92, ki93, ki94, ki95, ki96, ki97, ki98, ki99, ki101, ki103, ki104, ki105, ki106, ki107, ki108, ki109, ki110, ki111, ki112, ki113, ki114, ki115, ki116, ki117, ki118, ki121, ki122, ki123, ki3000, kb68, kb102, kr26, kr40, kr46, kr56, kw2, kw4, kw5, kw6, kw7, kw8, kw9, kw10, kw11, kw12, kw14, kw15, kw16, kw17, kw18, kw19, kw20, kw21, kw23, kw24, kw27, kw28, kw29, kw30, kw31, kw32, kw33, kw34, kw35, kw36, kw38, kw39, kw41, kw42, kw43, kw44, kw47, kw48, kw49, kw50, kw51, kw52, kw53, kw54, kw57, kw58, kw59, kw60, kw61, kw62, kw63, kw64, kw66, kw67, kw68, kw69, kw70, kw71, kw72, kw73, kw75, kw78, kw79, kw80, kw81, kw82, kw83, kw84, kw85, kw86, kw89, kw90, kw91, kw92, kw93, kw94, kw95, kw96, kw97, kw98, kw99, kw101, kw102, kw103, kw104, kw105, kw106, kw107, kw108, kw109, kw110, kw111, kw112, kw113, kw114, kw115, kw116, kw117, kw118, kw119, kw120, kw121, kw122, kw123, kw124]
    exact ⟨⟨_, rfl⟩, hT⟩
