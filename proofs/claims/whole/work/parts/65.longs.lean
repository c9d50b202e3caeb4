/-! bits of longs (rows wb_.. begun from kit/laws/BITS.to-paste); states told by two numbers -/
theorem wb_tb (n : Nat) : (lN n).toBitVec = BitVec.ofNat 64 n := rfl
theorem wb_inj {a b : Int64} (h : a.toBitVec = b.toBitVec) : a = b := Int64.toBitVec_inj.mp h
theorem wb_tn {n : Nat} (h : n < 2 ^ 64) : (lN n).toBitVec.toNat = n := by rw [wb_tb, BitVec.toNat_ofNat, Nat.mod_eq_of_lt h]
theorem wb_of (x : Int64) : ∃ n, n < 2 ^ 64 ∧ x = lN n := ⟨x.toBitVec.toNat, x.toBitVec.isLt, wb_inj (by rw [wb_tb]; simp)⟩
theorem wb_of32 (x : Int32) : ∃ n, n < 2 ^ 32 ∧ x = nI n := ⟨x.toBitVec.toNat, x.toBitVec.isLt, Int32.toBitVec_inj.mp (by show _ = BitVec.ofNat 32 _; simp)⟩
theorem wb_c : ∀ k, k < 64 → ((nI k).toInt64 &&& 63) = lN k := by decide +kernel
theorem wb_cu : ∀ k, k < 64 → ((nI k).toInt64.toUInt64 &&& Int64.toUInt64 63) = UInt64.ofNat k := by decide +kernel
theorem wb_sm : ∀ k, k < 64 → (BitVec.ofNat 64 k).smod 64 = BitVec.ofNat 64 k := by decide +kernel
theorem wb_pw {a b : Nat} (h : a ≤ b) : 2 ^ b = 2 ^ a * 2 ^ (b - a) := by rw [← Nat.pow_add]; congr 1; omega
theorem wb_lt2 {a b : Nat} (h : a < b) : 2 ^ a < 2 ^ b := Nat.pow_lt_pow_right (by decide) h
theorem wb_mod (n : Nat) : lN n = lN (n % 2 ^ 64) := wb_inj (by rw [wb_tb, wb_tb]; apply BitVec.eq_of_toNat_eq; rw [BitVec.toNat_ofNat, BitVec.toNat_ofNat, Nat.mod_mod])
theorem wb_shr {n k : Nat} (hn : n < 2 ^ 64) (hk : k < 64) : ((lN n).toUInt64 >>> ((nI k).toInt64.toUInt64 &&& Int64.toUInt64 63)).toInt64 = lN (n / 2 ^ k) := by
  rw [wb_cu k hk]
  apply wb_inj
  apply BitVec.eq_of_toNat_eq
  show ((lN n).toUInt64 >>> UInt64.ofNat k).toNat = (BitVec.ofNat 64 _).toNat
  have h1 : (UInt64.ofNat k).toNat = k := by
    show (BitVec.ofNat 64 k).toNat = k
    rw [BitVec.toNat_ofNat, Nat.mod_eq_of_lt (by omega)]
  have h2 : (lN n).toUInt64.toNat = n := wb_tn hn
  rw [UInt64.toNat_shiftRight, h1, h2, Nat.mod_eq_of_lt hk, Nat.shiftRight_eq_div_pow, BitVec.toNat_ofNat, Nat.mod_eq_of_lt (Nat.lt_of_le_of_lt (Nat.div_le_self _ _) hn)]
theorem wb_shl (n : Nat) {k : Nat} (hk : k < 64) : lN n <<< ((nI k).toInt64 &&& 63) = lN (n * 2 ^ k) := by
  rw [wb_c k hk]
  apply wb_inj
  rw [Int64.toBitVec_shiftLeft, wb_tb, wb_tb, wb_tb, wb_sm k hk]
  apply BitVec.eq_of_toNat_eq
  rw [BitVec.shiftLeft_eq', BitVec.toNat_shiftLeft, BitVec.toNat_ofNat, BitVec.toNat_ofNat, BitVec.toNat_ofNat, Nat.mod_eq_of_lt (show k < 2 ^ 64 by omega), Nat.shiftLeft_eq, Nat.mul_mod, Nat.mod_mod, ← Nat.mul_mod]
theorem wb_and {a b : Nat} (ha : a < 2 ^ 64) (hb : b < 2 ^ 64) : lN a &&& lN b = lN (a &&& b) := by
  apply wb_inj
  rw [Int64.toBitVec_and, wb_tb, wb_tb, wb_tb]
  apply BitVec.eq_of_toNat_eq
  rw [BitVec.toNat_and, BitVec.toNat_ofNat, BitVec.toNat_ofNat, BitVec.toNat_ofNat, Nat.mod_eq_of_lt ha, Nat.mod_eq_of_lt hb, Nat.mod_eq_of_lt (Nat.and_lt_two_pow _ hb)]
theorem wb_or {a b : Nat} (ha : a < 2 ^ 64) (hb : b < 2 ^ 64) : lN a ||| lN b = lN (a ||| b) := by
  apply wb_inj
  rw [Int64.toBitVec_or, wb_tb, wb_tb, wb_tb]
  apply BitVec.eq_of_toNat_eq
  rw [BitVec.toNat_or, BitVec.toNat_ofNat, BitVec.toNat_ofNat, BitVec.toNat_ofNat, Nat.mod_eq_of_lt ha, Nat.mod_eq_of_lt hb, Nat.mod_eq_of_lt (Nat.or_lt_two_pow ha hb)]
theorem lN_i64 (n : Nat) : i64 (n : Int) = lN n := rfl
theorem lN_toI {n : Nat} (h : n < 9223372036854775808) : (lN n).toInt = (n : Int) := by
  rw [← lN_i64]
  exact i64_to ⟨by omega, by omega⟩
theorem yShlN {n k : Nat} (hk : k < 64) (h : n * 2 ^ k < 9223372036854775808) : yShl (n : Int) (k : Int) = ((n * 2 ^ k : Nat) : Int) := by
  unfold yShl
  rw [lN_i64, show i32 (k : Int) = nI k from rfl, wb_shl n hk, lN_toI h]
theorem yOrN {a b : Nat} (ha : a < 9223372036854775808) (hb : b < 9223372036854775808) : yOr (a : Int) (b : Int) = ((a ||| b : Nat) : Int) := by
  unfold yOr
  rw [lN_i64, lN_i64, wb_or (by omega) (by omega), lN_toI (Nat.or_lt_two_pow (n := 63) (by omega) (by omega))]
theorem yAndN {a b : Nat} (ha : a < 9223372036854775808) (hb : b < 9223372036854775808) : yAnd (a : Int) (b : Int) = ((a &&& b : Nat) : Int) := by
  unfold yAnd
  rw [lN_i64, lN_i64, wb_and (by omega) (by omega), lN_toI (Nat.lt_of_le_of_lt Nat.and_le_left ha)]
/-- a number put behind another one -/
theorem pkL {a b : Int} {k : Nat} {s : Int} {M : Int} (hs : s = k) (hM : M = ((2 ^ k : Nat) : Int)) (hk : k < 64) (a0 : 0 ≤ a) (b0 : 0 ≤ b) (b1 : b < M) (h : a * M + b < 4611686018427387904) (hab : a * M ≤ a * M + b) : yOr (yShl a s) b = a * M + b := by
  subst hs
  subst hM
  obtain ⟨x, rfl⟩ := Int.eq_ofNat_of_zero_le a0
  obtain ⟨y, rfl⟩ := Int.eq_ofNat_of_zero_le b0
  have h1 : ((x * 2 ^ k : Nat) : Int) = (x : Int) * ((2 ^ k : Nat) : Int) := Int.natCast_mul _ _
  rw [← h1] at h hab ⊢
  generalize hz : x * 2 ^ k = z at *
  have e : z ||| y = z + y := by
    rw [← hz, Nat.mul_comm, Nat.two_pow_add_eq_or_of_lt (by omega)]
  rw [yShlN hk (by omega), hz, yOrN (by omega) (by omega), e]
  omega
theorem pk16 {a b : Int} (a0 : 0 ≤ a) (a1 : a < 288230376151711744) (b0 : 0 ≤ b) (b1 : b < 16) : yOr (yShl a 4) b = a * 16 + b := pkL (k := 4) rfl rfl (by omega) a0 b0 b1 (by omega) (by omega)
theorem pk64 {a b : Int} (a0 : 0 ≤ a) (a1 : a < 72057594037927936) (b0 : 0 ≤ b) (b1 : b < 64) : yOr (yShl a 6) b = a * 64 + b := pkL (k := 6) rfl rfl (by omega) a0 b0 b1 (by omega) (by omega)
theorem pk65 {a b : Int} (a0 : 0 ≤ a) (a1 : a < 70368744177664) (b0 : 0 ≤ b) (b1 : b < 65536) : yOr (yShl a 16) b = a * 65536 + b := pkL (k := 16) rfl rfl (by omega) a0 b0 b1 (by omega) (by omega)
theorem and65 {x : Int} (h0 : 0 ≤ x) (h1 : x < 2147483648) : zAnd x 65535 = x % 65536 := by
  obtain ⟨k, rfl⟩ := Int.eq_ofNat_of_zero_le h0
  unfold zAnd
  have e1 : i32 (k : Int) = nI k := rfl
  have e2 : i32 65535 = (65535 : Int32) := by decide
  rw [e1, e2, pk_andN (n := k) (by omega) 16 (by decide), nI_toInt (by omega)]
  omega
/-- rows packed: a base a place -/
def pkF (f : Nat → Int) (m : Int) : Nat → Nat → Int → Int
  | 0, _, a => a
  | n + 1, i, a => pkF f m n (i + 1) (a * m + f i)
theorem pkF_inj {f g : Nat → Int} {m : Int} (hm : 0 < m) : ∀ (n i : Nat) (a b : Int), (∀ k, i ≤ k → k < i + n → 0 ≤ f k ∧ f k < m ∧ 0 ≤ g k ∧ g k < m) → pkF f m n i a = pkF g m n i b → a = b ∧ ∀ k, i ≤ k → k < i + n → f k = g k
  | 0, _, _, _, _, h => ⟨h, fun k h1 h2 => absurd h2 (by omega)⟩
  | n + 1, i, a, b, hr, h => by
    unfold pkF at h
    obtain ⟨h1, h2⟩ := pkF_inj hm n (i + 1) _ _ (fun k q1 q2 => hr k (by omega) (by omega)) h
    obtain ⟨r1, r2, r3, r4⟩ := hr i (Nat.le_refl _) (by omega)
    have e : a = b := by
      have d1 : (a * m + f i) / m = a := by
        rw [Int.add_comm, Int.add_mul_ediv_right _ _ (by omega), Int.ediv_eq_zero_of_lt r1 r2]
        omega
      have d2 : (b * m + g i) / m = b := by
        rw [Int.add_comm, Int.add_mul_ediv_right _ _ (by omega), Int.ediv_eq_zero_of_lt r3 r4]
        omega
      rw [← d1, h1, d2]
    subst e
    refine ⟨rfl, fun k q1 q2 => ?_⟩
    by_cases e2 : k = i
    · subst e2
      omega
    · exact h2 k (by omega) (by omega)
theorem pkF_congr {f g : Nat → Int} {m : Int} : ∀ (n i : Nat) (a : Int), (∀ k, i ≤ k → k < i + n → f k = g k) → pkF f m n i a = pkF g m n i a
  | 0, _, _, _ => rfl
  | n + 1, i, a, h => by
    unfold pkF
    rw [h i (Nat.le_refl _) (by omega), pkF_congr n (i + 1) _ (fun k h1 h2 => h k (by omega) (by omega))]
def bodF (c : Nat → Int) : Int := pkF c 16 3 10 (pkF c 64 4 6 (pkF c 16 6 0 0))
def telF (c : Nat → Int) : Int := pkF (fun k => c k % 65536) 65536 3 13 0
theorem cl_body {d b : Nat} {deep : Int} {σ : mw_S} {A : Nat → Int} {Q : Option mw_V → mw_S → Prop} (hb : isRow b) (d1 : deep ≤ 9) (h : Rmid deep (σ b) A) : mw_Call (d + 1) 85 [jR b] σ Q ↔ Q (some (jL (bodF (σ b)))) σ := by
  have e1 := hb.rI
  have e3 := hb.2.2
  have c0 := (h.1 0 (by omega)).2
  have c1 := (h.1 1 (by omega)).2
  have c2 := (h.1 2 (by omega)).2
  have c3 := (h.1 3 (by omega)).2
  have c4 := (h.1 4 (by omega)).2
  have c5 := (h.1 5 (by omega)).2
  have t0 := (h.2.1 0 (by omega)).2
  have t1 := (h.2.1 1 (by omega)).2
  have t2 := (h.2.1 2 (by omega)).2
  have t3 := (h.2.1 3 (by omega)).2
  have b0 := (h.2.2.1 0 (by omega)).2
  have b1 := (h.2.2.1 1 (by omega)).2
  have b2 := (h.2.2.1 2 (by omega)).2
  simp only [Nat.reduceAdd] at t0 t1 t2 t3 b0 b1 b2
  rw [ee85]
  unfold bodF pkF
  simp only [pkF, Nat.reduceAdd]
  simp (disch := first | (simp only [nlP_n, nlP_I, nlP_R, catP_I, catP_R, st8_0, st8_1, st8_2, st8_3, st8_4, b01, or_true, true_or, eq_self, iRP98, iRP99, iRP86, iRP97, iRP47, iRP57, rcP0, rcP1, rcP3, rcP13, rcP22, rcP25, rcP37, rcP45, rcP55, rcP65, rcP74, rcP76, rcP77, rcP87, rcP88, rcP100]; done) | omega | assumption | (simp (disch := omega) only [cel_s, cel_n, up1_s, up1_n, up1_e, put_out, fill_in]; omega) | (apply isRow_past; omega) | (apply isRow_seek; omega) | (apply isRow_guess; omega)) only [ww85_0, ww85_1, ww85_2, ww85_3, ww85_4, ww85_5, ww85_7, ww85_10, ww85_11, ww85_12, ww85_13, ww85_14, ww85_15, ww85_16, ww85_17, ww85_18, ww85_19, ww85_20, ww85_21, ww85_24, ww85_27, ww85_28, ww85_29, ww85_30, ww85_31, ww85_34, ww85_35, ww85_37, ww85_38, ww85_39, ww85_41, ww85_42, ww85_43, ww85_44, ww85_45, ww85_46, ww85_47, ww85_50, ww85_53, ww85_54, ww85_55, ww85_56, ww85_57, ww85_60, ww85_61, ww85_62, ww85_63, ww85_64, ww85_66, ww85_67, ww85_68, ww85_69, ww85_70, ww85_71, ww85_72, ww85_75, ww85_78, ww85_79, pk16, pk64, ↓iteT, ↓iteF, andT, w32_eq, yL_1, Int.toNat_natCast, Int.toNat_add, Int.toNat_mul, Int.toNat_sub, cel_s, cel_n, up1_cel, upS_cel, cel_cel, up1_s, up1_n, up1_e, rdI_n, rdB_n, Int.reduceMul, Int.reduceDiv, Int.reduceMod, Nat.reduceMul, Nat.reduceSub, Nat.zero_add, Int.zero_add, Nat.add_zero, Int.add_zero, ite_self, Option.toList_some, Option.toList_none, List.cons_append, List.nil_append, rdI_c, and_true, true_and, and_self, not_false_eq_true, not_true_eq_false, if_true, if_false, or_false, false_or, ne_eq, and_false, false_and, rdI_n, Nat.reduceEqDiff, Nat.reduceAdd, Nat.reduceLeDiff, Int.reduceEq, Int.reduceLT, Int.reduceLE, Int.reduceNeg, Int.reduceToNat, Int.reduceAdd, Int.reduceSub, List.append_nil, ki2, ki4, ki5, ki6, ki7, ki8, ki9, ki10, ki11, ki12, ki14, ki15, ki16, ki17, ki18, ki19, ki20, ki21, ki23, ki24, ki27, ki28, ki29, ki30, ki31, ki32, ki33, ki34, ki35, ki36, ki38, ki39, ki47, ki48, ki49, ki50, ki51, ki52, ki57, ki58, ki59, ki60, ki61, ki62, ki66, ki67, ki69, ki70, ki71, ki72, ki73, ki78, ki79, ki80, ki81, ki82, ki83, ki84, ki85, ki86, ki89, ki90, ki91, ki92, ki93, ki94, ki95, ki96, ki97, ki98, ki99, ki101, ki103, ki104, ki105, ki106, ki107, ki108, ki109, ki110, ki111, ki112, ki113, ki114, ki115, ki116, ki117, ki118, ki121, ki122, ki123, ki3000, kb68, kb102, kr26, kr40, kr46, kr56, kw2, kw4, kw5, kw6, kw7, kw8, kw9, kw10, kw11, kw12, kw14, kw15, kw16, kw17, kw18, kw19, kw20, kw21, kw23, kw24, kw27, kw28, kw29, kw30, kw31, kw32, kw33, kw34, kw35, kw36, kw38, kw39, kw41, kw42, kw43, kw44, kw47, kw48, kw49, kw50, kw51, kw52, kw53, kw54, kw57, kw58, kw59, kw60, kw61, kw62, kw63, kw64, kw66, kw67, kw68, kw69, kw70, kw71, kw72, kw73, kw75, kw78, kw79, kw80, kw81, kw82, kw83, kw84, kw85, kw86, kw89, kw90, kw91, kw92, kw93, kw94, kw95, kw96, kw97, kw98, kw99, kw101, kw102, kw103, kw104, kw105, kw106, kw107, kw108, kw109, kw110, kw111, kw112, kw113, kw114, kw115, kw116, kw117, kw118, kw119, kw120, kw121, kw122, kw123, kw124]
theorem cl_tell {d b : Nat} {deep : Int} {σ : mw_S} {A : Nat → Int} {Q : Option mw_V → mw_S → Prop} (hb : isRow b) (h : Rmid deep (σ b) A) : mw_Call (d + 1) 86 [jR b] σ Q ↔ Q (some (jL (telF (σ b)))) σ := by
  have e1 := hb.rI
  have e3 := hb.2.2
  obtain ⟨c0, c1, -⟩ := h.2.2.2.1 0 (by omega)
  obtain ⟨d0, d1, -⟩ := h.2.2.2.1 1 (by omega)
  obtain ⟨f0, f1, -⟩ := h.2.2.2.1 2 (by omega)
  simp only [Nat.reduceAdd] at c0 c1 d0 d1 f0 f1
  rw [ee86]
  unfold telF
  simp only [pkF, Nat.reduceAdd]
  simp (disch := first | (simp only [nlP_n, nlP_I, nlP_R, catP_I, catP_R, st8_0, st8_1, st8_2, st8_3, st8_4, b01, or_true, true_or, eq_self, iRP98, iRP99, iRP86, iRP97, iRP47, iRP57, rcP0, rcP1, rcP3, rcP13, rcP22, rcP25, rcP37, rcP45, rcP55, rcP65, rcP74, rcP76, rcP77, rcP87, rcP88, rcP100]; done) | omega | assumption | (simp (disch := omega) only [cel_s, cel_n, up1_s, up1_n, up1_e, put_out, fill_in]; omega) | (apply isRow_past; omega) | (apply isRow_seek; omega) | (apply isRow_guess; omega)) only [ww86_0, ww86_1, ww86_2, ww86_3, ww86_4, ww86_5, ww86_6, ww86_9, ww86_10, ww86_12, ww86_13, ww86_14, ww86_16, ww86_17, ww86_18, ww86_19, ww86_21, ww86_22, ww86_23, ww86_24, ww86_25, ww86_28, ww86_31, ww86_32, pk65, and65, ↓iteT, ↓iteF, andT, w32_eq, yL_1, Int.toNat_natCast, Int.toNat_add, Int.toNat_mul, Int.toNat_sub, cel_s, cel_n, up1_cel, upS_cel, cel_cel, up1_s, up1_n, up1_e, rdI_n, rdB_n, Int.reduceMul, Int.reduceDiv, Int.reduceMod, Nat.reduceMul, Nat.reduceSub, Nat.zero_add, Int.zero_add, Nat.add_zero, Int.add_zero, ite_self, Option.toList_some, Option.toList_none, List.cons_append, List.nil_append, rdI_c, and_true, true_and, and_self, not_false_eq_true, not_true_eq_false, if_true, if_false, or_false, false_or, ne_eq, and_false, false_and, rdI_n, Nat.reduceEqDiff, Nat.reduceAdd, Nat.reduceLeDiff, Int.reduceEq, Int.reduceLT, Int.reduceLE, Int.reduceNeg, Int.reduceToNat, Int.reduceAdd, Int.reduceSub, List.append_nil, ki2, ki4, ki5, ki6, ki7, ki8, ki9, ki10, ki11, ki12, ki14, ki15, ki16, ki17, ki18, ki19, ki20, ki21, ki23, ki24, ki27, ki28, ki29, ki30, ki31, ki32, ki33, ki34, ki35, ki36, ki38, ki39, ki47, ki48, ki49, ki50, ki51, ki52, ki57, ki58, ki59, ki60, ki61, ki62, ki66, ki67, ki69, ki70, ki71, ki72, ki73, ki78, ki79, ki80, ki81, ki82, ki83, ki84, ki85, ki86, ki89, ki90, ki91, ki92, ki93, ki94, ki95, ki96, ki97, ki98, ki99, ki101, ki103, ki104, ki105, ki106, ki107, ki108, ki109, ki110, ki111, ki112, ki113, ki114, ki115, ki116, ki117, ki118, ki121, ki122, ki123, ki3000, kb68, kb102, kr26, kr40, kr46, kr56, kw2, kw4, kw5, kw6, kw7, kw8, kw9, kw10, kw11, kw12, kw14, kw15, kw16, kw17, kw18, kw19, kw20, kw21, kw23, kw24, kw27, kw28, kw29, kw30, kw31, kw32, kw33, kw34, kw35, kw36, kw38, kw39, kw41, kw42, kw43, kw44, kw47, kw48, kw49, kw50, kw51, kw52, kw53, kw54, kw57, kw58, kw59, kw60, kw61, kw62, kw63, kw64, kw66, kw67, kw68, kw69, kw70, kw71, kw72, kw73, kw75, kw78, kw79, kw80, kw81, kw82, kw83, kw84, kw85, kw86, kw89, kw90, kw91, kw92, kw93, kw94, kw95, kw96, kw97, kw98, kw99, kw101, kw102, kw103, kw104, kw105, kw106, kw107, kw108, kw109, kw110, kw111, kw112, kw113, kw114, kw115, kw116, kw117, kw118, kw119, kw120, kw121, kw122, kw123, kw124]
/-- two states of a run are alike by the two numbers just when by the reference's -/
theorem alike {deep : Int} {c A c' A' : Nat → Int} (d1 : deep ≤ 9) (h : Rmid deep c A) (h' : Rmid deep c' A') (hd : ∀ k, 66 ≤ k → k < 75 → A k = A' k) : (bodF c = bodF c' ∧ telF c = telF c') ↔ ∀ k, k < 34 → A (41 + k) = A' (41 + k) := by
  constructor
  · rintro ⟨e1, e2⟩
    obtain ⟨f1, f2⟩ := pkF_inj (m := 16) (by omega) 3 10 _ _ (fun k q1 q2 => by
      have x1 := (h.2.2.1 (k - 10) (by omega)).2
      have x2 := (h'.2.2.1 (k - 10) (by omega)).2
      rw [show 10 + (k - 10) = k by omega] at x1 x2
      omega) e1
    obtain ⟨g1, g2⟩ := pkF_inj (m := 64) (by omega) 4 6 _ _ (fun k q1 q2 => by
      have x1 := (h.2.1 (k - 6) (by omega)).2
      have x2 := (h'.2.1 (k - 6) (by omega)).2
      rw [show 6 + (k - 6) = k by omega] at x1 x2
      omega) f1
    obtain ⟨-, k2⟩ := pkF_inj (m := 16) (by omega) 6 0 _ _ (fun k q1 q2 => by
      have x1 := (h.1 k (by omega)).2
      have x2 := (h'.1 k (by omega)).2
      omega) g1
    obtain ⟨-, t2⟩ := pkF_inj (m := 65536) (by omega) 3 13 _ _ (fun k q1 q2 => by omega) e2
    intro k hk
    by_cases c1 : k < 6
    · rw [(h.1 k c1).1, (h'.1 k c1).1]
      exact k2 k (by omega) (by omega)
    · by_cases c2 : k < 9
      · have x1 := (h.2.2.1 (k - 6) (by omega)).1
        have x2 := (h'.2.2.1 (k - 6) (by omega)).1
        rw [show 47 + (k - 6) = 41 + k by omega] at x1 x2
        rw [x1, x2]
        exact f2 _ (by omega) (by omega)
      · by_cases c3 : k < 13
        · have x1 := (h.2.1 (k - 9) (by omega)).1
          have x2 := (h'.2.1 (k - 9) (by omega)).1
          rw [show 50 + (k - 9) = 41 + k by omega] at x1 x2
          rw [x1, x2]
          exact g2 _ (by omega) (by omega)
        · by_cases c4 : k < 25
          · have key : ∀ p, p < 3 → ∀ j, j < 4 → A (54 + 4 * p + j) = A' (54 + 4 * p + j) := fun p hp j hj => by
              obtain ⟨-, -, a2, a3⟩ := h.2.2.2.1 p hp
              obtain ⟨-, -, b2, b3⟩ := h'.2.2.2.1 p hp
              have e := t2 (13 + p) (by omega) (by omega)
              have a30 := a3 0 (by omega)
              have a31 := a3 1 (by omega)
              have a32 := a3 2 (by omega)
              have a33 := a3 3 (by omega)
              have b30 := b3 0 (by omega)
              have b31 := b3 1 (by omega)
              have b32 := b3 2 (by omega)
              have b33 := b3 3 (by omega)
              rw [Nat.add_zero] at a30 b30
              have e' : c (13 + p) % 65536 = c' (13 + p) % 65536 := e
              rw [a2, b2] at e'
              rcases (show j = 0 ∨ j = 1 ∨ j = 2 ∨ j = 3 by omega) with rfl | rfl | rfl | rfl
              · rw [Nat.add_zero]
                omega
              · omega
              · omega
              · omega
            have q := key ((k - 13) / 4) (by omega) ((k - 13) % 4) (by omega)
            rw [show 54 + 4 * ((k - 13) / 4) + (k - 13) % 4 = 41 + k by omega] at q
            exact q
          · exact hd _ (by omega) (by omega)
  · intro he
    have hc : ∀ k, k < 6 → c k = c' k := fun k hk => by
      rw [← (h.1 k hk).1, ← (h'.1 k hk).1]
      exact he k (by omega)
    have hp : ∀ k, 6 ≤ k → k < 10 → c k = c' k := fun k h1 h2 => by
      have x1 := (h.2.1 (k - 6) (by omega)).1
      have x2 := (h'.2.1 (k - 6) (by omega)).1
      rw [show 6 + (k - 6) = k by omega] at x1 x2
      rw [← x1, ← x2, show 50 + (k - 6) = 41 + (k + 3) by omega]
      exact he _ (by omega)
    have hb : ∀ k, 10 ≤ k → k < 13 → c k = c' k := fun k h1 h2 => by
      have x1 := (h.2.2.1 (k - 10) (by omega)).1
      have x2 := (h'.2.2.1 (k - 10) (by omega)).1
      rw [show 10 + (k - 10) = k by omega] at x1 x2
      rw [← x1, ← x2, show 47 + (k - 10) = 41 + (k - 4) by omega]
      exact he _ (by omega)
    refine ⟨?_, ?_⟩
    · unfold bodF
      rw [pkF_congr 6 0 0 (fun k _ q => hc k (by omega)), pkF_congr 4 6 _ (fun k q1 q2 => hp k q1 (by omega)), pkF_congr 3 10 _ (fun k q1 q2 => hb k q1 (by omega))]
    · unfold telF
      refine pkF_congr 3 13 0 (fun k q1 q2 => ?_)
      obtain ⟨-, -, a2, -⟩ := h.2.2.2.1 (k - 13) (by omega)
      obtain ⟨-, -, b2, -⟩ := h'.2.2.2.1 (k - 13) (by omega)
      rw [show 13 + (k - 13) = k by omega] at a2 b2
      show c k % 65536 = c' k % 65536
      rw [a2, b2]
      have e : ∀ j, j < 4 → A (54 + 4 * (k - 13) + j) = A' (54 + 4 * (k - 13) + j) := fun j hj => by
        have := he (13 + 4 * (k - 13) + j) (by omega)
        rw [show 41 + (13 + 4 * (k - 13) + j) = 54 + 4 * (k - 13) + j by omega] at this
        exact this
      have e0 := e 0 (by omega)
      rw [Nat.add_zero] at e0
      rw [e0, e 1 (by omega), e 2 (by omega), e 3 (by omega)]
