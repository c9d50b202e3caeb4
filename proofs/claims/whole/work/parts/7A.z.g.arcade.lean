/-! arcade -/
/-- where a fault is -/
theorem runS_fp {b : Nat → Int} {len p : Nat} {f : Int} : ∀ (n i : Nat) (K : KS), runS b len n i K = .inl (f, p) → i ≤ len → p ≤ len
  | 0, i, K, h, hi => by
    unfold runS at h
    cases h
    exact Nat.zero_le _
  | n + 1, i, K, h, hi => by
    rw [runS_eq] at h
    by_cases dn : isDn (tKd b len i) K = true
    · rw [if_pos dn] at h
      exact absurd h (by simp)
    · rw [if_neg dn] at h
      cases hs : sTp (tKd b len i) (tNu b len i) K with
      | inl g =>
        rw [hs] at h
        cases h
        exact (tSt_rng (b := b) hi).2
      | inr K' =>
        rw [hs] at h
        exact runS_fp n _ K' h (tEn_rng (b := b) hi).2.1
section PLACE
variable {b : Nat → Int} {len i p : Nat} {f : Int} {D : Dr}
theorem lnDeep_fp (h : lnDeep b len i D = .inl (f, p)) (hi : i ≤ len) : p ≤ len := by
  have r1 := (tSt_rng (b := b) hi).2
  have r2 := (tSt_rng (b := b) (tEn_rng (b := b) hi).2.1).2
  unfold lnDeep at h
  split at h
  · cases h
    exact r1
  · split at h
    · cases h
      exact r2
    · exact absurd h (by simp)
theorem lnMiss_fp (h : lnMiss b len i D = .inl (f, p)) (hi : i ≤ len) : p ≤ len := by
  have r2 := (tSt_rng (b := b) (tEn_rng (b := b) hi).2.1).2
  unfold lnMiss at h
  split at h
  · cases h
    exact r2
  · exact absurd h (by simp)
theorem lnThing_fp (h : lnThing b len i D = .inl (f, p)) (hi : i ≤ len) : p ≤ len := by
  have r1 := (tSt_rng (b := b) hi).2
  have r2 := (tSt_rng (b := b) (tEn_rng (b := b) hi).2.1).2
  unfold lnThing at h
  split at h
  · cases h
    exact r1
  · split at h
    · cases h
      exact r2
    · split at h
      · exact absurd h (by simp)
      · exact absurd h (by simp)
theorem lnPers_fp (h : lnPers b len i D = .inl (f, p)) (hi : i ≤ len) : p ≤ len := by
  have r1 := (tSt_rng (b := b) hi).2
  have e1 := (tEn_rng (b := b) hi).2.1
  have r2 := (tSt_rng (b := b) e1).2
  have e2 := (tEn_rng (b := b) e1).2.1
  have e3 := (tEn_rng (b := b) e2).2.1
  have r4 := (tSt_rng (b := b) e3).2
  unfold lnPers at h
  split at h
  · cases h
    exact r1
  · split at h
    · cases h
      exact r2
    · split at h
      · split at h
        · cases h
          exact r4
        · exact absurd h (by simp)
      · exact absurd h (by simp)
theorem lnBody_fp {who : Int} (h : lnBody b len i who D = .inl (f, p)) (hi : i ≤ len) : p ≤ len := by
  have r1 := (tSt_rng (b := b) hi).2
  have e1 := (tEn_rng (b := b) hi).2.1
  unfold lnBody at h
  split at h
  · cases hr : runS b len (len + 1) (tEn b len i) (K0 (dOu D)) with
    | inl x =>
      rw [hr] at h
      cases h
      exact runS_fp _ _ _ hr e1
    | inr x =>
      obtain ⟨j, K⟩ := x
      rw [hr] at h
      have j2 := (runS_le _ _ _ hr e1).2
      have r3 := (tSt_rng (b := b) (tEn_rng (b := b) j2).2.1).2
      dsimp only at h
      split at h
      · exact absurd h (by simp)
      · cases h
        exact r3
  · cases h
    exact r1
theorem lnRule_fp (h : lnRule b len i D = .inl (f, p)) (hi : i ≤ len) : p ≤ len := by
  have r1 := (tSt_rng (b := b) hi).2
  have e1 := (tEn_rng (b := b) hi).2.1
  have r2 := (tSt_rng (b := b) e1).2
  have e2 := (tEn_rng (b := b) e1).2.1
  unfold lnRule at h
  split at h
  · cases h
    exact r1
  · split at h
    · split at h
      · cases h
        exact r2
      · exact lnBody_fp h e2
    · exact lnBody_fp h e1
theorem lnW_fp (h : lnW b len i D = .inl (f, p)) (hi : i ≤ len) : p ≤ len := by
  unfold lnW at h
  split at h
  · exact lnDeep_fp h hi
  · split at h
    · exact lnPers_fp h hi
    · split at h
      · exact lnThing_fp h hi
      · split at h
        · exact lnRule_fp h hi
        · split at h
          · exact lnMiss_fp h hi
          · cases h
            exact (tSt_rng (b := b) hi).2
theorem lnW_le {i' : Nat} {D' : Dr} (h : lnW b len i D = .inr (i', D')) (hi : i ≤ len) (hB : DB D) : i' ≤ len ∧ DB D' := by
  unfold lnW at h
  split at h
  · have := lnDeep_ok h hi hB
    exact ⟨this.2.2.1, this.1⟩
  · split at h
    · have := lnPers_ok h hi hB
      exact ⟨this.2.2.1, this.1⟩
    · split at h
      · have := lnThing_ok h hi hB
        exact ⟨this.2.2.1, this.1⟩
      · split at h
        · have := lnRule_ok h hi hB
          exact ⟨this.2.2.1, this.1⟩
        · split at h
          · have := lnMiss_ok h hi hB
            exact ⟨this.2.2.1, this.1⟩
          · exact absurd h (by simp)
end PLACE
theorem txF_fp {b : Nat → Int} {len p : Nat} {f : Int} : ∀ (n i : Nat) (D : Dr), txF b len n i D = .inl (f, p) → i ≤ len → DB D → p ≤ len
  | 0, i, D, h, hi, hB => by
    unfold txF at h
    exact absurd h (by simp)
  | n + 1, i, D, h, hi, hB => by
    unfold txF at h
    split at h
    · exact absurd h (by simp)
    · cases hl : lnW b len i D with
      | inl x =>
        unfold lnF at h
        rw [hl] at h
        cases h
        exact lnW_fp hl hi
      | inr x =>
        obtain ⟨j, D'⟩ := x
        obtain ⟨j2, B2⟩ := lnW_le hl hi hB
        unfold lnF at h
        rw [hl] at h
        dsimp only at h
        by_cases c : tKd b len j = 30
        · rw [if_pos c] at h
          exact txF_fp n (tEn b len j) (addLn D') h (tEn_rng (b := b) j2).2.1 B2
        · rw [if_neg c] at h
          cases h
          exact (tSt_rng (b := b) j2).2
/-- a row as it is set up -/
def suF (c pl : Nat → Int) (P T k : Nat) : Int := if k < 3 then (if k < P then c k else 0) else if k < 6 then (if k - 3 < P then c (k - 3) else 0) else if k < 10 then (if k - 6 < T then pl (k - 6) else 0) else 0
section SETUP
variable {d P T : Nat} {σ : mw_S} {Q : Option mw_V → mw_S → Prop}
theorem wp_su1 (K : mw_WP d 2 18 [some (jR 13), some (jR 98), some (jI 35)] [] (cel σ 98 (fillF (fun _ => 0) (σ 98) 35)) Q) : ∀ (n k : Nat), k + n = 35 → mw_WP d 2 2 [some (jR 13), some (jR 98), some (jI k)] [] (cel σ 98 (fillF (fun _ => 0) (σ 98) k)) Q
  | 0, k, h => by
    obtain rfl : k = 35 := by omega
    simp (disch := first | (simp only [nlP_n, nlP_I, nlP_R, catP_I, catP_R, st8_0, st8_1, st8_2, st8_3, st8_4, b01, or_true, true_or, eq_self, iRP98, iRP99, iRP86, iRP97, iRP47, iRP57, rcP0, rcP1, rcP3, rcP13, rcP22, rcP25, rcP37, rcP45, rcP55, rcP65, rcP74, rcP76, rcP77, rcP87, rcP88, rcP100]; done) | omega | assumption | (simp (disch := omega) only [cel_s, cel_n, up1_s, up1_n, up1_e, put_out, fill_in]; omega) | (apply isRow_past; omega) | (apply isRow_seek; omega) | (apply isRow_guess; omega)) only [ww2_2, ww2_3, ww2_5, ↓iteT, ↓iteF, andT, w32_eq, yL_1, Int.toNat_natCast, Int.toNat_add, Int.toNat_mul, Int.toNat_sub, cel_s, cel_n, up1_cel, upS_cel, cel_cel, up1_s, up1_n, up1_e, rdI_n, rdB_n, Int.reduceMul, Int.reduceDiv, Int.reduceMod, Nat.reduceMul, Nat.reduceSub, Nat.zero_add, Int.zero_add, Nat.add_zero, Int.add_zero, ite_self, Option.toList_some, Option.toList_none, List.cons_append, List.nil_append, rdI_c, and_true, true_and, and_self, not_false_eq_true, not_true_eq_false, if_true, if_false, or_false, false_or, ne_eq, and_false, false_and, rdI_n, Nat.reduceEqDiff, Nat.reduceAdd, Nat.reduceLeDiff, Int.reduceEq, Int.reduceLT, Int.reduceLE, Int.reduceNeg, Int.reduceToNat, Int.reduceAdd, Int.reduceSub, List.append_nil, ki2, ki4, ki5, ki6, ki7, ki8, ki9, ki10, ki11, ki12, ki14, ki15, ki16, ki17, ki18, ki19, ki20, ki21, ki23, ki24, ki27, ki28, ki29, ki30, ki31, ki32, ki33, ki34, ki35, ki36, ki38, ki39, ki47, ki48, ki49, ki50, ki51, ki52, ki57, ki58, ki59, ki60, ki61, ki62, ki66, ki67, ki69, ki70, ki71, ki72, ki73, ki78, ki79, ki80, ki81, ki82, ki83, ki84, ki85, ki86, ki89, ki90, ki91, ki92, ki93, ki94, ki95, ki96, ki97, ki98, ki99, ki101, ki103, ki104, ki105, ki106, ki107, ki108, ki109, ki110, ki111, ki112, ki113, ki114, ki115, ki116, ki117, ki118, ki121, ki122, ki123, ki3000, kb68, kb102, kr26, kr40, kr46, kr56, kw2, kw4, kw5, kw6, kw7, kw8, kw9, kw10, kw11, kw12, kw14, kw15, kw16, kw17, kw18, kw19, kw20, kw21, kw23, kw24, kw27, kw28, kw29, kw30, kw31, kw32, kw33, kw34, kw35, kw36, kw38, kw39, kw41, kw42, kw43, kw44, kw47, kw48, kw49, kw50, kw51, kw52, kw53, kw54, kw57, kw58, kw59, kw60, kw61, kw62, kw63, kw64, kw66, kw67, kw68, kw69, kw70, kw71, kw72, kw73, kw75, kw78, kw79, kw80, kw81, kw82, kw83, kw84, kw85, kw86, kw89, kw90, kw91, kw92, kw93, kw94, kw95, kw96, kw97, kw98, kw99, kw101, kw102, kw103, kw104, kw105, kw106, kw107, kw108, kw109, kw110, kw111, kw112, kw113, kw114, kw115, kw116, kw117, kw118, kw119, kw120, kw121, kw122, kw123, kw124]
    exact K
  | n + 1, k, h => by
    have ih := wp_su1 K n (k + 1) (by omega)
    simp only [ic1] at ih
    simp (disch := first | (simp only [nlP_n, nlP_I, nlP_R, catP_I, catP_R, st8_0, st8_1, st8_2, st8_3, st8_4, b01, or_true, true_or, eq_self, iRP98, iRP99, iRP86, iRP97, iRP47, iRP57, rcP0, rcP1, rcP3, rcP13, rcP22, rcP25, rcP37, rcP45, rcP55, rcP65, rcP74, rcP76, rcP77, rcP87, rcP88, rcP100]; done) | omega | assumption | (simp (disch := omega) only [cel_s, cel_n, up1_s, up1_n, up1_e, put_out, fill_in]; omega) | (apply isRow_past; omega) | (apply isRow_seek; omega) | (apply isRow_guess; omega)) only [ww2_2, ww2_3, ww2_5, ww2_8, ww2_9, ww2_10, ww2_11, ww2_12, fill_out, ↓iteT, ↓iteF, andT, w32_eq, yL_1, Int.toNat_natCast, Int.toNat_add, Int.toNat_mul, Int.toNat_sub, cel_s, cel_n, up1_cel, upS_cel, cel_cel, up1_s, up1_n, up1_e, rdI_n, rdB_n, Int.reduceMul, Int.reduceDiv, Int.reduceMod, Nat.reduceMul, Nat.reduceSub, Nat.zero_add, Int.zero_add, Nat.add_zero, Int.add_zero, ite_self, Option.toList_some, Option.toList_none, List.cons_append, List.nil_append, rdI_c, and_true, true_and, and_self, not_false_eq_true, not_true_eq_false, if_true, if_false, or_false, false_or, ne_eq, and_false, false_and, rdI_n, Nat.reduceEqDiff, Nat.reduceAdd, Nat.reduceLeDiff, Int.reduceEq, Int.reduceLT, Int.reduceLE, Int.reduceNeg, Int.reduceToNat, Int.reduceAdd, Int.reduceSub, List.append_nil, ki2, ki4, ki5, ki6, ki7, ki8, ki9, ki10, ki11, ki12, ki14, ki15, ki16, ki17, ki18, ki19, ki20, ki21, ki23, ki24, ki27, ki28, ki29, ki30, ki31, ki32, ki33, ki34, ki35, ki36, ki38, ki39, ki47, ki48, ki49, ki50, ki51, ki52, ki57, ki58, ki59, ki60, ki61, ki62, ki66, ki67, ki69, ki70, ki71, ki72, ki73, ki78, ki79, ki80, ki81, ki82, ki83, ki84, ki85, ki86, ki89, ki90, ki91, ki92, ki93, ki94, ki95, ki96, ki97, ki98, ki99, ki101, ki103, ki104, ki105, ki106, ki107, ki108, ki109, ki110, ki111, ki112, ki113, ki114, ki115, ki116, ki117, ki118, ki121, ki122, ki123, ki3000, kb68, kb102, kr26, kr40, kr46, kr56, kw2, kw4, kw5, kw6, kw7, kw8, kw9, kw10, kw11, kw12, kw14, kw15, kw16, kw17, kw18, kw19, kw20, kw21, kw23, kw24, kw27, kw28, kw29, kw30, kw31, kw32, kw33, kw34, kw35, kw36, kw38, kw39, kw41, kw42, kw43, kw44, kw47, kw48, kw49, kw50, kw51, kw52, kw53, kw54, kw57, kw58, kw59, kw60, kw61, kw62, kw63, kw64, kw66, kw67, kw68, kw69, kw70, kw71, kw72, kw73, kw75, kw78, kw79, kw80, kw81, kw82, kw83, kw84, kw85, kw86, kw89, kw90, kw91, kw92, kw93, kw94, kw95, kw96, kw97, kw98, kw99, kw101, kw102, kw103, kw104, kw105, kw106, kw107, kw108, kw109, kw110, kw111, kw112, kw113, kw114, kw115, kw116, kw117, kw118, kw119, kw120, kw121, kw122, kw123, kw124]
    rw [ww2_15, fill_z]
    exact ih
theorem wp_su3 (hT : σ 13 2 = T) (hT4 : T ≤ 4) (hq : ∀ g, (∀ k, k < 35 → g k = suF (σ 14) (σ 16) P T k) → Q none (cel σ 98 g)) : ∀ (n t : Nat) (g : Nat → Int), t + n = T → (∀ k, k < 35 → g k = suF (σ 14) (σ 16) P t k) → mw_WP d 2 58 [some (jR 13), some (jR 98), some (jI t)] [] (cel σ 98 g) Q
  | 0, t, g, h, hg => by
    obtain rfl : t = T := by omega
    have q := hq g hg
    simp (disch := first | (simp only [nlP_n, nlP_I, nlP_R, catP_I, catP_R, st8_0, st8_1, st8_2, st8_3, st8_4, b01, or_true, true_or, eq_self, iRP98, iRP99, iRP86, iRP97, iRP47, iRP57, rcP0, rcP1, rcP3, rcP13, rcP22, rcP25, rcP37, rcP45, rcP55, rcP65, rcP74, rcP76, rcP77, rcP87, rcP88, rcP100]; done) | omega | assumption | (simp (disch := omega) only [cel_s, cel_n, up1_s, up1_n, up1_e, put_out, fill_in]; omega) | (apply isRow_past; omega) | (apply isRow_seek; omega) | (apply isRow_guess; omega)) only [ww2_58, ww2_59, ww2_60i3, ww2_60i13, ww2_60i77, ww2_60i88, ww2_63, ww2_84, hT, ↓iteT, ↓iteF, andT, w32_eq, yL_1, Int.toNat_natCast, Int.toNat_add, Int.toNat_mul, Int.toNat_sub, cel_s, cel_n, up1_cel, upS_cel, cel_cel, up1_s, up1_n, up1_e, rdI_n, rdB_n, Int.reduceMul, Int.reduceDiv, Int.reduceMod, Nat.reduceMul, Nat.reduceSub, Nat.zero_add, Int.zero_add, Nat.add_zero, Int.add_zero, ite_self, Option.toList_some, Option.toList_none, List.cons_append, List.nil_append, rdI_c, and_true, true_and, and_self, not_false_eq_true, not_true_eq_false, if_true, if_false, or_false, false_or, ne_eq, and_false, false_and, rdI_n, Nat.reduceEqDiff, Nat.reduceAdd, Nat.reduceLeDiff, Int.reduceEq, Int.reduceLT, Int.reduceLE, Int.reduceNeg, Int.reduceToNat, Int.reduceAdd, Int.reduceSub, List.append_nil, ki2, ki4, ki5, ki6, ki7, ki8, ki9, ki10, ki11, ki12, ki14, ki15, ki16, ki17, ki18, ki19, ki20, ki21, ki23, ki24, ki27, ki28, ki29, ki30, ki31, ki32, ki33, ki34, ki35, ki36, ki38, ki39, ki47, ki48, ki49, ki50, ki51, ki52, ki57, ki58, ki59, ki60, ki61, ki62, ki66, ki67, ki69, ki70, ki71, ki72, ki73, ki78, ki79, ki80, ki81, ki82, ki83, ki84, ki85, ki86, ki89, ki90, ki91, ki92, ki93, ki94, ki95, ki96, ki97, ki98, ki99, ki101, ki103, ki104, ki105, ki106, ki107, ki108, ki109, ki110, ki111, ki112, ki113, ki114, ki115, ki116, ki117, ki118, ki121, ki122, ki123, ki3000, kb68, kb102, kr26, kr40, kr46, kr56, kw2, kw4, kw5, kw6, kw7, kw8, kw9, kw10, kw11, kw12, kw14, kw15, kw16, kw17, kw18, kw19, kw20, kw21, kw23, kw24, kw27, kw28, kw29, kw30, kw31, kw32, kw33, kw34, kw35, kw36, kw38, kw39, kw41, kw42, kw43, kw44, kw47, kw48, kw49, kw50, kw51, kw52, kw53, kw54, kw57, kw58, kw59, kw60, kw61, kw62, kw63, kw64, kw66, kw67, kw68, kw69, kw70, kw71, kw72, kw73, kw75, kw78, kw79, kw80, kw81, kw82, kw83, kw84, kw85, kw86, kw89, kw90, kw91, kw92, kw93, kw94, kw95, kw96, kw97, kw98, kw99, kw101, kw102, kw103, kw104, kw105, kw106, kw107, kw108, kw109, kw110, kw111, kw112, kw113, kw114, kw115, kw116, kw117, kw118, kw119, kw120, kw121, kw122, kw123, kw124]
    exact q
  | n + 1, t, g, h, hg => by
    have ih := wp_su3 hT hT4 hq n (t + 1) (up1 g (6 + t) (σ 16 t)) (by omega) (fun k hk => by
      by_cases e : k = 6 + t
      · rw [e, up1_s]
        unfold suF
        rw [if_neg (by omega), if_neg (by omega), if_pos (by omega), if_pos (by omega), show 6 + t - 6 = t by omega]
      · rw [up1_n e, hg k hk]
        unfold suF
        (repeat' split) <;> first | rfl | (exfalso; omega))
    simp only [ic1] at ih
    simp (disch := first | (simp only [nlP_n, nlP_I, nlP_R, catP_I, catP_R, st8_0, st8_1, st8_2, st8_3, st8_4, b01, or_true, true_or, eq_self, iRP98, iRP99, iRP86, iRP97, iRP47, iRP57, rcP0, rcP1, rcP3, rcP13, rcP22, rcP25, rcP37, rcP45, rcP55, rcP65, rcP74, rcP76, rcP77, rcP87, rcP88, rcP100]; done) | omega | assumption | (simp (disch := omega) only [cel_s, cel_n, up1_s, up1_n, up1_e, put_out, fill_in]; omega) | (apply isRow_past; omega) | (apply isRow_seek; omega) | (apply isRow_guess; omega)) only [ww2_58, ww2_59, ww2_60i3, ww2_60i13, ww2_60i77, ww2_60i88, ww2_63, ww2_66, ww2_67, ww2_69, ww2_70, ww2_71, ww2_72i3, ww2_72i13, ww2_72i77, ww2_72i88, ww2_75, ww2_76, ww2_77, ww2_78, hT, ↓iteT, ↓iteF, andT, w32_eq, yL_1, Int.toNat_natCast, Int.toNat_add, Int.toNat_mul, Int.toNat_sub, cel_s, cel_n, up1_cel, upS_cel, cel_cel, up1_s, up1_n, up1_e, rdI_n, rdB_n, Int.reduceMul, Int.reduceDiv, Int.reduceMod, Nat.reduceMul, Nat.reduceSub, Nat.zero_add, Int.zero_add, Nat.add_zero, Int.add_zero, ite_self, Option.toList_some, Option.toList_none, List.cons_append, List.nil_append, rdI_c, and_true, true_and, and_self, not_false_eq_true, not_true_eq_false, if_true, if_false, or_false, false_or, ne_eq, and_false, false_and, rdI_n, Nat.reduceEqDiff, Nat.reduceAdd, Nat.reduceLeDiff, Int.reduceEq, Int.reduceLT, Int.reduceLE, Int.reduceNeg, Int.reduceToNat, Int.reduceAdd, Int.reduceSub, List.append_nil, ki2, ki4, ki5, ki6, ki7, ki8, ki9, ki10, ki11, ki12, ki14, ki15, ki16, ki17, ki18, ki19, ki20, ki21, ki23, ki24, ki27, ki28, ki29, ki30, ki31, ki32, ki33, ki34, ki35, ki36, ki38, ki39, ki47, ki48, ki49, ki50, ki51, ki52, ki57, ki58, ki59, ki60, ki61, ki62, ki66, ki67, ki69, ki70, ki71, ki72, ki73, ki78, ki79, ki80, ki81, ki82, ki83, ki84, ki85, ki86, ki89, ki90, ki91, ki92, ki93, ki94, ki95, ki96, ki97, ki98, ki99, ki101, ki103, ki104, ki105, ki106, ki107, ki108, ki109, ki110, ki111, ki112, ki113, ki114, ki115, ki116, ki117, ki118, ki121, ki122, ki123, ki3000, kb68, kb102, kr26, kr40, kr46, kr56, kw2, kw4, kw5, kw6, kw7, kw8, kw9, kw10, kw11, kw12, kw14, kw15, kw16, kw17, kw18, kw19, kw20, kw21, kw23, kw24, kw27, kw28, kw29, kw30, kw31, kw32, kw33, kw34, kw35, kw36, kw38, kw39, kw41, kw42, kw43, kw44, kw47, kw48, kw49, kw50, kw51, kw52, kw53, kw54, kw57, kw58, kw59, kw60, kw61, kw62, kw63, kw64, kw66, kw67, kw68, kw69, kw70, kw71, kw72, kw73, kw75, kw78, kw79, kw80, kw81, kw82, kw83, kw84, kw85, kw86, kw89, kw90, kw91, kw92, kw93, kw94, kw95, kw96, kw97, kw98, kw99, kw101, kw102, kw103, kw104, kw105, kw106, kw107, kw108, kw109, kw110, kw111, kw112, kw113, kw114, kw115, kw116, kw117, kw118, kw119, kw120, kw121, kw122, kw123, kw124]
    rw [ww2_81]
    exact ih
theorem wp_su2 (hP : σ 13 1 = P) (hP3 : P ≤ 3) (K : ∀ g, (∀ k, k < 35 → g k = suF (σ 14) (σ 16) P 0 k) → mw_WP d 2 56 [some (jR 13), some (jR 98), some (jI P)] [] (cel σ 98 g) Q) : ∀ (n p : Nat) (g : Nat → Int), p + n = P → (∀ k, k < 35 → g k = suF (σ 14) (σ 16) p 0 k) → mw_WP d 2 20 [some (jR 13), some (jR 98), some (jI p)] [] (cel σ 98 g) Q
  | 0, p, g, h, hg => by
    obtain rfl : p = P := by omega
    have q := K g hg
    simp (disch := first | (simp only [nlP_n, nlP_I, nlP_R, catP_I, catP_R, st8_0, st8_1, st8_2, st8_3, st8_4, b01, or_true, true_or, eq_self, iRP98, iRP99, iRP86, iRP97, iRP47, iRP57, rcP0, rcP1, rcP3, rcP13, rcP22, rcP25, rcP37, rcP45, rcP55, rcP65, rcP74, rcP76, rcP77, rcP87, rcP88, rcP100]; done) | omega | assumption | (simp (disch := omega) only [cel_s, cel_n, up1_s, up1_n, up1_e, put_out, fill_in]; omega) | (apply isRow_past; omega) | (apply isRow_seek; omega) | (apply isRow_guess; omega)) only [ww2_20, ww2_21, ww2_22i3, ww2_22i13, ww2_22i77, ww2_22i88, ww2_25, hP, ↓iteT, ↓iteF, andT, w32_eq, yL_1, Int.toNat_natCast, Int.toNat_add, Int.toNat_mul, Int.toNat_sub, cel_s, cel_n, up1_cel, upS_cel, cel_cel, up1_s, up1_n, up1_e, rdI_n, rdB_n, Int.reduceMul, Int.reduceDiv, Int.reduceMod, Nat.reduceMul, Nat.reduceSub, Nat.zero_add, Int.zero_add, Nat.add_zero, Int.add_zero, ite_self, Option.toList_some, Option.toList_none, List.cons_append, List.nil_append, rdI_c, and_true, true_and, and_self, not_false_eq_true, not_true_eq_false, if_true, if_false, or_false, false_or, ne_eq, and_false, false_and, rdI_n, Nat.reduceEqDiff, Nat.reduceAdd, Nat.reduceLeDiff, Int.reduceEq, Int.reduceLT, Int.reduceLE, Int.reduceNeg, Int.reduceToNat, Int.reduceAdd, Int.reduceSub, List.append_nil, ki2, ki4, ki5, ki6, ki7, ki8, ki9, ki10, ki11, ki12, ki14, ki15, ki16, ki17, ki18, ki19, ki20, ki21, ki23, ki24, ki27, ki28, ki29, ki30, ki31, ki32, ki33, ki34, ki35, ki36, ki38, ki39, ki47, ki48, ki49, ki50, ki51, ki52, ki57, ki58, ki59, ki60, ki61, ki62, ki66, ki67, ki69, ki70, ki71, ki72, ki73, ki78, ki79, ki80, ki81, ki82, ki83, ki84, ki85, ki86, ki89, ki90, ki91, ki92, ki93, ki94, ki95, ki96, ki97, ki98, ki99, ki101, ki103, ki104, ki105, ki106, ki107, ki108, ki109, ki110, ki111, ki112, ki113, ki114, ki115, ki116, ki117, ki118, ki121, ki122, ki123, ki3000, kb68, kb102, kr26, kr40, kr46, kr56, kw2, kw4, kw5, kw6, kw7, kw8, kw9, kw10, kw11, kw12, kw14, kw15, kw16, kw17, kw18, kw19, kw20, kw21, kw23, kw24, kw27, kw28, kw29, kw30, kw31, kw32, kw33, kw34, kw35, kw36, kw38, kw39, kw41, kw42, kw43, kw44, kw47, kw48, kw49, kw50, kw51, kw52, kw53, kw54, kw57, kw58, kw59, kw60, kw61, kw62, kw63, kw64, kw66, kw67, kw68, kw69, kw70, kw71, kw72, kw73, kw75, kw78, kw79, kw80, kw81, kw82, kw83, kw84, kw85, kw86, kw89, kw90, kw91, kw92, kw93, kw94, kw95, kw96, kw97, kw98, kw99, kw101, kw102, kw103, kw104, kw105, kw106, kw107, kw108, kw109, kw110, kw111, kw112, kw113, kw114, kw115, kw116, kw117, kw118, kw119, kw120, kw121, kw122, kw123, kw124]
    exact q
  | n + 1, p, g, h, hg => by
    have ih := wp_su2 hP hP3 K n (p + 1) (up1 (up1 g p (σ 14 p)) (3 + p) (σ 14 p)) (by omega) (fun k hk => by
      by_cases e : k = 3 + p
      · rw [e, up1_s]
        unfold suF
        rw [if_neg (by omega), if_pos (by omega), if_pos (by omega), show 3 + p - 3 = p by omega]
      · by_cases e2 : k = p
        · rw [up1_n e, e2, up1_s]
          unfold suF
          rw [if_pos (by omega), if_pos (by omega)]
        · rw [up1_n e, up1_n e2, hg k hk]
          unfold suF
          (repeat' split) <;> first | rfl | (exfalso; omega))
    simp only [ic1] at ih
    simp (disch := first | (simp only [nlP_n, nlP_I, nlP_R, catP_I, catP_R, st8_0, st8_1, st8_2, st8_3, st8_4, b01, or_true, true_or, eq_self, iRP98, iRP99, iRP86, iRP97, iRP47, iRP57, rcP0, rcP1, rcP3, rcP13, rcP22, rcP25, rcP37, rcP45, rcP55, rcP65, rcP74, rcP76, rcP77, rcP87, rcP88, rcP100]; done) | omega | assumption | (simp (disch := omega) only [cel_s, cel_n, up1_s, up1_n, up1_e, put_out, fill_in]; omega) | (apply isRow_past; omega) | (apply isRow_seek; omega) | (apply isRow_guess; omega)) only [ww2_20, ww2_21, ww2_22i3, ww2_22i13, ww2_22i77, ww2_22i88, ww2_25, ww2_28, ww2_29, ww2_30, ww2_31, ww2_32, ww2_33i3, ww2_33i13, ww2_33i77, ww2_33i88, ww2_36, ww2_37, ww2_38, ww2_39, ww2_40, ww2_41, ww2_42, ww2_43, ww2_44i3, ww2_44i13, ww2_44i77, ww2_44i88, ww2_47, ww2_48, ww2_49, ww2_50, hP, ↓iteT, ↓iteF, andT, w32_eq, yL_1, Int.toNat_natCast, Int.toNat_add, Int.toNat_mul, Int.toNat_sub, cel_s, cel_n, up1_cel, upS_cel, cel_cel, up1_s, up1_n, up1_e, rdI_n, rdB_n, Int.reduceMul, Int.reduceDiv, Int.reduceMod, Nat.reduceMul, Nat.reduceSub, Nat.zero_add, Int.zero_add, Nat.add_zero, Int.add_zero, ite_self, Option.toList_some, Option.toList_none, List.cons_append, List.nil_append, rdI_c, and_true, true_and, and_self, not_false_eq_true, not_true_eq_false, if_true, if_false, or_false, false_or, ne_eq, and_false, false_and, rdI_n, Nat.reduceEqDiff, Nat.reduceAdd, Nat.reduceLeDiff, Int.reduceEq, Int.reduceLT, Int.reduceLE, Int.reduceNeg, Int.reduceToNat, Int.reduceAdd, Int.reduceSub, List.append_nil, ki2, ki4, ki5, ki6, ki7, ki8, ki9, ki10, ki11, ki12, ki14, ki15, ki16, ki17, ki18, ki19, ki20, ki21, ki23, ki24, ki27, ki28, ki29, ki30, ki31, ki32, ki33, ki34, ki35, ki36, ki38, ki39, ki47, ki48, ki49, ki50, ki51, ki52, ki57, ki58, ki59, ki60, ki61, ki62, ki66, ki67, ki69, ki70, ki71, ki72, ki73, ki78, ki79, ki80, ki81, ki82, ki83, ki84, ki85, ki86, ki89, ki90, ki91, ki92, ki93, ki94, ki95, ki96, ki97, ki98, ki99, ki101, ki103, ki104, ki105, ki106, ki107, ki108, ki109, ki110, ki111, ki112, ki113, ki114, ki115, ki116, ki117, ki118, ki121, ki122, ki123, ki3000, kb68, kb102, kr26, kr40, kr46, kr56, kw2, kw4, kw5, kw6, kw7, kw8, kw9, kw10, kw11, kw12, kw14, kw15, kw16, kw17, kw18, kw19, kw20, kw21, kw23, kw24, kw27, kw28, kw29, kw30, kw31, kw32, kw33, kw34, kw35, kw36, kw38, kw39, kw41, kw42, kw43, kw44, kw47, kw48, kw49, kw50, kw51, kw52, kw53, kw54, kw57, kw58, kw59, kw60, kw61, kw62, kw63, kw64, kw66, kw67, kw68, kw69, kw70, kw71, kw72, kw73, kw75, kw78, kw79, kw80, kw81, kw82, kw83, kw84, kw85, kw86, kw89, kw90, kw91, kw92, kw93, kw94, kw95, kw96, kw97, kw98, kw99, kw101, kw102, kw103, kw104, kw105, kw106, kw107, kw108, kw109, kw110, kw111, kw112, kw113, kw114, kw115, kw116, kw117, kw118, kw119, kw120, kw121, kw122, kw123, kw124]
    rw [ww2_53]
    exact ih
theorem cl_setUp (hP : σ 13 1 = P) (hP3 : P ≤ 3) (hT : σ 13 2 = T) (hT4 : T ≤ 4) (hq : ∀ g, (∀ k, k < 35 → g k = suF (σ 14) (σ 16) P T k) → Q none (cel σ 98 g)) : mw_Call (d + 1) 2 [jR 13, jR 98] σ Q := by
  rw [ee2]
  have w1 := wp_su1 (d := d) (σ := σ) (Q := Q) (by
    have w2 := wp_su2 (d := d) (σ := σ) (Q := Q) hP hP3 (fun g hg => by
      have w3 := wp_su3 (d := d) (P := P) (σ := σ) (Q := Q) hT hT4 hq T 0 g (by omega) hg
      rw [show ((0 : Nat) : Int) = 0 from rfl] at w3
      simp (disch := first | (simp only [nlP_n, nlP_I, nlP_R, catP_I, catP_R, st8_0, st8_1, st8_2, st8_3, st8_4, b01, or_true, true_or, eq_self, iRP98, iRP99, iRP86, iRP97, iRP47, iRP57, rcP0, rcP1, rcP3, rcP13, rcP22, rcP25, rcP37, rcP45, rcP55, rcP65, rcP74, rcP76, rcP77, rcP87, rcP88, rcP100]; done) | omega | assumption | (simp (disch := omega) only [cel_s, cel_n, up1_s, up1_n, up1_e, put_out, fill_in]; omega) | (apply isRow_past; omega) | (apply isRow_seek; omega) | (apply isRow_guess; omega)) only [ww2_56, ww2_57, ↓iteT, ↓iteF, andT, w32_eq, yL_1, Int.toNat_natCast, Int.toNat_add, Int.toNat_mul, Int.toNat_sub, cel_s, cel_n, up1_cel, upS_cel, cel_cel, up1_s, up1_n, up1_e, rdI_n, rdB_n, Int.reduceMul, Int.reduceDiv, Int.reduceMod, Nat.reduceMul, Nat.reduceSub, Nat.zero_add, Int.zero_add, Nat.add_zero, Int.add_zero, ite_self, Option.toList_some, Option.toList_none, List.cons_append, List.nil_append, rdI_c, and_true, true_and, and_self, not_false_eq_true, not_true_eq_false, if_true, if_false, or_false, false_or, ne_eq, and_false, false_and, rdI_n, Nat.reduceEqDiff, Nat.reduceAdd, Nat.reduceLeDiff, Int.reduceEq, Int.reduceLT, Int.reduceLE, Int.reduceNeg, Int.reduceToNat, Int.reduceAdd, Int.reduceSub, List.append_nil, ki2, ki4, ki5, ki6, ki7, ki8, ki9, ki10, ki11, ki12, ki14, ki15, ki16, ki17, ki18, ki19, ki20, ki21, ki23, ki24, ki27, ki28, ki29, ki30, ki31, ki32, ki33, ki34, ki35, ki36, ki38, ki39, ki47, ki48, ki49, ki50, ki51, ki52, ki57, ki58, ki59, ki60, ki61, ki62, ki66, ki67, ki69, ki70, ki71, ki72, ki73, ki78, ki79, ki80, ki81, ki82, ki83, ki84, ki85, ki86, ki89, ki90, ki91, ki92, ki93, ki94, ki95, ki96, ki97, ki98, ki99, ki101, ki103, ki104, ki105, ki106, ki107, ki108, ki109, ki110, ki111, ki112, ki113, ki114, ki115, ki116, ki117, ki118, ki121, ki122, ki123, ki3000, kb68, kb102, kr26, kr40, kr46, kr56, kw2, kw4, kw5, kw6, kw7, kw8, kw9, kw10, kw11, kw12, kw14, kw15, kw16, kw17, kw18, kw19, kw20, kw21, kw23, kw24, kw27, kw28, kw29, kw30, kw31, kw32, kw33, kw34, kw35, kw36, kw38, kw39, kw41, kw42, kw43, kw44, kw47, kw48, kw49, kw50, kw51, kw52, kw53, kw54, kw57, kw58, kw59, kw60, kw61, kw62, kw63, kw64, kw66, kw67, kw68, kw69, kw70, kw71, kw72, kw73, kw75, kw78, kw79, kw80, kw81, kw82, kw83, kw84, kw85, kw86, kw89, kw90, kw91, kw92, kw93, kw94, kw95, kw96, kw97, kw98, kw99, kw101, kw102, kw103, kw104, kw105, kw106, kw107, kw108, kw109, kw110, kw111, kw112, kw113, kw114, kw115, kw116, kw117, kw118, kw119, kw120, kw121, kw122, kw123, kw124]
      exact w3) P 0 (fillF (fun _ => 0) (σ 98) 35) (by omega) (fun k hk => by
      rw [fill_in hk]
      unfold suF
      (repeat' split) <;> first | rfl | (exfalso; omega))
    rw [show ((0 : Nat) : Int) = 0 from rfl] at w2
    simp (disch := first | (simp only [nlP_n, nlP_I, nlP_R, catP_I, catP_R, st8_0, st8_1, st8_2, st8_3, st8_4, b01, or_true, true_or, eq_self, iRP98, iRP99, iRP86, iRP97, iRP47, iRP57, rcP0, rcP1, rcP3, rcP13, rcP22, rcP25, rcP37, rcP45, rcP55, rcP65, rcP74, rcP76, rcP77, rcP87, rcP88, rcP100]; done) | omega | assumption | (simp (disch := omega) only [cel_s, cel_n, up1_s, up1_n, up1_e, put_out, fill_in]; omega) | (apply isRow_past; omega) | (apply isRow_seek; omega) | (apply isRow_guess; omega)) only [ww2_18, ww2_19, ↓iteT, ↓iteF, andT, w32_eq, yL_1, Int.toNat_natCast, Int.toNat_add, Int.toNat_mul, Int.toNat_sub, cel_s, cel_n, up1_cel, upS_cel, cel_cel, up1_s, up1_n, up1_e, rdI_n, rdB_n, Int.reduceMul, Int.reduceDiv, Int.reduceMod, Nat.reduceMul, Nat.reduceSub, Nat.zero_add, Int.zero_add, Nat.add_zero, Int.add_zero, ite_self, Option.toList_some, Option.toList_none, List.cons_append, List.nil_append, rdI_c, and_true, true_and, and_self, not_false_eq_true, not_true_eq_false, if_true, if_false, or_false, false_or, ne_eq, and_false, false_and, rdI_n, Nat.reduceEqDiff, Nat.reduceAdd, Nat.reduceLeDiff, Int.reduceEq, Int.reduceLT, Int.reduceLE, Int.reduceNeg, Int.reduceToNat, Int.reduceAdd, Int.reduceSub, List.append_nil, ki2, ki4, ki5, ki6, ki7, ki8, ki9, ki10, ki11, ki12, ki14, ki15, ki16, ki17, ki18, ki19, ki20, ki21, ki23, ki24, ki27, ki28, ki29, ki30, ki31, ki32, ki33, ki34, ki35, ki36, ki38, ki39, ki47, ki48, ki49, ki50, ki51, ki52, ki57, ki58, ki59, ki60, ki61, ki62, ki66, ki67, ki69, ki70, ki71, ki72, ki73, ki78, ki79, ki80, ki81, ki82, ki83, ki84, ki85, ki86, ki89, ki90, ki91, ki92, ki93, ki94, ki95, ki96, ki97, ki98, ki99, ki101, ki103, ki104, ki105, ki106, ki107, ki108, ki109, ki110, ki111, ki112, ki113, ki114, ki115, ki116, ki117, ki118, ki121, ki122, ki123, ki3000, kb68, kb102, kr26, kr40, kr46, kr56, kw2, kw4, kw5, kw6, kw7, kw8, kw9, kw10, kw11, kw12, kw14, kw15, kw16, kw17, kw18, kw19, kw20, kw21, kw23, kw24, kw27, kw28, kw29, kw30, kw31, kw32, kw33, kw34, kw35, kw36, kw38, kw39, kw41, kw42, kw43, kw44, kw47, kw48, kw49, kw50, kw51, kw52, kw53, kw54, kw57, kw58, kw59, kw60, kw61, kw62, kw63, kw64, kw66, kw67, kw68, kw69, kw70, kw71, kw72, kw73, kw75, kw78, kw79, kw80, kw81, kw82, kw83, kw84, kw85, kw86, kw89, kw90, kw91, kw92, kw93, kw94, kw95, kw96, kw97, kw98, kw99, kw101, kw102, kw103, kw104, kw105, kw106, kw107, kw108, kw109, kw110, kw111, kw112, kw113, kw114, kw115, kw116, kw117, kw118, kw119, kw120, kw121, kw122, kw123, kw124]
    exact w2) 35 0 (by omega)
  rw [fill_0, cel_self rfl, show ((0 : Nat) : Int) = 0 from rfl] at w1
  simp (disch := first | (simp only [nlP_n, nlP_I, nlP_R, catP_I, catP_R, st8_0, st8_1, st8_2, st8_3, st8_4, b01, or_true, true_or, eq_self, iRP98, iRP99, iRP86, iRP97, iRP47, iRP57, rcP0, rcP1, rcP3, rcP13, rcP22, rcP25, rcP37, rcP45, rcP55, rcP65, rcP74, rcP76, rcP77, rcP87, rcP88, rcP100]; done) | omega | assumption | (simp (disch := omega) only [cel_s, cel_n, up1_s, up1_n, up1_e, put_out, fill_in]; omega) | (apply isRow_past; omega) | (apply isRow_seek; omega) | (apply isRow_guess; omega)) only [ww2_0, ww2_1, ↓iteT, ↓iteF, andT, w32_eq, yL_1, Int.toNat_natCast, Int.toNat_add, Int.toNat_mul, Int.toNat_sub, cel_s, cel_n, up1_cel, upS_cel, cel_cel, up1_s, up1_n, up1_e, rdI_n, rdB_n, Int.reduceMul, Int.reduceDiv, Int.reduceMod, Nat.reduceMul, Nat.reduceSub, Nat.zero_add, Int.zero_add, Nat.add_zero, Int.add_zero, ite_self, Option.toList_some, Option.toList_none, List.cons_append, List.nil_append, rdI_c, and_true, true_and, and_self, not_false_eq_true, not_true_eq_false, if_true, if_false, or_false, false_or, ne_eq, and_false, false_and, rdI_n, Nat.reduceEqDiff, Nat.reduceAdd, Nat.reduceLeDiff, Int.reduceEq, Int.reduceLT, Int.reduceLE, Int.reduceNeg, Int.reduceToNat, Int.reduceAdd, Int.reduceSub, List.append_nil, ki2, ki4, ki5, ki6, ki7, ki8, ki9, ki10, ki11, ki12, ki14, ki15, ki16, ki17, ki18, ki19, ki20, ki21, ki23, ki24, ki27, ki28, ki29, ki30, ki31, ki32, ki33, ki34, ki35, ki36, ki38, ki39, ki47, ki48, ki49, ki50, ki51, ki52, ki57, ki58, ki59, ki60, ki61, ki62, ki66, ki67, ki69, ki70, ki71, ki72, ki73, ki78, ki79, ki80, ki81, ki82, ki83, ki84, ki85, ki86, ki89, ki90, ki91, ki92, ki93, ki94, ki95, ki96, ki97, ki98, ki99, ki101, ki103, ki104, ki105, ki106, ki107, ki108, ki109, ki110, ki111, ki112, ki113, ki114, ki115, ki116, ki117, ki118, ki121, ki122, ki123, ki3000, kb68, kb102, kr26, kr40, kr46, kr56, kw2, kw4, kw5, kw6, kw7, kw8, kw9, kw10, kw11, kw12, kw14, kw15, kw16, kw17, kw18, kw19, kw20, kw21, kw23, kw24, kw27, kw28, kw29, kw30, kw31, kw32, kw33, kw34, kw35, kw36, kw38, kw39, kw41, kw42, kw43, kw44, kw47, kw48, kw49, kw50, kw51, kw52, kw53, kw54, kw57, kw58, kw59, kw60, kw61, kw62, kw63, kw64, kw66, kw67, kw68, kw69, kw70, kw71, kw72, kw73, kw75, kw78, kw79, kw80, kw81, kw82, kw83, kw84, kw85, kw86, kw89, kw90, kw91, kw92, kw93, kw94, kw95, kw96, kw97, kw98, kw99, kw101, kw102, kw103, kw104, kw105, kw106, kw107, kw108, kw109, kw110, kw111, kw112, kw113, kw114, kw115, kw116, kw117, kw118, kw119, kw120, kw121, kw122, kw123, kw124]
  exact w1
end SETUP
