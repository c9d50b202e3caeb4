/-! arcade of both -/
theorem fin_arc {n : Nat} {σ τ σ' : mw_S} {D : Dr} {G : Nat → Int} (hI : Rall n σ) (h1 : σ' 1 2 = 0 ∧ σ' 1 3 = 0 ∧ σ' 1 4 = -1) (hf : ∀ j, j < 7 → σ' 13 j = τ 3 j) (h15 : ∀ j, j < 3 → σ' 15 j = τ 5 j) (h17 : ∀ j, j < 8 → σ' 17 j = τ 7 j ∧ σ' 18 j = τ 8 j ∧ σ' 19 j = τ 9 j ∧ σ' 20 j = τ 10 j) (h21 : ∀ j, j < 900 → σ' 21 j = τ 11 j) (h98 : ∀ k, k < 35 → σ' 98 k = suF (τ 4) (τ 6) (dPs D).length (dTs D).length k) (h25 : σ' 25 0 = 0 ∧ σ' 25 1 = σ 25 1) (h100 : σ' 100 5 = 0 ∧ σ' 100 13 = 0 ∧ σ' 100 14 = -1) (h101 : ∀ k, k < 1460 → σ' 101 k = G k) (h101' : ∀ k, 1460 ≤ k → σ' 101 k = σ 101 k) (hs : ∀ a, (a = 38 ∨ a = 39 ∨ (41 ≤ a ∧ a ≤ 44) ∨ (76 ≤ a ∧ a ≤ 97) ∨ a = 102 ∨ (122 ≤ a ∧ a ≤ 124)) → σ' a = σ a) (hDF : DF τ D) (hDG : DG G D) (hGO : G 559 = (dOu D).length ∧ ∀ j, j < (dOu D).length → G (560 + j) = cmap ((dOu D).getD j 0)) (hOK : OKD D) (hOl : (dOu D).length ≤ 900) (ln0 : 0 ≤ dLn D) (ln1 : dLn D ≤ 900) : Rall (n + 1) σ' := by
  obtain ⟨g1, g2, g3, g4, g5, g6, g7, g8⟩ := hI.mono (Nat.le_succ n)
  obtain ⟨⟨a0, a1, a2, a3, a4, a5⟩, ⟨aO, aC⟩, aP, aT, aR⟩ := hDF
  obtain ⟨⟨k0, k1, k2, k3, k4, k5⟩, kp, kt, kr, ko⟩ := hDG
  obtain ⟨⟨⟨b0, b00⟩, b1, b2, b3⟩, oP, oT, ⟨m0, m1⟩, oR⟩ := hOK
  have hA : (fun k => σ' 101 (0 + k)) = σ' 101 := by
    funext k
    rw [Nat.zero_add]
  -- what a row begins with
  have c6 : ∀ k, k < 3 → suF (τ 4) (τ 6) (dPs D).length (dTs D).length k = ((dPs D).getD k (0, 0)).1 ∧ suF (τ 4) (τ 6) (dPs D).length (dTs D).length (3 + k) = ((dPs D).getD k (0, 0)).1 ∧ 0 ≤ ((dPs D).getD k (0, 0)).1 ∧ ((dPs D).getD k (0, 0)).1 < dDp D := fun k hk => by
    have s1 : suF (τ 4) (τ 6) (dPs D).length (dTs D).length k = if k < (dPs D).length then τ 4 k else 0 := by
      unfold suF
      rw [if_pos hk]
    have s2 : suF (τ 4) (τ 6) (dPs D).length (dTs D).length (3 + k) = if k < (dPs D).length then τ 4 k else 0 := by
      unfold suF
      rw [if_neg (by omega), if_pos (by omega), show 3 + k - 3 = k by omega]
    rw [s1, s2]
    by_cases c : k < (dPs D).length
    · rw [if_pos c, (aP k c).1]
      exact ⟨rfl, rfl, (oP k c).1, (oP k c).2.1⟩
    · rw [if_neg c, show (dPs D).getD k (0, 0) = (0, 0) from by rw [List.getD_eq_getElem?_getD, List.getElem?_eq_none (by omega)]; rfl]
      refine ⟨rfl, rfl, Int.le_refl 0, ?_⟩
      show (0 : Int) < dDp D
      omega
  have c10 : ∀ t, t < 4 → suF (τ 4) (τ 6) (dPs D).length (dTs D).length (6 + t) = (dTs D).getD t 0 ∧ 0 ≤ (dTs D).getD t 0 ∧ (dTs D).getD t 0 ≤ 35 := fun t ht => by
    unfold suF
    rw [if_neg (by omega), if_neg (by omega), if_pos (by omega), show 6 + t - 6 = t by omega]
    by_cases c : t < (dTs D).length
    · rw [if_pos c, aT t c]
      exact ⟨rfl, oT t c⟩
    · rw [if_neg c, show (dTs D).getD t 0 = 0 from by rw [List.getD_eq_getElem?_getD, List.getElem?_eq_none (by omega)]; rfl]
      exact ⟨rfl, by decide, by decide⟩
  have cz : ∀ k, 10 ≤ k → k < 35 → σ' 98 k = 0 := fun k h1 h2 => by
    rw [h98 k h2]
    unfold suF
    rw [if_neg (by omega), if_neg (by omega), if_neg (by omega)]
  have rz : ∀ j, (47 ≤ j ∧ j < 50) ∨ (54 ≤ j ∧ j < 559) → ¬ ((76 ≤ j ∧ j < 79) ∨ (82 ≤ j ∧ j < 85)) → σ' 101 j = 0 := fun j hj hn => by
    rw [h101 j (by omega), ko j hj, if_neg hn]
  have rm : ∀ j, (76 ≤ j ∧ j < 79) ∨ (82 ≤ j ∧ j < 85) → σ' 101 j = -1 := fun j hn => by
    rw [h101 j (by omega), ko j (by omega), if_pos hn]
  have f0 : σ' 13 0 = dDp D := by rw [hf 0 (by omega)]; exact a0
  have f1 : σ' 13 1 = (dPs D).length := by rw [hf 1 (by omega)]; exact a1
  have f2 : σ' 13 2 = (dTs D).length := by rw [hf 2 (by omega)]; exact a2
  have f3 : σ' 13 3 = (dRs D).length := by rw [hf 3 (by omega)]; exact a3
  have f4 : σ' 13 4 = dMs D := by rw [hf 4 (by omega)]; exact a4
  have f5 : σ' 13 5 = dLn D := by rw [hf 5 (by omega)]; exact a5
  have f6 : σ' 13 6 = (dOu D).length := by rw [hf 6 (by omega)]; exact aO
  refine ⟨⟨by omega, by omega, by omega, fun j hj => ?_⟩, ⟨by omega, by omega, by omega, by omega, by omega, by omega⟩, ?_, ?_, ?_, ?_, ?_, ?_⟩
  · omega
  · unfold RarcS
    rw [hA]
    refine ⟨⟨?_, ?_, ?_, ?_, ?_, ?_, ?_⟩, ⟨by omega, by omega, by omega, by omega, by omega, by omega, by omega, by omega, by omega, by omega, by omega, by omega, by omega, by omega⟩, fun p p3 hp => ?_, fun r r8 hr => ?_, fun i hi => ?_⟩
    · rw [h101 1 (by omega)]; omega
    · rw [h101 2 (by omega)]; omega
    · rw [h101 3 (by omega)]; omega
    · rw [h101 4 (by omega)]; omega
    · rw [h101 5 (by omega)]; omega
    · rw [h101 0 (by omega)]; omega
    · rw [h101 559 (by omega), hGO.1]; omega
    · have hp' : p < (dPs D).length := by omega
      show σ' 101 (6 + p) = σ' 15 p ∧ 0 ≤ σ' 15 p ∧ σ' 15 p ≤ 4
      rw [h15 p p3, (aP p hp').2, h101 _ (by omega), (kp p p3).1]
      exact ⟨rfl, (oP p hp').2.2⟩
    · have hr' : r < (dRs D).length := by omega
      obtain ⟨e17, e18, e19, e20⟩ := h17 r r8
      obtain ⟨x1, x2, x3, x4⟩ := aR r hr'
      obtain ⟨y1, y2, y3, y4⟩ := kr r r8
      obtain ⟨t1, t2, t3, t4, x, y, t5, t6, t7, t8⟩ := oR r hr'
      show σ' 101 (9 + r) = σ' 17 r ∧ σ' 101 (17 + r) = σ' 20 r ∧ σ' 101 (25 + r) = σ' 18 r ∧ σ' 101 (33 + r) = σ' 19 r - σ' 18 r ∧ -1 ≤ σ' 17 r ∧ σ' 17 r < σ' 13 1 ∧ 0 ≤ σ' 20 r ∧ σ' 20 r ≤ 8 ∧ 0 ≤ σ' 18 r ∧ σ' 18 r ≤ σ' 19 r ∧ σ' 19 r ≤ σ' 13 6 ∧ tyR (σ' 21) (σ' 18 r).toNat (σ' 19 r - σ' 18 r).toNat [] = some [true]
      rw [e17, e18, e19, e20, x1, x2, x3, x4, h101 _ (by omega), h101 _ (by omega), h101 _ (by omega), h101 _ (by omega), y1, y2, y3, y4, f1, f6]
      refine ⟨rfl, rfl, rfl, rfl, t1, t2, t3, t4, by omega, by omega, by omega, ?_⟩
      rw [t5, t6, Int.toNat_natCast, show (((x + y : Nat) : Int) - (x : Int)).toNat = y by omega, ← t8]
      exact tyR_ext _ _ _ (fun j j1 j2 => by rw [h21 j (by omega), aC j (by omega)])
    · have hi' : i < (dOu D).length := by omega
      show σ' 101 (560 + i) = cmap (σ' 21 i)
      rw [h101 _ (by omega), hGO.2 i hi', h21 i (by omega), aC i hi']
  · have e34 : σ' 98 34 = 0 := cz 34 (by omega) (by omega)
    refine ⟨fun k hk => ?_, fun t ht => ?_, fun p hp => ?_, fun p hp => ?_, ?_, fun p hp _ => ?_, fun p hp => ?_, fun q hq => ?_⟩
    · show σ' 101 (41 + k) = σ' 98 k ∧ 0 ≤ σ' 98 k ∧ σ' 98 k < σ' 13 0
      rw [h98 k (by omega), f0, h101 _ (by omega)]
      by_cases c : k < 3
      · obtain ⟨u1, u2, u3, u4⟩ := c6 k c
        rw [u1, (kp k c).2.1]
        exact ⟨rfl, u3, u4⟩
      · obtain ⟨j, rfl⟩ : ∃ j, k = 3 + j := ⟨k - 3, by omega⟩
        obtain ⟨u1, u2, u3, u4⟩ := c6 j (by omega)
        rw [u2, show 41 + (3 + j) = 44 + j by omega, (kp j (by omega)).2.2]
        exact ⟨rfl, u3, u4⟩
    · show σ' 101 (41 + (9 + t)) = σ' 98 (6 + t) ∧ 0 ≤ σ' 98 (6 + t) ∧ σ' 98 (6 + t) ≤ 35
      obtain ⟨u1, u2, u3⟩ := c10 t ht
      rw [h98 _ (by omega), u1, h101 _ (by omega), show 41 + (9 + t) = 50 + t by omega, kt t ht]
      exact ⟨rfl, u2, u3⟩
    · show σ' 101 (41 + (6 + p)) = σ' 98 (10 + p) ∧ 0 ≤ σ' 98 (10 + p) ∧ σ' 98 (10 + p) ≤ 9
      rw [cz _ (by omega) (by omega), rz _ (by omega) (by omega)]
      exact ⟨rfl, by decide, by decide⟩
    · show 0 ≤ σ' 98 (13 + p) ∧ σ' 98 (13 + p) < 1048576 ∧ σ' 98 (13 + p) % 65536 = σ' 101 (41 + (13 + 4 * p)) + 16 * σ' 101 (41 + (14 + 4 * p)) + 256 * σ' 101 (41 + (15 + 4 * p)) + 4096 * σ' 101 (41 + (16 + 4 * p)) ∧ ∀ k : Nat, k < 4 → 0 ≤ σ' 101 (41 + (13 + 4 * p + k)) ∧ σ' 101 (41 + (13 + 4 * p + k)) ≤ 8
      rw [cz _ (by omega) (by omega), rz _ (by omega) (by omega), rz _ (by omega) (by omega), rz _ (by omega) (by omega), rz _ (by omega) (by omega)]
      refine ⟨by decide, by decide, by decide, fun k hk => ?_⟩
      rw [rz _ (by omega) (by omega)]
      exact ⟨by decide, by decide⟩
    · show σ' 101 (41 + 34) = σ' 98 34 ∧ 0 ≤ σ' 98 34 ∧ σ' 98 34 ≤ 60 * ((n + 1 : Nat) : Int)
      rw [e34, rz _ (by omega) (by omega)]
      exact ⟨rfl, by decide, by omega⟩
    · show σ' 101 (41 + (35 + p)) = (if σ' 98 34 = 0 then -1 else σ' 98 (13 + p) % 16) ∧ σ' 101 (41 + (41 + p)) = (if σ' 98 34 = 0 then -1 else σ' 98 (16 + p))
      rw [if_pos e34, if_pos e34, rm _ (by omega), rm _ (by omega)]
      exact ⟨rfl, rfl⟩
    · show 0 ≤ σ' 98 (16 + p) ∧ σ' 98 (16 + p) ≤ 8 ∧ σ' 101 (41 + (38 + p)) = σ' 98 (19 + p) ∧ σ' 101 (41 + (44 + p)) = σ' 98 (22 + p) ∧ 0 ≤ σ' 98 (19 + p) ∧ σ' 98 (19 + p) ≤ 1 ∧ 0 ≤ σ' 98 (22 + p) ∧ σ' 98 (22 + p) ≤ 1
      rw [cz _ (by omega) (by omega), cz (19 + p) (by omega) (by omega), cz (22 + p) (by omega) (by omega), rz _ (by omega) (by omega), rz _ (by omega) (by omega)]
      exact ⟨by decide, by decide, rfl, rfl, by decide, by decide, by decide, by decide⟩
    · show σ' 101 (41 + (25 + q)) = σ' 98 (25 + q) ∧ 0 ≤ σ' 98 (25 + q) ∧ σ' 98 (25 + q) ≤ 99999 ∧ (σ' 13 1 ≤ ((q / 3 : Nat) : Int) ∨ σ' 13 1 ≤ ((q % 3 : Nat) : Int) → σ' 98 (25 + q) = 0)
      rw [cz _ (by omega) (by omega), rz _ (by omega) (by omega)]
      exact ⟨rfl, by decide, by decide, fun _ => rfl⟩
  · obtain ⟨_, _, x0, x1, _, _⟩ := g5
    refine ⟨by omega, by omega, by omega, by omega, ?_, fun k hk => by omega⟩
    rw [rz 88 (by omega) (by omega)]
    exact h25.1.symm
  · exact g6.same (hs 38 (by omega)) (hs 39 (by omega)) (fun t ht => hs _ (by omega)) (hs 122 (by omega)) (hs 123 (by omega)) (hs 124 (by omega))
  · exact g7.same (fun k hk => hs _ (by omega)) (by rw [hs 102 (by omega)]) (fun k hk => h101' _ (by omega))
  · exact g8.same (fun k hk => hs _ (by omega)) (by rw [hs 102 (by omega)]) (fun k hk => h101' _ (by omega))
theorem g_arcade : ag_arcade Rall := by
  intro n σ v1 hn hI oS i1
  have hT := RthrC (x := 0) hI
  obtain ⟨t0, t1, t2, t3⟩ := hI.1
  by_cases c : 0 ≤ v1 ∧ v1 ≤ σ 1 2
  · obtain ⟨len, rfl⟩ := Int.eq_ofNat_of_zero_le c.1
    have c2 := c.2
    have hL : len ≤ 900 := by omega
    rw [ee120]
    simp (disch := first | (simp only [nlP_n, nlP_I, nlP_R, catP_I, catP_R, st8_0, st8_1, st8_2, st8_3, st8_4, b01, or_true, true_or, eq_self, iRP98, iRP99, iRP86, iRP97, iRP47, iRP57, rcP0, rcP1, rcP3, rcP13, rcP22, rcP25, rcP37, rcP45, rcP55, rcP65, rcP74, rcP76, rcP77, rcP87, rcP88, rcP100]; done) | omega | assumption | (simp (disch := omega) only [cel_s, cel_n, up1_s, up1_n, up1_e, put_out, fill_in]; omega) | (apply isRow_past; omega) | (apply isRow_seek; omega) | (apply isRow_guess; omega)) only [ww120_0, ww120_1, ww120_4, ww120_5, ww120_6, ww120_9, ww120_12, ww120_15, ww120_17, ww120_18, ww120_19, ww120_22, ww120_23, ↓iteT, ↓iteF, andT, w32_eq, yL_1, Int.toNat_natCast, Int.toNat_add, Int.toNat_mul, Int.toNat_sub, cel_s, cel_n, up1_cel, upS_cel, cel_cel, up1_s, up1_n, up1_e, rdI_n, rdB_n, Int.reduceMul, Int.reduceDiv, Int.reduceMod, Nat.reduceMul, Nat.reduceSub, Nat.zero_add, Int.zero_add, Nat.add_zero, Int.add_zero, ite_self, Option.toList_some, Option.toList_none, List.cons_append, List.nil_append, rdI_c, and_true, true_and, and_self, not_false_eq_true, not_true_eq_false, if_true, if_false, or_false, false_or, ne_eq, and_false, false_and, rdI_n, Nat.reduceEqDiff, Nat.reduceAdd, Nat.reduceLeDiff, Int.reduceEq, Int.reduceLT, Int.reduceLE, Int.reduceNeg, Int.reduceToNat, Int.reduceAdd, Int.reduceSub, List.append_nil, ki2, ki4, ki5, ki6, ki7, ki8, ki9, ki10, ki11, ki12, ki14, ki15, ki16, ki17, ki18, ki19, ki20, ki21, ki23, ki24, ki27, ki28, ki29, ki30, ki31, ki32, ki33, ki34, ki35, ki36, ki38, ki39, ki47, ki48, ki49, ki50, ki51, ki52, ki57, ki58, ki59, ki60, ki61, ki62, ki66, ki67, ki69, ki70, ki71, ki72, ki73, ki78, ki79, ki80, ki81, ki82, ki83, ki84, ki85, ki86, ki89, ki90, ki91, ki92, ki93, ki94, ki95, ki96, ki97, ki98, ki99, ki101, ki103, ki104, ki105, ki106, ki107, ki108, ki109, ki110, ki111, ki112, ki113, ki114, ki115, ki116, ki117, ki118, ki121, ki122, ki123, ki3000, kb68, kb102, kr26, kr40, kr46, kr56, kw2, kw4, kw5, kw6, kw7, kw8, kw9, kw10, kw11, kw12, kw14, kw15, kw16, kw17, kw18, kw19, kw20, kw21, kw23, kw24, kw27, kw28, kw29, kw30, kw31, kw32, kw33, kw34, kw35, kw36, kw38, kw39, kw41, kw42, kw43, kw44, kw47, kw48, kw49, kw50, kw51, kw52, kw53, kw54, kw57, kw58, kw59, kw60, kw61, kw62, kw63, kw64, kw66, kw67, kw68, kw69, kw70, kw71, kw72, kw73, kw75, kw78, kw79, kw80, kw81, kw82, kw83, kw84, kw85, kw86, kw89, kw90, kw91, kw92, kw93, kw94, kw95, kw96, kw97, kw98, kw99, kw101, kw102, kw103, kw104, kw105, kw106, kw107, kw108, kw109, kw110, kw111, kw112, kw113, kw114, kw115, kw116, kw117, kw118, kw119, kw120, kw121, kw122, kw123, kw124]
    refine cl_readText (b := σ 2) ⟨hL, fun j hj => ⟨rfl, (t3 j (by omega)).2⟩⟩ c2 (fun f p hr σ1 s1 s2 s3 s4 => ?_) (fun D hr σ1 s1 s2 s3 s4 hD hB hz hl => ?_)
    · have hb : tapeM σ1 (σ 2) len := ⟨hL, fun j hj => by
        rw [s1 103 (by omega)]
        exact t3 j (by omega)⟩
      have hp := txF_fp len 0 D0 hr (Nat.zero_le _) DB_0
      simp (disch := first | (simp only [nlP_n, nlP_I, nlP_R, catP_I, catP_R, st8_0, st8_1, st8_2, st8_3, st8_4, b01, or_true, true_or, eq_self, iRP98, iRP99, iRP86, iRP97, iRP47, iRP57, rcP0, rcP1, rcP3, rcP13, rcP22, rcP25, rcP37, rcP45, rcP55, rcP65, rcP74, rcP76, rcP77, rcP87, rcP88, rcP100]; done) | omega | assumption | (simp (disch := omega) only [cel_s, cel_n, up1_s, up1_n, up1_e, put_out, fill_in]; omega) | (apply isRow_past; omega) | (apply isRow_seek; omega) | (apply isRow_guess; omega)) only [ww120_26, ww120_29, ww120_31, ww120_32, ww120_35, ww120_38, ww120_39, s3, ↓iteT, ↓iteF, andT, w32_eq, yL_1, Int.toNat_natCast, Int.toNat_add, Int.toNat_mul, Int.toNat_sub, cel_s, cel_n, up1_cel, upS_cel, cel_cel, up1_s, up1_n, up1_e, rdI_n, rdB_n, Int.reduceMul, Int.reduceDiv, Int.reduceMod, Nat.reduceMul, Nat.reduceSub, Nat.zero_add, Int.zero_add, Nat.add_zero, Int.add_zero, ite_self, Option.toList_some, Option.toList_none, List.cons_append, List.nil_append, rdI_c, and_true, true_and, and_self, not_false_eq_true, not_true_eq_false, if_true, if_false, or_false, false_or, ne_eq, and_false, false_and, rdI_n, Nat.reduceEqDiff, Nat.reduceAdd, Nat.reduceLeDiff, Int.reduceEq, Int.reduceLT, Int.reduceLE, Int.reduceNeg, Int.reduceToNat, Int.reduceAdd, Int.reduceSub, List.append_nil, ki2, ki4, ki5, ki6, ki7, ki8, ki9, ki10, ki11, ki12, ki14, ki15, ki16, ki17, ki18, ki19, ki20, ki21, ki23, ki24, ki27, ki28, ki29, ki30, ki31, ki32, ki33, ki34, ki35, ki36, ki38, ki39, ki47, ki48, ki49, ki50, ki51, ki52, ki57, ki58, ki59, ki60, ki61, ki62, ki66, ki67, ki69, ki70, ki71, ki72, ki73, ki78, ki79, ki80, ki81, ki82, ki83, ki84, ki85, ki86, ki89, ki90, ki91, ki92, ki93, ki94, ki95, ki96, ki97, ki98, ki99, ki101, ki103, ki104, ki105, ki106, ki107, ki108, ki109, ki110, ki111, ki112, ki113, ki114, ki115, ki116, ki117, ki118, ki121, ki122, ki123, ki3000, kb68, kb102, kr26, kr40, kr46, kr56, kw2, kw4, kw5, kw6, kw7, kw8, kw9, kw10, kw11, kw12, kw14, kw15, kw16, kw17, kw18, kw19, kw20, kw21, kw23, kw24, kw27, kw28, kw29, kw30, kw31, kw32, kw33, kw34, kw35, kw36, kw38, kw39, kw41, kw42, kw43, kw44, kw47, kw48, kw49, kw50, kw51, kw52, kw53, kw54, kw57, kw58, kw59, kw60, kw61, kw62, kw63, kw64, kw66, kw67, kw68, kw69, kw70, kw71, kw72, kw73, kw75, kw78, kw79, kw80, kw81, kw82, kw83, kw84, kw85, kw86, kw89, kw90, kw91, kw92, kw93, kw94, kw95, kw96, kw97, kw98, kw99, kw101, kw102, kw103, kw104, kw105, kw106, kw107, kw108, kw109, kw110, kw111, kw112, kw113, kw114, kw115, kw116, kw117, kw118, kw119, kw120, kw121, kw122, kw123, kw124]
      refine me_arc hb (by rw [s1 100 (by omega)]; omega) (by rw [s1 100 (by omega)]; omega) (fun f' p' hr' f1 f4 σ' u1 u5 u13 u14 => ?_) (fun D' G hr' => ?_)
      · rw [hr] at hr'
        cases hr'
        refine ⟨⟨-30 - f, by rw [w32_eq (by omega) (by omega)], rfl⟩, ?_⟩
        obtain ⟨g1, g2, g3, g4, g5, g6, g7, g8⟩ := hI.mono (Nat.le_succ n)
        have sm : ∀ a, 12 < a → a ≠ 100 → a ≠ 104 → σ' a = σ a := fun a h1 h2 h3 => by rw [u1 a h2 h3, s1 a (by omega)]
        have e1 : σ' 1 = σ1 1 := u1 1 (by decide) (by decide)
        refine ⟨?_, ?_, g3.same (fun k hk => sm _ (by omega) (by omega) (by omega)) (fun k _ _ => by rw [sm 101 (by omega) (by omega) (by omega)]), ?_, g5.same (by rw [sm 25 (by omega) (by omega) (by omega)]) (by rw [sm 25 (by omega) (by omega) (by omega)]) (by rw [sm 13 (by omega) (by omega) (by omega)]; exact ⟨rfl, rfl⟩) (fun j hj => sm _ (by omega) (by omega) (by omega)) (fun k _ _ => by rw [sm 101 (by omega) (by omega) (by omega)]), g6.same (sm 38 (by omega) (by omega) (by omega)) (sm 39 (by omega) (by omega) (by omega)) (fun t ht => sm _ (by omega) (by omega) (by omega)) (sm 122 (by omega) (by omega) (by omega)) (sm 123 (by omega) (by omega) (by omega)) (sm 124 (by omega) (by omega) (by omega)), g7.same (fun k hk => sm _ (by omega) (by omega) (by omega)) (by rw [sm 102 (by omega) (by omega) (by omega)]) (fun k _ => by rw [sm 101 (by omega) (by omega) (by omega)]), g8.same (fun k hk => sm _ (by omega) (by omega) (by omega)) (by rw [sm 102 (by omega) (by omega) (by omega)]) (fun k _ => by rw [sm 101 (by omega) (by omega) (by omega)])⟩
        · unfold Rtape
          rw [e1, s2, u5]
          exact ⟨by decide, by decide, rfl, fun j hj => absurd hj (by omega)⟩
        · unfold Rflt
          rw [e1, s3, s4, u13, u14]
          exact ⟨rfl, rfl, by omega, by omega, by omega, by omega⟩
        · rw [sm 13 (by omega) (by omega) (by omega), sm 98 (by omega) (by omega) (by omega), sm 101 (by omega) (by omega) (by omega)]
          exact g4
      · rw [hr] at hr'
        exact absurd hr' (by simp)
    · obtain ⟨⟨a0, a1, a2, a3, a4, a5⟩, aO, aP, aT, aR⟩ := id hD
      have B1 : (bcS σ1 13 3) 13 1 = (dPs D).length := by rw [bc_f (by omega)]; exact a1
      have B2 : (bcS σ1 13 3) 13 2 = (dTs D).length := by rw [bc_f (by omega)]; exact a2
      simp (disch := first | (simp only [nlP_n, nlP_I, nlP_R, catP_I, catP_R, st8_0, st8_1, st8_2, st8_3, st8_4, b01, or_true, true_or, eq_self, iRP98, iRP99, iRP86, iRP97, iRP47, iRP57, rcP0, rcP1, rcP3, rcP13, rcP22, rcP25, rcP37, rcP45, rcP55, rcP65, rcP74, rcP76, rcP77, rcP87, rcP88, rcP100]; done) | omega | assumption | (simp (disch := omega) only [cel_s, cel_n, up1_s, up1_n, up1_e, put_out, fill_in]; omega) | (apply isRow_past; omega) | (apply isRow_seek; omega) | (apply isRow_guess; omega)) only [ww120_26, ww120_40, ww120_41, ww120_44, ww120_45, ww120_48, ww120_51, ww120_54, ww120_55, ww120_58, ww120_59, ww120_62, cl_become_13_3, ↓iteT, ↓iteF, andT, w32_eq, yL_1, Int.toNat_natCast, Int.toNat_add, Int.toNat_mul, Int.toNat_sub, cel_s, cel_n, up1_cel, upS_cel, cel_cel, up1_s, up1_n, up1_e, rdI_n, rdB_n, Int.reduceMul, Int.reduceDiv, Int.reduceMod, Nat.reduceMul, Nat.reduceSub, Nat.zero_add, Int.zero_add, Nat.add_zero, Int.add_zero, ite_self, Option.toList_some, Option.toList_none, List.cons_append, List.nil_append, rdI_c, and_true, true_and, and_self, not_false_eq_true, not_true_eq_false, if_true, if_false, or_false, false_or, ne_eq, and_false, false_and, rdI_n, Nat.reduceEqDiff, Nat.reduceAdd, Nat.reduceLeDiff, Int.reduceEq, Int.reduceLT, Int.reduceLE, Int.reduceNeg, Int.reduceToNat, Int.reduceAdd, Int.reduceSub, List.append_nil, ki2, ki4, ki5, ki6, ki7, ki8, ki9, ki10, ki11, ki12, ki14, ki15, ki16, ki17, ki18, ki19, ki20, ki21, ki23, ki24, ki27, ki28, ki29, ki30, ki31, ki32, ki33, ki34, ki35, ki36, ki38, ki39, ki47, ki48, ki49, ki50, ki51, ki52, ki57, ki58, ki59, ki60, ki61, ki62, ki66, ki67, ki69, ki70, ki71, ki72, ki73, ki78, ki79, ki80, ki81, ki82, ki83, ki84, ki85, ki86, ki89, ki90, ki91, ki92, ki93, ki94, ki95, ki96, ki97, ki98, ki99, ki101, ki103, ki104, ki105, ki106, ki107, ki108, ki109, ki110, ki111, ki112, ki113, ki114, ki115, ki116, ki117, ki118, ki121, ki122, ki123, ki3000, kb68, kb102, kr26, kr40, kr46, kr56, kw2, kw4, kw5, kw6, kw7, kw8, kw9, kw10, kw11, kw12, kw14, kw15, kw16, kw17, kw18, kw19, kw20, kw21, kw23, kw24, kw27, kw28, kw29, kw30, kw31, kw32, kw33, kw34, kw35, kw36, kw38, kw39, kw41, kw42, kw43, kw44, kw47, kw48, kw49, kw50, kw51, kw52, kw53, kw54, kw57, kw58, kw59, kw60, kw61, kw62, kw63, kw64, kw66, kw67, kw68, kw69, kw70, kw71, kw72, kw73, kw75, kw78, kw79, kw80, kw81, kw82, kw83, kw84, kw85, kw86, kw89, kw90, kw91, kw92, kw93, kw94, kw95, kw96, kw97, kw98, kw99, kw101, kw102, kw103, kw104, kw105, kw106, kw107, kw108, kw109, kw110, kw111, kw112, kw113, kw114, kw115, kw116, kw117, kw118, kw119, kw120, kw121, kw122, kw123, kw124]
      refine cl_setUp B1 hB.2.1 B2 hB.2.2.1 (fun g hg => ?_)
      have B5 : (cel (cel (bcS σ1 13 3) 98 g) 25 (up1 ((bcS σ1 13 3) 25) 0 0)) 13 5 = dLn D := by
        rw [cel_n (by decide), cel_n (by decide), bc_f (by omega)]
        exact a5
      simp (disch := first | (simp only [nlP_n, nlP_I, nlP_R, catP_I, catP_R, st8_0, st8_1, st8_2, st8_3, st8_4, b01, or_true, true_or, eq_self, iRP98, iRP99, iRP86, iRP97, iRP47, iRP57, rcP0, rcP1, rcP3, rcP13, rcP22, rcP25, rcP37, rcP45, rcP55, rcP65, rcP74, rcP76, rcP77, rcP87, rcP88, rcP100]; done) | omega | assumption | (simp (disch := omega) only [cel_s, cel_n, up1_s, up1_n, up1_e, put_out, fill_in]; omega) | (apply isRow_past; omega) | (apply isRow_seek; omega) | (apply isRow_guess; omega)) only [ww120_65, ww120_66, ww120_69, ww120_72, ww120_73, ww120_76i3, ww120_76i13, ww120_76i77, ww120_76i88, ww120_79, cl_forget, B5, ↓iteT, ↓iteF, andT, w32_eq, yL_1, Int.toNat_natCast, Int.toNat_add, Int.toNat_mul, Int.toNat_sub, cel_s, cel_n, up1_cel, upS_cel, cel_cel, up1_s, up1_n, up1_e, rdI_n, rdB_n, Int.reduceMul, Int.reduceDiv, Int.reduceMod, Nat.reduceMul, Nat.reduceSub, Nat.zero_add, Int.zero_add, Nat.add_zero, Int.add_zero, ite_self, Option.toList_some, Option.toList_none, List.cons_append, List.nil_append, rdI_c, and_true, true_and, and_self, not_false_eq_true, not_true_eq_false, if_true, if_false, or_false, false_or, ne_eq, and_false, false_and, rdI_n, Nat.reduceEqDiff, Nat.reduceAdd, Nat.reduceLeDiff, Int.reduceEq, Int.reduceLT, Int.reduceLE, Int.reduceNeg, Int.reduceToNat, Int.reduceAdd, Int.reduceSub, List.append_nil, ki2, ki4, ki5, ki6, ki7, ki8, ki9, ki10, ki11, ki12, ki14, ki15, ki16, ki17, ki18, ki19, ki20, ki21, ki23, ki24, ki27, ki28, ki29, ki30, ki31, ki32, ki33, ki34, ki35, ki36, ki38, ki39, ki47, ki48, ki49, ki50, ki51, ki52, ki57, ki58, ki59, ki60, ki61, ki62, ki66, ki67, ki69, ki70, ki71, ki72, ki73, ki78, ki79, ki80, ki81, ki82, ki83, ki84, ki85, ki86, ki89, ki90, ki91, ki92, ki93, ki94, ki95, ki96, ki97, ki98, ki99, ki101, ki103, ki104, ki105, ki106, ki107, ki108, ki109, ki110, ki111, ki112, ki113, ki114, ki115, ki116, ki117, ki118, ki121, ki122, ki123, ki3000, kb68, kb102, kr26, kr40, kr46, kr56, kw2, kw4, kw5, kw6, kw7, kw8, kw9, kw10, kw11, kw12, kw14, kw15, kw16, kw17, kw18, kw19, kw20, kw21, kw23, kw24, kw27, kw28, kw29, kw30, kw31, kw32, kw33, kw34, kw35, kw36, kw38, kw39, kw41, kw42, kw43, kw44, kw47, kw48, kw49, kw50, kw51, kw52, kw53, kw54, kw57, kw58, kw59, kw60, kw61, kw62, kw63, kw64, kw66, kw67, kw68, kw69, kw70, kw71, kw72, kw73, kw75, kw78, kw79, kw80, kw81, kw82, kw83, kw84, kw85, kw86, kw89, kw90, kw91, kw92, kw93, kw94, kw95, kw96, kw97, kw98, kw99, kw101, kw102, kw103, kw104, kw105, kw106, kw107, kw108, kw109, kw110, kw111, kw112, kw113, kw114, kw115, kw116, kw117, kw118, kw119, kw120, kw121, kw122, kw123, kw124]
      have eb : ∀ a, a ≠ 25 → a ≠ 98 → (cel (cel (bcS σ1 13 3) 98 g) 25 (up1 ((bcS σ1 13 3) 25) 0 0)) a = bcS σ1 13 3 a := fun a h1 h2 => by rw [cel_n h1, cel_n h2]
      have e98 : (cel (cel (bcS σ1 13 3) 98 g) 25 (up1 ((bcS σ1 13 3) 25) 0 0)) 98 = g := by rw [cel_n (by decide), cel_s]
      have e25 : (cel (cel (bcS σ1 13 3) 98 g) 25 (up1 ((bcS σ1 13 3) 25) 0 0)) 25 = up1 (σ1 25) 0 0 := by rw [cel_s, bc_n (by omega)]
      generalize (cel (cel (bcS σ1 13 3) 98 g) 25 (up1 ((bcS σ1 13 3) 25) 0 0)) = σ4 at *
      have e4 : ∀ a, a ≠ 25 → a ≠ 98 → (a < 13 ∨ 13 + 8 < a) → σ4 a = σ1 a := fun a h1 h2 h3 => by rw [eb a h1 h2, bc_n h3]
      have b14 : bcS σ1 13 3 14 = fillF (σ1 4) (σ1 14) 3 := by
        unfold bcS
        simp (disch := omega) only [Nat.reduceAdd, cel_s, cel_n]
      have b15 : bcS σ1 13 3 15 = fillF (σ1 5) (σ1 15) 3 := by
        unfold bcS
        simp (disch := omega) only [Nat.reduceAdd, cel_s, cel_n]
      have b16 : bcS σ1 13 3 16 = fillF (σ1 6) (σ1 16) 4 := by
        unfold bcS
        simp (disch := omega) only [Nat.reduceAdd, cel_s, cel_n]
      have b17 : bcS σ1 13 3 17 = fillF (σ1 7) (σ1 17) 8 := by
        unfold bcS
        simp (disch := omega) only [Nat.reduceAdd, cel_s, cel_n]
      have b18 : bcS σ1 13 3 18 = fillF (σ1 8) (σ1 18) 8 := by
        unfold bcS
        simp (disch := omega) only [Nat.reduceAdd, cel_s, cel_n]
      have b19 : bcS σ1 13 3 19 = fillF (σ1 9) (σ1 19) 8 := by
        unfold bcS
        simp (disch := omega) only [Nat.reduceAdd, cel_s, cel_n]
      have b20 : bcS σ1 13 3 20 = fillF (σ1 10) (σ1 20) 8 := by
        unfold bcS
        simp (disch := omega) only [Nat.reduceAdd, cel_s, cel_n]
      have b21 : bcS σ1 13 3 21 = fillF (σ1 11) (σ1 21) 900 := by
        unfold bcS
        simp (disch := omega) only [Nat.reduceAdd, cel_s, cel_n]
      refine me_arc (b := σ 2) (σ := σ4) ⟨hL, fun j hj => by
        rw [e4 103 (by omega) (by omega) (by omega), s1 103 (by omega)]
        exact t3 j (by omega)⟩ (by rw [e4 100 (by omega) (by omega) (by omega), s1 100 (by omega)]; omega) (by rw [e4 100 (by omega) (by omega) (by omega), s1 100 (by omega)]; omega) (fun f p hr' => by
        rw [hr] at hr'
        exact absurd hr' (by simp)) (fun D' G hr' hDG hGO hOK hOl l0 l1 σ' u1 u5 u13 u14 u101 u102 => ?_)
      rw [hr] at hr'
      cases hr'
      have v1 : ∀ a, a ≠ 100 → a ≠ 101 → a ≠ 104 → a ≠ 25 → a ≠ 98 → σ' a = bcS σ1 13 3 a := fun a h1 h2 h3 h4 h5 => by rw [u1 a h1 h2 h3, eb a h4 h5]
      refine ⟨⟨_, rfl, rfl⟩, fin_arc (τ := σ1) (D := D) (G := G) hI ⟨?_, ?_, ?_⟩ (fun j hj => ?_) (fun j hj => ?_) (fun j hj => ⟨?_, ?_, ?_, ?_⟩) (fun j hj => ?_) (fun k hk => ?_) ⟨?_, ?_⟩ ⟨u5, u13, u14⟩ u101 (fun k hk => ?_) (fun a ha => ?_) hD hDG hGO hOK hOl l0 l1⟩
      · rw [v1 1 (by omega) (by omega) (by omega) (by omega) (by omega), bc_n (by omega)]
        exact s2
      · rw [v1 1 (by omega) (by omega) (by omega) (by omega) (by omega), bc_n (by omega)]
        exact s3
      · rw [v1 1 (by omega) (by omega) (by omega) (by omega) (by omega), bc_n (by omega)]
        exact s4
      · rw [v1 13 (by omega) (by omega) (by omega) (by omega) (by omega), bc_f hj]
      · rw [v1 15 (by omega) (by omega) (by omega) (by omega) (by omega), b15, fill_in hj]
      · rw [v1 17 (by omega) (by omega) (by omega) (by omega) (by omega), b17, fill_in hj]
      · rw [v1 18 (by omega) (by omega) (by omega) (by omega) (by omega), b18, fill_in hj]
      · rw [v1 19 (by omega) (by omega) (by omega) (by omega) (by omega), b19, fill_in hj]
      · rw [v1 20 (by omega) (by omega) (by omega) (by omega) (by omega), b20, fill_in hj]
      · rw [v1 21 (by omega) (by omega) (by omega) (by omega) (by omega), b21, fill_in hj]
      · rw [u1 98 (by omega) (by omega) (by omega), e98, hg k hk, b14, b16]
        have p3 := hB.2.1
        have p4 := hB.2.2.1
        unfold suF
        (repeat' split) <;> first | rfl | (exfalso; omega) | (rw [fill_in (by omega)])
      · rw [u1 25 (by omega) (by omega) (by omega), e25, up1_s]
      · rw [u1 25 (by omega) (by omega) (by omega), e25, up1_n (by omega), s1 25 (by omega)]
      · rw [u102 k hk, e4 101 (by omega) (by omega) (by omega), s1 101 (by omega)]
      · rw [v1 a (by omega) (by omega) (by omega) (by omega) (by omega), bc_n (by omega), s1 a (by omega)]
  · rw [ee120]
    have wi := fun (σ' : mw_S) (Q' : Option mw_V → mw_S → Prop) (d' : Nat) => wi_ (d := d') (v := v1) (lo := 0) (hi := σ 1 2) (σ := σ') (Q := Q') i1 ⟨by omega, by omega⟩ ⟨by omega, by omega⟩
    rw [if_neg c] at wi
    have y1 := yL_eq i1
    by_cases c0 : 0 ≤ v1
    · have c1 : ¬ v1 ≤ σ 1 2 := fun z => c ⟨c0, z⟩
      simp (disch := first | (simp only [nlP_n, nlP_I, nlP_R, catP_I, catP_R, st8_0, st8_1, st8_2, st8_3, st8_4, b01, or_true, true_or, eq_self, iRP98, iRP99, iRP86, iRP97, iRP47, iRP57, rcP0, rcP1, rcP3, rcP13, rcP22, rcP25, rcP37, rcP45, rcP55, rcP65, rcP74, rcP76, rcP77, rcP87, rcP88, rcP100]; done) | omega | assumption | (simp (disch := omega) only [cel_s, cel_n, up1_s, up1_n, up1_e, put_out, fill_in]; omega) | (apply isRow_past; omega) | (apply isRow_seek; omega) | (apply isRow_guess; omega)) only [ww120_0, ww120_1, ww120_4, ww120_5, ww120_6, ww120_9, ww120_12, ww120_15, ww120_17, ee194, ↓iteT, ↓iteF, andT, w32_eq, yL_1, Int.toNat_natCast, Int.toNat_add, Int.toNat_mul, Int.toNat_sub, cel_s, cel_n, up1_cel, upS_cel, cel_cel, up1_s, up1_n, up1_e, rdI_n, rdB_n, Int.reduceMul, Int.reduceDiv, Int.reduceMod, Nat.reduceMul, Nat.reduceSub, Nat.zero_add, Int.zero_add, Nat.add_zero, Int.add_zero, ite_self, Option.toList_some, Option.toList_none, List.cons_append, List.nil_append, rdI_c, and_true, true_and, and_self, not_false_eq_true, not_true_eq_false, if_true, if_false, or_false, false_or, ne_eq, and_false, false_and, rdI_n, Nat.reduceEqDiff, Nat.reduceAdd, Nat.reduceLeDiff, Int.reduceEq, Int.reduceLT, Int.reduceLE, Int.reduceNeg, Int.reduceToNat, Int.reduceAdd, Int.reduceSub, List.append_nil, ki2, ki4, ki5, ki6, ki7, ki8, ki9, ki10, ki11, ki12, ki14, ki15, ki16, ki17, ki18, ki19, ki20, ki21, ki23, ki24, ki27, ki28, ki29, ki30, ki31, ki32, ki33, ki34, ki35, ki36, ki38, ki39, ki47, ki48, ki49, ki50, ki51, ki52, ki57, ki58, ki59, ki60, ki61, ki62, ki66, ki67, ki69, ki70, ki71, ki72, ki73, ki78, ki79, ki80, ki81, ki82, ki83, ki84, ki85, ki86, ki89, ki90, ki91, ki92, ki93, ki94, ki95, ki96, ki97, ki98, ki99, ki101, ki103, ki104, ki105, ki106, ki107, ki108, ki109, ki110, ki111, ki112, ki113, ki114, ki115, ki116, ki117, ki118, ki121, ki122, ki123, ki3000, kb68, kb102, kr26, kr40, kr46, kr56, kw2, kw4, kw5, kw6, kw7, kw8, kw9, kw10, kw11, kw12, kw14, kw15, kw16, kw17, kw18, kw19, kw20, kw21, kw23, kw24, kw27, kw28, kw29, kw30, kw31, kw32, kw33, kw34, kw35, kw36, kw38, kw39, kw41, kw42, kw43, kw44, kw47, kw48, kw49, kw50, kw51, kw52, kw53, kw54, kw57, kw58, kw59, kw60, kw61, kw62, kw63, kw64, kw66, kw67, kw68, kw69, kw70, kw71, kw72, kw73, kw75, kw78, kw79, kw80, kw81, kw82, kw83, kw84, kw85, kw86, kw89, kw90, kw91, kw92, kw93, kw94, kw95, kw96, kw97, kw98, kw99, kw101, kw102, kw103, kw104, kw105, kw106, kw107, kw108, kw109, kw110, kw111, kw112, kw113, kw114, kw115, kw116, kw117, kw118, kw119, kw120, kw121, kw122, kw123, kw124]
      simp (disch := first | (simp only [nlP_n, nlP_I, nlP_R, catP_I, catP_R, st8_0, st8_1, st8_2, st8_3, st8_4, b01, or_true, true_or, eq_self, iRP98, iRP99, iRP86, iRP97, iRP47, iRP57, rcP0, rcP1, rcP3, rcP13, rcP22, rcP25, rcP37, rcP45, rcP55, rcP65, rcP74, rcP76, rcP77, rcP87, rcP88, rcP100]; done) | omega | assumption | (simp (disch := omega) only [cel_s, cel_n, up1_s, up1_n, up1_e, put_out, fill_in]; omega) | (apply isRow_past; omega) | (apply isRow_seek; omega) | (apply isRow_guess; omega)) only [ww194_0, ww194_1, ww194_2, ww194_5, ww194_6, ww194_7, ww194_8, ww194_9, ww194_12, ww194_13, ww194_16, ww194_19, ww194_21, t2, y1, wi, ↓iteT, ↓iteF, andT, w32_eq, yL_1, Int.toNat_natCast, Int.toNat_add, Int.toNat_mul, Int.toNat_sub, cel_s, cel_n, up1_cel, upS_cel, cel_cel, up1_s, up1_n, up1_e, rdI_n, rdB_n, Int.reduceMul, Int.reduceDiv, Int.reduceMod, Nat.reduceMul, Nat.reduceSub, Nat.zero_add, Int.zero_add, Nat.add_zero, Int.add_zero, ite_self, Option.toList_some, Option.toList_none, List.cons_append, List.nil_append, rdI_c, and_true, true_and, and_self, not_false_eq_true, not_true_eq_false, if_true, if_false, or_false, false_or, ne_eq, and_false, false_and, rdI_n, Nat.reduceEqDiff, Nat.reduceAdd, Nat.reduceLeDiff, Int.reduceEq, Int.reduceLT, Int.reduceLE, Int.reduceNeg, Int.reduceToNat, Int.reduceAdd, Int.reduceSub, List.append_nil, ki2, ki4, ki5, ki6, ki7, ki8, ki9, ki10, ki11, ki12, ki14, ki15, ki16, ki17, ki18, ki19, ki20, ki21, ki23, ki24, ki27, ki28, ki29, ki30, ki31, ki32, ki33, ki34, ki35, ki36, ki38, ki39, ki47, ki48, ki49, ki50, ki51, ki52, ki57, ki58, ki59, ki60, ki61, ki62, ki66, ki67, ki69, ki70, ki71, ki72, ki73, ki78, ki79, ki80, ki81, ki82, ki83, ki84, ki85, ki86, ki89, ki90, ki91, ki92, ki93, ki94, ki95, ki96, ki97, ki98, ki99, ki101, ki103, ki104, ki105, ki106, ki107, ki108, ki109, ki110, ki111, ki112, ki113, ki114, ki115, ki116, ki117, ki118, ki121, ki122, ki123, ki3000, kb68, kb102, kr26, kr40, kr46, kr56, kw2, kw4, kw5, kw6, kw7, kw8, kw9, kw10, kw11, kw12, kw14, kw15, kw16, kw17, kw18, kw19, kw20, kw21, kw23, kw24, kw27, kw28, kw29, kw30, kw31, kw32, kw33, kw34, kw35, kw36, kw38, kw39, kw41, kw42, kw43, kw44, kw47, kw48, kw49, kw50, kw51, kw52, kw53, kw54, kw57, kw58, kw59, kw60, kw61, kw62, kw63, kw64, kw66, kw67, kw68, kw69, kw70, kw71, kw72, kw73, kw75, kw78, kw79, kw80, kw81, kw82, kw83, kw84, kw85, kw86, kw89, kw90, kw91, kw92, kw93, kw94, kw95, kw96, kw97, kw98, kw99, kw101, kw102, kw103, kw104, kw105, kw106, kw107, kw108, kw109, kw110, kw111, kw112, kw113, kw114, kw115, kw116, kw117, kw118, kw119, kw120, kw121, kw122, kw123, kw124]
      exact ⟨⟨_, rfl⟩, hT⟩
    · simp (disch := first | (simp only [nlP_n, nlP_I, nlP_R, catP_I, catP_R, st8_0, st8_1, st8_2, st8_3, st8_4, b01, or_true, true_or, eq_self, iRP98, iRP99, iRP86, iRP97, iRP47, iRP57, rcP0, rcP1, rcP3, rcP13, rcP22, rcP25, rcP37, rcP45, rcP55, rcP65, rcP74, rcP76, rcP77, rcP87, rcP88, rcP100]; done) | omega | assumption | (simp (disch := omega) only [cel_s, cel_n, up1_s, up1_n, up1_e, put_out, fill_in]; omega) | (apply isRow_past; omega) | (apply isRow_seek; omega) | (apply isRow_guess; omega)) only [ww120_0, ww120_1, ww120_4, ww120_5, ww120_6, ww120_9, ww120_12, ww120_15, ww120_17, ee194, ↓iteT, ↓iteF, andT, w32_eq, yL_1, Int.toNat_natCast, Int.toNat_add, Int.toNat_mul, Int.toNat_sub, cel_s, cel_n, up1_cel, upS_cel, cel_cel, up1_s, up1_n, up1_e, rdI_n, rdB_n, Int.reduceMul, Int.reduceDiv, Int.reduceMod, Nat.reduceMul, Nat.reduceSub, Nat.zero_add, Int.zero_add, Nat.add_zero, Int.add_zero, ite_self, Option.toList_some, Option.toList_none, List.cons_append, List.nil_append, rdI_c, and_true, true_and, and_self, not_false_eq_true, not_true_eq_false, if_true, if_false, or_false, false_or, ne_eq, and_false, false_and, rdI_n, Nat.reduceEqDiff, Nat.reduceAdd, Nat.reduceLeDiff, Int.reduceEq, Int.reduceLT, Int.reduceLE, Int.reduceNeg, Int.reduceToNat, Int.reduceAdd, Int.reduceSub, List.append_nil, ki2, ki4, ki5, ki6, ki7, ki8, ki9, ki10, ki11, ki12, ki14, ki15, ki16, ki17, ki18, ki19, ki20, ki21, ki23, ki24, ki27, ki28, ki29, ki30, ki31, ki32, ki33, ki34, ki35, ki36, ki38, ki39, ki47, ki48, ki49, ki50, ki51, ki52, ki57, ki58, ki59, ki60, ki61, ki62, ki66, ki67, ki69, ki70, ki71, ki72, ki73, ki78, ki79, ki80, ki81, ki82, ki83, ki84, ki85, ki86, ki89, ki90, ki91, ki92, ki93, ki94, ki95, ki96, ki97, ki98, ki99, ki101, ki103, ki104, ki105, ki106, ki107, ki108, ki109, ki110, ki111, ki112, ki113, ki114, ki115, ki116, ki117, ki118, ki121, ki122, ki123, ki3000, kb68, kb102, kr26, kr40, kr46, kr56, kw2, kw4, kw5, kw6, kw7, kw8, kw9, kw10, kw11, kw12, kw14, kw15, kw16, kw17, kw18, kw19, kw20, kw21, kw23, kw24, kw27, kw28, kw29, kw30, kw31, kw32, kw33, kw34, kw35, kw36, kw38, kw39, kw41, kw42, kw43, kw44, kw47, kw48, kw49, kw50, kw51, kw52, kw53, kw54, kw57, kw58, kw59, kw60, kw61, kw62, kw63, kw64, kw66, kw67, kw68, kw69, kw70, kw71, kw72, kw73, kw75, kw78, kw79, kw80, kw81, kw82, kw83, kw84, kw85, kw86, kw89, kw90, kw91, kw92, kw93, kw94, kw95, kw96, kw97, kw98, kw99, kw101, kw102, kw103, kw104, kw105, kw106, kw107, kw108, kw109, kw110, kw111, kw112, kw113, kw114, kw115, kw116, kw117, kw118, kw119, kw120, kw121, kw122, kw123, kw124]
      simp (disch := first | (simp only [nlP_n, nlP_I, nlP_R, catP_I, catP_R, st8_0, st8_1, st8_2, st8_3, st8_4, b01, or_true, true_or, eq_self, iRP98, iRP99, iRP86, iRP97, iRP47, iRP57, rcP0, rcP1, rcP3, rcP13, rcP22, rcP25, rcP37, rcP45, rcP55, rcP65, rcP74, rcP76, rcP77, rcP87, rcP88, rcP100]; done) | omega | assumption | (simp (disch := omega) only [cel_s, cel_n, up1_s, up1_n, up1_e, put_out, fill_in]; omega) | (apply isRow_past; omega) | (apply isRow_seek; omega) | (apply isRow_guess; omega)) only [ww194_0, ww194_1, ww194_2, ww194_5, ww194_6, ww194_7, ww194_8, ww194_9, ww194_12, ww194_13, ww194_16, ww194_19, ww194_21, t2, y1, wi, ↓iteT, ↓iteF, andT, w32_eq, yL_1, Int.toNat_natCast, Int.toNat_add, Int.toNat_mul, Int.toNat_sub, cel_s, cel_n, up1_cel, upS_cel, cel_cel, up1_s, up1_n, up1_e, rdI_n, rdB_n, Int.reduceMul, Int.reduceDiv, Int.reduceMod, Nat.reduceMul, Nat.reduceSub, Nat.zero_add, Int.zero_add, Nat.add_zero, Int.add_zero, ite_self, Option.toList_some, Option.toList_none, List.cons_append, List.nil_append, rdI_c, and_true, true_and, and_self, not_false_eq_true, not_true_eq_false, if_true, if_false, or_false, false_or, ne_eq, and_false, false_and, rdI_n, Nat.reduceEqDiff, Nat.reduceAdd, Nat.reduceLeDiff, Int.reduceEq, Int.reduceLT, Int.reduceLE, Int.reduceNeg, Int.reduceToNat, Int.reduceAdd, Int.reduceSub, List.append_nil, ki2, ki4, ki5, ki6, ki7, ki8, ki9, ki10, ki11, ki12, ki14, ki15, ki16, ki17, ki18, ki19, ki20, ki21, ki23, ki24, ki27, ki28, ki29, ki30, ki31, ki32, ki33, ki34, ki35, ki36, ki38, ki39, ki47, ki48, ki49, ki50, ki51, ki52, ki57, ki58, ki59, ki60, ki61, ki62, ki66, ki67, ki69, ki70, ki71, ki72, ki73, ki78, ki79, ki80, ki81, ki82, ki83, ki84, ki85, ki86, ki89, ki90, ki91, ki92, ki93, ki94, ki95, ki96, ki97, ki98, ki99, ki101, ki103, ki104, ki105, ki106, ki107, ki108, ki109, ki110, ki111, ki112, ki113, ki114, ki115, ki116, ki117, ki118, ki121, ki122, ki123, ki3000, kb68, kb102, kr26, kr40, kr46, kr56, kw2, kw4, kw5, kw6, kw7, kw8, kw9, kw10, kw11, kw12, kw14, kw15, kw16, kw17, kw18, kw19, kw20, kw21, kw23, kw24, kw27, kw28, kw29, kw30, kw31, kw32, kw33, kw34, kw35, kw36, kw38, kw39, kw41, kw42, kw43, kw44, kw47, kw48, kw49, kw50, kw51, kw52, kw53, kw54, kw57, kw58, kw59, kw60, kw61, kw62, kw63, kw64, kw66, kw67, kw68, kw69, kw70, kw71, kw72, kw73, kw75, kw78, kw79, kw80, kw81, kw82, kw83, kw84, kw85, kw86, kw89, kw90, kw91, kw92, kw93, kw94, kw95, kw96, kw97, kw98, kw99, kw101, kw102, kw103, kw104, kw105, kw106, kw107, kw108, kw109, kw110, kw111, kw112, kw113, kw114, kw115, kw116, kw117, kw118, kw119, kw120, kw121, kw122, kw123, kw124]
      exact ⟨⟨_, rfl⟩, hT⟩
