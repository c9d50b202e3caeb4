/-! odds, both walks -/
def oWF (deep miss : Int) (xs : Nat → Int) : Nat → Nat → (Nat → Int) → Nat → Int
  | 0, _, w => w
  | n + 1, i, w => oWF deep miss xs n (i + 1) (spZ deep miss (xs i) w)
theorem oWF_s {deep miss : Int} {xs : Nat → Int} {n i : Nat} {w : Nat → Int} : oWF deep miss xs (n + 1) i w = oWF deep miss xs n (i + 1) (spZ deep miss (xs i) w) := rfl
theorem oWF_congr {deep miss : Int} {xs : Nat → Int} {D : Nat} (d0 : 0 ≤ deep) (hD : deep ≤ D) : ∀ (n i : Nat) (w w' : Nat → Int), (∀ k, k < D → w k = w' k) → ∀ k, k < D → oWF deep miss xs n i w k = oWF deep miss xs n i w' k
  | 0, _, _, _, h => h
  | n + 1, i, w, w', h => by
    unfold oWF
    exact oWF_congr d0 hD n (i + 1) _ _ (fun k hk => spF_congr hD (fun j hj => h j (by omega)) _ _ _ _ (by omega) (fun _ _ => rfl) k hk)
theorem oWF_xs {deep miss : Int} {xs xs' : Nat → Int} : ∀ (n i : Nat) (w : Nat → Int), (∀ k, i ≤ k → k < i + n → xs k = xs' k) → oWF deep miss xs n i w = oWF deep miss xs' n i w
  | 0, _, _, _ => rfl
  | n + 1, i, w, h => by
    unfold oWF
    rw [h i (Nat.le_refl _) (by omega), oWF_xs n (i + 1) _ (fun k h1 h2 => h k (by omega) (by omega))]
/-- what was told, with doings of a row put behind it -/
def tdF (v : Nat → Int) (p : Nat) (t : Int) : Nat → Int
  | 0 => t
  | n + 1 => tbF (tdF v p t n) (v n / nin p % 9)
theorem tdF_td {v : Nat → Int} {p : Nat} {t : Int} (h : td4 t) : ∀ n, td4 (tdF v p t n)
  | 0 => h
  | n + 1 => by
    unfold tdF
    exact (tb_td (tdF_td h n) (by omega) (by omega)).1
theorem dg_tb {t x l : Int} (x0 : 0 ≤ x) (x8 : x ≤ 8) (t0 : 0 ≤ t) (l0 : 0 ≤ l) (l4 : l ≤ 4) : dgF (tbF t x) l = if l = 0 then x else dgF t (l - 1) := by
  unfold tbF
  rcases (show l = 0 ∨ l = 1 ∨ l = 2 ∨ l = 3 ∨ l = 4 by omega) with rfl | rfl | rfl | rfl | rfl
  · rw [if_pos rfl, show ∀ z, dgF z 0 = z % 16 from fun _ => rfl]
    omega
  · rw [if_neg (by decide), show ∀ z, dgF z 1 = z / 16 % 16 from fun _ => rfl, show ((1 : Int) - 1) = 0 from rfl, show ∀ z, dgF z 0 = z % 16 from fun _ => rfl]
    omega
  · rw [if_neg (by decide), show ∀ z, dgF z 2 = z / 256 % 16 from fun _ => rfl, show ((2 : Int) - 1) = 1 from rfl, show ∀ z, dgF z 1 = z / 16 % 16 from fun _ => rfl]
    omega
  · rw [if_neg (by decide), show ∀ z, dgF z 3 = z / 4096 % 16 from fun _ => rfl, show ((3 : Int) - 1) = 2 from rfl, show ∀ z, dgF z 2 = z / 256 % 16 from fun _ => rfl]
    omega
  · rw [if_neg (by decide), show ∀ z, dgF z 4 = z / 65536 % 16 from fun _ => rfl, show ((4 : Int) - 1) = 3 from rfl, show ∀ z, dgF z 3 = z / 4096 % 16 from fun _ => rfl]
    omega
theorem dg_td {v : Nat → Int} {p : Nat} {t : Int} (h : td4 t) : ∀ (n : Nat) (l : Nat), l ≤ 4 → dgF (tdF v p t (n + 1)) l = if l ≤ n then v (n - l) / nin p % 9 else dgF t ((l : Int) - n - 1)
  | 0, l, hl => by
    unfold tdF
    rw [dg_tb (by omega) (by omega) (tdF_td h 0).1 (by omega) (by omega)]
    by_cases e : l = 0
    · subst e
      rw [if_pos (show ((0 : Nat) : Int) = 0 from rfl), if_pos (by omega)]
    · rw [if_neg (by omega), if_neg (by omega)]
      unfold tdF
      congr 1 <;> omega
  | n + 1, l, hl => by
    unfold tdF
    rw [dg_tb (by omega) (by omega) (tdF_td h (n + 1)).1 (by omega) (by omega)]
    by_cases e : l = 0
    · subst e
      rw [if_pos (show ((0 : Nat) : Int) = 0 from rfl), if_pos (by omega)]
      rfl
    · rw [if_neg (by omega), show (l : Int) - 1 = ((l - 1 : Nat) : Int) by omega, dg_td h n (l - 1) (by omega)]
      by_cases e2 : l ≤ n + 1
      · rw [if_pos (by omega), if_pos e2, show n - (l - 1) = n + 1 - l by omega]
      · rw [if_neg (by omega), if_neg e2]
        congr 1 <;> omega
theorem wp_wz {d : Nat} {a0 : Nat} {p t c : Int} {l7 l8 : Option mw_V} {σ : mw_S} {Q : Option mw_V → mw_S → Prop} : ∀ (n i : Nat), i + n = 9 → (mw_WP d 25 3 [some (jR 55), some (jR a0), some (jI p), some (jR 37), some (jI t), some (jI c), some (jI i), l7, l8] [] (cel σ 63 (fillF zF (σ 63) i)) Q ↔ mw_WP d 25 24 [some (jR 55), some (jR a0), some (jI p), some (jR 37), some (jI t), some (jI c), some (jI 9), l7, l8] [] (cel σ 63 (fillF zF (σ 63) 9)) Q)
  | 0, i, h => by
    obtain rfl : i = 9 := by omega
    simp (disch := first | (simp only [nlP_n, nlP_I, nlP_R, catP_I, catP_R, st8_0, st8_1, st8_2, st8_3, st8_4, b01, or_true, true_or, eq_self, iRP98, iRP99, iRP86, iRP97, iRP47, iRP57, rcP0, rcP1, rcP3, rcP13, rcP22, rcP25, rcP37, rcP45, rcP55, rcP65, rcP74, rcP76, rcP77, rcP87, rcP88, rcP100]; done) | omega | assumption | (simp (disch := omega) only [cel_s, cel_n, up1_s, up1_n, up1_e, put_out, fill_in]; omega) | (apply isRow_past; omega) | (apply isRow_seek; omega) | (apply isRow_guess; omega)) only [ww25_3, ww25_5, ww25_7, ↓iteT, ↓iteF, andT, w32_eq, yL_1, Int.toNat_natCast, Int.toNat_add, Int.toNat_mul, Int.toNat_sub, cel_s, cel_n, up1_cel, upS_cel, cel_cel, up1_s, up1_n, up1_e, rdI_n, rdB_n, Int.reduceMul, Int.reduceDiv, Int.reduceMod, Nat.reduceMul, Nat.reduceSub, Nat.zero_add, Int.zero_add, Nat.add_zero, Int.add_zero, ite_self, Option.toList_some, Option.toList_none, List.cons_append, List.nil_append, rdI_c, and_true, true_and, and_self, not_false_eq_true, not_true_eq_false, if_true, if_false, or_false, false_or, ne_eq, and_false, false_and, rdI_n, Nat.reduceEqDiff, Nat.reduceAdd, Nat.reduceLeDiff, Int.reduceEq, Int.reduceLT, Int.reduceLE, Int.reduceNeg, Int.reduceToNat, Int.reduceAdd, Int.reduceSub, List.append_nil, ki2, ki4, ki5, ki6, ki7, ki8, ki9, ki10, ki11, ki12, ki14, ki15, ki16, ki17, ki18, ki19, ki20, ki21, ki23, ki24, ki27, ki28, ki29, ki30, ki31, ki32, ki33, ki34, ki35, ki36, ki38, ki39, ki47, ki48, ki49, ki50, ki51, ki52, ki57, ki58, ki59, ki60, ki61, ki62, ki66, ki67, ki69, ki70, ki71, ki72, ki73, ki78, ki79, ki80, ki81, ki82, ki83, ki84, ki85, ki86, ki89, ki90, ki91, ki92, ki93, ki94, ki95, ki96, ki97, ki98, ki99, ki101, ki103, ki104, ki105, ki106, ki107, ki108, ki109, ki110, ki111, ki112, ki113, ki114, ki115, ki116, ki117, ki118, ki121, ki122, ki123, ki3000, kb68, kb102, kr26, kr40, kr46, kr56, kw2, kw4, kw5, kw6, kw7, kw8, kw9, kw10, kw11, kw12, kw14, kw15, kw16, kw17, kw18, kw19, kw20, kw21, kw23, kw24, kw27, kw28, kw29, kw30, kw31, kw32, kw33, kw34, kw35, kw36, kw38, kw39, kw41, kw42, kw43, kw44, kw47, kw48, kw49, kw50, kw51, kw52, kw53, kw54, kw57, kw58, kw59, kw60, kw61, kw62, kw63, kw64, kw66, kw67, kw68, kw69, kw70, kw71, kw72, kw73, kw75, kw78, kw79, kw80, kw81, kw82, kw83, kw84, kw85, kw86, kw89, kw90, kw91, kw92, kw93, kw94, kw95, kw96, kw97, kw98, kw99, kw101, kw102, kw103, kw104, kw105, kw106, kw107, kw108, kw109, kw110, kw111, kw112, kw113, kw114, kw115, kw116, kw117, kw118, kw119, kw120, kw121, kw122, kw123, kw124]
    exact Iff.rfl
  | n + 1, i, h => by
    have ih := wp_wz (d := d) (a0 := a0) (p := p) (t := t) (c := c) (l7 := l7) (l8 := l8) (σ := σ) (Q := Q) n (i + 1) (by omega)
    simp only [ic1] at ih
    simp (disch := first | (simp only [nlP_n, nlP_I, nlP_R, catP_I, catP_R, st8_0, st8_1, st8_2, st8_3, st8_4, b01, or_true, true_or, eq_self, iRP98, iRP99, iRP86, iRP97, iRP47, iRP57, rcP0, rcP1, rcP3, rcP13, rcP22, rcP25, rcP37, rcP45, rcP55, rcP65, rcP74, rcP76, rcP77, rcP87, rcP88, rcP100]; done) | omega | assumption | (simp (disch := omega) only [cel_s, cel_n, up1_s, up1_n, up1_e, put_out, fill_in]; omega) | (apply isRow_past; omega) | (apply isRow_seek; omega) | (apply isRow_guess; omega)) only [ww25_3, ww25_5, ww25_7, ww25_10, ww25_11, ww25_14, ww25_16, ww25_17, ww25_18, ↓iteT, ↓iteF, andT, w32_eq, yL_1, Int.toNat_natCast, Int.toNat_add, Int.toNat_mul, Int.toNat_sub, cel_s, cel_n, up1_cel, upS_cel, cel_cel, up1_s, up1_n, up1_e, rdI_n, rdB_n, Int.reduceMul, Int.reduceDiv, Int.reduceMod, Nat.reduceMul, Nat.reduceSub, Nat.zero_add, Int.zero_add, Nat.add_zero, Int.add_zero, ite_self, Option.toList_some, Option.toList_none, List.cons_append, List.nil_append, rdI_c, and_true, true_and, and_self, not_false_eq_true, not_true_eq_false, if_true, if_false, or_false, false_or, ne_eq, and_false, false_and, rdI_n, Nat.reduceEqDiff, Nat.reduceAdd, Nat.reduceLeDiff, Int.reduceEq, Int.reduceLT, Int.reduceLE, Int.reduceNeg, Int.reduceToNat, Int.reduceAdd, Int.reduceSub, List.append_nil, ki2, ki4, ki5, ki6, ki7, ki8, ki9, ki10, ki11, ki12, ki14, ki15, ki16, ki17, ki18, ki19, ki20, ki21, ki23, ki24, ki27, ki28, ki29, ki30, ki31, ki32, ki33, ki34, ki35, ki36, ki38, ki39, ki47, ki48, ki49, ki50, ki51, ki52, ki57, ki58, ki59, ki60, ki61, ki62, ki66, ki67, ki69, ki70, ki71, ki72, ki73, ki78, ki79, ki80, ki81, ki82, ki83, ki84, ki85, ki86, ki89, ki90, ki91, ki92, ki93, ki94, ki95, ki96, ki97, ki98, ki99, ki101, ki103, ki104, ki105, ki106, ki107, ki108, ki109, ki110, ki111, ki112, ki113, ki114, ki115, ki116, ki117, ki118, ki121, ki122, ki123, ki3000, kb68, kb102, kr26, kr40, kr46, kr56, kw2, kw4, kw5, kw6, kw7, kw8, kw9, kw10, kw11, kw12, kw14, kw15, kw16, kw17, kw18, kw19, kw20, kw21, kw23, kw24, kw27, kw28, kw29, kw30, kw31, kw32, kw33, kw34, kw35, kw36, kw38, kw39, kw41, kw42, kw43, kw44, kw47, kw48, kw49, kw50, kw51, kw52, kw53, kw54, kw57, kw58, kw59, kw60, kw61, kw62, kw63, kw64, kw66, kw67, kw68, kw69, kw70, kw71, kw72, kw73, kw75, kw78, kw79, kw80, kw81, kw82, kw83, kw84, kw85, kw86, kw89, kw90, kw91, kw92, kw93, kw94, kw95, kw96, kw97, kw98, kw99, kw101, kw102, kw103, kw104, kw105, kw106, kw107, kw108, kw109, kw110, kw111, kw112, kw113, kw114, kw115, kw116, kw117, kw118, kw119, kw120, kw121, kw122, kw123, kw124]
    rw [ww25_21, show (0 : Int) = zF i from rfl, fill_s, ih]
theorem wp_wt {p t sz c D P : Nat} {t0 : Int} {σ : mw_S} (hD : σ 13 0 = D) (d0 : 2 ≤ D) (d1 : D ≤ 9) (m0 : 0 ≤ σ 13 4) (m9 : σ 13 4 ≤ 9) (hp : p < 3) (l0 : 0 ≤ σ 15 p) (l4 : σ 15 p ≤ 4) (ht : t < 4) (hsz : σ 38 t = sz) (hsz2 : sz ≤ 40) (hc : c < 9) (h4 : td4 t0) (hv : ∀ i, i < sz → 0 ≤ σ (41 + t) i ∧ σ (41 + t) i < nin P) : ∀ (n i : Nat) (W T : Nat → Int) (l8 : Option mw_V), i + n = sz → ∃ T' W', (∀ k, k < 9 → W' k = oWF (σ 13 0) (σ 13 4) (fun k => mirF (dgF (tdF (σ (41 + t)) p t0 (k + 1)) (σ 15 p))) n i W k) ∧ ∀ (d : Nat) (Q : Option mw_V → mw_S → Prop), mw_WP (d + 4) 25 46 [some (jR 55), some (jR 98), some (jI p), some (jR 37), some (jI t), some (jI c), some (jI (tdF (σ (41 + t)) p t0 i)), some (jI i), l8] [] (cel (cel σ 64 T) 63 W) Q ↔ Q (some (jL (W' c))) (cel (cel σ 64 T') 63 W')
  | 0, i, W, T, l8, h => by
    refine ⟨T, W, fun _ _ => rfl, fun d Q => ?_⟩
    obtain rfl : i = sz := by omega
    simp (disch := first | (simp only [nlP_n, nlP_I, nlP_R, catP_I, catP_R, st8_0, st8_1, st8_2, st8_3, st8_4, b01, or_true, true_or, eq_self, iRP98, iRP99, iRP86, iRP97, iRP47, iRP57, rcP0, rcP1, rcP3, rcP13, rcP22, rcP25, rcP37, rcP45, rcP55, rcP65, rcP74, rcP76, rcP77, rcP87, rcP88, rcP100]; done) | omega | assumption | (simp (disch := omega) only [cel_s, cel_n, up1_s, up1_n, up1_e, put_out, fill_in]; omega) | (apply isRow_past; omega) | (apply isRow_seek; omega) | (apply isRow_guess; omega)) only [ww25_46, ww25_48, ww25_49, ww25_51, ww25_54, ww25_108, ww25_110, ww25_113, ww25_115, ww25_117, ww25_120, ww25_121, ww25_124, ww25_126, ww25_127, ww25_130, ww25_131, cl_size, hsz, ↓iteT, ↓iteF, andT, w32_eq, yL_1, Int.toNat_natCast, Int.toNat_add, Int.toNat_mul, Int.toNat_sub, cel_s, cel_n, up1_cel, upS_cel, cel_cel, up1_s, up1_n, up1_e, rdI_n, rdB_n, Int.reduceMul, Int.reduceDiv, Int.reduceMod, Nat.reduceMul, Nat.reduceSub, Nat.zero_add, Int.zero_add, Nat.add_zero, Int.add_zero, ite_self, Option.toList_some, Option.toList_none, List.cons_append, List.nil_append, rdI_c, and_true, true_and, and_self, not_false_eq_true, not_true_eq_false, if_true, if_false, or_false, false_or, ne_eq, and_false, false_and, rdI_n, Nat.reduceEqDiff, Nat.reduceAdd, Nat.reduceLeDiff, Int.reduceEq, Int.reduceLT, Int.reduceLE, Int.reduceNeg, Int.reduceToNat, Int.reduceAdd, Int.reduceSub, List.append_nil, ki2, ki4, ki5, ki6, ki7, ki8, ki9, ki10, ki11, ki12, ki14, ki15, ki16, ki17, ki18, ki19, ki20, ki21, ki23, ki24, ki27, ki28, ki29, ki30, ki31, ki32, ki33, ki34, ki35, ki36, ki38, ki39, ki47, ki48, ki49, ki50, ki51, ki52, ki57, ki58, ki59, ki60, ki61, ki62, ki66, ki67, ki69, ki70, ki71, ki72, ki73, ki78, ki79, ki80, ki81, ki82, ki83, ki84, ki85, ki86, ki89, ki90, ki91, ki92, ki93, ki94, ki95, ki96, ki97, ki98, ki99, ki101, ki103, ki104, ki105, ki106, ki107, ki108, ki109, ki110, ki111, ki112, ki113, ki114, ki115, ki116, ki117, ki118, ki121, ki122, ki123, ki3000, kb68, kb102, kr26, kr40, kr46, kr56, kw2, kw4, kw5, kw6, kw7, kw8, kw9, kw10, kw11, kw12, kw14, kw15, kw16, kw17, kw18, kw19, kw20, kw21, kw23, kw24, kw27, kw28, kw29, kw30, kw31, kw32, kw33, kw34, kw35, kw36, kw38, kw39, kw41, kw42, kw43, kw44, kw47, kw48, kw49, kw50, kw51, kw52, kw53, kw54, kw57, kw58, kw59, kw60, kw61, kw62, kw63, kw64, kw66, kw67, kw68, kw69, kw70, kw71, kw72, kw73, kw75, kw78, kw79, kw80, kw81, kw82, kw83, kw84, kw85, kw86, kw89, kw90, kw91, kw92, kw93, kw94, kw95, kw96, kw97, kw98, kw99, kw101, kw102, kw103, kw104, kw105, kw106, kw107, kw108, kw109, kw110, kw111, kw112, kw113, kw114, kw115, kw116, kw117, kw118, kw119, kw120, kw121, kw122, kw123, kw124]
  | n + 1, i, W, T, l8, h => by
    obtain ⟨v0, v1⟩ := hv i (by omega)
    have rP := nin_rng P
    have rp := nin_rng p
    have hsi : (i : Int) < σ 38 t := by omega
    have t4 := tdF_td (v := σ (41 + t)) (p := p) h4 i
    have t5 := tb_td (x := σ (41 + t) i / nin p % 9) t4 (by omega) (by omega)
    have gd := td_dg (l := σ 15 p) t5
    have dv : 0 ≤ σ (41 + t) i / nin p := Int.ediv_nonneg v0 (by omega)
    have dv2 : σ (41 + t) i / nin p ≤ σ (41 + t) i := Int.ediv_le_self _ v0
    have y1 := yDiv_eq (x := σ (41 + t) i) (y := nin p) v0 (by omega) (by omega) (by omega)
    have y2 := yRem_eq (x := σ (41 + t) i / nin p) (y := 9) dv (by omega) (by omega) (by omega)
    have z1 := zI_1 (x := σ (41 + t) i / nin p % 9) (by omega) (by omega)
    have n1 := i64_ne0 (y := nin p) (by omega) (by omega)
    have n9 : ¬ i64 9 = 0 := by decide
    have t4a := t4.1
    have t4b := t4.2.1
    have t5a := t5.1.1
    have t5b := t5.1.2.1
    have hS := fun (Q' : Option mw_V → mw_S → Prop) (d' : Nat) (s : mw_S) (x : Int) (hs : s 13 0 = D) (h0 : 0 ≤ s 13 4) (h9 : s 13 4 ≤ 9) => cl_spread (d := d') (D := D) (x := x) (σ := s) (Q := Q') hs d0 d1 h0 h9
    let T1 := spF (σ 13 0) (σ 13 4) (mirF (dgF (tbF (tdF (σ (41 + t)) p t0 i) (σ (41 + t) i / nin p % 9)) (σ 15 p))) W D 0 (fillF zF T 9)
    have hT1 : T1 = spF (σ 13 0) (σ 13 4) (mirF (dgF (tbF (tdF (σ (41 + t)) p t0 i) (σ (41 + t) i / nin p % 9)) (σ 15 p))) W D 0 (fillF zF T 9) := rfl
    obtain ⟨T', W', i1, ih⟩ := wp_wt (c := c) (σ := σ) hD d0 d1 m0 m9 hp l0 l4 ht hsz hsz2 hc h4 hv n (i + 1) (fillF T1 W 9) T1 (some (jI (σ (41 + t) i / nin p % 9))) (by omega)
    refine ⟨T', W', fun k hk => ?_, fun d Q => ?_⟩
    · rw [i1 k hk, oWF_s]
      refine oWF_congr (deep := σ 13 0) (D := 9) (by omega) (by omega) n (i + 1) _ _ (fun j hj => ?_) k hk
      rw [fill_in hj]
      unfold spZ
      rw [show (σ 13 0).toNat = D by omega]
      exact spF_congr (deep := σ 13 0) (D := 9) (by omega) (fun _ _ => rfl) D 0 _ _ (by omega) (fun m hm => by rw [fill_in hm]) j hj
    · have ihq := ih d Q
      simp only [ic1] at ihq
      rw [show tdF (σ (41 + t)) p t0 (i + 1) = tbF (tdF (σ (41 + t)) p t0 i) (σ (41 + t) i / nin p % 9) from rfl] at ihq
      simp (disch := first | (simp only [nlP_n, nlP_I, nlP_R, catP_I, catP_R, st8_0, st8_1, st8_2, st8_3, st8_4, b01, or_true, true_or, eq_self, iRP98, iRP99, iRP86, iRP97, iRP47, iRP57, rcP0, rcP1, rcP3, rcP13, rcP22, rcP25, rcP37, rcP45, rcP55, rcP65, rcP74, rcP76, rcP77, rcP87, rcP88, rcP100]; done) | omega | assumption | (simp (disch := omega) only [cel_s, cel_n, up1_s, up1_n, up1_e, put_out, fill_in]; omega) | (apply isRow_past; omega) | (apply isRow_seek; omega) | (apply isRow_guess; omega)) only [ww25_46, ww25_48, ww25_49, ww25_51, ww25_54, ww25_57, ww25_58, ww25_60, ww25_62, ww25_65, ww25_68, ww25_69, ww25_70, ww25_71, ww25_72, ww25_75, ww25_76, ww25_77, ww25_79, ww25_81, ww25_83, ww25_86, ww25_88, ww25_89, ww25_90, ww25_93, ww25_95, ww25_96, ww25_99, ww25_102, cl_size, hsz, cl_at, nq_p, y1, y2, z1, n1, n9, cl_tb, cl_late, hS, cel_sw, cel_cel, ↓iteT, ↓iteF, andT, w32_eq, yL_1, Int.toNat_natCast, Int.toNat_add, Int.toNat_mul, Int.toNat_sub, cel_s, cel_n, up1_cel, upS_cel, cel_cel, up1_s, up1_n, up1_e, rdI_n, rdB_n, Int.reduceMul, Int.reduceDiv, Int.reduceMod, Nat.reduceMul, Nat.reduceSub, Nat.zero_add, Int.zero_add, Nat.add_zero, Int.add_zero, ite_self, Option.toList_some, Option.toList_none, List.cons_append, List.nil_append, rdI_c, and_true, true_and, and_self, not_false_eq_true, not_true_eq_false, if_true, if_false, or_false, false_or, ne_eq, and_false, false_and, rdI_n, Nat.reduceEqDiff, Nat.reduceAdd, Nat.reduceLeDiff, Int.reduceEq, Int.reduceLT, Int.reduceLE, Int.reduceNeg, Int.reduceToNat, Int.reduceAdd, Int.reduceSub, List.append_nil, ki2, ki4, ki5, ki6, ki7, ki8, ki9, ki10, ki11, ki12, ki14, ki15, ki16, ki17, ki18, ki19, ki20, ki21, ki23, ki24, ki27, ki28, ki29, ki30, ki31, ki32, ki33, ki34, ki35, ki36, ki38, ki39, ki47, ki48, ki49, ki50, ki51, ki52, ki57, ki58, ki59, ki60, ki61, ki62, ki66, ki67, ki69, ki70, ki71, ki72, ki73, ki78, ki79, ki80, ki81, ki82, ki83, ki84, ki85, ki86, ki89, ki90, ki91, ki92, ki93, ki94, ki95, ki96, ki97, ki98, ki99, ki101, ki103, ki104, ki105, ki106, ki107, ki108, ki109, ki110, ki111, ki112, ki113, ki114, ki115, ki116, ki117, ki118, ki121, ki122, ki123, ki3000, kb68, kb102, kr26, kr40, kr46, kr56, kw2, kw4, kw5, kw6, kw7, kw8, kw9, kw10, kw11, kw12, kw14, kw15, kw16, kw17, kw18, kw19, kw20, kw21, kw23, kw24, kw27, kw28, kw29, kw30, kw31, kw32, kw33, kw34, kw35, kw36, kw38, kw39, kw41, kw42, kw43, kw44, kw47, kw48, kw49, kw50, kw51, kw52, kw53, kw54, kw57, kw58, kw59, kw60, kw61, kw62, kw63, kw64, kw66, kw67, kw68, kw69, kw70, kw71, kw72, kw73, kw75, kw78, kw79, kw80, kw81, kw82, kw83, kw84, kw85, kw86, kw89, kw90, kw91, kw92, kw93, kw94, kw95, kw96, kw97, kw98, kw99, kw101, kw102, kw103, kw104, kw105, kw106, kw107, kw108, kw109, kw110, kw111, kw112, kw113, kw114, kw115, kw116, kw117, kw118, kw119, kw120, kw121, kw122, kw123, kw124]
      rw [ww25_105, ← hT1]
      exact ihq
