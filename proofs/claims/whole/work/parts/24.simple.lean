/-! calls that hardly do anything -/
theorem Rthrown {n : Nat} {σ : mw_S} {x : Int} (h : Rall n σ) : Rall (n + 1) (upS σ 100 0 x) := by
  refine Rall.same (h.mono (Nat.le_succ n)) (fun a ha => ?_) ?_
  · funext k
    unfold upS
    rw [if_neg]
    rintro ⟨rfl, -⟩
    exact absurd ha (by decide)
  · simp [upS]
theorem up_ne {σ : mw_S} {a j b k : Nat} {x : Int} (h : b ≠ a) : upS σ a j x b k = σ b k := by
  unfold upS
  rw [if_neg (fun q => h q.1)]
theorem up_nk {σ : mw_S} {a j k : Nat} {x : Int} (h : k ≠ j) : upS σ a j x a k = σ a k := by
  unfold upS
  rw [if_neg (fun q => h q.2)]
theorem up_s {σ : mw_S} {a j : Nat} {x : Int} : upS σ a j x a j = x := by
  unfold upS
  rw [if_pos ⟨rfl, rfl⟩]
theorem g_fault : ag_fault Rall := by
  intro n σ v1 hn hI oS i1
  have hR := Rthrown (x := 0) hI
  obtain ⟨h1, h2, -⟩ := hI.2.1
  rcases (show v1 = 0 ∨ v1 = 1 ∨ (¬ (0 : Int) = v1 ∧ ¬ (1 : Int) = v1) by omega) with rfl | rfl | hk
  · simp only [ee121, ww121_0, ww121_1k0, ww121_1k1, ww121_1kd, ww121_28, ww121_29, ww121_32, ww121_35, ww121_36, ww121_37, ww121_40, ww121_43, ww121_44, ww121_45, ee195, ww195_0, ww195_1, ww195_2, ww195_5, ww195_6, ww195_9, ww195_10, ww195_13, ww195_16, ww195_17, ww195_18, ww195_21, ww195_22, ww195_25, ww195_28, ww195_29, catP_I, catP_R, st8_0, st8_1, st8_2, st8_3, st8_4, nlP_n, nlP_I, nlP_R, Option.toList_some, Option.toList_none, List.cons_append, List.nil_append, rdI_c, and_true, true_and, and_self, not_false_eq_true, not_true_eq_false, if_true, if_false, eq_self, or_true, true_or, or_false, false_or, ne_eq, and_false, false_and, rdI_n, Nat.reduceEqDiff, Nat.reduceAdd, Nat.reduceLeDiff, Int.reduceEq, Int.reduceLT, Int.reduceLE, Int.reduceNeg, Int.reduceToNat, Int.reduceAdd, Int.reduceSub, b01, List.append_nil, rcP0, rcP1, rcP3, rcP13, rcP22, rcP25, rcP37, rcP45, rcP55, rcP65, rcP74, rcP76, rcP77, rcP87, rcP88, rcP100]
    refine ⟨?_, hR⟩
    simp [upS, h1]
  · simp only [ee121, ww121_0, ww121_1k0, ww121_1k1, ww121_1kd, ww121_28, ww121_29, ww121_32, ww121_35, ww121_36, ww121_37, ww121_40, ww121_43, ww121_44, ww121_45, ee195, ww195_0, ww195_1, ww195_2, ww195_5, ww195_6, ww195_9, ww195_10, ww195_13, ww195_16, ww195_17, ww195_18, ww195_21, ww195_22, ww195_25, ww195_28, ww195_29, catP_I, catP_R, st8_0, st8_1, st8_2, st8_3, st8_4, nlP_n, nlP_I, nlP_R, Option.toList_some, Option.toList_none, List.cons_append, List.nil_append, rdI_c, and_true, true_and, and_self, not_false_eq_true, not_true_eq_false, if_true, if_false, eq_self, or_true, true_or, or_false, false_or, ne_eq, and_false, false_and, rdI_n, Nat.reduceEqDiff, Nat.reduceAdd, Nat.reduceLeDiff, Int.reduceEq, Int.reduceLT, Int.reduceLE, Int.reduceNeg, Int.reduceToNat, Int.reduceAdd, Int.reduceSub, b01, List.append_nil, rcP0, rcP1, rcP3, rcP13, rcP22, rcP25, rcP37, rcP45, rcP55, rcP65, rcP74, rcP76, rcP77, rcP87, rcP88, rcP100]
    refine ⟨?_, hR⟩
    simp [upS, h2]
  · simp only [ee121, ww121_0, ww121_1k0, ww121_1k1, ww121_1kd, ww121_28, ww121_29, ww121_32, ww121_35, ww121_36, ww121_37, ww121_40, ww121_43, ww121_44, ww121_45, ee195, ww195_0, ww195_1, ww195_2, ww195_5, ww195_6, ww195_9, ww195_10, ww195_13, ww195_16, ww195_17, ww195_18, ww195_21, ww195_22, ww195_25, ww195_28, ww195_29, catP_I, catP_R, st8_0, st8_1, st8_2, st8_3, st8_4, nlP_n, nlP_I, nlP_R, Option.toList_some, Option.toList_none, List.cons_append, List.nil_append, rdI_c, and_true, true_and, and_self, not_false_eq_true, not_true_eq_false, if_true, if_false, eq_self, or_true, true_or, or_false, false_or, ne_eq, and_false, false_and, rdI_n, Nat.reduceEqDiff, Nat.reduceAdd, Nat.reduceLeDiff, Int.reduceEq, Int.reduceLT, Int.reduceLE, Int.reduceNeg, Int.reduceToNat, Int.reduceAdd, Int.reduceSub, b01, List.append_nil, rcP0, rcP1, rcP3, rcP13, rcP22, rcP25, rcP37, rcP45, rcP55, rcP65, rcP74, rcP76, rcP77, rcP87, rcP88, rcP100, hk.1, hk.2, show ¬ v1 = 0 by omega, show ¬ v1 = 1 by omega]
    refine ⟨?_, hR⟩
    simp
theorem g_count : ag_count Rall := by
  intro n σ v1 hn hI oS i1
  have hR := Rthrown (x := 0) hI
  obtain ⟨⟨a1, a2, a3, a4, a5, a0, a9⟩, -⟩ := hI.2.2.1
  have hs := hI.2.2.2.1.2.2.2.2.1.1
  have hu := hI.2.2.2.2.1.2.2.2.2.1
  have ht := hI.1.2.2.1
  rcases (show v1 = 0 ∨ v1 = 1 ∨ v1 = 2 ∨ v1 = 3 ∨ v1 = 4 ∨ v1 = 5 ∨ v1 = 6 ∨ v1 = 7 ∨ v1 = 8 ∨ (v1 < 0 ∨ 8 < v1) by omega) with rfl | rfl | rfl | rfl | rfl | rfl | rfl | rfl | rfl | hk
  iterate 9
    · simp only [ee156, ww156_0, ww156_1k0, ww156_1k1, ww156_1k2, ww156_1k3, ww156_1k4, ww156_1k5, ww156_1k6, ww156_1k7, ww156_1k8, ww156_1kd, ww156_52, ww156_53, ww156_56i3, ww156_56i13, ww156_56i77, ww156_56i88, ww156_59, ww156_60, ww156_61, ww156_64i3, ww156_64i13, ww156_64i77, ww156_64i88, ww156_67, ww156_68, ww156_69, ww156_72i3, ww156_72i13, ww156_72i77, ww156_72i88, ww156_75, ww156_76, ww156_77, ww156_80i3, ww156_80i13, ww156_80i77, ww156_80i88, ww156_83, ww156_84, ww156_85, ww156_88i3, ww156_88i13, ww156_88i77, ww156_88i88, ww156_91, ww156_92, ww156_93, ww156_96, ww156_98, ww156_99, ww156_100, ww156_101, ww156_104, ww156_107, ww156_108, ww156_109, ww156_112, ww156_115, ww156_116, ww156_117, ww156_120i3, ww156_120i13, ww156_120i77, ww156_120i88, ww156_123, ww156_124, ww156_125, ee278, ww278_0, ww278_1, ww278_2, ww278_5, ww278_6k0, ww278_6k1, ww278_6k2, ww278_6k3, ww278_6k4, ww278_6k5, ww278_6k6, ww278_6k7, ww278_6k8, ww278_6kd, ww278_56, ww278_57, ww278_60, ww278_61, ww278_62, ww278_63, ww278_64, ww278_67, ww278_68, ww278_69, ww278_70, ww278_71, ww278_74, ww278_75, ww278_76, ww278_77, ww278_78, ww278_81, ww278_82, ww278_83, ww278_84, ww278_85, ww278_88, ww278_89, ww278_90, ww278_91, ww278_92, ww278_95, ww278_97, ww278_98, ww278_99, ww278_100, ww278_103, ww278_105, ww278_106, ww278_107, ww278_108, ww278_111, ww278_112, ww278_113, ww278_116, ww278_117, ww278_118, ww278_119, ww278_120, catP_I, catP_R, st8_0, st8_1, st8_2, st8_3, st8_4, nlP_n, nlP_I, nlP_R, Option.toList_some, Option.toList_none, List.cons_append, List.nil_append, rdI_c, and_true, true_and, and_self, not_false_eq_true, not_true_eq_false, if_true, if_false, eq_self, or_true, true_or, or_false, false_or, ne_eq, and_false, false_and, rdI_n, Nat.reduceEqDiff, Nat.reduceAdd, Nat.reduceLeDiff, Int.reduceEq, Int.reduceLT, Int.reduceLE, Int.reduceNeg, Int.reduceToNat, Int.reduceAdd, Int.reduceSub, b01, List.append_nil, rcP0, rcP1, rcP3, rcP13, rcP22, rcP25, rcP37, rcP45, rcP55, rcP65, rcP74, rcP76, rcP77, rcP87, rcP88, rcP100, ki2, ki4, ki5, ki6, ki7, ki8, ki9, ki10, ki11, ki12, ki14, ki15, ki16, ki17, ki18, ki19, ki20, ki21, ki23, ki24, ki27, ki28, ki29, ki30, ki31, ki32, ki33, ki34, ki35, ki36, ki38, ki39, ki47, ki48, ki49, ki50, ki51, ki52, ki57, ki58, ki59, ki60, ki61, ki62, ki66, ki67, ki69, ki70, ki71, ki72, ki73, ki78, ki79, ki80, ki81, ki82, ki83, ki84, ki85, ki86, ki89, ki90, ki91, ki92, ki93, ki94, ki95, ki96, ki97, ki98, ki99, ki101, ki103, ki104, ki105, ki106, ki107, ki108, ki109, ki110, ki111, ki112, ki113, ki114, ki115, ki116, ki117, ki118, ki121, ki122, ki123, ki3000, kb68, kb102, kr26, kr40, kr46, kr56]
      simp [rdI_n, up_ne, up_nk, up_s, hR, a0, a1, a2, a3, a4, a5, hs, hu, ht]
  · simp only [ee156, ww156_0, ww156_1k0, ww156_1k1, ww156_1k2, ww156_1k3, ww156_1k4, ww156_1k5, ww156_1k6, ww156_1k7, ww156_1k8, ww156_1kd, ww156_52, ww156_53, ww156_56i3, ww156_56i13, ww156_56i77, ww156_56i88, ww156_59, ww156_60, ww156_61, ww156_64i3, ww156_64i13, ww156_64i77, ww156_64i88, ww156_67, ww156_68, ww156_69, ww156_72i3, ww156_72i13, ww156_72i77, ww156_72i88, ww156_75, ww156_76, ww156_77, ww156_80i3, ww156_80i13, ww156_80i77, ww156_80i88, ww156_83, ww156_84, ww156_85, ww156_88i3, ww156_88i13, ww156_88i77, ww156_88i88, ww156_91, ww156_92, ww156_93, ww156_96, ww156_98, ww156_99, ww156_100, ww156_101, ww156_104, ww156_107, ww156_108, ww156_109, ww156_112, ww156_115, ww156_116, ww156_117, ww156_120i3, ww156_120i13, ww156_120i77, ww156_120i88, ww156_123, ww156_124, ww156_125, ee278, ww278_0, ww278_1, ww278_2, ww278_5, ww278_6k0, ww278_6k1, ww278_6k2, ww278_6k3, ww278_6k4, ww278_6k5, ww278_6k6, ww278_6k7, ww278_6k8, ww278_6kd, ww278_56, ww278_57, ww278_60, ww278_61, ww278_62, ww278_63, ww278_64, ww278_67, ww278_68, ww278_69, ww278_70, ww278_71, ww278_74, ww278_75, ww278_76, ww278_77, ww278_78, ww278_81, ww278_82, ww278_83, ww278_84, ww278_85, ww278_88, ww278_89, ww278_90, ww278_91, ww278_92, ww278_95, ww278_97, ww278_98, ww278_99, ww278_100, ww278_103, ww278_105, ww278_106, ww278_107, ww278_108, ww278_111, ww278_112, ww278_113, ww278_116, ww278_117, ww278_118, ww278_119, ww278_120, catP_I, catP_R, st8_0, st8_1, st8_2, st8_3, st8_4, nlP_n, nlP_I, nlP_R, Option.toList_some, Option.toList_none, List.cons_append, List.nil_append, rdI_c, and_true, true_and, and_self, not_false_eq_true, not_true_eq_false, if_true, if_false, eq_self, or_true, true_or, or_false, false_or, ne_eq, and_false, false_and, rdI_n, Nat.reduceEqDiff, Nat.reduceAdd, Nat.reduceLeDiff, Int.reduceEq, Int.reduceLT, Int.reduceLE, Int.reduceNeg, Int.reduceToNat, Int.reduceAdd, Int.reduceSub, b01, List.append_nil, rcP0, rcP1, rcP3, rcP13, rcP22, rcP25, rcP37, rcP45, rcP55, rcP65, rcP74, rcP76, rcP77, rcP87, rcP88, rcP100, hk]
    refine ⟨?_, hR⟩
    simp
theorem yL_1 {x : Int} (h1 : -2147483648 ≤ x) (h2 : x < 2147483648) : yL x = x := yL_eq ⟨h1, h2⟩
/-- within, of ints -/
theorem cl_within {d : Nat} {v lo hi : Int} {σ : mw_S} {Q : Option mw_V → mw_S → Prop} (h1 : in64 v) (h2 : in64 lo) (h3 : in64 hi) : mw_Call (d + 1) 170 [jL v, jL lo, jL hi] σ Q ↔ Q (some (jI (if lo ≤ v ∧ v ≤ hi then 1 else 0))) σ := by
  rw [ee170]
  simp only [ww170_0, ww170_1, ww170_2, ww170_3, ww170_6, ww170_7, ww170_9, ww170_10, ww170_13, ww170_14, ww170_17, ww170_18, yCmp_eq h1 h2, yCmp_eq h1 h3, catP_I, catP_R, st8_0, st8_1, st8_2, st8_3, st8_4, nlP_n, nlP_I, nlP_R, Option.toList_some, Option.toList_none, List.cons_append, List.nil_append, rdI_c, and_true, true_and, and_self, not_false_eq_true, not_true_eq_false, if_true, if_false, eq_self, or_true, true_or, or_false, false_or, ne_eq, and_false, false_and, rdI_n, Nat.reduceEqDiff, Nat.reduceAdd, Nat.reduceLeDiff, Int.reduceEq, Int.reduceLT, Int.reduceLE, Int.reduceNeg, Int.reduceToNat, Int.reduceAdd, Int.reduceSub, b01, List.append_nil, rcP0, rcP1, rcP3, rcP13, rcP22, rcP25, rcP37, rcP45, rcP55, rcP65, rcP74, rcP76, rcP77, rcP87, rcP88, rcP100]
  by_cases c1 : v < lo
  · simp [c1, show ¬ lo ≤ v by omega, ww170_0, ww170_1, ww170_2, ww170_3, ww170_6, ww170_7, ww170_9, ww170_10, ww170_13, ww170_14, ww170_17, ww170_18]
  · by_cases c2 : hi < v
    · simp [c1, c2, show lo ≤ v by omega, show ¬ v ≤ hi by omega, show ¬ v < hi by omega, ww170_0, ww170_1, ww170_2, ww170_3, ww170_6, ww170_7, ww170_9, ww170_10, ww170_13, ww170_14, ww170_17, ww170_18]
    · simp [c1, c2, show lo ≤ v by omega, show v ≤ hi by omega, ww170_0, ww170_1, ww170_2, ww170_3, ww170_6, ww170_7, ww170_9, ww170_10, ww170_13, ww170_14, ww170_17, ww170_18]
      by_cases c3 : lo < v <;> by_cases c4 : v < hi <;> simp [c3, c4]
theorem in64_i {x : Int} (h1 : -2147483648 ≤ x) (h2 : x < 2147483648) : in64 x := ⟨by omega, by omega⟩
/-- the reference's isPerson -/
theorem cl_misP {d : Nat} {p : Int} {σ : mw_S} {Q : Option mw_V → mw_S → Prop} (h : in32 p) (h1 : 0 ≤ σ 101 2) (h2 : σ 101 2 ≤ 3) : mw_Call (d + 2) 196 [jR 100, jI p] σ Q ↔ Q (some (jI (if 0 ≤ p ∧ p < σ 101 2 then 1 else 0))) σ := by
  have e1 : w32 (σ 101 2 - 1) = σ 101 2 - 1 := w32_eq (by omega) (by omega)
  have e2 : yL (σ 101 2 - 1) = σ 101 2 - 1 := yL_1 (by omega) (by omega)
  have e3 : yL p = p := yL_eq h
  rw [ee196]
  simp only [ww196_0, ww196_1, ww196_2, ww196_3, ww196_4, ww196_7, ww196_8, ww196_9, ww196_10, ww196_11, ww196_12, ww196_15, catP_I, catP_R, st8_0, st8_1, st8_2, st8_3, st8_4, nlP_n, nlP_I, nlP_R, Option.toList_some, Option.toList_none, List.cons_append, List.nil_append, rdI_c, and_true, true_and, and_self, not_false_eq_true, not_true_eq_false, if_true, if_false, eq_self, or_true, true_or, or_false, false_or, ne_eq, and_false, false_and, rdI_n, Nat.reduceEqDiff, Nat.reduceAdd, Nat.reduceLeDiff, Int.reduceEq, Int.reduceLT, Int.reduceLE, Int.reduceNeg, Int.reduceToNat, Int.reduceAdd, Int.reduceSub, b01, List.append_nil, rcP0, rcP1, rcP3, rcP13, rcP22, rcP25, rcP37, rcP45, rcP55, rcP65, rcP74, rcP76, rcP77, rcP87, rcP88, rcP100, ki2, ki4, ki5, ki6, ki7, ki8, ki9, ki10, ki11, ki12, ki14, ki15, ki16, ki17, ki18, ki19, ki20, ki21, ki23, ki24, ki27, ki28, ki29, ki30, ki31, ki32, ki33, ki34, ki35, ki36, ki38, ki39, ki47, ki48, ki49, ki50, ki51, ki52, ki57, ki58, ki59, ki60, ki61, ki62, ki66, ki67, ki69, ki70, ki71, ki72, ki73, ki78, ki79, ki80, ki81, ki82, ki83, ki84, ki85, ki86, ki89, ki90, ki91, ki92, ki93, ki94, ki95, ki96, ki97, ki98, ki99, ki101, ki103, ki104, ki105, ki106, ki107, ki108, ki109, ki110, ki111, ki112, ki113, ki114, ki115, ki116, ki117, ki118, ki121, ki122, ki123, ki3000, kb68, kb102, kr26, kr40, kr46, kr56, e1, e2, e3, cl_within (in64_32 h) (show in64 0 from ⟨by decide, by decide⟩) (in64_i (x := σ 101 2 - 1) (by omega) (by omega))]
  by_cases c : 0 ≤ p ∧ p < σ 101 2
  · rw [if_pos c, if_pos (by omega)]
  · rw [if_neg c, if_neg (by omega)]
/-- the class's isPerson -/
theorem cl_isP {d : Nat} {p : Int} {σ : mw_S} {Q : Option mw_V → mw_S → Prop} : mw_Call (d + 1) 157 [jR 0, jI p] σ Q ↔ Q (some (jI (if 0 ≤ p ∧ p < σ 13 1 then 1 else 0))) σ := by
  rw [ee157]
  simp only [ww157_0, ww157_1, ww157_4, ww157_5, ww157_6, ww157_9i3, ww157_9i13, ww157_9i77, ww157_9i88, ww157_12, ww157_15, ww157_16, ww157_19, ww157_20, catP_I, catP_R, st8_0, st8_1, st8_2, st8_3, st8_4, nlP_n, nlP_I, nlP_R, Option.toList_some, Option.toList_none, List.cons_append, List.nil_append, rdI_c, and_true, true_and, and_self, not_false_eq_true, not_true_eq_false, if_true, if_false, eq_self, or_true, true_or, or_false, false_or, ne_eq, and_false, false_and, rdI_n, Nat.reduceEqDiff, Nat.reduceAdd, Nat.reduceLeDiff, Int.reduceEq, Int.reduceLT, Int.reduceLE, Int.reduceNeg, Int.reduceToNat, Int.reduceAdd, Int.reduceSub, b01, List.append_nil, rcP0, rcP1, rcP3, rcP13, rcP22, rcP25, rcP37, rcP45, rcP55, rcP65, rcP74, rcP76, rcP77, rcP87, rcP88, rcP100]
  by_cases c1 : p < 0
  · simp [c1, show ¬ 0 ≤ p by omega]
  · by_cases c2 : σ 13 1 ≤ p
    · simp [c1, c2, show ¬ p < σ 13 1 by omega]
    · simp [c1, c2, show 0 ≤ p by omega, show p < σ 13 1 by omega]
/-- the first thing at a place, or none -/
def thF (f : Nat → Int) (z : Int) : Nat → Nat → Int
  | _, 0 => -1
  | t, n + 1 => if f t = z then t else thF f z (t + 1) n
theorem thF_rng (f : Nat → Int) (z : Int) : ∀ (n t : Nat), thF f z t n = -1 ∨ (∃ k : Nat, t ≤ k ∧ k < t + n ∧ thF f z t n = k ∧ f k = z)
  | 0, t => Or.inl rfl
  | n + 1, t => by
    unfold thF
    by_cases c : f t = z
    · rw [if_pos c]
      exact Or.inr ⟨t, Nat.le_refl _, by omega, rfl, c⟩
    · rw [if_neg c]
      rcases thF_rng f z n (t + 1) with h | ⟨k, h1, h2, h3, h4⟩
      · exact Or.inl h
      · exact Or.inr ⟨k, by omega, by omega, h3, h4⟩
theorem thF_eq {f g : Nat → Int} {z : Int} : ∀ (n t : Nat), (∀ k, t ≤ k → k < t + n → f k = g k) → thF f z t n = thF g z t n
  | 0, t, h => rfl
  | n + 1, t, h => by
    unfold thF
    rw [h t (Nat.le_refl _) (by omega), thF_eq n (t + 1) (fun k h1 h2 => h k (by omega) (by omega))]
theorem wp_thingAt {d b : Nat} {z : Int} {σ : mw_S} {Q : Option mw_V → mw_S → Prop} (hb : mw_lenI b = 35) (hb3 : b ≠ 3000) (h4 : σ 13 2 ≤ 4) : ∀ (n t : Nat), (t : Int) + n = σ 13 2 → (mw_WP d 97 2 [some (jR 22), some (jR b), some (jI z), some (jI t)] [] σ Q ↔ Q (some (jI (thF (fun k => σ b (6 + k)) z t n))) σ)
  | 0, t, h => by
    simp only [ww97_2, ww97_3, ww97_4, ww97_7i3, ww97_7i13, ww97_7i77, ww97_7i88, ww97_10, ww97_31, ww97_32, catP_I, catP_R, st8_0, st8_1, st8_2, st8_3, st8_4, nlP_n, nlP_I, nlP_R, Option.toList_some, Option.toList_none, List.cons_append, List.nil_append, rdI_c, and_true, true_and, and_self, not_false_eq_true, not_true_eq_false, if_true, if_false, eq_self, or_true, true_or, or_false, false_or, ne_eq, and_false, false_and, rdI_n, Nat.reduceEqDiff, Nat.reduceAdd, Nat.reduceLeDiff, Int.reduceEq, Int.reduceLT, Int.reduceLE, Int.reduceNeg, Int.reduceToNat, Int.reduceAdd, Int.reduceSub, b01, List.append_nil, rcP0, rcP1, rcP3, rcP13, rcP22, rcP25, rcP37, rcP45, rcP55, rcP65, rcP74, rcP76, rcP77, rcP87, rcP88, rcP100]
    rw [if_pos (by omega)]
    rfl
  | n + 1, t, h => by
    have ih := wp_thingAt (d := d) (z := z) (Q := Q) hb hb3 h4 n (t + 1) (by omega)
    have e1 : w32 (6 + (t : Int)) = ((6 + t : Nat) : Int) := by rw [w32_eq (by omega) (by omega)]; omega
    have e2 : w32 ((t : Int) + 1) = ((t + 1 : Nat) : Int) := by rw [w32_eq (by omega) (by omega)]; omega
    simp only [ww97_2, ww97_3, ww97_4, ww97_7i3, ww97_7i13, ww97_7i77, ww97_7i88, ww97_10, ww97_13, ww97_14, ww97_16, ww97_17, ww97_18, ww97_19, ww97_20, ww97_23, ww97_24, ww97_25, ww97_28, catP_I, catP_R, st8_0, st8_1, st8_2, st8_3, st8_4, nlP_n, nlP_I, nlP_R, Option.toList_some, Option.toList_none, List.cons_append, List.nil_append, rdI_c, and_true, true_and, and_self, not_false_eq_true, not_true_eq_false, if_true, if_false, eq_self, or_true, true_or, or_false, false_or, ne_eq, and_false, false_and, rdI_n, Nat.reduceEqDiff, Nat.reduceAdd, Nat.reduceLeDiff, Int.reduceEq, Int.reduceLT, Int.reduceLE, Int.reduceNeg, Int.reduceToNat, Int.reduceAdd, Int.reduceSub, b01, List.append_nil, rcP0, rcP1, rcP3, rcP13, rcP22, rcP25, rcP37, rcP45, rcP55, rcP65, rcP74, rcP76, rcP77, rcP87, rcP88, rcP100, e1, e2, ih, hb, rdI_n hb3, Int.toNat_natCast]
    rw [if_neg (by omega)]
    simp only [thF]
    by_cases c : σ b (6 + t) = z
    · simp only [c, not_true_eq_false, if_false, if_true]
      exact ⟨fun q => q.2, fun q => ⟨⟨by omega, by omega⟩, q⟩⟩
    · simp only [c, not_false_eq_true, if_false, if_true]
      exact ⟨fun q => q.2, fun q => ⟨⟨by omega, by omega⟩, q⟩⟩
theorem cl_thingAt {d b : Nat} {z : Int} {σ : mw_S} {Q : Option mw_V → mw_S → Prop} (hb : mw_lenI b = 35) (hb3 : b ≠ 3000) (h0 : 0 ≤ σ 13 2) (h4 : σ 13 2 ≤ 4) : mw_Call (d + 1) 97 [jR 22, jR b, jI z] σ Q ↔ Q (some (jI (thF (fun k => σ b (6 + k)) z 0 (σ 13 2).toNat))) σ := by
  rw [ee97]
  simp only [ww97_0, ww97_1, catP_I, catP_R, st8_0, st8_1, st8_2, st8_3, st8_4, nlP_n, nlP_I, nlP_R, Option.toList_some, Option.toList_none, List.cons_append, List.nil_append, rdI_c, and_true, true_and, and_self, not_false_eq_true, not_true_eq_false, if_true, if_false, eq_self, or_true, true_or, or_false, false_or, ne_eq, and_false, false_and, rdI_n, Nat.reduceEqDiff, Nat.reduceAdd, Nat.reduceLeDiff, Int.reduceEq, Int.reduceLT, Int.reduceLE, Int.reduceNeg, Int.reduceToNat, Int.reduceAdd, Int.reduceSub, b01, List.append_nil, rcP0, rcP1, rcP3, rcP13, rcP22, rcP25, rcP37, rcP45, rcP55, rcP65, rcP74, rcP76, rcP77, rcP87, rcP88, rcP100]
  exact wp_thingAt hb hb3 h4 (σ 13 2).toNat 0 (by omega)
theorem wp_mthingAt {d : Nat} {z : Int} {σ : mw_S} {Q : Option mw_V → mw_S → Prop} (h4 : σ 101 3 ≤ 4) : ∀ (n t : Nat), (t : Int) + n = σ 101 3 → (mw_WP d 199 2 [some (jR 100), some (jI z), some (jI t)] [] σ Q ↔ Q (some (jI (thF (fun k => σ 101 (50 + k)) z t n))) σ)
  | 0, t, h => by
    simp only [ww199_2, ww199_3, ww199_4, ww199_7, ww199_8, ww199_9, ww199_33, ww199_34, catP_I, catP_R, st8_0, st8_1, st8_2, st8_3, st8_4, nlP_n, nlP_I, nlP_R, Option.toList_some, Option.toList_none, List.cons_append, List.nil_append, rdI_c, and_true, true_and, and_self, not_false_eq_true, not_true_eq_false, if_true, if_false, eq_self, or_true, true_or, or_false, false_or, ne_eq, and_false, false_and, rdI_n, Nat.reduceEqDiff, Nat.reduceAdd, Nat.reduceLeDiff, Int.reduceEq, Int.reduceLT, Int.reduceLE, Int.reduceNeg, Int.reduceToNat, Int.reduceAdd, Int.reduceSub, b01, List.append_nil, rcP0, rcP1, rcP3, rcP13, rcP22, rcP25, rcP37, rcP45, rcP55, rcP65, rcP74, rcP76, rcP77, rcP87, rcP88, rcP100, ki2, ki4, ki5, ki6, ki7, ki8, ki9, ki10, ki11, ki12, ki14, ki15, ki16, ki17, ki18, ki19, ki20, ki21, ki23, ki24, ki27, ki28, ki29, ki30, ki31, ki32, ki33, ki34, ki35, ki36, ki38, ki39, ki47, ki48, ki49, ki50, ki51, ki52, ki57, ki58, ki59, ki60, ki61, ki62, ki66, ki67, ki69, ki70, ki71, ki72, ki73, ki78, ki79, ki80, ki81, ki82, ki83, ki84, ki85, ki86, ki89, ki90, ki91, ki92, ki93, ki94, ki95, ki96, ki97, ki98, ki99, ki101, ki103, ki104, ki105, ki106, ki107, ki108, ki109, ki110, ki111, ki112, ki113, ki114, ki115, ki116, ki117, ki118, ki121, ki122, ki123, ki3000, kb68, kb102, kr26, kr40, kr46, kr56]
    rw [if_pos (by omega)]
    rfl
  | n + 1, t, h => by
    have ih := wp_mthingAt (d := d) (z := z) (Q := Q) h4 n (t + 1) (by omega)
    have e1 : w32 (50 + (t : Int)) = ((50 + t : Nat) : Int) := by rw [w32_eq (by omega) (by omega)]; omega
    have e2 : w32 ((t : Int) + 1) = ((t + 1 : Nat) : Int) := by rw [w32_eq (by omega) (by omega)]; omega
    simp only [ww199_2, ww199_3, ww199_4, ww199_7, ww199_8, ww199_9, ww199_12, ww199_13, ww199_16, ww199_18, ww199_19, ww199_20, ww199_21, ww199_22, ww199_25, ww199_26, ww199_27, ww199_30, catP_I, catP_R, st8_0, st8_1, st8_2, st8_3, st8_4, nlP_n, nlP_I, nlP_R, Option.toList_some, Option.toList_none, List.cons_append, List.nil_append, rdI_c, and_true, true_and, and_self, not_false_eq_true, not_true_eq_false, if_true, if_false, eq_self, or_true, true_or, or_false, false_or, ne_eq, and_false, false_and, rdI_n, Nat.reduceEqDiff, Nat.reduceAdd, Nat.reduceLeDiff, Int.reduceEq, Int.reduceLT, Int.reduceLE, Int.reduceNeg, Int.reduceToNat, Int.reduceAdd, Int.reduceSub, b01, List.append_nil, rcP0, rcP1, rcP3, rcP13, rcP22, rcP25, rcP37, rcP45, rcP55, rcP65, rcP74, rcP76, rcP77, rcP87, rcP88, rcP100, ki2, ki4, ki5, ki6, ki7, ki8, ki9, ki10, ki11, ki12, ki14, ki15, ki16, ki17, ki18, ki19, ki20, ki21, ki23, ki24, ki27, ki28, ki29, ki30, ki31, ki32, ki33, ki34, ki35, ki36, ki38, ki39, ki47, ki48, ki49, ki50, ki51, ki52, ki57, ki58, ki59, ki60, ki61, ki62, ki66, ki67, ki69, ki70, ki71, ki72, ki73, ki78, ki79, ki80, ki81, ki82, ki83, ki84, ki85, ki86, ki89, ki90, ki91, ki92, ki93, ki94, ki95, ki96, ki97, ki98, ki99, ki101, ki103, ki104, ki105, ki106, ki107, ki108, ki109, ki110, ki111, ki112, ki113, ki114, ki115, ki116, ki117, ki118, ki121, ki122, ki123, ki3000, kb68, kb102, kr26, kr40, kr46, kr56, e1, e2, ih, Int.toNat_natCast]
    rw [if_neg (by omega)]
    simp only [thF]
    by_cases c : σ 101 (50 + t) = z
    · simp only [c, not_true_eq_false, if_false, if_true]
      exact ⟨fun q => q.2, fun q => ⟨⟨by omega, by omega⟩, q⟩⟩
    · simp only [c, not_false_eq_true, if_false, if_true]
      exact ⟨fun q => q.2, fun q => ⟨⟨by omega, by omega⟩, q⟩⟩
theorem cl_mthingAt {d : Nat} {z : Int} {σ : mw_S} {Q : Option mw_V → mw_S → Prop} (h0 : 0 ≤ σ 101 3) (h4 : σ 101 3 ≤ 4) : mw_Call (d + 1) 199 [jR 100, jI z] σ Q ↔ Q (some (jI (thF (fun k => σ 101 (50 + k)) z 0 (σ 101 3).toNat))) σ := by
  rw [ee199]
  simp only [ww199_0, ww199_1, catP_I, catP_R, st8_0, st8_1, st8_2, st8_3, st8_4, nlP_n, nlP_I, nlP_R, Option.toList_some, Option.toList_none, List.cons_append, List.nil_append, rdI_c, and_true, true_and, and_self, not_false_eq_true, not_true_eq_false, if_true, if_false, eq_self, or_true, true_or, or_false, false_or, ne_eq, and_false, false_and, rdI_n, Nat.reduceEqDiff, Nat.reduceAdd, Nat.reduceLeDiff, Int.reduceEq, Int.reduceLT, Int.reduceLE, Int.reduceNeg, Int.reduceToNat, Int.reduceAdd, Int.reduceSub, b01, List.append_nil, rcP0, rcP1, rcP3, rcP13, rcP22, rcP25, rcP37, rcP45, rcP55, rcP65, rcP74, rcP76, rcP77, rcP87, rcP88, rcP100]
  exact wp_mthingAt h4 (σ 101 3).toNat 0 (by omega)
