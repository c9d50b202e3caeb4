/-! what holds at the entry: the classes, the texts, the statics -/
section ST
variable {s : State} {args : Array Value}
set_option maxRecDepth 100000 in
theorem st_c (hts : ∀ w ∈ lw_tbl, w.before args s = true) (c : Nat) : ∃ z : ClassId × (Nat → Nat), ∀ q : vw_C, vwCl[c]? = some q → u_Kn s q.1 q.2.1 q.2.2 z.1 z.2 := by
  have hin : ∀ (j : Nat) (q : vw_C), vwCl[j]? = some q → ∀ w ∈ u_ws q.1 q.2.1 q.2.2, w ∈ lw_tbl := fun j q hq w hw => mw_wd_in (mw_lay_in w (List.mem_flatMap.mpr ⟨q, List.mem_of_getElem? hq, hw⟩))
  match c with
  | 0 => obtain ⟨z1, z2, h⟩ := u_known (C := RX0) (T := TX0) (N := 15) (n := 15) hts (hin 0 _ rfl) (hts (.instantiable RX0 15) (List.mem_of_getElem? (i := 158) rfl)); exact ⟨(z1, z2), fun q hq => by cases hq; exact h⟩
  | 1 => obtain ⟨z1, z2, h⟩ := u_known (C := RX2) (T := TX2) (N := 4) (n := 4) hts (hin 1 _ rfl) (hts (.instantiable RX2 4) (List.mem_of_getElem? (i := 513) rfl)); exact ⟨(z1, z2), fun q hq => by cases hq; exact h⟩
  | 2 => obtain ⟨z1, z2, h⟩ := u_known (C := RX3) (T := TX3) (N := 13) (n := 13) hts (hin 2 _ rfl) (hts (.instantiable RX3 13) (List.mem_of_getElem? (i := 416) rfl)); exact ⟨(z1, z2), fun q hq => by cases hq; exact h⟩
  | 3 => obtain ⟨z1, z2, h⟩ := u_known (C := RX4) (T := TX4) (N := 3) (n := 3) hts (hin 3 _ rfl) (hts (.instantiable RX4 3) (List.mem_of_getElem? (i := 532) rfl)); exact ⟨(z1, z2), fun q hq => by cases hq; exact h⟩
  | 4 => obtain ⟨z1, z2, h⟩ := u_known (C := RX5) (T := TX5) (N := 12) (n := 12) hts (hin 4 _ rfl) (hts (.instantiable RX5 12) (List.mem_of_getElem? (i := 466) rfl)); exact ⟨(z1, z2), fun q hq => by cases hq; exact h⟩
  | 5 => obtain ⟨z1, z2, h⟩ := u_known (C := RX6) (T := TX6) (N := 3) (n := 3) hts (hin 5 _ rfl) (hts (.instantiable RX6 3) (List.mem_of_getElem? (i := 338) rfl)); exact ⟨(z1, z2), fun q hq => by cases hq; exact h⟩
  | 6 => obtain ⟨z1, z2, h⟩ := u_known (C := RX7) (T := TX7) (N := 19) (n := 19) hts (hin 6 _ rfl) (hts (.instantiable RX7 19) (List.mem_of_getElem? (i := 152) rfl)); exact ⟨(z1, z2), fun q hq => by cases hq; exact h⟩
  | 7 => obtain ⟨z1, z2, h⟩ := u_known (C := RX8) (T := TX8) (N := 10) (n := 10) hts (hin 7 _ rfl) (hts (.instantiable RX8 10) (List.mem_of_getElem? (i := 376) rfl)); exact ⟨(z1, z2), fun q hq => by cases hq; exact h⟩
  | 8 => obtain ⟨z1, z2, h⟩ := u_known (C := RX9) (T := TX9) (N := 8) (n := 8) hts (hin 8 _ rfl) (hts (.instantiable RX9 8) (List.mem_of_getElem? (i := 301) rfl)); exact ⟨(z1, z2), fun q hq => by cases hq; exact h⟩
  | 9 => obtain ⟨z1, z2, h⟩ := u_known (C := RX10) (T := TX10) (N := 3) (n := 3) hts (hin 9 _ rfl) (hts (.instantiable RX10 3) (List.mem_of_getElem? (i := 357) rfl)); exact ⟨(z1, z2), fun q hq => by cases hq; exact h⟩
  | 10 => obtain ⟨z1, z2, h⟩ := u_known (C := RX11) (T := TX11) (N := 13) (n := 13) hts (hin 10 _ rfl) (hts (.instantiable RX11 13) (List.mem_of_getElem? (i := 144) rfl)); exact ⟨(z1, z2), fun q hq => by cases hq; exact h⟩
  | 11 => obtain ⟨z1, z2, h⟩ := u_known (C := RX12) (T := TX12) (N := 51) (n := 51) hts (hin 11 _ rfl) (hts (.instantiable RX12 51) (List.mem_of_getElem? (i := 1468) rfl)); exact ⟨(z1, z2), fun q hq => by cases hq; exact h⟩
  | n + 12 => exact ⟨(0, fun _ => 0), fun q hq => by simp [vwCl] at hq⟩
theorem st_arr {ty : FieldType} (hn : ∀ C, ty ≠ .object C) (h : (Cond.arrayClass ty).before args s = true) : ∃ cA : ClassId, ArrOfT s cA ty ∧ va_RA s cA ty := by
  obtain ⟨cA, kA, comp, h1, h2, h3⟩ := Cond.arrayClass_spec h
  refine ⟨cA, fun _ z => ⟨fun _ h => (by cases h), kA, h2, comp, h3⟩, ?_⟩
  cases ty with
  | object C => exact absurd rfl (hn C)
  | _ => exact h1
theorem st_arr2 {ty : FieldType} (h : nz_O ty s) : ∃ cA : ClassId, ArrOfT s cA (.array ty) ∧ va_RA s cA (.array ty) := by
  obtain ⟨cI, cA, kA, h1, h2, h3, h4⟩ := h
  exact ⟨cA, fun _ z => ⟨fun _ h => (by cases h), kA, h2, cI, h3⟩, h4⟩
set_option maxRecDepth 100000 in
theorem st_O (hts : ∀ w ∈ lw_tbl, w.before args s = true) : nz_O .int s ∧ nz_O .long s :=
  ⟨nz_over (hts (.arrayOver (.array .int)) (List.mem_of_getElem? (i := 344) rfl)), nz_over (hts (.arrayOver (.array .long)) (List.mem_of_getElem? (i := 363) rfl))⟩
theorem st_K (hts : ∀ w ∈ lw_tbl, w.before args s = true) : ∃ (D : va_G) (cA : Nat → ClassId), va_K D vwCl (mw_ty cA) s := by
  obtain ⟨f, hf⟩ := Classical.axiomOfChoice (st_c hts)
  obtain ⟨c0, h0⟩ := st_arr (ty := .int) (fun _ h => by cases h) (hts _ (mw_wd_in kw_ai))
  obtain ⟨c1, h1⟩ := st_arr (ty := .boolean) (fun _ h => by cases h) (hts _ (mw_wd_in kw_az))
  obtain ⟨c2, h2⟩ := st_arr (ty := .long) (fun _ h => by cases h) (hts _ (mw_wd_in kw_al))
  obtain ⟨hi, hj⟩ := st_O hts
  obtain ⟨c3, h3⟩ := st_arr2 hi
  obtain ⟨c4, h4⟩ := st_arr2 hj
  refine ⟨(fun c => (f c).1, fun c => (f c).2), fun k => [c0, c1, c2, c3, c4].getD k 0, fun c q hq => hf c q hq, fun k q hk => ?_⟩
  match k, hk with
  | 0, hk => cases hk; exact h0
  | 1, hk => cases hk; exact h1
  | 2, hk => cases hk; exact h2
  | 3, hk => cases hk; exact h3
  | 4, hk => cases hk; exact h4
  | k + 5, hk => simp [mw_ty] at hk
set_option maxRecDepth 100000 in
theorem st_n (hts : ∀ w ∈ lw_tbl, w.before args s = true) : kn_n s := by
  intro q hq
  simp only [kn_nL, List.mem_cons, List.not_mem_nil, or_false] at hq
  rcases hq with rfl | rfl | rfl | rfl | rfl | rfl | rfl | rfl | rfl
  · exact va_Nw.of rfl (hts _ (List.mem_of_getElem? (i := 159) rfl))
  · exact va_Nw.of rfl (hts _ (List.mem_of_getElem? (i := 538) rfl))
  · exact va_Nw.of rfl (hts _ (List.mem_of_getElem? (i := 153) rfl))
  · exact va_Nw.of rfl (hts _ (List.mem_of_getElem? (i := 299) rfl))
  · exact va_Nw.of rfl (hts _ (List.mem_of_getElem? (i := 339) rfl))
  · exact va_Nw.of rfl (hts _ (List.mem_of_getElem? (i := 358) rfl))
  · exact va_Nw.of rfl (hts _ (List.mem_of_getElem? (i := 467) rfl))
  · exact va_Nw.of rfl (hts _ (List.mem_of_getElem? (i := 514) rfl))
  · exact va_Nw.of rfl (hts _ (List.mem_of_getElem? (i := 533) rfl))
set_option maxRecDepth 100000 in
theorem st_nM (hts : ∀ w ∈ lw_tbl, w.before args s = true) : ∀ q ∈ mw_nM, ∀ me, mw_mT[q.2.2.1]? = some me → va_Nw (.methodLinkNest q.1 q.2.1 me.1 q.2.2.2) s := by
  intro q hq me hme
  have e : (mw_mT[169]?).map (fun z => z.1) = some yX11_copyRow := rfl
  simp only [mw_nM, List.mem_cons, List.not_mem_nil, or_false] at hq
  rcases hq with rfl | rfl | rfl | rfl
  · rw [show mw_mT[169]? = some me from hme] at e
    rw [show me.1 = yX11_copyRow from Option.some.inj e]
    exact va_Nw.of rfl (hts _ (List.mem_of_getElem? (i := 1017) rfl))
  · rw [show mw_mT[169]? = some me from hme] at e
    rw [show me.1 = yX11_copyRow from Option.some.inj e]
    exact va_Nw.of rfl (hts _ (List.mem_of_getElem? (i := 1127) rfl))
  · rw [show mw_mT[169]? = some me from hme] at e
    rw [show me.1 = yX11_copyRow from Option.some.inj e]
    exact va_Nw.of rfl (hts _ (List.mem_of_getElem? (i := 1291) rfl))
  · rw [show mw_mT[169]? = some me from hme] at e
    rw [show me.1 = yX11_copyRow from Option.some.inj e]
    exact va_Nw.of rfl (hts _ (List.mem_of_getElem? (i := 1458) rfl))
set_option maxRecDepth 100000 in
theorem st_nF (hts : ∀ w ∈ lw_tbl, w.before args s = true) : ∀ q ∈ mw_nF, va_Nw (.fieldLinkNest q.1 q.2 "LateMirror" "NINES" "[I" "LateMirror") s := by
  intro q hq
  simp only [mw_nF, List.mem_cons, List.not_mem_nil, or_false] at hq
  rcases hq with rfl | rfl | rfl
  · exact va_Nw.of rfl (hts _ (List.mem_of_getElem? (i := 1011) rfl))
  · exact va_Nw.of rfl (hts _ (List.mem_of_getElem? (i := 1161) rfl))
  · exact va_Nw.of rfl (hts _ (List.mem_of_getElem? (i := 1300) rfl))
theorem st_sub {α : Type} [DecidableEq α] {ls : List α} {n : Nat} {f : Nat → List α} {o : Nat → Nat} (h : (List.range n).all (fun i => decide ((ls.drop (o i)).take (f i).length = f i)) = true) : ∀ i, i < n → ∀ w ∈ f i, w ∈ ls := by
  intro i hi w hw
  have h1 := of_decide_eq_true (List.all_eq_true.mp h i (List.mem_range.mpr hi))
  rw [← h1] at hw
  exact List.mem_of_mem_drop (List.mem_of_mem_take hw)
def st_q (i : Nat) : String × Nat × String × Nat := mw_sR.getD i ("", 0, "", 0)
def st_b (i : Nat) : List Int := mw_strs.getD (st_q i).2.2.2 []
def st_t (i : Nat) : Term := .string (st_q i).1 (st_q i).2.1
def st_v (i : Nat) : Term := .field (st_t i) "java/lang/String" "value" "[B"
def st_cs (i : Nat) : List Cond := [.exactly (st_t i) "java/lang/String", .eq (.field (st_t i) "java/lang/String" "coder" "B") (.int 0), .arrayOf (st_v i) .byte, .eq (.length (st_v i)) (.int (Int32.ofNat (st_b i).length))] ++ (List.range (st_b i).length).map (fun j => .eq (.elem (st_v i) (.int (Int32.ofNat j))) (.int (i32 ((st_b i).getD j 0))))
def st_off : List Nat := [18, 34, 42, 52, 60, 69, 78, 86, 92, 99, 105, 113, 121, 130, 139, 146, 152, 160, 166, 173, 182, 191, 199, 207, 217, 227, 235, 366]
def st_pl : List Nat := [640, 725, 767, 772, 777, 782, 787, 808, 837, 842, 843, 844, 845, 846, 866, 867, 872, 873, 874, 875, 876, 877, 878, 879, 880, 885, 1658, 1664]
set_option maxRecDepth 100000 in
theorem st_in : ∀ i, i < 28 → ∀ w ∈ st_cs i, w ∈ flatC (Jvm.Cond.and given_1 narrow_1) := st_sub (o := fun i => st_off.getD i 0) (by decide +kernel)
set_option maxRecDepth 100000 in
theorem st_ref : ∀ i, i < 28 → ∀ w ∈ [Cond.stringRef (st_q i).1 (st_q i).2.1 (st_q i).2.2.1], w ∈ lw_tbl := st_sub (o := fun i => st_pl.getD i 0) (by decide +kernel)
def st_nc : List Cond := [.arrayOf (.static "LateMirror" "NINES" "[I") .int, .eq (.length (.static "LateMirror" "NINES" "[I")) (.int (Int32.ofNat 6))] ++ (List.range 6).map (fun j => .eq (.elem (.static "LateMirror" "NINES" "[I") (.int (Int32.ofNat j))) (.int (i32 (mw_nines.getD j 0))))
set_option maxRecDepth 100000 in
theorem st_inN : ∀ i, i < 1 → ∀ w ∈ st_nc, w ∈ flatC (Jvm.Cond.and given_1 narrow_1) := st_sub (n := 1) (f := fun _ => st_nc) (o := fun _ => 10) (by decide +kernel)
def st_A (s : State) : Nat → Prop := fun q => s.heap.size ≤ q
theorem st_nA (s : State) : ∀ a : Nat, a < s.heap.size → ¬ st_A s a := fun a h => Nat.not_le.mpr h
def st_S (i a t : Nat) (s : State) : Prop := va_O "java/lang/String" a (st_A s) s s.heap ∧ va_OF "java/lang/String" "coder" "B" (.int 0) a (st_A s) s s.heap ∧ va_OF "java/lang/String" "value" "[B" (.ref t) a (st_A s) s s.heap ∧ va_T .byte t (st_b i).length (fun j => .int (i32 ((st_b i).getD j 0))) (st_A s) s s.heap
theorem st_lens : ∀ i, i < 28 → (st_b i).length < 2 ^ 31 := by decide +kernel
theorem st_str (hg : (Jvm.Cond.and given_1 narrow_1).before args s = true) {i : Nat} (hi : i < 28) : ∃ q : Nat × Nat, (st_t i).eval args s none [] s = some (.ref q.1) ∧ st_S i q.1 q.2 s := by
  have hs : ∀ w ∈ st_cs i, w.before args s = true := fun w hw => flat_of_before _ hg w (st_in i hi w hw)
  have hex := hs (.exactly (st_t i) "java/lang/String") (by unfold st_cs; exact List.mem_append_left _ (List.mem_of_getElem? (i := 0) rfl))
  have hco := hs (.eq (.field (st_t i) "java/lang/String" "coder" "B") (.int 0)) (by unfold st_cs; exact List.mem_append_left _ (List.mem_of_getElem? (i := 1) rfl))
  have har := hs (.arrayOf (st_v i) .byte) (by unfold st_cs; exact List.mem_append_left _ (List.mem_of_getElem? (i := 2) rfl))
  have hle := hs (.eq (.length (st_v i)) (.int (Int32.ofNat (st_b i).length))) (by unfold st_cs; exact List.mem_append_left _ (List.mem_of_getElem? (i := 3) rfl))
  have hel : ∀ j : Nat, j < (st_b i).length → (Cond.eq (.elem (st_v i) (.int (Int32.ofNat j))) (.int (i32 ((st_b i).getD j 0)))).before args s = true := fun j hj => hs _ (by unfold st_cs; exact List.mem_append_right _ (List.mem_map.mpr ⟨j, List.mem_range.mpr hj, rfl⟩))
  obtain ⟨a, c, cell, k, q1, -⟩ := Cond.exactly_spec (args := args) (first := s) (o := none) (s := s) (idx := []) (t := st_t i) (cls := "java/lang/String") hex
  obtain ⟨t, ht, hT⟩ := va_Tof (f := fun j => .int (i32 ((st_b i).getD j 0))) (A := st_A s) (st_lens i hi) har (va_eqt hle) (fun j hj => va_eqt (hel j hj)) (st_nA s)
  exact ⟨(a, t), q1, va_Oof hex q1 (st_nA s), vk_OFof q1 (va_eqt hco) (st_nA s), vk_OFof q1 ht (st_nA s), hT⟩
theorem st_strs (hg : (Jvm.Cond.and given_1 narrow_1).before args s = true) : ∃ f : Nat → Nat × Nat, ∀ i, i < 28 → (st_t i).eval args s none [] s = some (.ref (f i).1) ∧ st_S i (f i).1 (f i).2 s := by
  have h : ∀ i : Nat, ∃ q : Nat × Nat, i < 28 → (st_t i).eval args s none [] s = some (.ref q.1) ∧ st_S i q.1 q.2 s := fun i => by
    by_cases hi : i < 28
    · obtain ⟨q, hq⟩ := st_str hg hi
      exact ⟨q, fun _ => hq⟩
    · exact ⟨(0, 0), fun h => absurd h hi⟩
  exact Classical.axiomOfChoice h
set_option maxRecDepth 100000 in
theorem st_both : Cond.eq (st_t 0) (st_t 27) ∈ flatC (Jvm.Cond.and given_1 narrow_1) := st_sub (n := 1) (f := fun _ => [Cond.eq (st_t 0) (st_t 27)]) (o := fun _ => 382) (by decide +kernel) 0 (by decide) _ List.mem_cons_self
theorem st_one (hg : (Jvm.Cond.and given_1 narrow_1).before args s = true) {a a' : Nat} (h1 : (st_t 0).eval args s none [] s = some (.ref a)) (h2 : (st_t 27).eval args s none [] s = some (.ref a')) : a' = a := by
  have h := flat_of_before _ hg _ st_both
  simp only [Cond.before, Cond.holds, Cond.value, h1, h2] at h
  simp at h
  exact h.symm
set_option maxRecDepth 100000 in
theorem st_nines (hts : ∀ w ∈ lw_tbl, w.before args s = true) (hg : (Jvm.Cond.and given_1 narrow_1).before args s = true) : ∃ t : Nat, va_Z "LateMirror" "NINES" "[I" (.ref t) (st_A s) s s.heap ∧ va_T .int t 6 (fun j => .int (i32 (mw_nines.getD j 0))) (st_A s) s s.heap := by
  have hs : ∀ w ∈ st_nc, w.before args s = true := fun w hw => flat_of_before _ hg w (st_inN 0 (by decide) w hw)
  have har := hs (.arrayOf (.static "LateMirror" "NINES" "[I") .int) (by unfold st_nc; exact List.mem_append_left _ (List.mem_of_getElem? (i := 0) rfl))
  have hle := hs (.eq (.length (.static "LateMirror" "NINES" "[I")) (.int (Int32.ofNat 6))) (by unfold st_nc; exact List.mem_append_left _ (List.mem_of_getElem? (i := 1) rfl))
  have hel : ∀ j : Nat, j < 6 → (Cond.eq (.elem (.static "LateMirror" "NINES" "[I") (.int (Int32.ofNat j))) (.int (i32 (mw_nines.getD j 0)))).before args s = true := fun j hj => hs _ (by unfold st_nc; exact List.mem_append_right _ (List.mem_map.mpr ⟨j, List.mem_range.mpr hj, rfl⟩))
  obtain ⟨t, ht, hT⟩ := va_Tof (f := fun j => .int (i32 (mw_nines.getD j 0))) (A := st_A s) (by decide) har (va_eqt hle) (fun j hj => va_eqt (hel j hj)) (st_nA s)
  exact ⟨t, va_Zof (hts (.laysStatic "LateMirror" "NINES" "[I") (List.mem_of_getElem? (i := 1012) rfl)) (hts (.initialized "LateMirror") (List.mem_of_getElem? (i := 121) rfl)) ht (st_nA s), hT⟩
set_option maxRecDepth 100000 in
theorem st_stat (hts : ∀ w ∈ lw_tbl, w.before args s = true) (hg : (Jvm.Cond.and given_1 narrow_1).before args s = true) : va_Z "java/lang/String" "COMPACT_STRINGS" "Z" (.int 1) (st_A s) s s.heap ∧ ∃ fm : Value, fm.category = 1 ∧ va_Z "jdk/internal/util/Preconditions" "SIOOBE_FORMATTER" "Ljava/util/function/BiFunction;" fm (st_A s) s s.heap := by
  have hs := flat_of_before _ hg
  have h1 := hs (.eq (.static "java/lang/String" "COMPACT_STRINGS" "Z") (.int 1)) (List.mem_of_getElem? (i := 4) rfl)
  have h2 := hs (.isRef (.static "jdk/internal/util/Preconditions" "SIOOBE_FORMATTER" "Ljava/util/function/BiFunction;")) (List.mem_of_getElem? (i := 5) rfl)
  refine ⟨va_Zof (hts (.laysStatic "java/lang/String" "COMPACT_STRINGS" "Z") (List.mem_of_getElem? (i := 654) rfl)) (hts (.initialized "java/lang/String") (List.mem_of_getElem? (i := 134) rfl)) (va_eqt h1) (st_nA s), ?_⟩
  rcases va_Zqof (A := st_A s) (hts (.laysStatic "jdk/internal/util/Preconditions" "SIOOBE_FORMATTER" "Ljava/util/function/BiFunction;") (List.mem_of_getElem? (i := 695) rfl)) (hts (.initialized "jdk/internal/util/Preconditions") (List.mem_of_getElem? (i := 137) rfl)) h2 (st_nA s) with h | ⟨t, h⟩
  · exact ⟨.null, rfl, h⟩
  · exact ⟨.ref t, rfl, h⟩
end ST
