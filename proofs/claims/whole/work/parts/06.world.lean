/-! the small machine's states as the machine's heap -/
theorem i32_of (x : Int32) : i32 x.toInt = x := Int32.ofInt_toInt x
theorem i64_of (x : Int64) : i64 x.toInt = x := Int64.ofInt_toInt x
theorem in32_of (x : Int32) : in32 x.toInt := ⟨Int32.le_toInt x, Int32.toInt_lt x⟩
theorem in64_of (x : Int64) : in64 x.toInt := ⟨Int64.le_toInt x, Int64.toInt_lt x⟩
theorem i32_to {z : Int} (h : in32 z) : (i32 z).toInt = z := by
  unfold i32
  rw [Int32.toInt_ofInt]
  obtain ⟨h1, h2⟩ := h
  rw [Int.bmod_eq_of_le (by simpa using h1) (by simpa using h2)]
theorem i64_to {z : Int} (h : in64 z) : (i64 z).toInt = z := by
  unfold i64
  rw [Int64.toInt_ofInt]
  obtain ⟨h1, h2⟩ := h
  rw [Int.bmod_eq_of_le (by simpa using h1) (by simpa using h2)]
theorem i32_lt {x y : Int} (hx : in32 x) (hy : in32 y) : i32 x < i32 y ↔ x < y := by rw [Int32.lt_iff_toInt_lt, i32_to hx, i32_to hy]
theorem i32_le {x y : Int} (hx : in32 x) (hy : in32 y) : i32 x ≤ i32 y ↔ x ≤ y := by rw [Int32.le_iff_toInt_le, i32_to hx, i32_to hy]
theorem i32_eq {x y : Int} (hx : in32 x) (hy : in32 y) : i32 x = i32 y ↔ x = y := by rw [← Int32.toInt_inj, i32_to hx, i32_to hy]
theorem in32_0 : in32 0 := ⟨by decide, by decide⟩
theorem i32_0 : i32 0 = 0 := by decide
theorem i32_cl {z : Int} (h : in32 z) : (i32 z).toNatClampNeg = z.toNat := by
  rw [← Int32.toNat_toInt, i32_to h]
theorem mw_vin {z : Int} {n : Nat} (h : in32 z) (h0 : 0 ≤ z) (h1 : z < n) : vp_in (i32 z) n := by
  rw [vp_in_iff, i32_to h]
  exact ⟨h0, h1⟩
def mw_tr (ad : Nat → Nat) (fm : Value) : mw_V → Value
  | .inl z => .int (i32 z)
  | .inr (.inl z) => .long (i64 z)
  | .inr (.inr (.inl a)) => .ref (ad a)
  | .inr (.inr (.inr _)) => fm
theorem mw_tr_cat {ad : Nat → Nat} {fm : Value} (hf : fm.category = 1) (v : mw_V) : (mw_tr ad fm v).category = mw_cat v := by
  rcases v with z | z | a | u <;> first | rfl | exact hf
def mw_okS (σ : mw_S) : Prop := ∀ a j : Nat, ((∀ n, ¬ mw_sh[a]? = some (.inr (.inl (2, n)))) → in32 (σ a j)) ∧ in64 (σ a j)
def mw_okL (st : List mw_V) : Prop := ∀ v ∈ st, mw_ok v
def mw_okV (lv : mw_L) : Prop := ∀ (i : Nat) (v : mw_V), lv[i]? = some (some v) → mw_ok v
def mw_fv (ad : Nat → Nat) (σ : mw_S) (k j o : Nat) : Value := match o with
  | 0 => .int (i32 (σ k j))
  | 1 => .int (i32 (σ k j))
  | n + 2 => .ref (ad n)
def mw_ce (ad : Nat → Nat) (cA : Nat → ClassId) (σ : mw_S) (k : Nat) (c : mw_Sh) : va_E := match c with
  | .inl (ci, fs) => .inr (ci, fs.mapIdx (fun j o => mw_fv ad σ k j o))
  | .inr (.inl (t, n)) => .inl (cA t, n, if t = 2 then .inr (.inl (fun j => i64 (σ k j))) else .inl (fun j => i32 (σ k j)))
  | .inr (.inr (t, ids)) => .inl (cA t, ids.length, .inr (.inr (.inr (.inr (fun i => (ids[i]?).map ad)))))
def mw_ws (ad : Nat → Nat) (cA : Nat → ClassId) (σ : mw_S) : va_W := mw_sh.mapIdx (fun k c => (ad k, mw_ce ad cA σ k c))
theorem mw_ws_at {ad : Nat → Nat} {cA : Nat → ClassId} {σ : mw_S} {k : Nat} {c : mw_Sh} (h : mw_sh[k]? = some c) : (mw_ws ad cA σ)[k]? = some (ad k, mw_ce ad cA σ k c) := by
  simp [mw_ws, h]
theorem mw_ce_eq {ad : Nat → Nat} {cA : Nat → ClassId} {σ σ' : mw_S} {k : Nat} {c : mw_Sh} (h : ∀ j, σ' k j = σ k j) : mw_ce ad cA σ' k c = mw_ce ad cA σ k c := by
  rcases c with ⟨ci, fs⟩ | ⟨t, n⟩ | ⟨t, ids⟩
  · simp only [mw_ce]
    refine congrArg (fun z => Sum.inr (ci, z)) ?_
    apply List.ext_getElem?
    intro j
    simp only [List.getElem?_mapIdx]
    cases fs[j]? with
    | none => rfl
    | some o =>
      simp only [Option.map_some]
      rcases o with _ | _ | n <;> simp [mw_fv, h]
  · simp only [mw_ce, h]
  · rfl
theorem mw_set {ad : Nat → Nat} {cA : Nat → ClassId} {σ σ' : mw_S} {a : Nat} {c : mw_Sh} (hc : mw_sh[a]? = some c) (h : ∀ k, k ≠ a → ∀ j, σ' k j = σ k j) : (mw_ws ad cA σ).set a (ad a, mw_ce ad cA σ' a c) = mw_ws ad cA σ' := by
  apply List.ext_getElem?
  intro k
  by_cases e : k = a
  · subst e
    have hl : k < (mw_ws ad cA σ).length := by
      have := (List.getElem?_eq_some_iff.mp hc).1
      simpa [mw_ws] using this
    rw [List.getElem?_set_self hl, mw_ws_at hc]
  · rw [List.getElem?_set_ne (fun q => e q.symm)]
    cases hk : mw_sh[k]? with
    | none => simp [mw_ws, hk]
    | some x => rw [mw_ws_at hk, mw_ws_at hk, mw_ce_eq (h k e)]
/-- the addresses are apart -/
def mw_inj (ad : Nat → Nat) : Prop := ∀ i j, i < mw_sh.length → j < mw_sh.length → ad i = ad j → i = j
def mw_A (ad : Nat → Nat) (sz : Nat) : Nat → Prop := fun q => (∃ k, k < mw_sh.length ∧ ad k = q) ∨ sz ≤ q
theorem mw_D {ad : Nat → Nat} {cA : Nat → ClassId} (hi : mw_inj ad) (σ : mw_S) (sz : Nat) : va_D (mw_A ad sz) (mw_ws ad cA σ) := by
  have at' : ∀ (k : Nat) (q : Nat × va_E), (mw_ws ad cA σ)[k]? = some q → k < mw_sh.length ∧ q.1 = ad k := by
    intro k q h
    simp only [mw_ws, List.getElem?_mapIdx] at h
    cases hk : mw_sh[k]? with
    | none => rw [hk] at h; cases h
    | some x =>
      rw [hk] at h
      cases h
      exact ⟨(List.getElem?_eq_some_iff.mp hk).1, rfl⟩
  refine ⟨fun i j p q hp hq e => ?_, fun k q h => ?_⟩
  · obtain ⟨a1, a2⟩ := at' i p hp
    obtain ⟨b1, b2⟩ := at' j q hq
    exact hi i j a1 b1 (by rw [← a2, ← b2]; exact e)
  · obtain ⟨a1, a2⟩ := at' k q h
    exact Or.inl ⟨k, a1, a2.symm⟩
def mw_ty (cA : Nat → ClassId) : List (ClassId × FieldType) := [(cA 0, .int), (cA 1, .boolean), (cA 2, .long), (cA 3, .array .int), (cA 4, .array .long)]
/-- what never changes: constant texts, the row of nines, statics, links among nest mates -/
def mw_Cs (ad : Nat → Nat) (fm : Value) (A : Nat → Prop) (U : State) (H : Heap) : Prop :=
  (∀ i : Nat, i < mw_strs.length → va_O "java/lang/String" (ad (1000 + i)) A U H ∧ va_OF "java/lang/String" "coder" "B" (.int 0) (ad (1000 + i)) A U H ∧ va_OF "java/lang/String" "value" "[B" (.ref (ad (2000 + i))) (ad (1000 + i)) A U H ∧ va_T .byte (ad (2000 + i)) (mw_strs.getD i []).length (fun j => .int (i32 ((mw_strs.getD i []).getD j 0))) A U H) ∧
  va_Z "LateMirror" "NINES" "[I" (.ref (ad 3000)) A U H ∧ va_T .int (ad 3000) 6 (fun j => .int (i32 (mw_nines.getD j 0))) A U H ∧
  va_Z "java/lang/String" "COMPACT_STRINGS" "Z" (.int 1) A U H ∧
  va_Z "jdk/internal/util/Preconditions" "SIOOBE_FORMATTER" "Ljava/util/function/BiFunction;" fm A U H ∧
  (∀ q ∈ mw_nM, ∀ me, mw_mT[q.2.2.1]? = some me → va_Nw (.methodLinkNest q.1 q.2.1 me.1 q.2.2.2) U) ∧
  (∀ q ∈ mw_nF, va_Nw (.fieldLinkNest q.1 q.2 "LateMirror" "NINES" "[I" "LateMirror") U) ∧
  (∀ q ∈ mw_sR, vk_R q.1 q.2.1 q.2.2.1 (ad (1000 + q.2.2.2)) U)
theorem mw_Cs.to {ad : Nat → Nat} {fm : Value} {A B : Nat → Prop} {s U : State} {H : Heap} (h : mw_Cs ad fm A s s.heap) (hW : s.WarmedH U.vm) (hq : ∀ a : Nat, a < s.heap.size → ¬ A a → H[a]? = s.heap[a]?) (hAB : ∀ q, B q → A q) : mw_Cs ad fm B U H := by
  obtain ⟨h1, h2, h3, h4, h5, h6, h7, h8⟩ := h
  have hv := hW.alike
  refine ⟨fun i hi => ?_, ?_, ?_, ?_, ?_, ?_, ?_, ?_⟩
  · obtain ⟨a1, a2, a3, a4⟩ := h1 i hi
    exact ⟨((a1.kept hq).moved hv).narrow hAB, ((a2.kept hq).moved hv).narrow hAB, ((a3.kept hq).moved hv).narrow hAB, ((a4.kept hq).moved hv).narrow hAB⟩
  · exact ((h2.kept hq).moved hv).narrow hAB
  · exact ((h3.kept hq).moved hv).narrow hAB
  · exact ((h4.kept hq).moved hv).narrow hAB
  · exact ((h5.kept hq).moved hv).narrow hAB
  · exact fun q hm me he => (h6 q hm me he).warmM hW
  · exact fun q hm => (h7 q hm).warmF hW
  · exact fun q hm => (h8 q hm).warm hW
theorem mw_Cs.same {ad : Nat → Nat} {fm : Value} {A : Nat → Prop} {s U : State} {H : Heap} (h : mw_Cs ad fm A s H) (hv : s.vm = U.vm) : mw_Cs ad fm A U H := by
  obtain ⟨h1, h2, h3, h4, h5, h6, h7, h8⟩ := h
  have ha : s.vm.Alike U.vm := by rw [hv]; exact Vm.Alike.refl U.vm
  refine ⟨fun i hi => ?_, h2.moved ha, h3.moved ha, h4.moved ha, h5.moved ha, fun q hm me he => va_Nw.same rfl hv (h6 q hm me he), fun q hm => va_Nw.same rfl hv (h7 q hm), fun q hm => (h8 q hm).same hv.symm⟩
  obtain ⟨a1, a2, a3, a4⟩ := h1 i hi
  exact ⟨a1.moved ha, a2.moved ha, a3.moved ha, a4.moved ha⟩
/-- the locals that are known -/
def mw_LR (tr : mw_V → Value) (ls : Array Slot) (nL : Nat) (lv : mw_L) : Prop := ls.size = nL ∧ lv_wf ls ∧ lv.length = nL ∧ ∀ (i : Nat) (v : mw_V), lv[i]? = some (some v) → ls[i]? = some (.val (tr v))
def mw_asc (tr : mw_V → Value) (lv : mw_L) : List (Nat × Value) := (List.range lv.length).filterMap (fun i => match lv[i]? with
  | some (some v) => some (i, tr v)
  | _ => none)
theorem mw_asc_in {tr : mw_V → Value} {lv : mw_L} {i : Nat} {v : mw_V} (h : lv[i]? = some (some v)) : (i, tr v) ∈ mw_asc tr lv := by
  refine List.mem_filterMap.mpr ⟨i, List.mem_range.mpr (List.getElem?_eq_some_iff.mp h).1, ?_⟩
  simp only [h]
theorem mw_asc_of {tr : mw_V → Value} {lv : mw_L} {q : Nat × Value} (h : q ∈ mw_asc tr lv) : ∃ v, lv[q.1]? = some (some v) ∧ q.2 = tr v := by
  obtain ⟨i, -, hi⟩ := List.mem_filterMap.mp h
  cases hl : lv[i]? with
  | none => rw [hl] at hi; cases hi
  | some o =>
    cases o with
    | none => rw [hl] at hi; cases hi
    | some v =>
      rw [hl] at hi
      cases hi
      exact ⟨v, hl, rfl⟩
theorem mw_LR.has {tr : mw_V → Value} {ls : Array Slot} {nL : Nat} {lv : mw_L} (h : mw_LR tr ls nL lv) : lv_has ls nL (mw_asc tr lv) := by
  refine ⟨h.1, h.2.1, fun q hq => ?_⟩
  obtain ⟨v, h1, h2⟩ := mw_asc_of hq
  rw [h2]
  exact h.2.2.2 _ _ h1
theorem mw_LR.st1 {tr : mw_V → Value} {ls ls' : Array Slot} {nL i : Nat} {lv : mw_L} {v : mw_V} (ht : ∀ v, (tr v).category = mw_cat v) (h : mw_LR tr ls nL lv) (hn : mw_nl lv i = true) (h' : lv_has ls' nL ((i, tr v) :: (mw_asc tr lv).filter (fun q => !(q.1 == i) && !(q.1 + 1 == i && q.2.category == 2)))) : mw_LR tr ls' nL (lv.set i (some v)) := by
  refine ⟨h'.1, h'.2.1, by rw [List.length_set]; exact h.2.2.1, fun j w hj => ?_⟩
  by_cases e : j = i
  · subst e
    have hl : j < lv.length := by
      have := (List.getElem?_eq_some_iff.mp hj).1
      rwa [List.length_set] at this
    rw [List.getElem?_set_self hl] at hj
    cases hj
    exact h'.2.2 (j, tr v) List.mem_cons_self
  · rw [List.getElem?_set_ne (fun q => e q.symm)] at hj
    refine h'.2.2 (j, tr w) (List.mem_cons_of_mem _ (List.mem_filter.mpr ⟨mw_asc_in hj, ?_⟩))
    simp only [Bool.and_eq_true, Bool.not_eq_true', beq_eq_false_iff_ne, ne_eq, Bool.and_eq_false_iff]
    refine ⟨e, ?_⟩
    by_cases e2 : j + 1 = i
    · right
      subst e2
      rw [ht]
      simp only [mw_nl, hj] at hn
      rcases w with z | z | a | u <;> simp_all [mw_cat]
    · exact Or.inl e2
theorem mw_LR.st2 {tr : mw_V → Value} {ls ls' : Array Slot} {nL i : Nat} {lv : mw_L} {v : mw_V} (ht : ∀ v, (tr v).category = mw_cat v) (h : mw_LR tr ls nL lv) (hn : mw_nl lv i = true) (hi : i + 1 < lv.length) (h' : lv_has ls' nL ((i, tr v) :: (mw_asc tr lv).filter (fun q => !(q.1 == i) && (!(q.1 == i + 1) && !(q.1 + 1 == i && q.2.category == 2))))) : mw_LR tr ls' nL ((lv.set i (some v)).set (i + 1) none) := by
  refine ⟨h'.1, h'.2.1, by rw [List.length_set, List.length_set]; exact h.2.2.1, fun j w hj => ?_⟩
  by_cases e1 : j = i + 1
  · subst e1
    rw [List.getElem?_set_self (by rw [List.length_set]; exact hi)] at hj
    cases hj
  rw [List.getElem?_set_ne (fun q => e1 q.symm)] at hj
  by_cases e : j = i
  · subst e
    rw [List.getElem?_set_self (by omega)] at hj
    cases hj
    exact h'.2.2 (j, tr v) List.mem_cons_self
  · rw [List.getElem?_set_ne (fun q => e q.symm)] at hj
    refine h'.2.2 (j, tr w) (List.mem_cons_of_mem _ (List.mem_filter.mpr ⟨mw_asc_in hj, ?_⟩))
    simp only [Bool.and_eq_true, Bool.not_eq_true', beq_eq_false_iff_ne, ne_eq, Bool.and_eq_false_iff]
    refine ⟨e, e1, ?_⟩
    by_cases e2 : j + 1 = i
    · right
      subst e2
      rw [ht]
      simp only [mw_nl, hj] at hn
      rcases w with z | z | a | u <;> simp_all [mw_cat]
    · exact Or.inl e2
theorem mw_okV.set {lv : mw_L} {i : Nat} {v : mw_V} (h : mw_okV lv) (hv : mw_ok v) : mw_okV (lv.set i (some v)) := by
  intro j w hj
  by_cases e : j = i
  · subst e
    have hl : j < lv.length := by
      have := (List.getElem?_eq_some_iff.mp hj).1
      rwa [List.length_set] at this
    rw [List.getElem?_set_self hl] at hj
    cases hj
    exact hv
  · rw [List.getElem?_set_ne (fun q => e q.symm)] at hj
    exact h j w hj
theorem mw_okV.cut {lv : mw_L} {i : Nat} (h : mw_okV lv) : mw_okV (lv.set i none) := by
  intro j w hj
  by_cases e : j = i
  · subst e
    have hl : j < lv.length := by
      have := (List.getElem?_eq_some_iff.mp hj).1
      rwa [List.length_set] at this
    rw [List.getElem?_set_self hl] at hj
    cases hj
  · rw [List.getElem?_set_ne (fun q => e q.symm)] at hj
    exact h j w hj
theorem mw_okL.cons {v : mw_V} {st : List mw_V} (hv : mw_ok v) (h : mw_okL st) : mw_okL (v :: st) := by
  intro w hw
  rcases List.mem_cons.mp hw with e | e
  · rw [e]; exact hv
  · exact h w e
theorem mw_okL.tail {v : mw_V} {st : List mw_V} (h : mw_okL (v :: st)) : mw_okL st := fun w hw => h w (List.mem_cons_of_mem _ hw)
theorem mw_okL.head {v : mw_V} {st : List mw_V} (h : mw_okL (v :: st)) : mw_ok v := h v List.mem_cons_self
theorem mw_okS.up {σ : mw_S} {a j : Nat} {x : Int} (h : mw_okS σ) (h1 : (∀ n, ¬ mw_sh[a]? = some (.inr (.inl (2, n)))) → in32 x) (h2 : in64 x) : mw_okS (upS σ a j x) := by
  intro b k
  unfold upS
  by_cases e : b = a ∧ k = j
  · rw [if_pos e]
    obtain ⟨rfl, rfl⟩ := e
    exact ⟨h1, h2⟩
  · rw [if_neg e]
    exact h b k
theorem in64_32 {z : Int} (h : in32 z) : in64 z := by
  unfold in32 at h
  unfold in64
  omega
