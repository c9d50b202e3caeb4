/-! a row of rows is made -/
def nz_f (h i : Nat) : Nat → Value := fun j => if j < i then .ref (h + 1 + j) else .null
theorem nz_upd {h i : Nat} : updV (nz_f h i) i (.ref (h + 1 + i)) = nz_f h (i + 1) := by
  funext j
  unfold updV nz_f
  by_cases e : j = i
  · rw [if_pos e, if_pos (by omega), e]
  · rw [if_neg e]
    by_cases c : j < i
    · rw [if_pos c, if_pos (by omega)]
    · rw [if_neg c, if_neg (by omega)]
theorem nz_0 {h : Nat} : nz_f h 0 = fun _ => .null := by
  funext j
  unfold nz_f
  rw [if_neg (by omega)]
def nz_s (T : State) (cA cI : ClassId) (N M : Nat) (dv : Value) : Nat → State
  | 0 => T.pushCell (arrV cA N (nz_f T.heap.size 0))
  | i + 1 => ((nz_s T cA cI N M dv i).pushCell (arrV cI M (fun _ => dv))).setCell T.heap.size (arrV cA N (nz_f T.heap.size (i + 1)))
section NZ
variable {T : State} {cA cI : ClassId} {N M : Nat} {dv : Value}
theorem nz_facts : ∀ i, (nz_s T cA cI N M dv i).heap.size = T.heap.size + 1 + i ∧ (nz_s T cA cI N M dv i).heap[T.heap.size]? = some (arrV cA N (nz_f T.heap.size i)) ∧ (nz_s T cA cI N M dv i).vm = T.vm ∧ (nz_s T cA cI N M dv i).slotsUsed = T.slotsUsed + N + i * M
  | 0 => ⟨by simp [nz_s], by simp [nz_s], rfl, by simp [nz_s, arrV_size]⟩
  | i + 1 => by
    obtain ⟨a, b, d, u⟩ := nz_facts i
    have hlt : T.heap.size < (nz_s T cA cI N M dv i).heap.size := by omega
    have hb' : ((nz_s T cA cI N M dv i).pushCell (arrV cI M (fun _ => dv))).heap[T.heap.size]? = some (arrV cA N (nz_f T.heap.size i)) := by rw [State.heap_pushCell_of_lt (h := hlt)]; exact b
    refine ⟨?_, State.heap_setCell_self hb', by simp [nz_s, d], ?_⟩
    · simp [nz_s, State.setCell, a]
      omega
    · simp [nz_s, u, arrV_size, Nat.succ_mul]
      omega
theorem nz_top (f : JFrame) : ∀ i, nz_s (T.setTop f) cA cI N M dv i = (nz_s T cA cI N M dv i).setTop f
  | 0 => rfl
  | i + 1 => by
    simp only [nz_s, nz_top f i, State.heap_setTop, State.pushCell_setTop, State.setCell_setTop]
theorem nz_old {a : Nat} (ha : a < T.heap.size) : ∀ i, (nz_s T cA cI N M dv i).heap[a]? = T.heap[a]?
  | 0 => State.heap_pushCell_of_lt _ _ ha
  | i + 1 => by
    have f1 := (nz_facts (T := T) (cA := cA) (cI := cI) (N := N) (M := M) (dv := dv) i).1
    have hlt : a < (nz_s T cA cI N M dv i).heap.size := by omega
    show (((nz_s T cA cI N M dv i).pushCell (arrV cI M (fun _ => dv))).setCell T.heap.size _).heap[a]? = _
    rw [State.heap_setCell_other (Nat.ne_of_gt ha), State.heap_pushCell_of_lt (h := hlt)]
    exact nz_old ha i
theorem nz_in : ∀ i j, j < i → (nz_s T cA cI N M dv i).heap[T.heap.size + 1 + j]? = some (arrV cI M (fun _ => dv))
  | 0, _, h => absurd h (Nat.not_lt_zero _)
  | i + 1, j, h => by
    have f1 := (nz_facts (T := T) (cA := cA) (cI := cI) (N := N) (M := M) (dv := dv) i).1
    show (((nz_s T cA cI N M dv i).pushCell (arrV cI M (fun _ => dv))).setCell T.heap.size _).heap[T.heap.size + 1 + j]? = _
    rw [State.heap_setCell_other (show T.heap.size ≠ T.heap.size + 1 + j by omega)]
    by_cases hj : j < i
    · have hlt : T.heap.size + 1 + j < (nz_s T cA cI N M dv i).heap.size := by omega
      rw [State.heap_pushCell_of_lt (h := hlt)]
      exact nz_in i j hj
    · have e : j = i := by omega
      rw [e, ← f1]
      exact State.heap_pushCell_size _ _
end NZ
section NZW
variable {E : CtlPost} {e : Env} {d : Bool} {acts : List Action} {s : State}
theorem nz_newArray {c comp : ClassId} {k : Class} {type : FieldType} {len : Nat} {init : Value} (hk : s.vm.classes[c]? = some k) (hkind : k.kind = .array comp type) (hlimit : ¬ len > e.platform.arrayLengthLimit) (hheap : ¬ len * componentBytes type > e.platform.maxHeapBytes) (hfit : fits type init = true) (hdef : init.isDefault = true) {Q : Addr → Pre} (h1 : s.heap.size < e.platform.maxCells) (h2 : s.slotsUsed + len ≤ e.platform.maxSlots) (hq : Q s.heap.size d acts (s.pushCell (arrV c len (fun _ => init)))) : wp (Jvm.newArray c len init) Q E e d acts s := by
  rw [← arrV_new] at hq
  have hfits : ∀ i v, (Array.replicate len init)[i]? = some v → s.fitsSlot c .none i v = true := fun i v hv => by
    rw [Array.getElem?_replicate] at hv
    split at hv
    · cases hv
      simp [State.fitsSlot, State.slotType?, hk, hkind, hfit]
    · cases hv
  have hda : allocActs (Array.replicate len init) s.heap.size acts = acts := by
    unfold allocActs
    rw [if_pos (by rw [Array.all_replicate]; split <;> simp [hdef])]
  simp only [Jvm.newArray, Jvm.arrayFits, wp_bind', W.ask, W.ite, hlimit, if_false, wp_pure', W.theClass, hk, hkind, hheap, W.alloc, W.stop, Option.some.injEq, exists_eq_left', Array.size_replicate, hda]
  rw [if_neg (by omega)]
  exact ⟨h1, h2, hfits, hq⟩
theorem nz_make1 {comp cc : ClassId} {kc : Class} {type : FieldType} {m : Int32} (hkc : s.vm.classes[comp]? = some kc) (hkindc : kc.kind = .array cc type) (hm : ¬ m < 0) (hl2 : ¬ m.toNatClampNeg > e.platform.arrayLengthLimit) (hh2 : ¬ m.toNatClampNeg * componentBytes type > e.platform.maxHeapBytes) (hdf : fits type (defaultValue type) = true) (hdd : (defaultValue type).isDefault = true) (h1 : s.heap.size < e.platform.maxCells) (h2 : s.slotsUsed + m.toNatClampNeg ≤ e.platform.maxSlots) {Q : Addr → Pre} (hq : Q s.heap.size d acts (s.pushCell (arrV comp m.toNatClampNeg (fun _ => defaultValue type)))) : wp (multianewarray.make comp [m]) Q E e d acts s := by
  rw [multianewarray.make]
  simp only [wp_bind', W.ite, hm, if_false, wp_pure', W.theClass, hkc, hkindc, Option.some.injEq, exists_eq_left']
  exact nz_newArray hkc hkindc hl2 hh2 hdf hdd h1 h2 hq
theorem nz_make2 {c comp cc : ClassId} {k kc : Class} {type : FieldType} {n m : Int32} (hk : s.vm.classes[c]? = some k) (hkind : k.kind = .array comp (.array type)) (hkc : s.vm.classes[comp]? = some kc) (hkindc : kc.kind = .array cc type) (hn : ¬ n < 0) (hm : ¬ m < 0) (hl1 : ¬ n.toNatClampNeg > e.platform.arrayLengthLimit) (hh1 : ¬ n.toNatClampNeg * componentBytes (.array type) > e.platform.maxHeapBytes) (hl2 : ¬ m.toNatClampNeg > e.platform.arrayLengthLimit) (hh2 : ¬ m.toNatClampNeg * componentBytes type > e.platform.maxHeapBytes) (hdf : fits type (defaultValue type) = true) (hdd : (defaultValue type).isDefault = true) (hc : s.heap.size + (1 + n.toNatClampNeg) ≤ e.platform.maxCells) (hs : s.slotsUsed + (n.toNatClampNeg + n.toNatClampNeg * m.toNatClampNeg) ≤ e.platform.maxSlots) {Q : Addr → Pre} (hq : ∀ d' acts', Q s.heap.size d' acts' (nz_s s c comp n.toNatClampNeg m.toNatClampNeg (defaultValue type) n.toNatClampNeg)) : wp (multianewarray.make c [n, m]) Q E e d acts s := by
  have hfind : ([m].find? (· < 0)) = none := by simp [hm]
  have hz := Nat.zero_le (n.toNatClampNeg * m.toNatClampNeg)
  have hq0 : nz_s s c comp n.toNatClampNeg m.toNatClampNeg (defaultValue type) 0 = s.pushCell (arrV c n.toNatClampNeg (fun _ => .null)) := by
    unfold nz_s
    rw [nz_0]
  rw [multianewarray.make]
  simp only [wp_bind', W.ite, hn, if_false, wp_pure', W.theClass, hk, hkind, Option.some.injEq, exists_eq_left']
  refine nz_newArray hk hkind hl1 hh1 rfl rfl (by omega) (by omega) ?_
  simp only [hfind]
  rw [ite_self, wp_bind', Std.Legacy.Range.forIn_eq_forIn_range', show ([:n.toNatClampNeg] : Std.Legacy.Range).size = n.toNatClampNeg by simp [Std.Legacy.Range.size]]
  show wp (forIn (List.range' 0 n.toNatClampNeg 1) PUnit.unit _) _ E e d acts _
  refine wp_forIn_inv (fun rest s' => ∃ i, i + rest.length = n.toNatClampNeg ∧ rest = List.range' i rest.length ∧ s' = nz_s s c comp n.toNatClampNeg m.toNatClampNeg (defaultValue type) i) _ _ ⟨0, by simp, by simp, hq0.symm⟩ ?_ ?_
  · rintro x rest s' d' acts' Q' ⟨i, hi, hl, rfl⟩ hnext
    rw [List.length_cons] at hi hl
    rw [List.range'_succ] at hl
    obtain ⟨rfl, hr⟩ := List.cons.inj hl
    obtain ⟨f1, f2, f3, f4⟩ := nz_facts (T := s) (cA := c) (cI := comp) (N := n.toNatClampNeg) (M := m.toNatClampNeg) (dv := defaultValue type) x
    have hmul : x * m.toNatClampNeg + m.toNatClampNeg ≤ n.toNatClampNeg * m.toNatClampNeg := by
      rw [← Nat.succ_mul]
      exact Nat.mul_le_mul_right _ (by omega)
    have hlt0 : s.heap.size < (nz_s s c comp n.toNatClampNeg m.toNatClampNeg (defaultValue type) x).heap.size := by omega
    simp only [wp_bind']
    refine nz_make1 (by rw [f3]; exact hkc) hkindc hm hl2 hh2 hdf hdd (by rw [f1]; omega) (by rw [f4]; omega) ?_
    simp only [wp_bind', W.writeLoc, wp_pure']
    refine ⟨arrV c n.toNatClampNeg (nz_f s.heap.size x), by rw [State.heap_pushCell_of_lt (h := hlt0)]; exact f2, by simp [arrV], by rw [arrV_size]; omega, ?_, hnext _ _ _ ⟨x + 1, by omega, hr, ?_⟩⟩
    · show State.fitsSlot _ c .none x _ = true
      simp [State.fitsSlot, State.slotType?, f3, hk, hkind]
      rfl
    · rw [f1, arrV_store, nz_upd]
      rfl
  · rintro s' d' acts' ⟨i, hi, hl, rfl⟩
    have hiN : i = n.toNatClampNeg := by simpa using hi
    subst hiN
    simp only [wp_pure']
    exact hq _ _
end NZW
