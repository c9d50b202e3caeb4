/-! a row of rows is made: the kit's way -/
section NZS
variable {p : Program} {l : Launch} {e : Env} {R : Room} {s : State} {m : MethodId} {args : Array Value} {below : List Frame} {meth : Method} {c : Code} {T : State} {locs : List Loc} {cells slots : Nat}
theorem nz_over {t : FieldType} {first : State} {o : Option Outcome} {idx : List Nat} (h : (Cond.arrayOver (.array t)).holds args first o s idx = true) : ∃ comp cA k, s.vm.findClass (FieldType.array t).toString = some comp ∧ s.vm.classes[cA]? = some k ∧ k.kind = .array comp (.array t) ∧ s.vm.findClass ("[" ++ (FieldType.array t).toString) = some cA := by
  simp only [Cond.holds, Cond.value, beq_iff_eq] at h
  cases hc : s.vm.findClass (FieldType.array t).toString with
  | none => simp [hc] at h
  | some comp =>
    simp only [hc, Option.bind_some, Option.bind_eq_some_iff, Option.map_eq_some_iff] at h
    obtain ⟨cA, hi, k, hk, hb⟩ := h
    have hp := (Array.findIdx?_eq_some_iff_getElem.mp hi).2.1
    rw [(Array.getElem?_eq_some_iff.mp hk).2] at hp
    cases hkind : k.kind with
    | array component ty =>
      rw [hkind] at hb hp
      simp at hb hp
      exact ⟨comp, cA, k, rfl, hk, by rw [hkind, hp, hb.1], hb.2⟩
    | _ => rw [hkind] at hb; simp at hb
/-- rows of rows of a kind can be made -/
def nz_O (ty : FieldType) (U : State) : Prop := ∃ comp cA k, U.vm.findClass (FieldType.array ty).toString = some comp ∧ U.vm.classes[cA]? = some k ∧ k.kind = .array comp (.array ty) ∧ U.vm.findClass ("[" ++ (FieldType.array ty).toString) = some cA
theorem nz_O.moved {ty : FieldType} {u U : State} (hvm : u.vm.Alike U.vm) (h : nz_O ty u) : nz_O ty U := by
  obtain ⟨comp, cA, k, h1, h2, h3, h4⟩ := h
  obtain ⟨k', hk', he⟩ := hvm.2.2 _ _ h2
  exact ⟨comp, cA, k', by rw [hvm.findClass]; exact h1, hk', by rw [he]; exact h3, by rw [hvm.findClass]; exact h4⟩
theorem nz_stand (X : Stand p l e R s m args below meth c T locs cells slots) (cA cI : ClassId) (N M : Nat) (dv : Value) : ∀ i, i ≤ N → Stand p l e R s m args below meth c (nz_s T cA cI N M dv i) (locs ++ (List.range i).map fun j => ⟨T.heap.size, j⟩) (cells + 1 + i) (slots + N + i * M)
  | 0, _ => by
    have h := X.pushed (arrV cA N (nz_f T.heap.size 0))
    rw [arrV_size] at h
    simpa [nz_s] using h
  | i + 1, hi => by
    have Xi := nz_stand X cA cI N M dv i (by omega)
    obtain ⟨f1, f2, f3, f4⟩ := nz_facts (T := T) (cA := cA) (cI := cI) (N := N) (M := M) (dv := dv) i
    have hcell : ((nz_s T cA cI N M dv i).pushCell (arrV cI M (fun _ => dv))).heap[T.heap.size]? = some (arrV cA N (nz_f T.heap.size i)) := by
      have hlt : T.heap.size < (nz_s T cA cI N M dv i).heap.size := by omega
      rw [State.heap_pushCell_of_lt (h := hlt)]
      exact f2
    have h := (Xi.pushed (arrV cI M (fun _ => dv))).stored hcell i (.ref (T.heap.size + 1 + i))
    rw [arrV_size, arrV_store, nz_upd] at h
    rw [show (locs ++ (List.range (i + 1)).map fun j => (⟨T.heap.size, j⟩ : Loc)) = (locs ++ (List.range i).map fun j => (⟨T.heap.size, j⟩ : Loc)) ++ [⟨T.heap.size, i⟩] by simp [List.range_succ, List.append_assoc], show slots + N + (i + 1) * M = slots + N + i * M + M by rw [Nat.succ_mul]; omega]
    exact h
theorem nz_step (X : Stand p l e R s m args below meth c T locs cells slots) (hexec : p.tables.exec = Jvm.exec) {own : String} {index : Nat} {ty : FieldType} (hown : s.vm.findClass own = some m.cls) (hclink : (Cond.classLink own index ("[" ++ (FieldType.array ty).toString)).before args s = true) (hover : nz_O ty s) (harr : (Cond.arrayClass ty).before args s = true) {g : JFrame} (hg : g.method = m) (hdg : decode c.code g.pc = .ok (.multianewarray index 2, 4)) {n k : Int32} {rest : List Value} (hstack : g.stack = .int k :: .int n :: rest) (hn : ¬ n < 0) (hk : ¬ k < 0) (hb1 : n.toNatClampNeg * 4 ≤ 536870912) (hb2 : k.toNatClampNeg * componentBytes ty ≤ 536870912) (hb3 : k.toNatClampNeg ≤ 536870912) (hdf : fits ty (defaultValue ty) = true) (hdd : (defaultValue ty).isDefault = true) (hcells : cells + (1 + n.toNatClampNeg) ≤ R.cells) (hslots : slots + (n.toNatClampNeg + n.toNatClampNeg * k.toNatClampNeg) ≤ R.slots) :
    ∃ (vm₁ : Vm) (cA cI : ClassId), s.WarmedH vm₁ ∧ (ArrOfT s cA (.array ty) ∧ va_RA s cA (.array ty)) ∧ (ArrOfT s cI ty ∧ s.vm.findClass ("[" ++ ty.toString) = some cI) ∧ Stand p l e R s m args below meth c (nz_s (T.setVm vm₁) cA cI n.toNatClampNeg k.toNatClampNeg (defaultValue ty) n.toNatClampNeg) (locs ++ (List.range n.toNatClampNeg).map fun j => ⟨T.heap.size, j⟩) (cells + 1 + n.toNatClampNeg) (slots + n.toNatClampNeg + n.toNatClampNeg * k.toNatClampNeg) ∧
      ∀ target, Steps p.tables e below ((nz_s (T.setVm vm₁) cA cI n.toNatClampNeg k.toNatClampNeg (defaultValue ty) n.toNatClampNeg).setTop { g with pc := g.pc + 4, stack := .ref T.heap.size :: rest }) target → Steps p.tables e below (T.setTop g) target := by
  subst hg
  have hpl : e.platform.magicAccessors = ({} : Platform).magicAccessors := by rw [X.admits.platform]
  obtain ⟨cI, cA, kA, hcomp, hkA, hkindA, hnameA⟩ := hover
  obtain ⟨cI', kC, cc, hcomp', hkC, hkindC⟩ := Cond.arrayClass_spec harr
  have ecomp : cI' = cI := Option.some.inj (hcomp'.symm.trans hcomp)
  subst ecomp
  obtain ⟨c0, hfc0, hcl⟩ := Cond.classLink_spec hown hclink e.platform hpl
  cases hnameA.symm.trans hfc0
  obtain ⟨hg₁, hwarm₁, hready₁⟩ := State.classEntry (e := e) X.warmed hcl
  generalize T.vm.noted g.method.cls index (.cls cA) = vm₁ at hg₁ hwarm₁ hready₁
  have hal : s.vm.Alike vm₁ := hwarm₁.alike
  obtain ⟨kA₁, hkA₁, heA⟩ := hal.2.2 _ _ hkA
  obtain ⟨kC₁, hkC₁, heC⟩ := hal.2.2 _ _ hkC
  have X₁ := X.noted hwarm₁
  obtain ⟨hr1, hr2⟩ := X.roomAbove hcells hslots
  have XF := nz_stand X₁ cA cI' n.toNatClampNeg k.toNatClampNeg (defaultValue ty) n.toNatClampNeg (Nat.le_refl _)
  refine ⟨vm₁, cA, cI', hwarm₁, ⟨fun _ z => ⟨fun _ h => (by cases h), kA, hkA, cI', hkindA⟩, hnameA⟩, ⟨fun _ z => ⟨fun _ h => (by cases h), kC, hkC, cc, hkindC⟩, hcomp'⟩, XF, fun target hrest => ?_⟩
  have hl1 : ¬ n.toNatClampNeg > e.platform.arrayLengthLimit := by rw [Launch.admits_arrayLengthLimit X.admits]; omega
  have hh1 : ¬ n.toNatClampNeg * componentBytes (.array ty) > e.platform.maxHeapBytes := by
    rw [Launch.admits_maxHeapBytes X.admits]
    show ¬ n.toNatClampNeg * 4 > 536870912
    omega
  have hl2 : ¬ k.toNatClampNeg > e.platform.arrayLengthLimit := by rw [Launch.admits_arrayLengthLimit X.admits]; omega
  have hh2 : ¬ k.toNatClampNeg * componentBytes ty > e.platform.maxHeapBytes := by rw [Launch.admits_maxHeapBytes X.admits]; omega
  jvm_step X.here [hexec, hdg]
  simp only [multianewarray.sem, wp_bind', W.resolveClassAt_links (State.method?_setTop g X.here.top) hg₁]
  rw [W.popN, if_neg (by decide)]
  refine ⟨g, State.topJava?_setTop' (s := T.setVm vm₁) g X.here.top, [.int n, .int k], rest, rfl, hstack, ?_⟩
  simp only [List.mapM_cons, List.mapM_nil, wp_bind', wp_pure']
  refine nz_make2 (k := kA₁) (kc := kC₁) (comp := cI') (cc := cc) (type := ty) hkA₁ (by rw [heA]; exact hkindA) hkC₁ (by rw [heC]; exact hkindC) hn hk hl1 hh1 hl2 hh2 hdf hdd (by show T.heap.size + _ ≤ _; omega) (by show T.slotsUsed + _ ≤ _; omega) (fun d' acts' => ?_)
  rw [show ((T.setTop g).setVm vm₁).setTop { g with stack := rest } = (T.setVm vm₁).setTop { g with stack := rest } by
    show ((T.setVm vm₁).setTop g).setTop _ = _
    rw [State.setTop_setTop], nz_top]
  simp only [wp_bind', W.mark, W.pushRef, State.topJava?_setTop' _ XF.here.top, Option.some.injEq, exists_eq_left', State.setTop_setTop, State.heap_setTop]
  intro acts
  simp [jvm, XF.here.top]
  exact hrest
end NZS
section NZV
variable {p : Program} {l : Launch} {e : Env} {R : Room} {s : State} {m : MethodId} {args : Array Value} {below : List Frame} {meth : Method} {c : Code} {H H0 : Heap} {locs : List Loc} {cells slots : Nat} {Q : State → Prop} {cc : ByteArray} {pc : Nat} {ls : Array Slot} {rest : List Value} {D : va_G} {cl : List vw_C} {tys : List (ClassId × FieldType)} {ws : va_W} {A : Nat → Prop}
/-- the cells that come -/
def nz_L (q : Nat) (cA cI : ClassId) (N : Nat) (a0 : vp_A) : va_W := (q, .inl (cA, N, .inr (.inr (.inr (.inr (fun i => if i < N then some (q + 1 + i) else none)))))) :: (List.range N).map (fun i => (q + 1 + i, .inl (cI, a0)))
theorem nz_L_at {q N i : Nat} {cA cI : ClassId} {a0 : vp_A} {x : Nat × va_E} (h : (nz_L q cA cI N a0)[i]? = some x) : x.1 = q + i ∧ i ≤ N ∧ (i = 0 → x.2 = .inl (cA, N, .inr (.inr (.inr (.inr (fun i => if i < N then some (q + 1 + i) else none)))))) ∧ (0 < i → x.2 = .inl (cI, a0)) := by
  unfold nz_L at h
  cases i with
  | zero =>
    cases h
    exact ⟨rfl, Nat.zero_le _, fun _ => rfl, fun z => absurd z (by omega)⟩
  | succ i =>
    rw [List.getElem?_cons_succ, List.getElem?_map] at h
    cases hr : (List.range N)[i]? with
    | none =>
      rw [hr] at h
      cases h
    | some y =>
      rw [hr] at h
      cases h
      have hlt : i < N := by
        have := (List.getElem?_eq_some_iff.mp hr).1
        rwa [List.length_range] at this
      rw [List.getElem?_range hlt] at hr
      cases hr
      exact ⟨by show q + 1 + i = q + (i + 1); omega, hlt, fun z => absurd z (by omega), fun _ => rfl⟩
theorem nz_row (hexec : p.tables.exec = Jvm.exec) (hb : c.code = cc) {own : String} {index : Nat} {ty : FieldType} (hown : s.vm.findClass own = some m.cls) (hclink : (Cond.classLink own index ("[" ++ (FieldType.array ty).toString)).before args s = true) (hover : nz_O ty s) (harr : (Cond.arrayClass ty).before args s = true) (hra : ∀ cI : ClassId, s.vm.findClass ("[" ++ ty.toString) = some cI → va_RA s cI ty) (hK : va_K D cl tys s) (hP : va_P D cl ws H) (hD : va_D A ws) (hS : va_S A H0 H locs) (hA : ∀ q, H0.size ≤ q → A q) {n k : Int32} {N M : Nat} (hn : ¬ n < 0) (hk : ¬ k < 0) (hN : n.toNatClampNeg = N) (hM : k.toNatClampNeg = M) (hb1 : N * 4 ≤ 536870912) (hb2 : M * componentBytes ty ≤ 536870912) (hb3 : M ≤ 536870912) (hdf : fits ty (defaultValue ty) = true) (hdd : (defaultValue ty).isDefault = true) (hcells : cells + (1 + N) ≤ R.cells) (hslots : slots + (N + N * M) ≤ R.slots) {a0 : vp_A} (ha : ∀ cI : ClassId, vp_cell cI a0 = arrV cI M (fun _ => defaultValue ty)) (hdg : decode cc pc = .ok (.multianewarray index 2, 4))
    (kk : ∀ (q : Nat) (cA cI : ClassId) (H1 : Heap) (locs1 : List Loc), va_K D cl (tys ++ [(cI, ty), (cA, .array ty)]) s → va_P D cl (ws ++ nz_L q cA cI N a0) H1 → va_D A (ws ++ nz_L q cA cI N a0) → va_S A H0 H1 locs1 → W p l e R s m args below meth c H1 locs1 (cells + 1 + N) (slots + N + N * M) Q (F0 m (pc + 4) ls (.ref q :: rest))) : W p l e R s m args below meth c H locs cells slots Q (F0 m pc ls (.int k :: .int n :: rest)) := by
  intro T hT X
  subst hb hN hM
  obtain ⟨vm₁, cA, cI, hW, hcA, hcI, XF, st⟩ := nz_step X hexec hown hclink hover harr (g := F0 m pc ls (.int k :: .int n :: rest)) rfl hdg rfl hn hk hb1 hb2 hb3 hdf hdd hcells hslots
  obtain ⟨f1, f2, f3, f4⟩ := nz_facts (T := T.setVm vm₁) (cA := cA) (cI := cI) (N := n.toNatClampNeg) (M := k.toNatClampNeg) (dv := defaultValue ty) n.toNatClampNeg
  have old : ∀ a, a < T.heap.size → (nz_s (T.setVm vm₁) cA cI n.toNatClampNeg k.toNatClampNeg (defaultValue ty) n.toNatClampNeg).heap[a]? = T.heap[a]? := fun a ha => nz_old (T := T.setVm vm₁) ha _
  have inn : ∀ j, j < n.toNatClampNeg → (nz_s (T.setVm vm₁) cA cI n.toNatClampNeg k.toNatClampNeg (defaultValue ty) n.toNatClampNeg).heap[T.heap.size + 1 + j]? = some (arrV cI k.toNatClampNeg (fun _ => defaultValue ty)) := fun j hj => nz_in (T := T.setVm vm₁) _ j hj
  have out : (nz_s (T.setVm vm₁) cA cI n.toNatClampNeg k.toNatClampNeg (defaultValue ty) n.toNatClampNeg).heap[T.heap.size]? = some (arrV cA n.toNatClampNeg (nz_f T.heap.size n.toNatClampNeg)) := f2
  have sz : (nz_s (T.setVm vm₁) cA cI n.toNatClampNeg k.toNatClampNeg (defaultValue ty) n.toNatClampNeg).heap.size = T.heap.size + 1 + n.toNatClampNeg := f1
  subst hT
  generalize nz_s (T.setVm vm₁) cA cI n.toNatClampNeg k.toNatClampNeg (defaultValue ty) n.toNatClampNeg = U at *
  have hlt : ∀ (k' : Nat) (x : Nat × va_E), ws[k']? = some x → x.1 < T.heap.size := fun k' x hx => (hP k' x hx).lt
  have P1 : va_P D cl (ws ++ nz_L T.heap.size cA cI n.toNatClampNeg a0) U.heap := by
    refine (hP.kept (fun k' x hx => old x.1 (hlt k' x hx))).app (fun i x hx => ?_)
    obtain ⟨e1, e2, e3, e4⟩ := nz_L_at hx
    obtain ⟨xa, xe⟩ := x
    cases i with
    | zero =>
      have e3' := e3 rfl
      have e1' : xa = T.heap.size := e1
      have e3'' : xe = _ := e3'
      subst e1' e3''
      show U.heap[T.heap.size]? = some (arrV cA n.toNatClampNeg (fun j => va_rf (if j < n.toNatClampNeg then some (T.heap.size + 1 + j) else none)))
      rw [out]
      congr 2
      funext j
      unfold nz_f
      split <;> rfl
    | succ i =>
      have e4' : xe = _ := e4 (by omega)
      have e1' : xa = T.heap.size + (i + 1) := e1
      subst e1' e4'
      show U.heap[T.heap.size + (i + 1)]? = some (vp_cell cI a0)
      rw [ha, show T.heap.size + (i + 1) = T.heap.size + 1 + i by omega]
      exact inn i (by omega)
  have D1 : va_D A (ws ++ nz_L T.heap.size cA cI n.toNatClampNeg a0) := by
    have key : ∀ (i : Nat) (x : Nat × va_E), (ws ++ nz_L T.heap.size cA cI n.toNatClampNeg a0)[i]? = some x → (i < ws.length ∧ ws[i]? = some x) ∨ (ws.length ≤ i ∧ x.1 = T.heap.size + (i - ws.length)) := fun i x hx => by
      by_cases hl : i < ws.length
      · rw [List.getElem?_append_left hl] at hx
        exact Or.inl ⟨hl, hx⟩
      · rw [List.getElem?_append_right (by omega)] at hx
        exact Or.inr ⟨by omega, (nz_L_at hx).1⟩
    refine ⟨fun i j x y hx hy exy => ?_, fun i x hx => ?_⟩
    · rcases key i x hx with ⟨a1, a2⟩ | ⟨a1, a2⟩ <;> rcases key j y hy with ⟨b1, b2⟩ | ⟨b1, b2⟩
      · exact hD.1 i j x y a2 b2 exy
      · have := hlt i x a2
        omega
      · have := hlt j y b2
        omega
      · omega
    · rcases key i x hx with ⟨a1, a2⟩ | ⟨a1, a2⟩
      · exact hD.2 i x a2
      · have := hS.1
        exact hA _ (by omega)
  have S1 : va_S A H0 U.heap (locs ++ (List.range n.toNatClampNeg).map fun j => ⟨T.heap.size, j⟩) := by
    refine ⟨by have := hS.1; omega, fun x h1 h2 => (old x (Nat.lt_of_lt_of_le h1 hS.1)).trans (hS.2.1 x h1 h2), fun lo hlo => ?_⟩
    rcases List.mem_append.mp hlo with z | z
    · exact hS.2.2 lo z
    · obtain ⟨j, -, rfl⟩ := List.mem_map.mp z
      exact hA _ hS.1
  have K1 : va_K D cl (tys ++ [(cI, ty), (cA, .array ty)]) s := by
    refine hK.app ⟨hK.1, fun i x hx => ?_⟩
    match i, hx with
    | 0, hx => cases hx; exact ⟨hcI.1, hra _ hcI.2⟩
    | 1, hx => cases hx; exact hcA
    | i + 2, hx => cases hx
  obtain ⟨t, a1, b1⟩ := kk T.heap.size cA cI U.heap _ K1 P1 D1 S1 U rfl XF
  exact ⟨t, st t a1, b1⟩
end NZV
