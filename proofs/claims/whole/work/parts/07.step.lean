/-! one step of the small machine is one instruction of the machine -/
def mw_rm (d : Nat) : Room := { frames := d, cells := 0, slots := 0, locals := 100 * d }
/-- what holds all through a method -/
def mw_Cx (D : va_G) (ad : Nat → Nat) (cA : Nat → ClassId) (fm : Value) (me : mw_Me) (d : Nat) (p : Program) (R : Room) (s : State) (m : MethodId) (args : Array Value) (meth : Method) (c : Code) : Prop :=
  p.tables.exec = Jvm.exec ∧ c.code = me.2.1 ∧ c.maxLocals = me.2.2.1 ∧ s.vm.findClass me.1.cls = some m.cls ∧ (∀ w ∈ mw_wd, w.before args s = true) ∧ meth.locks = false ∧ meth.sig.returnType = me.2.2.2.1 ∧ va_K D vwCl (mw_ty cA) s ∧ mw_Cs ad fm (mw_A ad s.heap.size) s s.heap ∧ fm.category = 1 ∧ mw_inj ad ∧ mw_ow[me.2.2.2.2.1]? = some me.1.cls ∧ R = mw_rm (d + 1)
section MWS
variable {D : va_G} {ad : Nat → Nat} {cA : Nat → ClassId} {fm : Value} {me : mw_Me} {d : Nat} {p : Program} {l : Launch} {e : Env} {R : Room} {s : State} {m : MethodId} {args : Array Value} {below : List Frame} {meth : Method} {c : Code} {Qm : State → Prop}
/-- from a place on, the machine comes to Qm -/
def mw_Go (D : va_G) (ad : Nat → Nat) (cA : Nat → ClassId) (fm : Value) (me : mw_Me) (p : Program) (l : Launch) (e : Env) (R : Room) (s : State) (m : MethodId) (args : Array Value) (below : List Frame) (meth : Method) (c : Code) (Qm : State → Prop) (pc : Nat) (lv : mw_L) (st : List mw_V) (σ : mw_S) : Prop :=
  mw_okS σ → mw_okL st → mw_okV lv → ∀ (H : Heap) (locs : List Loc) (ls : Array Slot), va_P D vwCl (mw_ws ad cA σ) H → va_S (mw_A ad s.heap.size) s.heap H locs → mw_LR (mw_tr ad fm) ls me.2.2.1 lv → W p l e R s m args below meth c H locs 0 0 Qm (F0 m pc ls (st.map (mw_tr ad fm)))
theorem mw_own_of (hx : mw_Cx D ad cA fm me d p R s m args meth c) {idx : Nat} (h : idx < 10000) : mw_own (mw_key me idx) = me.1.cls ∧ mw_key me idx % 10000 = idx := by
  obtain ⟨-, -, -, -, -, -, -, -, -, -, -, ho, -⟩ := hx
  have h1 : (10000 * me.2.2.2.2.1 + idx) / 10000 = me.2.2.2.2.1 := by omega
  have h2 : (10000 * me.2.2.2.2.1 + idx) % 10000 = idx := by omega
  refine ⟨?_, by unfold mw_key; rw [if_pos h]; exact h2⟩
  unfold mw_own mw_key
  rw [if_pos h, h1, List.getD_eq_getElem?_getD, ho]
  rfl
theorem mw_s_iconst (hx : mw_Cx D ad cA fm me d p R s m args meth c) {n : Int} {pc : Nat} {lv : mw_L} {st : List mw_V} {σ : mw_S} {K : Nat → mw_L → List mw_V → mw_S → Prop} (hd : decode me.2.1 pc = .ok (.iconst n, 1)) (hs : K (pc + 1) lv (jI (w32 n) :: st) σ) (hk : ∀ pc' lv' st' σ', K pc' lv' st' σ' → mw_Go D ad cA fm me p l e R s m args below meth c Qm pc' lv' st' σ') : mw_Go D ad cA fm me p l e R s m args below meth c Qm pc lv st σ := by
  obtain ⟨hex, hb, hml, hown, hts, hlk, hrt, hK, hCs, hfm, hinj, how, hR⟩ := hx
  intro oS oL oV H locs ls hP hS hl
  have g := hk _ _ _ _ hs oS (oL.cons (v := jI (w32 n)) (in32_of _)) oV H locs ls hP hS hl
  refine lv_iconst (v := Int32.ofInt n) hex hb hd rfl ?_
  have e1 : (mw_tr ad fm (jI (w32 n))) = .int (Int32.ofInt n) := congrArg Value.int (i32_of _)
  rw [List.map_cons, e1] at g
  exact g
theorem mw_s_bipush (hx : mw_Cx D ad cA fm me d p R s m args meth c) {n : Int} {pc : Nat} {lv : mw_L} {st : List mw_V} {σ : mw_S} {K : Nat → mw_L → List mw_V → mw_S → Prop} (hd : decode me.2.1 pc = .ok (.bipush n, 2)) (hs : K (pc + 2) lv (jI (Int8.ofInt n).toInt32.toInt :: st) σ) (hk : ∀ pc' lv' st' σ', K pc' lv' st' σ' → mw_Go D ad cA fm me p l e R s m args below meth c Qm pc' lv' st' σ') : mw_Go D ad cA fm me p l e R s m args below meth c Qm pc lv st σ := by
  obtain ⟨hex, hb, hml, hown, hts, hlk, hrt, hK, hCs, hfm, hinj, how, hR⟩ := hx
  intro oS oL oV H locs ls hP hS hl
  have g := hk _ _ _ _ hs oS (oL.cons (v := jI (Int8.ofInt n).toInt32.toInt) (in32_of _)) oV H locs ls hP hS hl
  refine lv_bipush (v := (Int8.ofInt n).toInt32) hex hb hd rfl ?_
  have e1 : (mw_tr ad fm (jI (Int8.ofInt n).toInt32.toInt)) = .int (Int8.ofInt n).toInt32 := congrArg Value.int (i32_of _)
  rw [List.map_cons, e1] at g
  exact g
theorem mw_s_sipush (hx : mw_Cx D ad cA fm me d p R s m args meth c) {n : Int} {pc : Nat} {lv : mw_L} {st : List mw_V} {σ : mw_S} {K : Nat → mw_L → List mw_V → mw_S → Prop} (hd : decode me.2.1 pc = .ok (.sipush n, 3)) (hs : K (pc + 3) lv (jI (Int16.ofInt n).toInt32.toInt :: st) σ) (hk : ∀ pc' lv' st' σ', K pc' lv' st' σ' → mw_Go D ad cA fm me p l e R s m args below meth c Qm pc' lv' st' σ') : mw_Go D ad cA fm me p l e R s m args below meth c Qm pc lv st σ := by
  obtain ⟨hex, hb, hml, hown, hts, hlk, hrt, hK, hCs, hfm, hinj, how, hR⟩ := hx
  intro oS oL oV H locs ls hP hS hl
  have g := hk _ _ _ _ hs oS (oL.cons (v := jI (Int16.ofInt n).toInt32.toInt) (in32_of _)) oV H locs ls hP hS hl
  refine lv_sipush (v := (Int16.ofInt n).toInt32) hex hb hd rfl ?_
  have e1 : (mw_tr ad fm (jI (Int16.ofInt n).toInt32.toInt)) = .int (Int16.ofInt n).toInt32 := congrArg Value.int (i32_of _)
  rw [List.map_cons, e1] at g
  exact g
theorem mw_s_lconst (hx : mw_Cx D ad cA fm me d p R s m args meth c) {n : Fin 2} {pc : Nat} {lv : mw_L} {st : List mw_V} {σ : mw_S} {K : Nat → mw_L → List mw_V → mw_S → Prop} (hd : decode me.2.1 pc = .ok (.lconst n, 1)) (hs : K (pc + 1) lv (jL (Int64.ofNat (n : Nat)).toInt :: st) σ) (hk : ∀ pc' lv' st' σ', K pc' lv' st' σ' → mw_Go D ad cA fm me p l e R s m args below meth c Qm pc' lv' st' σ') : mw_Go D ad cA fm me p l e R s m args below meth c Qm pc lv st σ := by
  obtain ⟨hex, hb, hml, hown, hts, hlk, hrt, hK, hCs, hfm, hinj, how, hR⟩ := hx
  intro oS oL oV H locs ls hP hS hl
  have g := hk _ _ _ _ hs oS (oL.cons (v := jL (Int64.ofNat (n : Nat)).toInt) (in64_of _)) oV H locs ls hP hS hl
  refine lv_lconst (v := Int64.ofNat (n : Nat)) hex hb hd rfl ?_
  have e1 : (mw_tr ad fm (jL (Int64.ofNat (n : Nat)).toInt)) = .long (Int64.ofNat (n : Nat)) := congrArg Value.long (i64_of _)
  rw [List.map_cons, e1] at g
  exact g
theorem mw_s_iload (hx : mw_Cx D ad cA fm me d p R s m args meth c) {k : Nat} {pc : Nat} {lv : mw_L} {st : List mw_V} {σ : mw_S} {K : Nat → mw_L → List mw_V → mw_S → Prop} (hd : decode me.2.1 pc = .ok (.iload k, 2)) (hs : mw_ldI lv k (fun x => K (pc + 2) lv (jI x :: st) σ)) (hk : ∀ pc' lv' st' σ', K pc' lv' st' σ' → mw_Go D ad cA fm me p l e R s m args below meth c Qm pc' lv' st' σ') : mw_Go D ad cA fm me p l e R s m args below meth c Qm pc lv st σ := by
  obtain ⟨hex, hb, hml, hown, hts, hlk, hrt, hK, hCs, hfm, hinj, how, hR⟩ := hx
  intro oS oL oV H locs ls hP hS hl
  unfold mw_ldI at hs
  split at hs
  · rename_i x hlv
    have g := hk _ _ _ _ hs oS (oL.cons (v := jI x) (oV _ _ hlv)) oV H locs ls hP hS hl
    exact lv_iload hex hb hd (hl.2.2.2 _ _ hlv) g
  · exact hs.elim
theorem mw_s_iload_n (hx : mw_Cx D ad cA fm me d p R s m args meth c) {k : Fin 4} {pc : Nat} {lv : mw_L} {st : List mw_V} {σ : mw_S} {K : Nat → mw_L → List mw_V → mw_S → Prop} (hd : decode me.2.1 pc = .ok (.iload_n k, 1)) (hs : mw_ldI lv k (fun x => K (pc + 1) lv (jI x :: st) σ)) (hk : ∀ pc' lv' st' σ', K pc' lv' st' σ' → mw_Go D ad cA fm me p l e R s m args below meth c Qm pc' lv' st' σ') : mw_Go D ad cA fm me p l e R s m args below meth c Qm pc lv st σ := by
  obtain ⟨hex, hb, hml, hown, hts, hlk, hrt, hK, hCs, hfm, hinj, how, hR⟩ := hx
  intro oS oL oV H locs ls hP hS hl
  unfold mw_ldI at hs
  split at hs
  · rename_i x hlv
    have g := hk _ _ _ _ hs oS (oL.cons (v := jI x) (oV _ _ hlv)) oV H locs ls hP hS hl
    exact lv_iload_n hex hb hd rfl (hl.2.2.2 _ _ hlv) g
  · exact hs.elim
theorem mw_s_lload (hx : mw_Cx D ad cA fm me d p R s m args meth c) {k : Nat} {pc : Nat} {lv : mw_L} {st : List mw_V} {σ : mw_S} {K : Nat → mw_L → List mw_V → mw_S → Prop} (hd : decode me.2.1 pc = .ok (.lload k, 2)) (hs : mw_ldL lv k (fun x => K (pc + 2) lv (jL x :: st) σ)) (hk : ∀ pc' lv' st' σ', K pc' lv' st' σ' → mw_Go D ad cA fm me p l e R s m args below meth c Qm pc' lv' st' σ') : mw_Go D ad cA fm me p l e R s m args below meth c Qm pc lv st σ := by
  obtain ⟨hex, hb, hml, hown, hts, hlk, hrt, hK, hCs, hfm, hinj, how, hR⟩ := hx
  intro oS oL oV H locs ls hP hS hl
  unfold mw_ldL at hs
  split at hs
  · rename_i x hlv
    have g := hk _ _ _ _ hs oS (oL.cons (v := jL x) (oV _ _ hlv)) oV H locs ls hP hS hl
    exact lv_lload hex hb hd (hl.2.2.2 _ _ hlv) g
  · exact hs.elim
theorem mw_s_lload_n (hx : mw_Cx D ad cA fm me d p R s m args meth c) {k : Fin 4} {pc : Nat} {lv : mw_L} {st : List mw_V} {σ : mw_S} {K : Nat → mw_L → List mw_V → mw_S → Prop} (hd : decode me.2.1 pc = .ok (.lload_n k, 1)) (hs : mw_ldL lv k (fun x => K (pc + 1) lv (jL x :: st) σ)) (hk : ∀ pc' lv' st' σ', K pc' lv' st' σ' → mw_Go D ad cA fm me p l e R s m args below meth c Qm pc' lv' st' σ') : mw_Go D ad cA fm me p l e R s m args below meth c Qm pc lv st σ := by
  obtain ⟨hex, hb, hml, hown, hts, hlk, hrt, hK, hCs, hfm, hinj, how, hR⟩ := hx
  intro oS oL oV H locs ls hP hS hl
  unfold mw_ldL at hs
  split at hs
  · rename_i x hlv
    have g := hk _ _ _ _ hs oS (oL.cons (v := jL x) (oV _ _ hlv)) oV H locs ls hP hS hl
    exact lv_lload_n hex hb hd rfl (hl.2.2.2 _ _ hlv) g
  · exact hs.elim
theorem mw_s_aload (hx : mw_Cx D ad cA fm me d p R s m args meth c) {k : Nat} {pc : Nat} {lv : mw_L} {st : List mw_V} {σ : mw_S} {K : Nat → mw_L → List mw_V → mw_S → Prop} (hd : decode me.2.1 pc = .ok (.aload k, 2)) (hs : mw_ldR lv k (fun x => K (pc + 2) lv (jR x :: st) σ)) (hk : ∀ pc' lv' st' σ', K pc' lv' st' σ' → mw_Go D ad cA fm me p l e R s m args below meth c Qm pc' lv' st' σ') : mw_Go D ad cA fm me p l e R s m args below meth c Qm pc lv st σ := by
  obtain ⟨hex, hb, hml, hown, hts, hlk, hrt, hK, hCs, hfm, hinj, how, hR⟩ := hx
  intro oS oL oV H locs ls hP hS hl
  unfold mw_ldR at hs
  split at hs
  · rename_i x hlv
    have g := hk _ _ _ _ hs oS (oL.cons (v := jR x) (oV _ _ hlv)) oV H locs ls hP hS hl
    exact lv_aload hex hb hd (hl.2.2.2 _ _ hlv) g
  · exact hs.elim
theorem mw_s_aload_n (hx : mw_Cx D ad cA fm me d p R s m args meth c) {k : Fin 4} {pc : Nat} {lv : mw_L} {st : List mw_V} {σ : mw_S} {K : Nat → mw_L → List mw_V → mw_S → Prop} (hd : decode me.2.1 pc = .ok (.aload_n k, 1)) (hs : mw_ldR lv k (fun x => K (pc + 1) lv (jR x :: st) σ)) (hk : ∀ pc' lv' st' σ', K pc' lv' st' σ' → mw_Go D ad cA fm me p l e R s m args below meth c Qm pc' lv' st' σ') : mw_Go D ad cA fm me p l e R s m args below meth c Qm pc lv st σ := by
  obtain ⟨hex, hb, hml, hown, hts, hlk, hrt, hK, hCs, hfm, hinj, how, hR⟩ := hx
  intro oS oL oV H locs ls hP hS hl
  unfold mw_ldR at hs
  split at hs
  · rename_i x hlv
    have g := hk _ _ _ _ hs oS (oL.cons (v := jR x) (oV _ _ hlv)) oV H locs ls hP hS hl
    exact lv_aload_n hex hb hd rfl (hl.2.2.2 _ _ hlv) g
  · exact hs.elim
theorem mw_s_istore (hx : mw_Cx D ad cA fm me d p R s m args meth c) {k : Nat} {pc : Nat} {lv : mw_L} {st : List mw_V} {σ : mw_S} {K : Nat → mw_L → List mw_V → mw_S → Prop} (hd : decode me.2.1 pc = .ok (.istore k, 2)) (hs : mw_b1 st (fun x r => mw_st1 lv k (jI x) (fun lv' => K (pc + 2) lv' r σ))) (hk : ∀ pc' lv' st' σ', K pc' lv' st' σ' → mw_Go D ad cA fm me p l e R s m args below meth c Qm pc' lv' st' σ') : mw_Go D ad cA fm me p l e R s m args below meth c Qm pc lv st σ := by
  obtain ⟨hex, hb, hml, hown, hts, hlk, hrt, hK, hCs, hfm, hinj, how, hR⟩ := hx
  intro oS oL oV H locs ls hP hS hl
  unfold mw_b1 at hs
  split at hs
  · rename_i x r
    obtain ⟨h1, h2, h3⟩ := hs
    refine lv_istore hex hb hd (mw_LR.has hl) (by rw [← hl.2.2.1]; exact h1) rfl (fun ls' hl' => ?_)
    exact hk _ _ _ _ h3 oS oL.tail (oV.set oL.head) H locs ls' hP hS (hl.st1 (v := jI x) (mw_tr_cat hfm) h2 hl')
  · exact hs.elim
theorem mw_s_istore_n (hx : mw_Cx D ad cA fm me d p R s m args meth c) {k : Fin 4} {pc : Nat} {lv : mw_L} {st : List mw_V} {σ : mw_S} {K : Nat → mw_L → List mw_V → mw_S → Prop} (hd : decode me.2.1 pc = .ok (.istore_n k, 1)) (hs : mw_b1 st (fun x r => mw_st1 lv k (jI x) (fun lv' => K (pc + 1) lv' r σ))) (hk : ∀ pc' lv' st' σ', K pc' lv' st' σ' → mw_Go D ad cA fm me p l e R s m args below meth c Qm pc' lv' st' σ') : mw_Go D ad cA fm me p l e R s m args below meth c Qm pc lv st σ := by
  obtain ⟨hex, hb, hml, hown, hts, hlk, hrt, hK, hCs, hfm, hinj, how, hR⟩ := hx
  intro oS oL oV H locs ls hP hS hl
  unfold mw_b1 at hs
  split at hs
  · rename_i x r
    obtain ⟨h1, h2, h3⟩ := hs
    refine lv_istore_n hex hb hd rfl (mw_LR.has hl) (by rw [← hl.2.2.1]; exact h1) rfl (fun ls' hl' => ?_)
    exact hk _ _ _ _ h3 oS oL.tail (oV.set oL.head) H locs ls' hP hS (hl.st1 (v := jI x) (mw_tr_cat hfm) h2 hl')
  · exact hs.elim
theorem mw_s_lstore (hx : mw_Cx D ad cA fm me d p R s m args meth c) {k : Nat} {pc : Nat} {lv : mw_L} {st : List mw_V} {σ : mw_S} {K : Nat → mw_L → List mw_V → mw_S → Prop} (hd : decode me.2.1 pc = .ok (.lstore k, 2)) (hs : mw_l1 st (fun x r => mw_st2 lv k (jL x) (fun lv' => K (pc + 2) lv' r σ))) (hk : ∀ pc' lv' st' σ', K pc' lv' st' σ' → mw_Go D ad cA fm me p l e R s m args below meth c Qm pc' lv' st' σ') : mw_Go D ad cA fm me p l e R s m args below meth c Qm pc lv st σ := by
  obtain ⟨hex, hb, hml, hown, hts, hlk, hrt, hK, hCs, hfm, hinj, how, hR⟩ := hx
  intro oS oL oV H locs ls hP hS hl
  unfold mw_l1 at hs
  split at hs
  · rename_i x r
    obtain ⟨h1, h2, h3⟩ := hs
    refine lv_lstore hex hb hd (mw_LR.has hl) (by rw [← hl.2.2.1]; exact h1) rfl (fun ls' hl' => ?_)
    exact hk _ _ _ _ h3 oS oL.tail (oV.set oL.head).cut H locs ls' hP hS (hl.st2 (v := jL x) (mw_tr_cat hfm) h2 h1 hl')
  · exact hs.elim
theorem mw_s_lstore_n (hx : mw_Cx D ad cA fm me d p R s m args meth c) {k : Fin 4} {pc : Nat} {lv : mw_L} {st : List mw_V} {σ : mw_S} {K : Nat → mw_L → List mw_V → mw_S → Prop} (hd : decode me.2.1 pc = .ok (.lstore_n k, 1)) (hs : mw_l1 st (fun x r => mw_st2 lv k (jL x) (fun lv' => K (pc + 1) lv' r σ))) (hk : ∀ pc' lv' st' σ', K pc' lv' st' σ' → mw_Go D ad cA fm me p l e R s m args below meth c Qm pc' lv' st' σ') : mw_Go D ad cA fm me p l e R s m args below meth c Qm pc lv st σ := by
  obtain ⟨hex, hb, hml, hown, hts, hlk, hrt, hK, hCs, hfm, hinj, how, hR⟩ := hx
  intro oS oL oV H locs ls hP hS hl
  unfold mw_l1 at hs
  split at hs
  · rename_i x r
    obtain ⟨h1, h2, h3⟩ := hs
    refine lv_lstore_n hex hb hd rfl (mw_LR.has hl) (by rw [← hl.2.2.1]; exact h1) rfl (fun ls' hl' => ?_)
    exact hk _ _ _ _ h3 oS oL.tail (oV.set oL.head).cut H locs ls' hP hS (hl.st2 (v := jL x) (mw_tr_cat hfm) h2 h1 hl')
  · exact hs.elim
theorem mw_s_astore (hx : mw_Cx D ad cA fm me d p R s m args meth c) {k : Nat} {pc : Nat} {lv : mw_L} {st : List mw_V} {σ : mw_S} {K : Nat → mw_L → List mw_V → mw_S → Prop} (hd : decode me.2.1 pc = .ok (.astore k, 2)) (hs : mw_r1 st (fun x r => mw_st1 lv k (jR x) (fun lv' => K (pc + 2) lv' r σ))) (hk : ∀ pc' lv' st' σ', K pc' lv' st' σ' → mw_Go D ad cA fm me p l e R s m args below meth c Qm pc' lv' st' σ') : mw_Go D ad cA fm me p l e R s m args below meth c Qm pc lv st σ := by
  obtain ⟨hex, hb, hml, hown, hts, hlk, hrt, hK, hCs, hfm, hinj, how, hR⟩ := hx
  intro oS oL oV H locs ls hP hS hl
  unfold mw_r1 at hs
  split at hs
  · rename_i x r
    obtain ⟨h1, h2, h3⟩ := hs
    refine lv_astore hex hb hd (mw_LR.has hl) (by rw [← hl.2.2.1]; exact h1) rfl (fun ls' hl' => ?_)
    exact hk _ _ _ _ h3 oS oL.tail (oV.set oL.head) H locs ls' hP hS (hl.st1 (v := jR x) (mw_tr_cat hfm) h2 hl')
  · exact hs.elim
theorem mw_s_astore_n (hx : mw_Cx D ad cA fm me d p R s m args meth c) {k : Fin 4} {pc : Nat} {lv : mw_L} {st : List mw_V} {σ : mw_S} {K : Nat → mw_L → List mw_V → mw_S → Prop} (hd : decode me.2.1 pc = .ok (.astore_n k, 1)) (hs : mw_r1 st (fun x r => mw_st1 lv k (jR x) (fun lv' => K (pc + 1) lv' r σ))) (hk : ∀ pc' lv' st' σ', K pc' lv' st' σ' → mw_Go D ad cA fm me p l e R s m args below meth c Qm pc' lv' st' σ') : mw_Go D ad cA fm me p l e R s m args below meth c Qm pc lv st σ := by
  obtain ⟨hex, hb, hml, hown, hts, hlk, hrt, hK, hCs, hfm, hinj, how, hR⟩ := hx
  intro oS oL oV H locs ls hP hS hl
  unfold mw_r1 at hs
  split at hs
  · rename_i x r
    obtain ⟨h1, h2, h3⟩ := hs
    refine lv_astore_n hex hb hd rfl (mw_LR.has hl) (by rw [← hl.2.2.1]; exact h1) rfl (fun ls' hl' => ?_)
    exact hk _ _ _ _ h3 oS oL.tail (oV.set oL.head) H locs ls' hP hS (hl.st1 (v := jR x) (mw_tr_cat hfm) h2 hl')
  · exact hs.elim
theorem mw_s_iinc (hx : mw_Cx D ad cA fm me d p R s m args meth c) {k : Nat} {n : Int} {pc : Nat} {lv : mw_L} {st : List mw_V} {σ : mw_S} {K : Nat → mw_L → List mw_V → mw_S → Prop} (hd : decode me.2.1 pc = .ok (.iinc k n, 3)) (hs : mw_ldI lv k (fun x => mw_st1 lv k (jI (i32 x + i32 n).toInt) (fun lv' => K (pc + 3) lv' st σ))) (hk : ∀ pc' lv' st' σ', K pc' lv' st' σ' → mw_Go D ad cA fm me p l e R s m args below meth c Qm pc' lv' st' σ') : mw_Go D ad cA fm me p l e R s m args below meth c Qm pc lv st σ := by
  obtain ⟨hex, hb, hml, hown, hts, hlk, hrt, hK, hCs, hfm, hinj, how, hR⟩ := hx
  intro oS oL oV H locs ls hP hS hl
  unfold mw_ldI at hs
  split at hs
  · rename_i x hlv
    obtain ⟨h1, h2, h3⟩ := hs
    obtain ⟨q, hq⟩ := List.getElem?_of_mem (mw_asc_in (tr := mw_tr ad fm) hlv)
    refine lv_iinc (v := i32 x + i32 n) hex hb hd (mw_LR.has hl) hq rfl (by rw [← hl.2.2.1]; exact h1) rfl (fun ls' hl' => ?_)
    have e1 : (mw_tr ad fm (jI (i32 x + i32 n).toInt)) = .int (i32 x + i32 n) := congrArg Value.int (i32_of _)
    exact hk _ _ _ _ h3 oS oL (oV.set (in32_of _)) H locs ls' hP hS (hl.st1 (v := jI (i32 x + i32 n).toInt) (mw_tr_cat hfm) h2 (by rw [e1]; exact hl'))
  · exact hs.elim
theorem mw_s_iadd (hx : mw_Cx D ad cA fm me d p R s m args meth c) {pc : Nat} {lv : mw_L} {st : List mw_V} {σ : mw_S} {K : Nat → mw_L → List mw_V → mw_S → Prop} (hd : decode me.2.1 pc = .ok (.iadd, 1)) (hs : mw_b2 st (fun x y r => K (pc + 1) lv (jI (i32 x + i32 y).toInt :: r) σ)) (hk : ∀ pc' lv' st' σ', K pc' lv' st' σ' → mw_Go D ad cA fm me p l e R s m args below meth c Qm pc' lv' st' σ') : mw_Go D ad cA fm me p l e R s m args below meth c Qm pc lv st σ := by
  obtain ⟨hex, hb, hml, hown, hts, hlk, hrt, hK, hCs, hfm, hinj, how, hR⟩ := hx
  intro oS oL oV H locs ls hP hS hl
  unfold mw_b2 at hs
  split at hs
  · rename_i y x r
    have g := hk _ _ _ _ hs oS (oL.tail.tail.cons (v := jI (i32 x + i32 y).toInt) (in32_of _)) oV H locs ls hP hS hl
    have e1 : (mw_tr ad fm (jI (i32 x + i32 y).toInt)) = Value.int (i32 x + i32 y) := congrArg Value.int (i32_of _)
    rw [List.map_cons, e1] at g
    exact lv_iadd hex hb hd g
  · exact hs.elim
theorem mw_s_isub (hx : mw_Cx D ad cA fm me d p R s m args meth c) {pc : Nat} {lv : mw_L} {st : List mw_V} {σ : mw_S} {K : Nat → mw_L → List mw_V → mw_S → Prop} (hd : decode me.2.1 pc = .ok (.isub, 1)) (hs : mw_b2 st (fun x y r => K (pc + 1) lv (jI (i32 x - i32 y).toInt :: r) σ)) (hk : ∀ pc' lv' st' σ', K pc' lv' st' σ' → mw_Go D ad cA fm me p l e R s m args below meth c Qm pc' lv' st' σ') : mw_Go D ad cA fm me p l e R s m args below meth c Qm pc lv st σ := by
  obtain ⟨hex, hb, hml, hown, hts, hlk, hrt, hK, hCs, hfm, hinj, how, hR⟩ := hx
  intro oS oL oV H locs ls hP hS hl
  unfold mw_b2 at hs
  split at hs
  · rename_i y x r
    have g := hk _ _ _ _ hs oS (oL.tail.tail.cons (v := jI (i32 x - i32 y).toInt) (in32_of _)) oV H locs ls hP hS hl
    have e1 : (mw_tr ad fm (jI (i32 x - i32 y).toInt)) = Value.int (i32 x - i32 y) := congrArg Value.int (i32_of _)
    rw [List.map_cons, e1] at g
    exact lv_isub hex hb hd g
  · exact hs.elim
theorem mw_s_imul (hx : mw_Cx D ad cA fm me d p R s m args meth c) {pc : Nat} {lv : mw_L} {st : List mw_V} {σ : mw_S} {K : Nat → mw_L → List mw_V → mw_S → Prop} (hd : decode me.2.1 pc = .ok (.imul, 1)) (hs : mw_b2 st (fun x y r => K (pc + 1) lv (jI (i32 x * i32 y).toInt :: r) σ)) (hk : ∀ pc' lv' st' σ', K pc' lv' st' σ' → mw_Go D ad cA fm me p l e R s m args below meth c Qm pc' lv' st' σ') : mw_Go D ad cA fm me p l e R s m args below meth c Qm pc lv st σ := by
  obtain ⟨hex, hb, hml, hown, hts, hlk, hrt, hK, hCs, hfm, hinj, how, hR⟩ := hx
  intro oS oL oV H locs ls hP hS hl
  unfold mw_b2 at hs
  split at hs
  · rename_i y x r
    have g := hk _ _ _ _ hs oS (oL.tail.tail.cons (v := jI (i32 x * i32 y).toInt) (in32_of _)) oV H locs ls hP hS hl
    have e1 : (mw_tr ad fm (jI (i32 x * i32 y).toInt)) = Value.int (i32 x * i32 y) := congrArg Value.int (i32_of _)
    rw [List.map_cons, e1] at g
    exact lv_imul hex hb hd g
  · exact hs.elim
theorem mw_s_iand (hx : mw_Cx D ad cA fm me d p R s m args meth c) {pc : Nat} {lv : mw_L} {st : List mw_V} {σ : mw_S} {K : Nat → mw_L → List mw_V → mw_S → Prop} (hd : decode me.2.1 pc = .ok (.iand, 1)) (hs : mw_b2 st (fun x y r => K (pc + 1) lv (jI (i32 x &&& i32 y).toInt :: r) σ)) (hk : ∀ pc' lv' st' σ', K pc' lv' st' σ' → mw_Go D ad cA fm me p l e R s m args below meth c Qm pc' lv' st' σ') : mw_Go D ad cA fm me p l e R s m args below meth c Qm pc lv st σ := by
  obtain ⟨hex, hb, hml, hown, hts, hlk, hrt, hK, hCs, hfm, hinj, how, hR⟩ := hx
  intro oS oL oV H locs ls hP hS hl
  unfold mw_b2 at hs
  split at hs
  · rename_i y x r
    have g := hk _ _ _ _ hs oS (oL.tail.tail.cons (v := jI (i32 x &&& i32 y).toInt) (in32_of _)) oV H locs ls hP hS hl
    have e1 : (mw_tr ad fm (jI (i32 x &&& i32 y).toInt)) = Value.int (i32 x &&& i32 y) := congrArg Value.int (i32_of _)
    rw [List.map_cons, e1] at g
    exact lv_iand hex hb hd g
  · exact hs.elim
theorem mw_s_ior (hx : mw_Cx D ad cA fm me d p R s m args meth c) {pc : Nat} {lv : mw_L} {st : List mw_V} {σ : mw_S} {K : Nat → mw_L → List mw_V → mw_S → Prop} (hd : decode me.2.1 pc = .ok (.ior, 1)) (hs : mw_b2 st (fun x y r => K (pc + 1) lv (jI (i32 x ||| i32 y).toInt :: r) σ)) (hk : ∀ pc' lv' st' σ', K pc' lv' st' σ' → mw_Go D ad cA fm me p l e R s m args below meth c Qm pc' lv' st' σ') : mw_Go D ad cA fm me p l e R s m args below meth c Qm pc lv st σ := by
  obtain ⟨hex, hb, hml, hown, hts, hlk, hrt, hK, hCs, hfm, hinj, how, hR⟩ := hx
  intro oS oL oV H locs ls hP hS hl
  unfold mw_b2 at hs
  split at hs
  · rename_i y x r
    have g := hk _ _ _ _ hs oS (oL.tail.tail.cons (v := jI (i32 x ||| i32 y).toInt) (in32_of _)) oV H locs ls hP hS hl
    have e1 : (mw_tr ad fm (jI (i32 x ||| i32 y).toInt)) = Value.int (i32 x ||| i32 y) := congrArg Value.int (i32_of _)
    rw [List.map_cons, e1] at g
    exact lv_ior hex hb hd g
  · exact hs.elim
theorem mw_s_ixor (hx : mw_Cx D ad cA fm me d p R s m args meth c) {pc : Nat} {lv : mw_L} {st : List mw_V} {σ : mw_S} {K : Nat → mw_L → List mw_V → mw_S → Prop} (hd : decode me.2.1 pc = .ok (.ixor, 1)) (hs : mw_b2 st (fun x y r => K (pc + 1) lv (jI (i32 x ^^^ i32 y).toInt :: r) σ)) (hk : ∀ pc' lv' st' σ', K pc' lv' st' σ' → mw_Go D ad cA fm me p l e R s m args below meth c Qm pc' lv' st' σ') : mw_Go D ad cA fm me p l e R s m args below meth c Qm pc lv st σ := by
  obtain ⟨hex, hb, hml, hown, hts, hlk, hrt, hK, hCs, hfm, hinj, how, hR⟩ := hx
  intro oS oL oV H locs ls hP hS hl
  unfold mw_b2 at hs
  split at hs
  · rename_i y x r
    have g := hk _ _ _ _ hs oS (oL.tail.tail.cons (v := jI (i32 x ^^^ i32 y).toInt) (in32_of _)) oV H locs ls hP hS hl
    have e1 : (mw_tr ad fm (jI (i32 x ^^^ i32 y).toInt)) = Value.int (i32 x ^^^ i32 y) := congrArg Value.int (i32_of _)
    rw [List.map_cons, e1] at g
    exact lv_ixor hex hb hd g
  · exact hs.elim
theorem mw_s_ishl (hx : mw_Cx D ad cA fm me d p R s m args meth c) {pc : Nat} {lv : mw_L} {st : List mw_V} {σ : mw_S} {K : Nat → mw_L → List mw_V → mw_S → Prop} (hd : decode me.2.1 pc = .ok (.ishl, 1)) (hs : mw_b2 st (fun x y r => K (pc + 1) lv (jI (i32 x <<< (i32 y &&& 31)).toInt :: r) σ)) (hk : ∀ pc' lv' st' σ', K pc' lv' st' σ' → mw_Go D ad cA fm me p l e R s m args below meth c Qm pc' lv' st' σ') : mw_Go D ad cA fm me p l e R s m args below meth c Qm pc lv st σ := by
  obtain ⟨hex, hb, hml, hown, hts, hlk, hrt, hK, hCs, hfm, hinj, how, hR⟩ := hx
  intro oS oL oV H locs ls hP hS hl
  unfold mw_b2 at hs
  split at hs
  · rename_i y x r
    have g := hk _ _ _ _ hs oS (oL.tail.tail.cons (v := jI (i32 x <<< (i32 y &&& 31)).toInt) (in32_of _)) oV H locs ls hP hS hl
    have e1 : (mw_tr ad fm (jI (i32 x <<< (i32 y &&& 31)).toInt)) = Value.int (i32 x <<< (i32 y &&& 31)) := congrArg Value.int (i32_of _)
    rw [List.map_cons, e1] at g
    exact lv_ishl hex hb hd g
  · exact hs.elim
theorem mw_s_ishr (hx : mw_Cx D ad cA fm me d p R s m args meth c) {pc : Nat} {lv : mw_L} {st : List mw_V} {σ : mw_S} {K : Nat → mw_L → List mw_V → mw_S → Prop} (hd : decode me.2.1 pc = .ok (.ishr, 1)) (hs : mw_b2 st (fun x y r => K (pc + 1) lv (jI (i32 x >>> (i32 y &&& 31)).toInt :: r) σ)) (hk : ∀ pc' lv' st' σ', K pc' lv' st' σ' → mw_Go D ad cA fm me p l e R s m args below meth c Qm pc' lv' st' σ') : mw_Go D ad cA fm me p l e R s m args below meth c Qm pc lv st σ := by
  obtain ⟨hex, hb, hml, hown, hts, hlk, hrt, hK, hCs, hfm, hinj, how, hR⟩ := hx
  intro oS oL oV H locs ls hP hS hl
  unfold mw_b2 at hs
  split at hs
  · rename_i y x r
    have g := hk _ _ _ _ hs oS (oL.tail.tail.cons (v := jI (i32 x >>> (i32 y &&& 31)).toInt) (in32_of _)) oV H locs ls hP hS hl
    have e1 : (mw_tr ad fm (jI (i32 x >>> (i32 y &&& 31)).toInt)) = Value.int (i32 x >>> (i32 y &&& 31)) := congrArg Value.int (i32_of _)
    rw [List.map_cons, e1] at g
    exact lv_ishr hex hb hd g
  · exact hs.elim
theorem mw_s_iushr (hx : mw_Cx D ad cA fm me d p R s m args meth c) {pc : Nat} {lv : mw_L} {st : List mw_V} {σ : mw_S} {K : Nat → mw_L → List mw_V → mw_S → Prop} (hd : decode me.2.1 pc = .ok (.iushr, 1)) (hs : mw_b2 st (fun x y r => K (pc + 1) lv (jI ((i32 x).toUInt32 >>> ((i32 y).toUInt32 &&& Int32.toUInt32 31)).toInt32.toInt :: r) σ)) (hk : ∀ pc' lv' st' σ', K pc' lv' st' σ' → mw_Go D ad cA fm me p l e R s m args below meth c Qm pc' lv' st' σ') : mw_Go D ad cA fm me p l e R s m args below meth c Qm pc lv st σ := by
  obtain ⟨hex, hb, hml, hown, hts, hlk, hrt, hK, hCs, hfm, hinj, how, hR⟩ := hx
  intro oS oL oV H locs ls hP hS hl
  unfold mw_b2 at hs
  split at hs
  · rename_i y x r
    have g := hk _ _ _ _ hs oS (oL.tail.tail.cons (v := jI ((i32 x).toUInt32 >>> ((i32 y).toUInt32 &&& Int32.toUInt32 31)).toInt32.toInt) (in32_of _)) oV H locs ls hP hS hl
    have e1 : (mw_tr ad fm (jI ((i32 x).toUInt32 >>> ((i32 y).toUInt32 &&& Int32.toUInt32 31)).toInt32.toInt)) = Value.int (((i32 x).toUInt32 >>> ((i32 y).toUInt32 &&& Int32.toUInt32 31)).toInt32) := congrArg Value.int (i32_of _)
    rw [List.map_cons, e1] at g
    exact lv_iushr hex hb hd rfl g
  · exact hs.elim
theorem mw_s_idiv (hx : mw_Cx D ad cA fm me d p R s m args meth c) {pc : Nat} {lv : mw_L} {st : List mw_V} {σ : mw_S} {K : Nat → mw_L → List mw_V → mw_S → Prop} (hd : decode me.2.1 pc = .ok (.idiv, 1)) (hs : mw_b2 st (fun x y r => ¬ i32 y = 0 ∧ K (pc + 1) lv (jI (i32 x / i32 y).toInt :: r) σ)) (hk : ∀ pc' lv' st' σ', K pc' lv' st' σ' → mw_Go D ad cA fm me p l e R s m args below meth c Qm pc' lv' st' σ') : mw_Go D ad cA fm me p l e R s m args below meth c Qm pc lv st σ := by
  obtain ⟨hex, hb, hml, hown, hts, hlk, hrt, hK, hCs, hfm, hinj, how, hR⟩ := hx
  intro oS oL oV H locs ls hP hS hl
  unfold mw_b2 at hs
  split at hs
  · rename_i y x r
    obtain ⟨hne, hs⟩ := hs
    have g := hk _ _ _ _ hs oS (oL.tail.tail.cons (v := jI (i32 x / i32 y).toInt) (in32_of _)) oV H locs ls hP hS hl
    have e1 : (mw_tr ad fm (jI (i32 x / i32 y).toInt)) = Value.int (i32 x / i32 y) := congrArg Value.int (i32_of _)
    rw [List.map_cons, e1] at g
    exact lv_idiv hex hb hd hne g
  · exact hs.elim
theorem mw_s_irem (hx : mw_Cx D ad cA fm me d p R s m args meth c) {pc : Nat} {lv : mw_L} {st : List mw_V} {σ : mw_S} {K : Nat → mw_L → List mw_V → mw_S → Prop} (hd : decode me.2.1 pc = .ok (.irem, 1)) (hs : mw_b2 st (fun x y r => ¬ i32 y = 0 ∧ K (pc + 1) lv (jI (i32 x - i32 x / i32 y * i32 y).toInt :: r) σ)) (hk : ∀ pc' lv' st' σ', K pc' lv' st' σ' → mw_Go D ad cA fm me p l e R s m args below meth c Qm pc' lv' st' σ') : mw_Go D ad cA fm me p l e R s m args below meth c Qm pc lv st σ := by
  obtain ⟨hex, hb, hml, hown, hts, hlk, hrt, hK, hCs, hfm, hinj, how, hR⟩ := hx
  intro oS oL oV H locs ls hP hS hl
  unfold mw_b2 at hs
  split at hs
  · rename_i y x r
    obtain ⟨hne, hs⟩ := hs
    have g := hk _ _ _ _ hs oS (oL.tail.tail.cons (v := jI (i32 x - i32 x / i32 y * i32 y).toInt) (in32_of _)) oV H locs ls hP hS hl
    have e1 : (mw_tr ad fm (jI (i32 x - i32 x / i32 y * i32 y).toInt)) = Value.int (i32 x - i32 x / i32 y * i32 y) := congrArg Value.int (i32_of _)
    rw [List.map_cons, e1] at g
    exact lv_irem hex hb hd hne g
  · exact hs.elim
theorem mw_s_ladd (hx : mw_Cx D ad cA fm me d p R s m args meth c) {pc : Nat} {lv : mw_L} {st : List mw_V} {σ : mw_S} {K : Nat → mw_L → List mw_V → mw_S → Prop} (hd : decode me.2.1 pc = .ok (.ladd, 1)) (hs : mw_l2 st (fun x y r => K (pc + 1) lv (jL (i64 x + i64 y).toInt :: r) σ)) (hk : ∀ pc' lv' st' σ', K pc' lv' st' σ' → mw_Go D ad cA fm me p l e R s m args below meth c Qm pc' lv' st' σ') : mw_Go D ad cA fm me p l e R s m args below meth c Qm pc lv st σ := by
  obtain ⟨hex, hb, hml, hown, hts, hlk, hrt, hK, hCs, hfm, hinj, how, hR⟩ := hx
  intro oS oL oV H locs ls hP hS hl
  unfold mw_l2 at hs
  split at hs
  · rename_i y x r
    have g := hk _ _ _ _ hs oS (oL.tail.tail.cons (v := jL (i64 x + i64 y).toInt) (in64_of _)) oV H locs ls hP hS hl
    have e1 : (mw_tr ad fm (jL (i64 x + i64 y).toInt)) = Value.long (i64 x + i64 y) := congrArg Value.long (i64_of _)
    rw [List.map_cons, e1] at g
    exact lv_ladd hex hb hd g
  · exact hs.elim
theorem mw_s_lsub (hx : mw_Cx D ad cA fm me d p R s m args meth c) {pc : Nat} {lv : mw_L} {st : List mw_V} {σ : mw_S} {K : Nat → mw_L → List mw_V → mw_S → Prop} (hd : decode me.2.1 pc = .ok (.lsub, 1)) (hs : mw_l2 st (fun x y r => K (pc + 1) lv (jL (i64 x - i64 y).toInt :: r) σ)) (hk : ∀ pc' lv' st' σ', K pc' lv' st' σ' → mw_Go D ad cA fm me p l e R s m args below meth c Qm pc' lv' st' σ') : mw_Go D ad cA fm me p l e R s m args below meth c Qm pc lv st σ := by
  obtain ⟨hex, hb, hml, hown, hts, hlk, hrt, hK, hCs, hfm, hinj, how, hR⟩ := hx
  intro oS oL oV H locs ls hP hS hl
  unfold mw_l2 at hs
  split at hs
  · rename_i y x r
    have g := hk _ _ _ _ hs oS (oL.tail.tail.cons (v := jL (i64 x - i64 y).toInt) (in64_of _)) oV H locs ls hP hS hl
    have e1 : (mw_tr ad fm (jL (i64 x - i64 y).toInt)) = Value.long (i64 x - i64 y) := congrArg Value.long (i64_of _)
    rw [List.map_cons, e1] at g
    exact lv_lsub hex hb hd g
  · exact hs.elim
theorem mw_s_lmul (hx : mw_Cx D ad cA fm me d p R s m args meth c) {pc : Nat} {lv : mw_L} {st : List mw_V} {σ : mw_S} {K : Nat → mw_L → List mw_V → mw_S → Prop} (hd : decode me.2.1 pc = .ok (.lmul, 1)) (hs : mw_l2 st (fun x y r => K (pc + 1) lv (jL (i64 x * i64 y).toInt :: r) σ)) (hk : ∀ pc' lv' st' σ', K pc' lv' st' σ' → mw_Go D ad cA fm me p l e R s m args below meth c Qm pc' lv' st' σ') : mw_Go D ad cA fm me p l e R s m args below meth c Qm pc lv st σ := by
  obtain ⟨hex, hb, hml, hown, hts, hlk, hrt, hK, hCs, hfm, hinj, how, hR⟩ := hx
  intro oS oL oV H locs ls hP hS hl
  unfold mw_l2 at hs
  split at hs
  · rename_i y x r
    have g := hk _ _ _ _ hs oS (oL.tail.tail.cons (v := jL (i64 x * i64 y).toInt) (in64_of _)) oV H locs ls hP hS hl
    have e1 : (mw_tr ad fm (jL (i64 x * i64 y).toInt)) = Value.long (i64 x * i64 y) := congrArg Value.long (i64_of _)
    rw [List.map_cons, e1] at g
    exact lv_lmul hex hb hd g
  · exact hs.elim
theorem mw_s_land (hx : mw_Cx D ad cA fm me d p R s m args meth c) {pc : Nat} {lv : mw_L} {st : List mw_V} {σ : mw_S} {K : Nat → mw_L → List mw_V → mw_S → Prop} (hd : decode me.2.1 pc = .ok (.land, 1)) (hs : mw_l2 st (fun x y r => K (pc + 1) lv (jL (i64 x &&& i64 y).toInt :: r) σ)) (hk : ∀ pc' lv' st' σ', K pc' lv' st' σ' → mw_Go D ad cA fm me p l e R s m args below meth c Qm pc' lv' st' σ') : mw_Go D ad cA fm me p l e R s m args below meth c Qm pc lv st σ := by
  obtain ⟨hex, hb, hml, hown, hts, hlk, hrt, hK, hCs, hfm, hinj, how, hR⟩ := hx
  intro oS oL oV H locs ls hP hS hl
  unfold mw_l2 at hs
  split at hs
  · rename_i y x r
    have g := hk _ _ _ _ hs oS (oL.tail.tail.cons (v := jL (i64 x &&& i64 y).toInt) (in64_of _)) oV H locs ls hP hS hl
    have e1 : (mw_tr ad fm (jL (i64 x &&& i64 y).toInt)) = Value.long (i64 x &&& i64 y) := congrArg Value.long (i64_of _)
    rw [List.map_cons, e1] at g
    exact lv_land hex hb hd g
  · exact hs.elim
theorem mw_s_lor (hx : mw_Cx D ad cA fm me d p R s m args meth c) {pc : Nat} {lv : mw_L} {st : List mw_V} {σ : mw_S} {K : Nat → mw_L → List mw_V → mw_S → Prop} (hd : decode me.2.1 pc = .ok (.lor, 1)) (hs : mw_l2 st (fun x y r => K (pc + 1) lv (jL (i64 x ||| i64 y).toInt :: r) σ)) (hk : ∀ pc' lv' st' σ', K pc' lv' st' σ' → mw_Go D ad cA fm me p l e R s m args below meth c Qm pc' lv' st' σ') : mw_Go D ad cA fm me p l e R s m args below meth c Qm pc lv st σ := by
  obtain ⟨hex, hb, hml, hown, hts, hlk, hrt, hK, hCs, hfm, hinj, how, hR⟩ := hx
  intro oS oL oV H locs ls hP hS hl
  unfold mw_l2 at hs
  split at hs
  · rename_i y x r
    have g := hk _ _ _ _ hs oS (oL.tail.tail.cons (v := jL (i64 x ||| i64 y).toInt) (in64_of _)) oV H locs ls hP hS hl
    have e1 : (mw_tr ad fm (jL (i64 x ||| i64 y).toInt)) = Value.long (i64 x ||| i64 y) := congrArg Value.long (i64_of _)
    rw [List.map_cons, e1] at g
    exact lv_lor hex hb hd g
  · exact hs.elim
theorem mw_s_ldiv (hx : mw_Cx D ad cA fm me d p R s m args meth c) {pc : Nat} {lv : mw_L} {st : List mw_V} {σ : mw_S} {K : Nat → mw_L → List mw_V → mw_S → Prop} (hd : decode me.2.1 pc = .ok (.ldiv, 1)) (hs : mw_l2 st (fun x y r => ¬ i64 y = 0 ∧ K (pc + 1) lv (jL (i64 x / i64 y).toInt :: r) σ)) (hk : ∀ pc' lv' st' σ', K pc' lv' st' σ' → mw_Go D ad cA fm me p l e R s m args below meth c Qm pc' lv' st' σ') : mw_Go D ad cA fm me p l e R s m args below meth c Qm pc lv st σ := by
  obtain ⟨hex, hb, hml, hown, hts, hlk, hrt, hK, hCs, hfm, hinj, how, hR⟩ := hx
  intro oS oL oV H locs ls hP hS hl
  unfold mw_l2 at hs
  split at hs
  · rename_i y x r
    obtain ⟨hne, hs⟩ := hs
    have g := hk _ _ _ _ hs oS (oL.tail.tail.cons (v := jL (i64 x / i64 y).toInt) (in64_of _)) oV H locs ls hP hS hl
    have e1 : (mw_tr ad fm (jL (i64 x / i64 y).toInt)) = Value.long (i64 x / i64 y) := congrArg Value.long (i64_of _)
    rw [List.map_cons, e1] at g
    exact lv_ldiv hex hb hd hne g
  · exact hs.elim
theorem mw_s_lrem (hx : mw_Cx D ad cA fm me d p R s m args meth c) {pc : Nat} {lv : mw_L} {st : List mw_V} {σ : mw_S} {K : Nat → mw_L → List mw_V → mw_S → Prop} (hd : decode me.2.1 pc = .ok (.lrem, 1)) (hs : mw_l2 st (fun x y r => ¬ i64 y = 0 ∧ K (pc + 1) lv (jL (i64 x - i64 x / i64 y * i64 y).toInt :: r) σ)) (hk : ∀ pc' lv' st' σ', K pc' lv' st' σ' → mw_Go D ad cA fm me p l e R s m args below meth c Qm pc' lv' st' σ') : mw_Go D ad cA fm me p l e R s m args below meth c Qm pc lv st σ := by
  obtain ⟨hex, hb, hml, hown, hts, hlk, hrt, hK, hCs, hfm, hinj, how, hR⟩ := hx
  intro oS oL oV H locs ls hP hS hl
  unfold mw_l2 at hs
  split at hs
  · rename_i y x r
    obtain ⟨hne, hs⟩ := hs
    have g := hk _ _ _ _ hs oS (oL.tail.tail.cons (v := jL (i64 x - i64 x / i64 y * i64 y).toInt) (in64_of _)) oV H locs ls hP hS hl
    have e1 : (mw_tr ad fm (jL (i64 x - i64 x / i64 y * i64 y).toInt)) = Value.long (i64 x - i64 x / i64 y * i64 y) := congrArg Value.long (i64_of _)
    rw [List.map_cons, e1] at g
    exact lv_lrem hex hb hd hne g
  · exact hs.elim
theorem mw_s_lshl (hx : mw_Cx D ad cA fm me d p R s m args meth c) {pc : Nat} {lv : mw_L} {st : List mw_V} {σ : mw_S} {K : Nat → mw_L → List mw_V → mw_S → Prop} (hd : decode me.2.1 pc = .ok (.lshl, 1)) (hs : mw_s2 st (fun x y r => K (pc + 1) lv (jL (i64 x <<< ((i32 y).toInt64 &&& 63)).toInt :: r) σ)) (hk : ∀ pc' lv' st' σ', K pc' lv' st' σ' → mw_Go D ad cA fm me p l e R s m args below meth c Qm pc' lv' st' σ') : mw_Go D ad cA fm me p l e R s m args below meth c Qm pc lv st σ := by
  obtain ⟨hex, hb, hml, hown, hts, hlk, hrt, hK, hCs, hfm, hinj, how, hR⟩ := hx
  intro oS oL oV H locs ls hP hS hl
  unfold mw_s2 at hs
  split at hs
  · rename_i y x r
    have g := hk _ _ _ _ hs oS (oL.tail.tail.cons (v := jL (i64 x <<< ((i32 y).toInt64 &&& 63)).toInt) (in64_of _)) oV H locs ls hP hS hl
    have e1 : (mw_tr ad fm (jL (i64 x <<< ((i32 y).toInt64 &&& 63)).toInt)) = Value.long (i64 x <<< ((i32 y).toInt64 &&& 63)) := congrArg Value.long (i64_of _)
    rw [List.map_cons, e1] at g
    exact lv_lshl hex hb hd rfl g
  · exact hs.elim
theorem mw_s_lshr (hx : mw_Cx D ad cA fm me d p R s m args meth c) {pc : Nat} {lv : mw_L} {st : List mw_V} {σ : mw_S} {K : Nat → mw_L → List mw_V → mw_S → Prop} (hd : decode me.2.1 pc = .ok (.lshr, 1)) (hs : mw_s2 st (fun x y r => K (pc + 1) lv (jL (i64 x >>> ((i32 y).toInt64 &&& 63)).toInt :: r) σ)) (hk : ∀ pc' lv' st' σ', K pc' lv' st' σ' → mw_Go D ad cA fm me p l e R s m args below meth c Qm pc' lv' st' σ') : mw_Go D ad cA fm me p l e R s m args below meth c Qm pc lv st σ := by
  obtain ⟨hex, hb, hml, hown, hts, hlk, hrt, hK, hCs, hfm, hinj, how, hR⟩ := hx
  intro oS oL oV H locs ls hP hS hl
  unfold mw_s2 at hs
  split at hs
  · rename_i y x r
    have g := hk _ _ _ _ hs oS (oL.tail.tail.cons (v := jL (i64 x >>> ((i32 y).toInt64 &&& 63)).toInt) (in64_of _)) oV H locs ls hP hS hl
    have e1 : (mw_tr ad fm (jL (i64 x >>> ((i32 y).toInt64 &&& 63)).toInt)) = Value.long (i64 x >>> ((i32 y).toInt64 &&& 63)) := congrArg Value.long (i64_of _)
    rw [List.map_cons, e1] at g
    exact lv_lshr hex hb hd rfl g
  · exact hs.elim
theorem mw_s_lushr (hx : mw_Cx D ad cA fm me d p R s m args meth c) {pc : Nat} {lv : mw_L} {st : List mw_V} {σ : mw_S} {K : Nat → mw_L → List mw_V → mw_S → Prop} (hd : decode me.2.1 pc = .ok (.lushr, 1)) (hs : mw_s2 st (fun x y r => K (pc + 1) lv (jL ((i64 x).toUInt64 >>> ((i32 y).toInt64.toUInt64 &&& Int64.toUInt64 63)).toInt64.toInt :: r) σ)) (hk : ∀ pc' lv' st' σ', K pc' lv' st' σ' → mw_Go D ad cA fm me p l e R s m args below meth c Qm pc' lv' st' σ') : mw_Go D ad cA fm me p l e R s m args below meth c Qm pc lv st σ := by
  obtain ⟨hex, hb, hml, hown, hts, hlk, hrt, hK, hCs, hfm, hinj, how, hR⟩ := hx
  intro oS oL oV H locs ls hP hS hl
  unfold mw_s2 at hs
  split at hs
  · rename_i y x r
    have g := hk _ _ _ _ hs oS (oL.tail.tail.cons (v := jL ((i64 x).toUInt64 >>> ((i32 y).toInt64.toUInt64 &&& Int64.toUInt64 63)).toInt64.toInt) (in64_of _)) oV H locs ls hP hS hl
    have e1 : (mw_tr ad fm (jL ((i64 x).toUInt64 >>> ((i32 y).toInt64.toUInt64 &&& Int64.toUInt64 63)).toInt64.toInt)) = Value.long (((i64 x).toUInt64 >>> ((i32 y).toInt64.toUInt64 &&& Int64.toUInt64 63)).toInt64) := congrArg Value.long (i64_of _)
    rw [List.map_cons, e1] at g
    exact lv_lushr hex hb hd rfl g
  · exact hs.elim
theorem mw_s_lcmp (hx : mw_Cx D ad cA fm me d p R s m args meth c) {pc : Nat} {lv : mw_L} {st : List mw_V} {σ : mw_S} {K : Nat → mw_L → List mw_V → mw_S → Prop} (hd : decode me.2.1 pc = .ok (.lcmp, 1)) (hs : mw_l2 st (fun x y r => K (pc + 1) lv (jI (lg_cmp (i64 x) (i64 y)).toInt :: r) σ)) (hk : ∀ pc' lv' st' σ', K pc' lv' st' σ' → mw_Go D ad cA fm me p l e R s m args below meth c Qm pc' lv' st' σ') : mw_Go D ad cA fm me p l e R s m args below meth c Qm pc lv st σ := by
  obtain ⟨hex, hb, hml, hown, hts, hlk, hrt, hK, hCs, hfm, hinj, how, hR⟩ := hx
  intro oS oL oV H locs ls hP hS hl
  unfold mw_l2 at hs
  split at hs
  · rename_i y x r
    have g := hk _ _ _ _ hs oS (oL.tail.tail.cons (v := jI (lg_cmp (i64 x) (i64 y)).toInt) (in32_of _)) oV H locs ls hP hS hl
    have e1 : (mw_tr ad fm (jI (lg_cmp (i64 x) (i64 y)).toInt)) = Value.int (lg_cmp (i64 x) (i64 y)) := congrArg Value.int (i32_of _)
    rw [List.map_cons, e1] at g
    exact W.lcmp hex hb hd g
  · exact hs.elim
theorem mw_s_ineg (hx : mw_Cx D ad cA fm me d p R s m args meth c) {pc : Nat} {lv : mw_L} {st : List mw_V} {σ : mw_S} {K : Nat → mw_L → List mw_V → mw_S → Prop} (hd : decode me.2.1 pc = .ok (.ineg, 1)) (hs : mw_b1 st (fun x r => K (pc + 1) lv (jI (-(i32 x)).toInt :: r) σ)) (hk : ∀ pc' lv' st' σ', K pc' lv' st' σ' → mw_Go D ad cA fm me p l e R s m args below meth c Qm pc' lv' st' σ') : mw_Go D ad cA fm me p l e R s m args below meth c Qm pc lv st σ := by
  obtain ⟨hex, hb, hml, hown, hts, hlk, hrt, hK, hCs, hfm, hinj, how, hR⟩ := hx
  intro oS oL oV H locs ls hP hS hl
  unfold mw_b1 at hs
  split at hs
  · rename_i x r
    have g := hk _ _ _ _ hs oS (oL.tail.cons (v := jI (-(i32 x)).toInt) (in32_of _)) oV H locs ls hP hS hl
    have e1 : (mw_tr ad fm (jI (-(i32 x)).toInt)) = Value.int (-(i32 x)) := congrArg Value.int (i32_of _)
    rw [List.map_cons, e1] at g
    exact lv_ineg hex hb hd g
  · exact hs.elim
theorem mw_s_i2b (hx : mw_Cx D ad cA fm me d p R s m args meth c) {pc : Nat} {lv : mw_L} {st : List mw_V} {σ : mw_S} {K : Nat → mw_L → List mw_V → mw_S → Prop} (hd : decode me.2.1 pc = .ok (.i2b, 1)) (hs : mw_b1 st (fun x r => K (pc + 1) lv (jI (i32 x).toInt8.toInt32.toInt :: r) σ)) (hk : ∀ pc' lv' st' σ', K pc' lv' st' σ' → mw_Go D ad cA fm me p l e R s m args below meth c Qm pc' lv' st' σ') : mw_Go D ad cA fm me p l e R s m args below meth c Qm pc lv st σ := by
  obtain ⟨hex, hb, hml, hown, hts, hlk, hrt, hK, hCs, hfm, hinj, how, hR⟩ := hx
  intro oS oL oV H locs ls hP hS hl
  unfold mw_b1 at hs
  split at hs
  · rename_i x r
    have g := hk _ _ _ _ hs oS (oL.tail.cons (v := jI (i32 x).toInt8.toInt32.toInt) (in32_of _)) oV H locs ls hP hS hl
    have e1 : (mw_tr ad fm (jI (i32 x).toInt8.toInt32.toInt)) = Value.int (i32 x).toInt8.toInt32 := congrArg Value.int (i32_of _)
    rw [List.map_cons, e1] at g
    exact lv_i2b hex hb hd rfl g
  · exact hs.elim
theorem mw_s_i2s (hx : mw_Cx D ad cA fm me d p R s m args meth c) {pc : Nat} {lv : mw_L} {st : List mw_V} {σ : mw_S} {K : Nat → mw_L → List mw_V → mw_S → Prop} (hd : decode me.2.1 pc = .ok (.i2s, 1)) (hs : mw_b1 st (fun x r => K (pc + 1) lv (jI (i32 x).toInt16.toInt32.toInt :: r) σ)) (hk : ∀ pc' lv' st' σ', K pc' lv' st' σ' → mw_Go D ad cA fm me p l e R s m args below meth c Qm pc' lv' st' σ') : mw_Go D ad cA fm me p l e R s m args below meth c Qm pc lv st σ := by
  obtain ⟨hex, hb, hml, hown, hts, hlk, hrt, hK, hCs, hfm, hinj, how, hR⟩ := hx
  intro oS oL oV H locs ls hP hS hl
  unfold mw_b1 at hs
  split at hs
  · rename_i x r
    have g := hk _ _ _ _ hs oS (oL.tail.cons (v := jI (i32 x).toInt16.toInt32.toInt) (in32_of _)) oV H locs ls hP hS hl
    have e1 : (mw_tr ad fm (jI (i32 x).toInt16.toInt32.toInt)) = Value.int (i32 x).toInt16.toInt32 := congrArg Value.int (i32_of _)
    rw [List.map_cons, e1] at g
    exact lv_i2s hex hb hd rfl g
  · exact hs.elim
theorem mw_s_i2c (hx : mw_Cx D ad cA fm me d p R s m args meth c) {pc : Nat} {lv : mw_L} {st : List mw_V} {σ : mw_S} {K : Nat → mw_L → List mw_V → mw_S → Prop} (hd : decode me.2.1 pc = .ok (.i2c, 1)) (hs : mw_b1 st (fun x r => K (pc + 1) lv (jI ((i32 x).toUInt32 % 65536).toInt32.toInt :: r) σ)) (hk : ∀ pc' lv' st' σ', K pc' lv' st' σ' → mw_Go D ad cA fm me p l e R s m args below meth c Qm pc' lv' st' σ') : mw_Go D ad cA fm me p l e R s m args below meth c Qm pc lv st σ := by
  obtain ⟨hex, hb, hml, hown, hts, hlk, hrt, hK, hCs, hfm, hinj, how, hR⟩ := hx
  intro oS oL oV H locs ls hP hS hl
  unfold mw_b1 at hs
  split at hs
  · rename_i x r
    have g := hk _ _ _ _ hs oS (oL.tail.cons (v := jI ((i32 x).toUInt32 % 65536).toInt32.toInt) (in32_of _)) oV H locs ls hP hS hl
    have e1 : (mw_tr ad fm (jI ((i32 x).toUInt32 % 65536).toInt32.toInt)) = Value.int ((i32 x).toUInt32 % 65536).toInt32 := congrArg Value.int (i32_of _)
    rw [List.map_cons, e1] at g
    exact lv_i2c hex hb hd rfl g
  · exact hs.elim
theorem mw_s_i2l (hx : mw_Cx D ad cA fm me d p R s m args meth c) {pc : Nat} {lv : mw_L} {st : List mw_V} {σ : mw_S} {K : Nat → mw_L → List mw_V → mw_S → Prop} (hd : decode me.2.1 pc = .ok (.i2l, 1)) (hs : mw_b1 st (fun x r => K (pc + 1) lv (jL (i32 x).toInt64.toInt :: r) σ)) (hk : ∀ pc' lv' st' σ', K pc' lv' st' σ' → mw_Go D ad cA fm me p l e R s m args below meth c Qm pc' lv' st' σ') : mw_Go D ad cA fm me p l e R s m args below meth c Qm pc lv st σ := by
  obtain ⟨hex, hb, hml, hown, hts, hlk, hrt, hK, hCs, hfm, hinj, how, hR⟩ := hx
  intro oS oL oV H locs ls hP hS hl
  unfold mw_b1 at hs
  split at hs
  · rename_i x r
    have g := hk _ _ _ _ hs oS (oL.tail.cons (v := jL (i32 x).toInt64.toInt) (in64_of _)) oV H locs ls hP hS hl
    have e1 : (mw_tr ad fm (jL (i32 x).toInt64.toInt)) = Value.long (i32 x).toInt64 := congrArg Value.long (i64_of _)
    rw [List.map_cons, e1] at g
    exact lv_i2l hex hb hd rfl g
  · exact hs.elim
theorem mw_s_l2i (hx : mw_Cx D ad cA fm me d p R s m args meth c) {pc : Nat} {lv : mw_L} {st : List mw_V} {σ : mw_S} {K : Nat → mw_L → List mw_V → mw_S → Prop} (hd : decode me.2.1 pc = .ok (.l2i, 1)) (hs : mw_l1 st (fun x r => K (pc + 1) lv (jI (i64 x).toInt32.toInt :: r) σ)) (hk : ∀ pc' lv' st' σ', K pc' lv' st' σ' → mw_Go D ad cA fm me p l e R s m args below meth c Qm pc' lv' st' σ') : mw_Go D ad cA fm me p l e R s m args below meth c Qm pc lv st σ := by
  obtain ⟨hex, hb, hml, hown, hts, hlk, hrt, hK, hCs, hfm, hinj, how, hR⟩ := hx
  intro oS oL oV H locs ls hP hS hl
  unfold mw_l1 at hs
  split at hs
  · rename_i x r
    have g := hk _ _ _ _ hs oS (oL.tail.cons (v := jI (i64 x).toInt32.toInt) (in32_of _)) oV H locs ls hP hS hl
    have e1 : (mw_tr ad fm (jI (i64 x).toInt32.toInt)) = Value.int (i64 x).toInt32 := congrArg Value.int (i32_of _)
    rw [List.map_cons, e1] at g
    exact lv_l2i hex hb hd rfl g
  · exact hs.elim
theorem mw_s_dup (hx : mw_Cx D ad cA fm me d p R s m args meth c) {pc : Nat} {lv : mw_L} {st : List mw_V} {σ : mw_S} {K : Nat → mw_L → List mw_V → mw_S → Prop} (hd : decode me.2.1 pc = .ok (.dup, 1)) (hs : (match st with | v :: r => mw_cat v = 1 ∧ K (pc + 1) lv (v :: v :: r) σ | [] => False)) (hk : ∀ pc' lv' st' σ', K pc' lv' st' σ' → mw_Go D ad cA fm me p l e R s m args below meth c Qm pc' lv' st' σ') : mw_Go D ad cA fm me p l e R s m args below meth c Qm pc lv st σ := by
  obtain ⟨hex, hb, hml, hown, hts, hlk, hrt, hK, hCs, hfm, hinj, how, hR⟩ := hx
  intro oS oL oV H locs ls hP hS hl
  rcases st with _ | ⟨v, r⟩
  · exact hs.elim
  · obtain ⟨h1, h2⟩ := hs
    exact lv_dup hex hb hd (by rw [mw_tr_cat hfm]; exact h1) (hk _ _ _ _ h2 oS (oL.cons oL.head) oV H locs ls hP hS hl)
theorem mw_s_pop (hx : mw_Cx D ad cA fm me d p R s m args meth c) {pc : Nat} {lv : mw_L} {st : List mw_V} {σ : mw_S} {K : Nat → mw_L → List mw_V → mw_S → Prop} (hd : decode me.2.1 pc = .ok (.pop, 1)) (hs : (match st with | v :: r => mw_cat v = 1 ∧ K (pc + 1) lv r σ | [] => False)) (hk : ∀ pc' lv' st' σ', K pc' lv' st' σ' → mw_Go D ad cA fm me p l e R s m args below meth c Qm pc' lv' st' σ') : mw_Go D ad cA fm me p l e R s m args below meth c Qm pc lv st σ := by
  obtain ⟨hex, hb, hml, hown, hts, hlk, hrt, hK, hCs, hfm, hinj, how, hR⟩ := hx
  intro oS oL oV H locs ls hP hS hl
  rcases st with _ | ⟨v, r⟩
  · exact hs.elim
  · obtain ⟨h1, h2⟩ := hs
    exact lv_pop hex hb hd (by rw [mw_tr_cat hfm]; exact h1) (hk _ _ _ _ h2 oS oL.tail oV H locs ls hP hS hl)
theorem mw_s_dup2 (hx : mw_Cx D ad cA fm me d p R s m args meth c) {pc : Nat} {lv : mw_L} {st : List mw_V} {σ : mw_S} {K : Nat → mw_L → List mw_V → mw_S → Prop} (hd : decode me.2.1 pc = .ok (.dup2, 1)) (hs : (match st with | v :: w :: r => mw_cat v = 1 ∧ mw_cat w = 1 ∧ K (pc + 1) lv (v :: w :: v :: w :: r) σ | _ => False)) (hk : ∀ pc' lv' st' σ', K pc' lv' st' σ' → mw_Go D ad cA fm me p l e R s m args below meth c Qm pc' lv' st' σ') : mw_Go D ad cA fm me p l e R s m args below meth c Qm pc lv st σ := by
  obtain ⟨hex, hb, hml, hown, hts, hlk, hrt, hK, hCs, hfm, hinj, how, hR⟩ := hx
  intro oS oL oV H locs ls hP hS hl
  rcases st with _ | ⟨v, _ | ⟨w, r⟩⟩
  · exact hs.elim
  · exact hs.elim
  · obtain ⟨h1, h2, h3⟩ := hs
    exact lv_dup2_11 hex hb hd (by rw [mw_tr_cat hfm]; exact h1) (by rw [mw_tr_cat hfm]; exact h2) (hk _ _ _ _ h3 oS ((oL.cons oL.tail.head).cons oL.head) oV H locs ls hP hS hl)
theorem mw_s_pop2 (hx : mw_Cx D ad cA fm me d p R s m args meth c) {pc : Nat} {lv : mw_L} {st : List mw_V} {σ : mw_S} {K : Nat → mw_L → List mw_V → mw_S → Prop} (hd : decode me.2.1 pc = .ok (.pop2, 1)) (hs : mw_l1 st (fun _ r => K (pc + 1) lv r σ)) (hk : ∀ pc' lv' st' σ', K pc' lv' st' σ' → mw_Go D ad cA fm me p l e R s m args below meth c Qm pc' lv' st' σ') : mw_Go D ad cA fm me p l e R s m args below meth c Qm pc lv st σ := by
  obtain ⟨hex, hb, hml, hown, hts, hlk, hrt, hK, hCs, hfm, hinj, how, hR⟩ := hx
  intro oS oL oV H locs ls hP hS hl
  unfold mw_l1 at hs
  split at hs
  · rename_i x r
    exact lv_pop2_2 hex hb hd rfl (hk _ _ _ _ hs oS oL.tail oV H locs ls hP hS hl)
  · exact hs.elim
theorem mw_s_goto (hx : mw_Cx D ad cA fm me d p R s m args meth c) {off : Int} {pc : Nat} {lv : mw_L} {st : List mw_V} {σ : mw_S} {K : Nat → mw_L → List mw_V → mw_S → Prop} (hd : decode me.2.1 pc = .ok (.goto off, 3)) (hs : mw_go pc off (fun t => K t lv st σ)) (hk : ∀ pc' lv' st' σ', K pc' lv' st' σ' → mw_Go D ad cA fm me p l e R s m args below meth c Qm pc' lv' st' σ') : mw_Go D ad cA fm me p l e R s m args below meth c Qm pc lv st σ := by
  obtain ⟨hex, hb, hml, hown, hts, hlk, hrt, hK, hCs, hfm, hinj, how, hR⟩ := hx
  intro oS oL oV H locs ls hP hS hl
  obtain ⟨h1, h2⟩ := hs
  exact lv_goto hex hb hd (tgt := ((pc : Int) + off).toNat) (by omega) (hk _ _ _ _ h2 oS oL oV H locs ls hP hS hl)
theorem mw_s_icmp_eq (hx : mw_Cx D ad cA fm me d p R s m args meth c) {off : Int} {pc : Nat} {lv : mw_L} {st : List mw_V} {σ : mw_S} {K : Nat → mw_L → List mw_V → mw_S → Prop} (hd : decode me.2.1 pc = .ok (.if_icmp .eq off, 3)) (hs : mw_b2 st (fun x y r => mw_go pc off (fun t => if mw_cnd .eq x y = true then K t lv r σ else K (pc + 3) lv r σ))) (hk : ∀ pc' lv' st' σ', K pc' lv' st' σ' → mw_Go D ad cA fm me p l e R s m args below meth c Qm pc' lv' st' σ') : mw_Go D ad cA fm me p l e R s m args below meth c Qm pc lv st σ := by
  obtain ⟨hex, hb, hml, hown, hts, hlk, hrt, hK, hCs, hfm, hinj, how, hR⟩ := hx
  intro oS oL oV H locs ls hP hS hl
  unfold mw_b2 at hs
  split at hs
  · rename_i y x r
    obtain ⟨h1, h2⟩ := hs
    have hA : in32 x := oL.tail.head
    have hB : in32 y := oL.head
    have hc : (mw_cnd .eq x y = true) ↔ (x = y) := by simp [mw_cnd]
    refine lv_icmp_eq hex hb hd (tgt := ((pc : Int) + off).toNat) (by omega) (fun q => ?_) (fun q => ?_)
    · rw [if_pos (hc.mpr ((i32_eq hA hB).mp q))] at h2
      exact hk _ _ _ _ h2 oS oL.tail.tail oV H locs ls hP hS hl
    · rw [if_neg (fun w => q ((i32_eq hA hB).mpr (hc.mp w)))] at h2
      exact hk _ _ _ _ h2 oS oL.tail.tail oV H locs ls hP hS hl
  · exact hs.elim
theorem mw_s_if_eq (hx : mw_Cx D ad cA fm me d p R s m args meth c) {off : Int} {pc : Nat} {lv : mw_L} {st : List mw_V} {σ : mw_S} {K : Nat → mw_L → List mw_V → mw_S → Prop} (hd : decode me.2.1 pc = .ok (.ifCond .eq off, 3)) (hs : mw_b1 st (fun x r => mw_go pc off (fun t => if mw_cnd .eq x 0 = true then K t lv r σ else K (pc + 3) lv r σ))) (hk : ∀ pc' lv' st' σ', K pc' lv' st' σ' → mw_Go D ad cA fm me p l e R s m args below meth c Qm pc' lv' st' σ') : mw_Go D ad cA fm me p l e R s m args below meth c Qm pc lv st σ := by
  obtain ⟨hex, hb, hml, hown, hts, hlk, hrt, hK, hCs, hfm, hinj, how, hR⟩ := hx
  intro oS oL oV H locs ls hP hS hl
  unfold mw_b1 at hs
  split at hs
  · rename_i x r
    obtain ⟨h1, h2⟩ := hs
    have hA : in32 x := oL.head
    have hc : (mw_cnd .eq x 0 = true) ↔ (x = 0) := by simp [mw_cnd]
    have hr := i32_eq hA in32_0
    rw [i32_0] at hr
    refine lv_if_eq hex hb hd (tgt := ((pc : Int) + off).toNat) (by omega) (fun q => ?_) (fun q => ?_)
    · rw [if_pos (hc.mpr (hr.mp q))] at h2
      exact hk _ _ _ _ h2 oS oL.tail oV H locs ls hP hS hl
    · rw [if_neg (fun w => q (hr.mpr (hc.mp w)))] at h2
      exact hk _ _ _ _ h2 oS oL.tail oV H locs ls hP hS hl
  · exact hs.elim
theorem mw_s_icmp_ne (hx : mw_Cx D ad cA fm me d p R s m args meth c) {off : Int} {pc : Nat} {lv : mw_L} {st : List mw_V} {σ : mw_S} {K : Nat → mw_L → List mw_V → mw_S → Prop} (hd : decode me.2.1 pc = .ok (.if_icmp .ne off, 3)) (hs : mw_b2 st (fun x y r => mw_go pc off (fun t => if mw_cnd .ne x y = true then K t lv r σ else K (pc + 3) lv r σ))) (hk : ∀ pc' lv' st' σ', K pc' lv' st' σ' → mw_Go D ad cA fm me p l e R s m args below meth c Qm pc' lv' st' σ') : mw_Go D ad cA fm me p l e R s m args below meth c Qm pc lv st σ := by
  obtain ⟨hex, hb, hml, hown, hts, hlk, hrt, hK, hCs, hfm, hinj, how, hR⟩ := hx
  intro oS oL oV H locs ls hP hS hl
  unfold mw_b2 at hs
  split at hs
  · rename_i y x r
    obtain ⟨h1, h2⟩ := hs
    have hA : in32 x := oL.tail.head
    have hB : in32 y := oL.head
    have hc : (mw_cnd .ne x y = true) ↔ (¬ x = y) := by simp [mw_cnd]
    refine lv_icmp_ne hex hb hd (tgt := ((pc : Int) + off).toNat) (by omega) (fun q => ?_) (fun q => ?_)
    · rw [if_pos (hc.mpr ((not_congr (i32_eq hA hB)).mp q))] at h2
      exact hk _ _ _ _ h2 oS oL.tail.tail oV H locs ls hP hS hl
    · rw [if_neg (fun w => ((not_congr (i32_eq hA hB)).mpr (hc.mp w)) q)] at h2
      exact hk _ _ _ _ h2 oS oL.tail.tail oV H locs ls hP hS hl
  · exact hs.elim
theorem mw_s_if_ne (hx : mw_Cx D ad cA fm me d p R s m args meth c) {off : Int} {pc : Nat} {lv : mw_L} {st : List mw_V} {σ : mw_S} {K : Nat → mw_L → List mw_V → mw_S → Prop} (hd : decode me.2.1 pc = .ok (.ifCond .ne off, 3)) (hs : mw_b1 st (fun x r => mw_go pc off (fun t => if mw_cnd .ne x 0 = true then K t lv r σ else K (pc + 3) lv r σ))) (hk : ∀ pc' lv' st' σ', K pc' lv' st' σ' → mw_Go D ad cA fm me p l e R s m args below meth c Qm pc' lv' st' σ') : mw_Go D ad cA fm me p l e R s m args below meth c Qm pc lv st σ := by
  obtain ⟨hex, hb, hml, hown, hts, hlk, hrt, hK, hCs, hfm, hinj, how, hR⟩ := hx
  intro oS oL oV H locs ls hP hS hl
  unfold mw_b1 at hs
  split at hs
  · rename_i x r
    obtain ⟨h1, h2⟩ := hs
    have hA : in32 x := oL.head
    have hc : (mw_cnd .ne x 0 = true) ↔ (¬ x = 0) := by simp [mw_cnd]
    have hr := not_congr (i32_eq hA in32_0)
    rw [i32_0] at hr
    refine lv_if_ne hex hb hd (tgt := ((pc : Int) + off).toNat) (by omega) (fun q => ?_) (fun q => ?_)
    · rw [if_pos (hc.mpr (hr.mp q))] at h2
      exact hk _ _ _ _ h2 oS oL.tail oV H locs ls hP hS hl
    · rw [if_neg (fun w => (hr.mpr (hc.mp w)) q)] at h2
      exact hk _ _ _ _ h2 oS oL.tail oV H locs ls hP hS hl
  · exact hs.elim
theorem mw_s_icmp_lt (hx : mw_Cx D ad cA fm me d p R s m args meth c) {off : Int} {pc : Nat} {lv : mw_L} {st : List mw_V} {σ : mw_S} {K : Nat → mw_L → List mw_V → mw_S → Prop} (hd : decode me.2.1 pc = .ok (.if_icmp .lt off, 3)) (hs : mw_b2 st (fun x y r => mw_go pc off (fun t => if mw_cnd .lt x y = true then K t lv r σ else K (pc + 3) lv r σ))) (hk : ∀ pc' lv' st' σ', K pc' lv' st' σ' → mw_Go D ad cA fm me p l e R s m args below meth c Qm pc' lv' st' σ') : mw_Go D ad cA fm me p l e R s m args below meth c Qm pc lv st σ := by
  obtain ⟨hex, hb, hml, hown, hts, hlk, hrt, hK, hCs, hfm, hinj, how, hR⟩ := hx
  intro oS oL oV H locs ls hP hS hl
  unfold mw_b2 at hs
  split at hs
  · rename_i y x r
    obtain ⟨h1, h2⟩ := hs
    have hA : in32 x := oL.tail.head
    have hB : in32 y := oL.head
    have hc : (mw_cnd .lt x y = true) ↔ (x < y) := by simp [mw_cnd]
    refine lv_icmp_lt hex hb hd (tgt := ((pc : Int) + off).toNat) (by omega) (fun q => ?_) (fun q => ?_)
    · rw [if_pos (hc.mpr ((i32_lt hA hB).mp q))] at h2
      exact hk _ _ _ _ h2 oS oL.tail.tail oV H locs ls hP hS hl
    · rw [if_neg (fun w => q ((i32_lt hA hB).mpr (hc.mp w)))] at h2
      exact hk _ _ _ _ h2 oS oL.tail.tail oV H locs ls hP hS hl
  · exact hs.elim
theorem mw_s_if_lt (hx : mw_Cx D ad cA fm me d p R s m args meth c) {off : Int} {pc : Nat} {lv : mw_L} {st : List mw_V} {σ : mw_S} {K : Nat → mw_L → List mw_V → mw_S → Prop} (hd : decode me.2.1 pc = .ok (.ifCond .lt off, 3)) (hs : mw_b1 st (fun x r => mw_go pc off (fun t => if mw_cnd .lt x 0 = true then K t lv r σ else K (pc + 3) lv r σ))) (hk : ∀ pc' lv' st' σ', K pc' lv' st' σ' → mw_Go D ad cA fm me p l e R s m args below meth c Qm pc' lv' st' σ') : mw_Go D ad cA fm me p l e R s m args below meth c Qm pc lv st σ := by
  obtain ⟨hex, hb, hml, hown, hts, hlk, hrt, hK, hCs, hfm, hinj, how, hR⟩ := hx
  intro oS oL oV H locs ls hP hS hl
  unfold mw_b1 at hs
  split at hs
  · rename_i x r
    obtain ⟨h1, h2⟩ := hs
    have hA : in32 x := oL.head
    have hc : (mw_cnd .lt x 0 = true) ↔ (x < 0) := by simp [mw_cnd]
    have hr := i32_lt hA in32_0
    rw [i32_0] at hr
    refine lv_if_lt hex hb hd (tgt := ((pc : Int) + off).toNat) (by omega) (fun q => ?_) (fun q => ?_)
    · rw [if_pos (hc.mpr (hr.mp q))] at h2
      exact hk _ _ _ _ h2 oS oL.tail oV H locs ls hP hS hl
    · rw [if_neg (fun w => q (hr.mpr (hc.mp w)))] at h2
      exact hk _ _ _ _ h2 oS oL.tail oV H locs ls hP hS hl
  · exact hs.elim
theorem mw_s_icmp_ge (hx : mw_Cx D ad cA fm me d p R s m args meth c) {off : Int} {pc : Nat} {lv : mw_L} {st : List mw_V} {σ : mw_S} {K : Nat → mw_L → List mw_V → mw_S → Prop} (hd : decode me.2.1 pc = .ok (.if_icmp .ge off, 3)) (hs : mw_b2 st (fun x y r => mw_go pc off (fun t => if mw_cnd .ge x y = true then K t lv r σ else K (pc + 3) lv r σ))) (hk : ∀ pc' lv' st' σ', K pc' lv' st' σ' → mw_Go D ad cA fm me p l e R s m args below meth c Qm pc' lv' st' σ') : mw_Go D ad cA fm me p l e R s m args below meth c Qm pc lv st σ := by
  obtain ⟨hex, hb, hml, hown, hts, hlk, hrt, hK, hCs, hfm, hinj, how, hR⟩ := hx
  intro oS oL oV H locs ls hP hS hl
  unfold mw_b2 at hs
  split at hs
  · rename_i y x r
    obtain ⟨h1, h2⟩ := hs
    have hA : in32 x := oL.tail.head
    have hB : in32 y := oL.head
    have hc : (mw_cnd .ge x y = true) ↔ (y ≤ x) := by simp [mw_cnd]
    refine lv_icmp_ge hex hb hd (tgt := ((pc : Int) + off).toNat) (by omega) (fun q => ?_) (fun q => ?_)
    · rw [if_pos (hc.mpr ((i32_le hB hA).mp q))] at h2
      exact hk _ _ _ _ h2 oS oL.tail.tail oV H locs ls hP hS hl
    · rw [if_neg (fun w => q ((i32_le hB hA).mpr (hc.mp w)))] at h2
      exact hk _ _ _ _ h2 oS oL.tail.tail oV H locs ls hP hS hl
  · exact hs.elim
theorem mw_s_if_ge (hx : mw_Cx D ad cA fm me d p R s m args meth c) {off : Int} {pc : Nat} {lv : mw_L} {st : List mw_V} {σ : mw_S} {K : Nat → mw_L → List mw_V → mw_S → Prop} (hd : decode me.2.1 pc = .ok (.ifCond .ge off, 3)) (hs : mw_b1 st (fun x r => mw_go pc off (fun t => if mw_cnd .ge x 0 = true then K t lv r σ else K (pc + 3) lv r σ))) (hk : ∀ pc' lv' st' σ', K pc' lv' st' σ' → mw_Go D ad cA fm me p l e R s m args below meth c Qm pc' lv' st' σ') : mw_Go D ad cA fm me p l e R s m args below meth c Qm pc lv st σ := by
  obtain ⟨hex, hb, hml, hown, hts, hlk, hrt, hK, hCs, hfm, hinj, how, hR⟩ := hx
  intro oS oL oV H locs ls hP hS hl
  unfold mw_b1 at hs
  split at hs
  · rename_i x r
    obtain ⟨h1, h2⟩ := hs
    have hA : in32 x := oL.head
    have hc : (mw_cnd .ge x 0 = true) ↔ (0 ≤ x) := by simp [mw_cnd]
    have hr := i32_le in32_0 hA
    rw [i32_0] at hr
    refine lv_if_ge hex hb hd (tgt := ((pc : Int) + off).toNat) (by omega) (fun q => ?_) (fun q => ?_)
    · rw [if_pos (hc.mpr (hr.mp q))] at h2
      exact hk _ _ _ _ h2 oS oL.tail oV H locs ls hP hS hl
    · rw [if_neg (fun w => q (hr.mpr (hc.mp w)))] at h2
      exact hk _ _ _ _ h2 oS oL.tail oV H locs ls hP hS hl
  · exact hs.elim
theorem mw_s_icmp_gt (hx : mw_Cx D ad cA fm me d p R s m args meth c) {off : Int} {pc : Nat} {lv : mw_L} {st : List mw_V} {σ : mw_S} {K : Nat → mw_L → List mw_V → mw_S → Prop} (hd : decode me.2.1 pc = .ok (.if_icmp .gt off, 3)) (hs : mw_b2 st (fun x y r => mw_go pc off (fun t => if mw_cnd .gt x y = true then K t lv r σ else K (pc + 3) lv r σ))) (hk : ∀ pc' lv' st' σ', K pc' lv' st' σ' → mw_Go D ad cA fm me p l e R s m args below meth c Qm pc' lv' st' σ') : mw_Go D ad cA fm me p l e R s m args below meth c Qm pc lv st σ := by
  obtain ⟨hex, hb, hml, hown, hts, hlk, hrt, hK, hCs, hfm, hinj, how, hR⟩ := hx
  intro oS oL oV H locs ls hP hS hl
  unfold mw_b2 at hs
  split at hs
  · rename_i y x r
    obtain ⟨h1, h2⟩ := hs
    have hA : in32 x := oL.tail.head
    have hB : in32 y := oL.head
    have hc : (mw_cnd .gt x y = true) ↔ (y < x) := by simp [mw_cnd]
    refine lv_icmp_gt hex hb hd (tgt := ((pc : Int) + off).toNat) (by omega) (fun q => ?_) (fun q => ?_)
    · rw [if_pos (hc.mpr ((i32_lt hB hA).mp q))] at h2
      exact hk _ _ _ _ h2 oS oL.tail.tail oV H locs ls hP hS hl
    · rw [if_neg (fun w => q ((i32_lt hB hA).mpr (hc.mp w)))] at h2
      exact hk _ _ _ _ h2 oS oL.tail.tail oV H locs ls hP hS hl
  · exact hs.elim
theorem mw_s_if_gt (hx : mw_Cx D ad cA fm me d p R s m args meth c) {off : Int} {pc : Nat} {lv : mw_L} {st : List mw_V} {σ : mw_S} {K : Nat → mw_L → List mw_V → mw_S → Prop} (hd : decode me.2.1 pc = .ok (.ifCond .gt off, 3)) (hs : mw_b1 st (fun x r => mw_go pc off (fun t => if mw_cnd .gt x 0 = true then K t lv r σ else K (pc + 3) lv r σ))) (hk : ∀ pc' lv' st' σ', K pc' lv' st' σ' → mw_Go D ad cA fm me p l e R s m args below meth c Qm pc' lv' st' σ') : mw_Go D ad cA fm me p l e R s m args below meth c Qm pc lv st σ := by
  obtain ⟨hex, hb, hml, hown, hts, hlk, hrt, hK, hCs, hfm, hinj, how, hR⟩ := hx
  intro oS oL oV H locs ls hP hS hl
  unfold mw_b1 at hs
  split at hs
  · rename_i x r
    obtain ⟨h1, h2⟩ := hs
    have hA : in32 x := oL.head
    have hc : (mw_cnd .gt x 0 = true) ↔ (0 < x) := by simp [mw_cnd]
    have hr := i32_lt in32_0 hA
    rw [i32_0] at hr
    refine lv_if_gt hex hb hd (tgt := ((pc : Int) + off).toNat) (by omega) (fun q => ?_) (fun q => ?_)
    · rw [if_pos (hc.mpr (hr.mp q))] at h2
      exact hk _ _ _ _ h2 oS oL.tail oV H locs ls hP hS hl
    · rw [if_neg (fun w => q (hr.mpr (hc.mp w)))] at h2
      exact hk _ _ _ _ h2 oS oL.tail oV H locs ls hP hS hl
  · exact hs.elim
theorem mw_s_icmp_le (hx : mw_Cx D ad cA fm me d p R s m args meth c) {off : Int} {pc : Nat} {lv : mw_L} {st : List mw_V} {σ : mw_S} {K : Nat → mw_L → List mw_V → mw_S → Prop} (hd : decode me.2.1 pc = .ok (.if_icmp .le off, 3)) (hs : mw_b2 st (fun x y r => mw_go pc off (fun t => if mw_cnd .le x y = true then K t lv r σ else K (pc + 3) lv r σ))) (hk : ∀ pc' lv' st' σ', K pc' lv' st' σ' → mw_Go D ad cA fm me p l e R s m args below meth c Qm pc' lv' st' σ') : mw_Go D ad cA fm me p l e R s m args below meth c Qm pc lv st σ := by
  obtain ⟨hex, hb, hml, hown, hts, hlk, hrt, hK, hCs, hfm, hinj, how, hR⟩ := hx
  intro oS oL oV H locs ls hP hS hl
  unfold mw_b2 at hs
  split at hs
  · rename_i y x r
    obtain ⟨h1, h2⟩ := hs
    have hA : in32 x := oL.tail.head
    have hB : in32 y := oL.head
    have hc : (mw_cnd .le x y = true) ↔ (x ≤ y) := by simp [mw_cnd]
    refine lv_icmp_le hex hb hd (tgt := ((pc : Int) + off).toNat) (by omega) (fun q => ?_) (fun q => ?_)
    · rw [if_pos (hc.mpr ((i32_le hA hB).mp q))] at h2
      exact hk _ _ _ _ h2 oS oL.tail.tail oV H locs ls hP hS hl
    · rw [if_neg (fun w => q ((i32_le hA hB).mpr (hc.mp w)))] at h2
      exact hk _ _ _ _ h2 oS oL.tail.tail oV H locs ls hP hS hl
  · exact hs.elim
theorem mw_s_if_le (hx : mw_Cx D ad cA fm me d p R s m args meth c) {off : Int} {pc : Nat} {lv : mw_L} {st : List mw_V} {σ : mw_S} {K : Nat → mw_L → List mw_V → mw_S → Prop} (hd : decode me.2.1 pc = .ok (.ifCond .le off, 3)) (hs : mw_b1 st (fun x r => mw_go pc off (fun t => if mw_cnd .le x 0 = true then K t lv r σ else K (pc + 3) lv r σ))) (hk : ∀ pc' lv' st' σ', K pc' lv' st' σ' → mw_Go D ad cA fm me p l e R s m args below meth c Qm pc' lv' st' σ') : mw_Go D ad cA fm me p l e R s m args below meth c Qm pc lv st σ := by
  obtain ⟨hex, hb, hml, hown, hts, hlk, hrt, hK, hCs, hfm, hinj, how, hR⟩ := hx
  intro oS oL oV H locs ls hP hS hl
  unfold mw_b1 at hs
  split at hs
  · rename_i x r
    obtain ⟨h1, h2⟩ := hs
    have hA : in32 x := oL.head
    have hc : (mw_cnd .le x 0 = true) ↔ (x ≤ 0) := by simp [mw_cnd]
    have hr := i32_le hA in32_0
    rw [i32_0] at hr
    refine lv_if_le hex hb hd (tgt := ((pc : Int) + off).toNat) (by omega) (fun q => ?_) (fun q => ?_)
    · rw [if_pos (hc.mpr (hr.mp q))] at h2
      exact hk _ _ _ _ h2 oS oL.tail oV H locs ls hP hS hl
    · rw [if_neg (fun w => q (hr.mpr (hc.mp w)))] at h2
      exact hk _ _ _ _ h2 oS oL.tail oV H locs ls hP hS hl
  · exact hs.elim
theorem mw_s_tableswitch (hx : mw_Cx D ad cA fm me d p R s m args meth c) {dflt lo hi : Int} {offs : Array Int} {len : Nat} {pc : Nat} {lv : mw_L} {st : List mw_V} {σ : mw_S} {K : Nat → mw_L → List mw_V → mw_S → Prop} (hd : decode me.2.1 pc = .ok (.tableswitch dflt lo hi offs, len)) (hs : mw_b1 st (fun x r => if x < lo ∨ hi < x then mw_go pc dflt (fun t => K t lv r σ) else match offs[(x - lo).toNat]? with | some off => mw_go pc off (fun t => K t lv r σ) | none => False)) (hk : ∀ pc' lv' st' σ', K pc' lv' st' σ' → mw_Go D ad cA fm me p l e R s m args below meth c Qm pc' lv' st' σ') : mw_Go D ad cA fm me p l e R s m args below meth c Qm pc lv st σ := by
  obtain ⟨hex, hb, hml, hown, hts, hlk, hrt, hK, hCs, hfm, hinj, how, hR⟩ := hx
  intro oS oL oV H locs ls hP hS hl
  unfold mw_b1 at hs
  split at hs
  · rename_i x r
    have hA : in32 x := oL.head
    have ex := i32_to hA
    by_cases h : x < lo ∨ hi < x
    · rw [if_pos h] at hs
      obtain ⟨h1, h2⟩ := hs
      exact lv_tableOut hex hb hd (x := i32 x) (by rw [ex]; exact h) (tgt := ((pc : Int) + dflt).toNat) (by omega) (hk _ _ _ _ h2 oS oL.tail oV H locs ls hP hS hl)
    · rw [if_neg h] at hs
      split at hs
      · rename_i off ho
        obtain ⟨h1, h2⟩ := hs
        exact lv_tableIn hex hb hd (x := i32 x) (by rw [ex]; omega) (by rw [ex]; omega) (by rw [ex]; exact ho) (tgt := ((pc : Int) + off).toNat) (by omega) (hk _ _ _ _ h2 oS oL.tail oV H locs ls hP hS hl)
      · exact hs.elim
  · exact hs.elim
theorem mw_s_lookupswitch (hx : mw_Cx D ad cA fm me d p R s m args meth c) {dflt : Int} {ps : Array (Int × Int)} {len : Nat} {pc : Nat} {lv : mw_L} {st : List mw_V} {σ : mw_S} {K : Nat → mw_L → List mw_V → mw_S → Prop} (hd : decode me.2.1 pc = .ok (.lookupswitch dflt ps, len)) (hs : mw_b1 st (fun x r => (ps.toList.zip (ps.toList.drop 1)).all (fun (a, next) => a.1 < next.1) = true ∧ mw_go pc (Op.lookupswitch.offset ps.toList dflt x) (fun t => K t lv r σ))) (hk : ∀ pc' lv' st' σ', K pc' lv' st' σ' → mw_Go D ad cA fm me p l e R s m args below meth c Qm pc' lv' st' σ') : mw_Go D ad cA fm me p l e R s m args below meth c Qm pc lv st σ := by
  obtain ⟨hex, hb, hml, hown, hts, hlk, hrt, hK, hCs, hfm, hinj, how, hR⟩ := hx
  intro oS oL oV H locs ls hP hS hl
  unfold mw_b1 at hs
  split at hs
  · rename_i x r
    have ex := i32_to (show in32 x from oL.head)
    obtain ⟨h0, h1, h2⟩ := hs
    exact lv_lookup hex hb hd (x := i32 x) h0 (by rw [ex]) (tgt := ((pc : Int) + Op.lookupswitch.offset ps.toList dflt x).toNat) (by omega) (hk _ _ _ _ h2 oS oL.tail oV H locs ls hP hS hl)
  · exact hs.elim
end MWS
