/-! rows of numbers, fields, constants of the small machine are the machine's -/
theorem mw_lk {α : Type} {k : Nat} {b : α} : ∀ {T : List (Nat × α)}, T.lookup k = some b → (k, b) ∈ T
  | [], h => by cases h
  | (x, y) :: r, h => by
    unfold List.lookup at h
    split at h
    · rename_i e
      cases h
      rw [beq_iff_eq] at e
      rw [e]
      exact List.mem_cons_self
    · exact List.mem_cons_of_mem _ (mw_lk h)
theorem mw_klt {α : Type} {T : List (Nat × α)} {me : mw_Me} {x : Nat} {b : α} (hn : T.lookup 99999999 = none) (h : T.lookup (mw_key me x) = some b) : x < 10000 := by
  by_cases q : x < 10000
  · exact q
  · unfold mw_key at h
    rw [if_neg q, hn] at h
    cases h
theorem mw_lenW_of {t a : Nat} {z : Int} (h0 : 0 ≤ z) (h : z < mw_lenW t a) : ∃ n : Nat, mw_sh[a]? = some (.inr (.inl (t, n))) ∧ z < n := by
  unfold mw_lenW at h
  split at h
  · rename_i t' n e
    split at h
    · rename_i e2
      subst e2
      exact ⟨n, e, h⟩
    · omega
  · omega
theorem mw_nines_in (j : Nat) : in32 (mw_nines.getD j 0) := by
  have h : ∀ x ∈ mw_nines, -2147483648 ≤ x ∧ x < 2147483648 := by decide
  rw [List.getD_eq_getElem?_getD]
  cases e : mw_nines[j]? with
  | none => exact ⟨by decide, by decide⟩
  | some x => exact h x (List.mem_of_getElem? e)
set_option maxRecDepth 100000 in
theorem mw_strs_in (i j : Nat) : in32 ((mw_strs.getD i []).getD j 0) := by
  have h : ∀ x ∈ mw_strs, ∀ y ∈ x, -2147483648 ≤ y ∧ y < 2147483648 := by decide +kernel
  rw [List.getD_eq_getElem?_getD, List.getD_eq_getElem?_getD]
  cases e : mw_strs[i]? with
  | none =>
    simp only [Option.getD_none, List.getElem?_nil]
    exact ⟨by decide, by decide⟩
  | some x =>
    cases e2 : x[j]? with
    | none =>
      simp only [Option.getD_some, e2]
      exact ⟨by decide, by decide⟩
    | some y =>
      simp only [Option.getD_some, e2]
      exact h x (List.mem_of_getElem? e) y (List.mem_of_getElem? e2)
theorem mw_notL {σ : mw_S} {a t n j : Nat} (h : mw_okS σ) (e : mw_sh[a]? = some (.inr (.inl (t, n)))) (ht : t ≠ 2) : in32 (σ a j) := (h a j).1 (fun n' q => by rw [e] at q; cases q; exact ht rfl)
theorem mw_notLf {σ : mw_S} {a j : Nat} {x : Nat × List Nat} (h : mw_okS σ) (e : mw_sh[a]? = some (.inl x)) : in32 (σ a j) := (h a j).1 (fun n' q => by rw [e] at q; cases q)
theorem mw_updI {σ : mw_S} {a k : Nat} {x : Int} : upd (fun j => i32 (σ a j)) k (i32 x) = fun j => i32 (upS σ a k x a j) := by
  funext j
  unfold upd upS
  by_cases e : j = k
  · simp [e]
  · simp [e]
theorem mw_updL {σ : mw_S} {a k : Nat} {x : Int} : vp_updL (fun j => i64 (σ a j)) k (i64 x) = fun j => i64 (upS σ a k x a j) := by
  funext j
  unfold vp_updL upS
  by_cases e : j = k
  · simp [e]
  · simp [e]
theorem mw_up_ne {σ : mw_S} {a k : Nat} {x : Int} : ∀ b, b ≠ a → ∀ j, upS σ a k x b j = σ b j := fun b hb j => by
  unfold upS
  rw [if_neg (fun q => hb q.1)]
theorem mw_cp_ne {σ : mw_S} {a sp b dp n : Nat} : ∀ c, c ≠ b → ∀ j, cpS σ a sp b dp n c j = σ c j := fun c hc j => by
  unfold cpS
  rw [if_neg (fun q => hc q.1)]
theorem mw_cpI {σ : mw_S} {a sp b dp n : Nat} : va_cpy (fun j => i32 (σ a j)) (fun j => i32 (σ b j)) sp dp n = fun j => i32 (cpS σ a sp b dp n b j) := by
  funext j
  unfold va_cpy cpS
  by_cases e : dp ≤ j ∧ j < dp + n
  · rw [if_pos e, if_pos ⟨rfl, e⟩]
  · rw [if_neg e, if_neg (fun q => e q.2)]
theorem mw_cpL {σ : mw_S} {a sp b dp n : Nat} : va_cpy (fun j => i64 (σ a j)) (fun j => i64 (σ b j)) sp dp n = fun j => i64 (cpS σ a sp b dp n b j) := by
  funext j
  unfold va_cpy cpS
  by_cases e : dp ≤ j ∧ j < dp + n
  · rw [if_pos e, if_pos ⟨rfl, e⟩]
  · rw [if_neg e, if_neg (fun q => e q.2)]
theorem mw_okS.cpl {σ : mw_S} {a sp b dp n nb : Nat} (h : mw_okS σ) (eb : mw_sh[b]? = some (.inr (.inl (2, nb)))) : mw_okS (cpS σ a sp b dp n) := by
  intro c k
  unfold cpS
  by_cases e : c = b ∧ dp ≤ k ∧ k < dp + n
  · rw [if_pos e]
    obtain ⟨rfl, -⟩ := e
    exact ⟨fun q => absurd eb (q nb), (h a _).2⟩
  · rw [if_neg e]
    exact h c k
theorem mw_okS.cp {σ : mw_S} {a sp b dp n na nb : Nat} (h : mw_okS σ) (ea : mw_sh[a]? = some (.inr (.inl (0, na)))) (eb : mw_sh[b]? = some (.inr (.inl (0, nb)))) : mw_okS (cpS σ a sp b dp n) := by
  intro c k
  unfold cpS
  by_cases e : c = b ∧ dp ≤ k ∧ k < dp + n
  · rw [if_pos e]
    have := mw_notL (j := sp + (k - dp)) h ea (by decide)
    exact ⟨fun _ => this, in64_32 this⟩
  · rw [if_neg e]
    exact h c k
theorem mw_setF {ad : Nat → Nat} {σ : mw_S} {a k : Nat} {x : Int} {fs : List Nat} (h : fs[k]? = some 0 ∨ fs[k]? = some 1) : (fs.mapIdx (fun j o => mw_fv ad σ a j o)).set k (.int (i32 x)) = fs.mapIdx (fun j o => mw_fv ad (upS σ a k x) a j o) := by
  apply List.ext_getElem?
  intro j
  by_cases e : j = k
  · subst e
    have hl : j < fs.length := by
      rcases h with h | h <;> exact (List.getElem?_eq_some_iff.mp h).1
    rw [List.getElem?_set_self (by rw [List.length_mapIdx]; exact hl), List.getElem?_mapIdx]
    rcases h with h | h <;> rw [h] <;> simp [mw_fv, upS]
  · rw [List.getElem?_set_ne (fun q => e q.symm), List.getElem?_mapIdx, List.getElem?_mapIdx]
    cases fs[j]? with
    | none => rfl
    | some o =>
      rcases o with _ | _ | n <;> simp [mw_fv, upS, e]
theorem mw_sh_ok {a : Nat} {c : mw_Sh} (h : mw_sh[a]? = some c) : mw_okC c = true := List.all_eq_true.mp mw_okC_all c (List.mem_of_getElem? h)
/-- a field of a cell: its kind, its table, its words -/
theorem mw_fld_of {a ci k o : Nat} (h : mw_fld a ci k = some o) : ∃ (fs : List Nat) (q : vw_C), mw_sh[a]? = some (.inl (ci, fs)) ∧ fs[k]? = some o ∧ vwCl[ci]? = some q ∧ k < q.2.2 ∧ fs.length = q.2.2 ∧ (o = 0 → (q.2.1 k).2.2.1 = "I" ∧ (q.2.1 k).2.2.2 = false) ∧ (o = 1 → (q.2.1 k).2.2.1 = "Z" ∧ (q.2.1 k).2.2.2 = false) := by
  unfold mw_fld at h
  split at h
  · rename_i ci' fs e
    split at h
    · rename_i e2
      subst e2
      have hok := mw_sh_ok e
      simp only [mw_okC, mw_okF] at hok
      split at hok
      · rename_i q hq
        simp only [Bool.and_eq_true, decide_eq_true_eq] at hok
        obtain ⟨hl, hall⟩ := hok
        have hk : k < fs.length := (List.getElem?_eq_some_iff.mp h).1
        have hz := List.all_eq_true.mp hall k (List.mem_range.mpr hk)
        rw [h] at hz
        refine ⟨fs, q, e, h, hq, by omega, hl, fun e0 => ?_, fun e1 => ?_⟩
        · subst e0
          simpa using hz
        · subst e1
          simpa using hz
      · cases hok
    · cases h
  · cases h
theorem mw_lay {ci : Nat} {q : vw_C} (h : vwCl[ci]? = some q) : ∀ w ∈ u_ws q.1 q.2.1 q.2.2, w ∈ mw_wd := fun w hw => mw_lay_in w (List.mem_flatMap.mpr ⟨q, List.mem_of_getElem? h, hw⟩)
theorem mw_catsum {ad : Nat → Nat} {fm : Value} (hf : fm.category = 1) (st : List mw_V) : ((st.map (mw_tr ad fm)).map fun v => v.category).sum = (st.map mw_cat).sum := by
  rw [List.map_map]
  congr 1
  apply List.map_congr_left
  intro v _
  exact mw_tr_cat hf v
section MWH
variable {D : va_G} {ad : Nat → Nat} {cA : Nat → ClassId} {fm : Value} {me : mw_Me} {d : Nat} {p : Program} {l : Launch} {e : Env} {R : Room} {s : State} {m : MethodId} {args : Array Value} {below : List Frame} {meth : Method} {c : Code} {Qm : State → Prop}
theorem mw_ldcwV {cc : ByteArray} {T : State} {locs : List Loc} {cells slots : Nat} (X : Stand p l e R s m args below meth c T locs cells slots) (hexec : p.tables.exec = Jvm.exec) {own text : String} {index : Nat} {a : Addr} (hown : s.vm.findClass own = some m.cls)
    (hconst : (Cond.stringRef own index text).before args s = true) (hev : (Term.string own index).eval args s none [] s = some (.ref a)) {g : JFrame} (hg : g.method = m) (hdg : decode c.code g.pc = .ok (.ldc_w index, 3)) :
    ∀ target, Steps p.tables e below (T.setTop { g with pc := g.pc + 3, stack := .ref a :: g.stack }) target → Steps p.tables e below (T.setTop g) target := by
  obtain ⟨k, cf, i, a', hk, hcf, hcp, -, hr, hev'⟩ := Cond.stringRef_spec hown hconst
  cases hev.symm.trans hev'
  obtain ⟨k', hk', he⟩ := X.warmed.alike.2.2 _ _ hk
  have hr' : k'.resolved[index]? = some (some (.string a)) := by
    rcases X.warmed.entry hk hk' index with h | ⟨h, -⟩
    · rw [h]; exact hr
    · rw [hr] at h; cases h
  intro target hrest
  subst hg
  jvm_step X.here [hexec, hdg, ldc_w.wp_string (e := e) (s := T) (f := g) X.here.top hk' (by rw [he]; exact hcf) hcp hr']
  exact hrest
theorem mw_ldcwS {cc : ByteArray} {pc : Nat} {ls : Array Slot} {rest : List Value} {H : Heap} {locs : List Loc} {cells slots : Nat} {Q : State → Prop} (hexec : p.tables.exec = Jvm.exec) (hb : c.code = cc) {own tx : String} {index q : Nat} (hown : s.vm.findClass own = some m.cls) (hZ : vk_R own index tx q s) (hdg : decode cc pc = .ok (.ldc_w index, 3))
    (k : W p l e R s m args below meth c H locs cells slots Q (F0 m (pc + 3) ls (.ref q :: rest))) : W p l e R s m args below meth c H locs cells slots Q (F0 m pc ls rest) := by
  intro T hT X
  obtain ⟨t, a1, b1⟩ := k T hT X
  have h1 : (Cond.stringRef own index tx).before args s = true := hZ.1
  have h2 : (Term.string own index).eval args s none [] s = some (.ref q) := hZ.2
  exact ⟨t, mw_ldcwV (cc := cc) X hexec hown h1 h2 (g := F0 m pc ls rest) rfl (by rw [hb]; exact hdg) t a1, b1⟩
theorem mw_link_f (hx : mw_Cx D ad cA fm me d p R s m args meth c) {x ci k : Nat} {q : vw_C} (hq : vwCl[ci]? = some q) (h : mw_fT.lookup (mw_key me x) = some (ci, k)) : (Cond.fieldLink me.1.cls x (q.2.1 k).1 (q.2.1 k).2.1 (q.2.1 k).2.2.1).before args s = true := by
  obtain ⟨h1, h2⟩ := mw_own_of hx (mw_klt rfl h)
  have h3 := mw_fT_in _ (List.mem_map.mpr ⟨_, mw_lk h, rfl⟩)
  simp only [mw_fW, hq, h1, h2] at h3
  exact hx.2.2.2.2.1 _ h3
theorem mw_link_j (hx : mw_Cx D ad cA fm me d p R s m args meth c) {x k : Nat} (h : mw_jT.lookup (mw_key me x) = some k) : (Cond.fieldLink me.1.cls x "java/lang/String" (if k = 0 then "value" else "coder") (if k = 0 then "[B" else "B")).before args s = true := by
  obtain ⟨h1, h2⟩ := mw_own_of hx (mw_klt rfl h)
  have h3 := mw_jT_in _ (List.mem_map.mpr ⟨_, mw_lk h, rfl⟩)
  simp only [mw_jW, h1, h2] at h3
  exact hx.2.2.2.2.1 _ h3
theorem mw_link_k (hx : mw_Cx D ad cA fm me d p R s m args meth c) {x : Nat} {v : Int} (h : mw_kT.lookup (mw_key me x) = some v) : (Cond.constant me.1.cls x (Int32.ofInt v)).before args s = true := by
  obtain ⟨h1, h2⟩ := mw_own_of hx (mw_klt rfl h)
  have h3 := mw_kT_in _ (List.mem_map.mpr ⟨_, mw_lk h, rfl⟩)
  simp only [mw_kW, h1, h2] at h3
  exact hx.2.2.2.2.1 _ h3
theorem mw_link_l (hx : mw_Cx D ad cA fm me d p R s m args meth c) {x : Nat} {v : Int} (h : mw_lT.lookup (mw_key me x) = some v) : (Cond.constantLong me.1.cls x (Int64.ofInt v)).before args s = true := by
  obtain ⟨h1, h2⟩ := mw_own_of hx (mw_klt rfl h)
  have h3 := mw_lT_in _ (List.mem_map.mpr ⟨_, mw_lk h, rfl⟩)
  simp only [mw_lW, h1, h2] at h3
  exact hx.2.2.2.2.1 _ h3
theorem mw_link_s (hx : mw_Cx D ad cA fm me d p R s m args meth c) {x k : Nat} (h : mw_sT.lookup (mw_key me x) = some k) : ∃ tx, vk_R me.1.cls x tx (ad (1000 + k)) s := by
  obtain ⟨h1, h2⟩ := mw_own_of hx (mw_klt rfl h)
  have h3 : (mw_own (mw_key me x), mw_key me x % 10000, k) ∈ mw_sT.map (fun e => (mw_own e.1, e.1 % 10000, e.2)) := List.mem_map.mpr ⟨_, mw_lk h, rfl⟩
  rw [mw_sT_ok, h1, h2] at h3
  obtain ⟨q, hq, e⟩ := List.mem_map.mp h3
  have h4 := hx.2.2.2.2.2.2.2.2.1.2.2.2.2.2.2.2 q hq
  simp only [Prod.mk.injEq] at e
  obtain ⟨e1, e2, e3⟩ := e
  rw [e1, e2, e3] at h4
  exact ⟨_, h4⟩
theorem mw_s_iaload (hx : mw_Cx D ad cA fm me d p R s m args meth c) {pc : Nat} {lv : mw_L} {st : List mw_V} {σ : mw_S} {K : Nat → mw_L → List mw_V → mw_S → Prop} (hd : decode me.2.1 pc = .ok (.iaload, 1)) (hs : mw_b1 st (fun z r => mw_r1 r (fun a r2 => 0 ≤ z ∧ z < mw_lenI a ∧ K (pc + 1) lv (jI (mw_rdI σ a z.toNat) :: r2) σ))) (hk : ∀ pc' lv' st' σ', K pc' lv' st' σ' → mw_Go D ad cA fm me p l e R s m args below meth c Qm pc' lv' st' σ') : mw_Go D ad cA fm me p l e R s m args below meth c Qm pc lv st σ := by
  obtain ⟨hex, hb, hml, hown, hts, hlk, hrt, hK, hCs, hfm, hinj, how, hR⟩ := hx
  intro oS oL oV H locs ls hP hS hl
  unfold mw_b1 at hs
  split at hs
  · rename_i z r
    unfold mw_r1 at hs
    split at hs
    · rename_i a r2
      obtain ⟨h0, h1, h2⟩ := hs
      have hz : in32 z := oL.head
      by_cases ea : a = 3000
      · subst ea
        have g := hk _ _ _ _ h2 oS (oL.tail.tail.cons (v := jI (mw_rdI σ 3000 z.toNat)) (mw_nines_in z.toNat)) oV H locs ls hP hS hl
        exact va_ti hex hb hCs.2.2.1 hS (mw_vin hz h0 h1) (by rw [i32_cl hz]; rfl) hd g
      · unfold mw_lenI at h1
        rw [if_neg ea] at h1
        obtain ⟨n, hn, h3⟩ := mw_lenW_of h0 h1
        unfold mw_rdI at h2
        rw [if_neg ea] at h2
        have g := hk _ _ _ _ h2 oS (oL.tail.tail.cons (v := jI (σ a z.toNat)) (mw_notL oS hn (by decide))) oV H locs ls hP hS hl
        refine va_iald hex hb hK hP a 0 (f := fun j => i32 (σ a j)) (mw_ws_at hn) rfl (mw_vin hz h0 h3) hd ?_
        rw [i32_cl hz]
        exact g
    · exact hs.elim
  · exact hs.elim
theorem mw_s_baload (hx : mw_Cx D ad cA fm me d p R s m args meth c) {pc : Nat} {lv : mw_L} {st : List mw_V} {σ : mw_S} {K : Nat → mw_L → List mw_V → mw_S → Prop} (hd : decode me.2.1 pc = .ok (.baload, 1)) (hs : mw_b1 st (fun z r => mw_r1 r (fun a r2 => 0 ≤ z ∧ z < mw_lenB a ∧ K (pc + 1) lv (jI (mw_rdB σ a z.toNat) :: r2) σ))) (hk : ∀ pc' lv' st' σ', K pc' lv' st' σ' → mw_Go D ad cA fm me p l e R s m args below meth c Qm pc' lv' st' σ') : mw_Go D ad cA fm me p l e R s m args below meth c Qm pc lv st σ := by
  obtain ⟨hex, hb, hml, hown, hts, hlk, hrt, hK, hCs, hfm, hinj, how, hR⟩ := hx
  intro oS oL oV H locs ls hP hS hl
  unfold mw_b1 at hs
  split at hs
  · rename_i z r
    unfold mw_r1 at hs
    split at hs
    · rename_i a r2
      obtain ⟨h0, h1, h2⟩ := hs
      have hz : in32 z := oL.head
      by_cases ea : mw_isT a = true
      · unfold mw_lenB at h1
        unfold mw_rdB at h2
        rw [if_pos ea] at h1 h2
        have g := hk _ _ _ _ h2 oS (oL.tail.tail.cons (v := jI ((mw_strs.getD (a - 2000) []).getD z.toNat 0)) (mw_strs_in _ _)) oV H locs ls hP hS hl
        unfold mw_isT at ea
        simp only [Bool.and_eq_true, decide_eq_true_eq] at ea
        have hT := (hCs.1 (a - 2000) (by omega)).2.2.2
        rw [show 2000 + (a - 2000) = a by omega] at hT
        exact va_tb hex hb hT hS (mw_vin hz h0 h1) (by rw [i32_cl hz]; rfl) hd g
      · unfold mw_lenB at h1
        unfold mw_rdB at h2
        rw [if_neg ea] at h1 h2
        obtain ⟨n, hn, h3⟩ := mw_lenW_of h0 h1
        have g := hk _ _ _ _ h2 oS (oL.tail.tail.cons (v := jI (σ a z.toNat)) (mw_notL oS hn (by decide))) oV H locs ls hP hS hl
        refine va_zald hex hb hK hP a 1 (f := fun j => i32 (σ a j)) (mw_ws_at hn) rfl (mw_vin hz h0 h3) hd ?_
        rw [i32_cl hz]
        exact g
    · exact hs.elim
  · exact hs.elim
theorem mw_s_laload (hx : mw_Cx D ad cA fm me d p R s m args meth c) {pc : Nat} {lv : mw_L} {st : List mw_V} {σ : mw_S} {K : Nat → mw_L → List mw_V → mw_S → Prop} (hd : decode me.2.1 pc = .ok (.laload, 1)) (hs : mw_b1 st (fun z r => mw_r1 r (fun a r2 => 0 ≤ z ∧ z < mw_lenW 2 a ∧ K (pc + 1) lv (jL (σ a z.toNat) :: r2) σ))) (hk : ∀ pc' lv' st' σ', K pc' lv' st' σ' → mw_Go D ad cA fm me p l e R s m args below meth c Qm pc' lv' st' σ') : mw_Go D ad cA fm me p l e R s m args below meth c Qm pc lv st σ := by
  obtain ⟨hex, hb, hml, hown, hts, hlk, hrt, hK, hCs, hfm, hinj, how, hR⟩ := hx
  intro oS oL oV H locs ls hP hS hl
  unfold mw_b1 at hs
  split at hs
  · rename_i z r
    unfold mw_r1 at hs
    split at hs
    · rename_i a r2
      obtain ⟨h0, h1, h2⟩ := hs
      have hz : in32 z := oL.head
      obtain ⟨n, hn, h3⟩ := mw_lenW_of h0 h1
      have g := hk _ _ _ _ h2 oS (oL.tail.tail.cons (v := jL (σ a z.toNat)) (oS a _).2) oV H locs ls hP hS hl
      refine va_lald hex hb hK hP a 2 (f := fun j => i64 (σ a j)) (mw_ws_at hn) rfl (mw_vin hz h0 h3) hd ?_
      rw [i32_cl hz]
      exact g
    · exact hs.elim
  · exact hs.elim
theorem mw_s_aaload (hx : mw_Cx D ad cA fm me d p R s m args meth c) {pc : Nat} {lv : mw_L} {st : List mw_V} {σ : mw_S} {K : Nat → mw_L → List mw_V → mw_S → Prop} (hd : decode me.2.1 pc = .ok (.aaload, 1)) (hs : mw_b1 st (fun z r => mw_r1 r (fun a r2 => 0 ≤ z ∧ z < (mw_rows a).length ∧ K (pc + 1) lv (jR ((mw_rows a).getD z.toNat 0) :: r2) σ))) (hk : ∀ pc' lv' st' σ', K pc' lv' st' σ' → mw_Go D ad cA fm me p l e R s m args below meth c Qm pc' lv' st' σ') : mw_Go D ad cA fm me p l e R s m args below meth c Qm pc lv st σ := by
  obtain ⟨hex, hb, hml, hown, hts, hlk, hrt, hK, hCs, hfm, hinj, how, hR⟩ := hx
  intro oS oL oV H locs ls hP hS hl
  unfold mw_b1 at hs
  split at hs
  · rename_i z r
    unfold mw_r1 at hs
    split at hs
    · rename_i a r2
      obtain ⟨h0, h1, h2⟩ := hs
      have hz : in32 z := oL.head
      unfold mw_rows at h1 h2
      split at h1
      · rename_i t ids hn
        rw [hn] at h2
        have g := hk _ _ _ _ h2 oS (oL.tail.tail.cons (v := jR (ids.getD z.toNat 0)) trivial) oV H locs ls hP hS hl
        have hok := mw_sh_ok hn
        simp only [mw_okC, Bool.and_eq_true, Bool.or_eq_true, decide_eq_true_eq] at hok
        have hlt : (i32 z).toNatClampNeg < ids.length := by rw [i32_cl hz]; omega
        have ev : mw_tr ad fm (jR (ids.getD z.toNat 0)) = va_rf ((ids[(i32 z).toNatClampNeg]?).map ad) := by
          rw [i32_cl hz, List.getD_eq_getElem?_getD]
          have hlt2 : z.toNat < ids.length := by omega
          rw [List.getElem?_eq_getElem hlt2]
          rfl
        rw [List.map_cons, ev] at g
        have hc1 := hP a _ (mw_ws_at hn)
        have hin : ¬ (i32 z < 0 ∨ (arrV (cA t) ids.length (fun j => va_rf ((ids[j]?).map ad))).slots.size ≤ (i32 z).toNatClampNeg) := by
          rw [arrV_size]
          exact mw_vin hz h0 h1
        have hv : (arrV (cA t) ids.length (fun j => va_rf ((ids[j]?).map ad))).slots[(i32 z).toNatClampNeg]? = some (va_rf ((ids[(i32 z).toNatClampNeg]?).map ad)) := by
          rw [arrV_read _ _ hlt]
        rcases hok.1 with e3 | e4
        · subst e3
          exact W.aald (v := va_rf ((ids[(i32 z).toNatClampNeg]?).map ad)) (ty := .array .int) hex hb hc1 ((hK.2 3 _ rfl).1 ids.length (fun j => va_rf ((ids[j]?).map ad))) rfl (fun q => by cases q) hin hv rfl rfl hd g
        · subst e4
          exact W.aald (v := va_rf ((ids[(i32 z).toNatClampNeg]?).map ad)) (ty := .array .long) hex hb hc1 ((hK.2 4 _ rfl).1 ids.length (fun j => va_rf ((ids[j]?).map ad))) rfl (fun q => by cases q) hin hv rfl rfl hd g
      · simp only [List.length_nil] at h1
        omega
    · exact hs.elim
  · exact hs.elim
theorem mw_s_iastore (hx : mw_Cx D ad cA fm me d p R s m args meth c) {pc : Nat} {lv : mw_L} {st : List mw_V} {σ : mw_S} {K : Nat → mw_L → List mw_V → mw_S → Prop} (hd : decode me.2.1 pc = .ok (.iastore, 1)) (hs : mw_b2 st (fun z x r => mw_r1 r (fun a r2 => 0 ≤ z ∧ z < mw_lenW 0 a ∧ K (pc + 1) lv r2 (upS σ a z.toNat x)))) (hk : ∀ pc' lv' st' σ', K pc' lv' st' σ' → mw_Go D ad cA fm me p l e R s m args below meth c Qm pc' lv' st' σ') : mw_Go D ad cA fm me p l e R s m args below meth c Qm pc lv st σ := by
  obtain ⟨hex, hb, hml, hown, hts, hlk, hrt, hK, hCs, hfm, hinj, how, hR⟩ := hx
  intro oS oL oV H locs ls hP hS hl
  unfold mw_b2 at hs
  split at hs
  · rename_i x z r
    unfold mw_r1 at hs
    split at hs
    · rename_i a r2
      obtain ⟨h0, h1, h2⟩ := hs
      have hz : in32 z := oL.tail.head
      have hxx : in32 x := oL.head
      obtain ⟨n, hn, h3⟩ := mw_lenW_of h0 h1
      refine va_iast hex hb hK hP (mw_D hinj σ _) hS a 0 (f := fun j => i32 (σ a j)) (mw_ws_at hn) rfl (mw_vin hz h0 h3) hd (fun H1 locs1 hP1 _ hS1 => ?_)
      rw [i32_cl hz, mw_updI] at hP1
      have hP2 : va_P D vwCl (mw_ws ad cA (upS σ a z.toNat x)) H1 := by
        rw [← mw_set hn mw_up_ne]
        exact hP1
      exact hk _ _ _ _ h2 (oS.up (fun _ => hxx) (in64_32 hxx)) oL.tail.tail.tail oV H1 locs1 ls hP2 hS1 hl
    · exact hs.elim
  · exact hs.elim
theorem mw_s_bastore (hx : mw_Cx D ad cA fm me d p R s m args meth c) {pc : Nat} {lv : mw_L} {st : List mw_V} {σ : mw_S} {K : Nat → mw_L → List mw_V → mw_S → Prop} (hd : decode me.2.1 pc = .ok (.bastore, 1)) (hs : mw_b2 st (fun z x r => mw_r1 r (fun a r2 => 0 ≤ z ∧ z < mw_lenW 1 a ∧ (x = 0 ∨ x = 1) ∧ K (pc + 1) lv r2 (upS σ a z.toNat x)))) (hk : ∀ pc' lv' st' σ', K pc' lv' st' σ' → mw_Go D ad cA fm me p l e R s m args below meth c Qm pc' lv' st' σ') : mw_Go D ad cA fm me p l e R s m args below meth c Qm pc lv st σ := by
  obtain ⟨hex, hb, hml, hown, hts, hlk, hrt, hK, hCs, hfm, hinj, how, hR⟩ := hx
  intro oS oL oV H locs ls hP hS hl
  unfold mw_b2 at hs
  split at hs
  · rename_i x z r
    unfold mw_r1 at hs
    split at hs
    · rename_i a r2
      obtain ⟨h0, h1, h01, h2⟩ := hs
      have hz : in32 z := oL.tail.head
      have hxx : in32 x := oL.head
      obtain ⟨n, hn, h3⟩ := mw_lenW_of h0 h1
      refine va_zast hex hb hK hP (mw_D hinj σ _) hS a 1 (f := fun j => i32 (σ a j)) (mw_ws_at hn) rfl (mw_vin hz h0 h3) hd (fun H1 locs1 hP1 _ hS1 => ?_)
      have en : vp_nar .boolean (i32 x) = i32 x := by
        rcases h01 with rfl | rfl <;> decide
      rw [i32_cl hz, en, mw_updI] at hP1
      have hP2 : va_P D vwCl (mw_ws ad cA (upS σ a z.toNat x)) H1 := by
        rw [← mw_set hn mw_up_ne]
        exact hP1
      exact hk _ _ _ _ h2 (oS.up (fun _ => hxx) (in64_32 hxx)) oL.tail.tail.tail oV H1 locs1 ls hP2 hS1 hl
    · exact hs.elim
  · exact hs.elim
theorem mw_s_lastore (hx : mw_Cx D ad cA fm me d p R s m args meth c) {pc : Nat} {lv : mw_L} {st : List mw_V} {σ : mw_S} {K : Nat → mw_L → List mw_V → mw_S → Prop} (hd : decode me.2.1 pc = .ok (.lastore, 1)) (hs : mw_l1 st (fun x r => mw_b1 r (fun z r1 => mw_r1 r1 (fun a r2 => 0 ≤ z ∧ z < mw_lenW 2 a ∧ K (pc + 1) lv r2 (upS σ a z.toNat x))))) (hk : ∀ pc' lv' st' σ', K pc' lv' st' σ' → mw_Go D ad cA fm me p l e R s m args below meth c Qm pc' lv' st' σ') : mw_Go D ad cA fm me p l e R s m args below meth c Qm pc lv st σ := by
  obtain ⟨hex, hb, hml, hown, hts, hlk, hrt, hK, hCs, hfm, hinj, how, hR⟩ := hx
  intro oS oL oV H locs ls hP hS hl
  unfold mw_l1 at hs
  split at hs
  · rename_i x r
    unfold mw_b1 at hs
    split at hs
    · rename_i z r1
      unfold mw_r1 at hs
      split at hs
      · rename_i a r2
        obtain ⟨h0, h1, h2⟩ := hs
        have hz : in32 z := oL.tail.head
        have hxx : in64 x := oL.head
        obtain ⟨n, hn, h3⟩ := mw_lenW_of h0 h1
        refine va_last hex hb hK hP (mw_D hinj σ _) hS a 2 (f := fun j => i64 (σ a j)) (mw_ws_at hn) rfl (mw_vin hz h0 h3) hd (fun H1 locs1 hP1 _ hS1 => ?_)
        rw [i32_cl hz, mw_updL] at hP1
        have hP2 : va_P D vwCl (mw_ws ad cA (upS σ a z.toNat x)) H1 := by
          rw [← mw_set hn mw_up_ne]
          exact hP1
        exact hk _ _ _ _ h2 (oS.up (fun q => absurd hn (q n)) hxx) oL.tail.tail.tail oV H1 locs1 ls hP2 hS1 hl
      · exact hs.elim
    · exact hs.elim
  · exact hs.elim
theorem mw_s_arraylength (hx : mw_Cx D ad cA fm me d p R s m args meth c) {pc : Nat} {lv : mw_L} {st : List mw_V} {σ : mw_S} {K : Nat → mw_L → List mw_V → mw_S → Prop} (hd : decode me.2.1 pc = .ok (.arraylength, 1)) (hs : mw_r1 st (fun a r => if mw_isT a = true then K (pc + 1) lv (jI (mw_lenB a) :: r) σ else match mw_sh[a]? with | some (.inr (.inl (_, n))) => K (pc + 1) lv (jI n :: r) σ | _ => False)) (hk : ∀ pc' lv' st' σ', K pc' lv' st' σ' → mw_Go D ad cA fm me p l e R s m args below meth c Qm pc' lv' st' σ') : mw_Go D ad cA fm me p l e R s m args below meth c Qm pc lv st σ := by
  obtain ⟨hex, hb, hml, hown, hts, hlk, hrt, hK, hCs, hfm, hinj, how, hR⟩ := hx
  intro oS oL oV H locs ls hP hS hl
  unfold mw_r1 at hs
  split at hs
  · rename_i a r
    by_cases ea : mw_isT a = true
    · rw [if_pos ea] at hs
      unfold mw_lenB at hs
      rw [if_pos ea] at hs
      have ea2 := ea
      unfold mw_isT at ea2
      simp only [Bool.and_eq_true, decide_eq_true_eq] at ea2
      have hT := (hCs.1 (a - 2000) (by omega)).2.2.2
      rw [show 2000 + (a - 2000) = a by omega] at hT
      have hlen : (mw_strs.getD (a - 2000) []).length < 1000 := by
        have h : ∀ x ∈ mw_strs, x.length < 1000 := by decide +kernel
        rw [List.getD_eq_getElem?_getD]
        cases e9 : mw_strs[a - 2000]? with
        | none => decide
        | some x => exact h x (List.mem_of_getElem? e9)
      have g := hk _ _ _ _ hs oS (oL.tail.cons (v := jI ((mw_strs.getD (a - 2000) []).length : Nat)) ⟨by omega, by omega⟩) oV H locs ls hP hS hl
      exact va_tlen hex hb hT hS (v := i32 ((mw_strs.getD (a - 2000) []).length : Nat)) rfl hd g
    · rw [if_neg ea] at hs
      split at hs
      · rename_i t n hn
        have hok := mw_sh_ok hn
        simp only [mw_okC, Bool.and_eq_true, decide_eq_true_eq] at hok
        have g := hk _ _ _ _ hs oS (oL.tail.cons (v := jI (n : Nat)) ⟨by omega, by omega⟩) oV H locs ls hP hS hl
        have ht : t = 0 ∨ t = 1 ∨ t = 2 := by omega
        rcases ht with rfl | rfl | rfl
        · exact va_alen hex hb hK hP a 0 (mw_ws_at hn) (ty := .int) rfl (v := i32 (n : Nat)) rfl hd g
        · exact va_alen hex hb hK hP a 1 (mw_ws_at hn) (ty := .boolean) rfl (v := i32 (n : Nat)) rfl hd g
        · exact va_alen hex hb hK hP a 2 (mw_ws_at hn) (ty := .long) rfl (v := i32 (n : Nat)) rfl hd g
      · exact hs.elim
  · exact hs.elim
theorem mw_s_getfield (hx : mw_Cx D ad cA fm me d p R s m args meth c) {x : Nat} {pc : Nat} {lv : mw_L} {st : List mw_V} {σ : mw_S} {K : Nat → mw_L → List mw_V → mw_S → Prop} (hd : decode me.2.1 pc = .ok (.getfield x, 3)) (hs : mw_r1 st (fun a r => match mw_fT.lookup (mw_key me x) with
    | some (ci, k) => (match mw_fld a ci k with
      | some 0 => K (pc + 3) lv (jI (σ a k) :: r) σ
      | some 1 => K (pc + 3) lv (jI (σ a k) :: r) σ
      | some (n + 2) => K (pc + 3) lv (jR n :: r) σ
      | none => False)
    | none => match mw_jT.lookup (mw_key me x) with
      | some 0 => 1000 ≤ a ∧ a < 1000 + mw_strs.length ∧ K (pc + 3) lv (jR (a + 1000) :: r) σ
      | some _ => 1000 ≤ a ∧ a < 1000 + mw_strs.length ∧ K (pc + 3) lv (jI 0 :: r) σ
      | none => False)) (hk : ∀ pc' lv' st' σ', K pc' lv' st' σ' → mw_Go D ad cA fm me p l e R s m args below meth c Qm pc' lv' st' σ') : mw_Go D ad cA fm me p l e R s m args below meth c Qm pc lv st σ := by
  have hx0 := hx
  obtain ⟨hex, hb, hml, hown, hts, hlk, hrt, hK, hCs, hfm, hinj, how, hR⟩ := hx
  intro oS oL oV H locs ls hP hS hl
  unfold mw_r1 at hs
  split at hs
  · rename_i a r
    split at hs
    · rename_i ci k hlk2
      cases ho : mw_fld a ci k with
      | none => rw [ho] at hs; exact hs.elim
      | some o =>
        obtain ⟨fs, q, h1, h2, h3, h4, h5, h6, h7⟩ := mw_fld_of ho
        obtain ⟨qC, qT, qN⟩ := q
        have hlink := mw_link_f hx0 h3 hlk2
        have hv : (fs.mapIdx (fun j o => mw_fv ad σ a j o))[k]? = some (mw_fv ad σ a k o) := by rw [List.getElem?_mapIdx, h2]; rfl
        refine va_get hex hb hts (mw_lay h3) hown hK hP a (mw_ws_at h1) h3 k h4 hlink (fun _ h9 => h9) hv hd ?_
        rw [ho] at hs
        rcases o with _ | _ | n
        · exact hk _ _ _ _ hs oS (oL.tail.cons (v := jI (σ a k)) (mw_notLf oS h1)) oV H locs ls hP hS hl
        · exact hk _ _ _ _ hs oS (oL.tail.cons (v := jI (σ a k)) (mw_notLf oS h1)) oV H locs ls hP hS hl
        · exact hk _ _ _ _ hs oS (oL.tail.cons (v := jR n) trivial) oV H locs ls hP hS hl
    · cases hj : mw_jT.lookup (mw_key me x) with
      | none => rw [hj] at hs; exact hs.elim
      | some k =>
        have hlink := mw_link_j hx0 hj
        rw [hj] at hs
        rcases k with _ | k
        · obtain ⟨g1, g2, g3⟩ := hs
          have hE := (hCs.1 (a - 1000) (by omega)).2.2.1
          rw [show 1000 + (a - 1000) = a by omega, show 2000 + (a - 1000) = a + 1000 by omega] at hE
          exact vk_getf hex hb hE hS hown hlink (fun _ h9 => h9) hd (hk _ _ _ _ g3 oS (oL.tail.cons (v := jR (a + 1000)) trivial) oV H locs ls hP hS hl)
        · obtain ⟨g1, g2, g3⟩ := hs
          have hE := (hCs.1 (a - 1000) (by omega)).2.1
          rw [show 1000 + (a - 1000) = a by omega] at hE
          rw [if_neg (Nat.succ_ne_zero k), if_neg (Nat.succ_ne_zero k)] at hlink
          exact vk_getf hex hb hE hS hown hlink (fun _ h9 => h9) hd (hk _ _ _ _ g3 oS (oL.tail.cons (v := jI 0) in32_0) oV H locs ls hP hS hl)
  · exact hs.elim
theorem mw_s_putfield (hx : mw_Cx D ad cA fm me d p R s m args meth c) {x : Nat} {pc : Nat} {lv : mw_L} {st : List mw_V} {σ : mw_S} {K : Nat → mw_L → List mw_V → mw_S → Prop} (hd : decode me.2.1 pc = .ok (.putfield x, 3)) (hs : mw_b1 st (fun v r => mw_r1 r (fun a r2 => match mw_fT.lookup (mw_key me x) with
    | some (ci, k) => (match mw_fld a ci k with
      | some 0 => K (pc + 3) lv r2 (upS σ a k v)
      | some 1 => (v = 0 ∨ v = 1) ∧ K (pc + 3) lv r2 (upS σ a k v)
      | _ => False)
    | none => False))) (hk : ∀ pc' lv' st' σ', K pc' lv' st' σ' → mw_Go D ad cA fm me p l e R s m args below meth c Qm pc' lv' st' σ') : mw_Go D ad cA fm me p l e R s m args below meth c Qm pc lv st σ := by
  have hx0 := hx
  obtain ⟨hex, hb, hml, hown, hts, hlk, hrt, hK, hCs, hfm, hinj, how, hR⟩ := hx
  intro oS oL oV H locs ls hP hS hl
  unfold mw_b1 at hs
  split at hs
  · rename_i v r
    unfold mw_r1 at hs
    split at hs
    · rename_i a r2
      split at hs
      · rename_i ci k hlk2
        cases ho : mw_fld a ci k with
        | none => rw [ho] at hs; exact hs.elim
        | some o =>
          obtain ⟨fs, q, h1, h2, h3, h4, h5, h6, h7⟩ := mw_fld_of ho
          obtain ⟨qC, qT, qN⟩ := q
          have hlink := mw_link_f hx0 h3 hlk2
          obtain ⟨ty0, hty, hnm⟩ := mw_cl_ok ci _ h3
          have hvv : in32 v := oL.head
          have hlen : k < (fs.mapIdx (fun j o => mw_fv ad σ a j o)).length := by rw [List.length_mapIdx]; exact (List.getElem?_eq_some_iff.mp h2).1
          rw [ho] at hs
          have hP2 : ∀ H1 : Heap, (fs[k]? = some 0 ∨ fs[k]? = some 1) → va_P D vwCl ((mw_ws ad cA σ).set a (ad a, .inr (ci, (fs.mapIdx (fun j o => mw_fv ad σ a j o)).set k (.int (i32 v))))) H1 → va_P D vwCl (mw_ws ad cA (upS σ a k v)) H1 := fun H1 hf hP1 => by
            rw [← mw_set h1 mw_up_ne]
            rw [mw_setF hf] at hP1
            exact hP1
          rcases o with _ | _ | n
          · refine va_put hex hb hts (mw_lay h3) ty0 hty hnm hown hK hP (mw_D hinj σ _) hS a (mw_ws_at h1) h3 k h4 hlink (fun _ h9 => h9) (h6 rfl).2 (ty := .int) (v := .int (i32 v)) (by show parseFieldDescriptor (qT k).2.2.1 = _; rw [show (qT k).2.2.1 = "I" from (h6 rfl).1]; decide +kernel) rfl rfl hlen hd (fun H1 locs1 hP1 _ hS1 => ?_)
            exact hk _ _ _ _ hs (oS.up (fun _ => hvv) (in64_32 hvv)) oL.tail.tail oV H1 locs1 ls (hP2 H1 (Or.inl h2) hP1) hS1 hl
          · obtain ⟨h01, hs⟩ := hs
            refine va_put hex hb hts (mw_lay h3) ty0 hty hnm hown hK hP (mw_D hinj σ _) hS a (mw_ws_at h1) h3 k h4 hlink (fun _ h9 => h9) (h7 rfl).2 (ty := .boolean) (v := .int (i32 v)) (by show parseFieldDescriptor (qT k).2.2.1 = _; rw [show (qT k).2.2.1 = "Z" from (h7 rfl).1]; decide +kernel) (by rcases h01 with rfl | rfl <;> decide) (by rcases h01 with rfl | rfl <;> decide) hlen hd (fun H1 locs1 hP1 _ hS1 => ?_)
            exact hk _ _ _ _ hs (oS.up (fun _ => hvv) (in64_32 hvv)) oL.tail.tail oV H1 locs1 ls (hP2 H1 (Or.inr h2) hP1) hS1 hl
          · exact hs.elim
      · exact hs.elim
    · exact hs.elim
  · exact hs.elim
theorem mw_s_getstatic (hx : mw_Cx D ad cA fm me d p R s m args meth c) {x : Nat} {pc : Nat} {lv : mw_L} {st : List mw_V} {σ : mw_S} {K : Nat → mw_L → List mw_V → mw_S → Prop} (hd : decode me.2.1 pc = .ok (.getstatic x, 3)) (hs : (match mw_gT.lookup (mw_key me x) with
    | some 0 => K (pc + 3) lv (jR 3000 :: st) σ
    | some 1 => K (pc + 3) lv (jI 1 :: st) σ
    | some 2 => K (pc + 3) lv (jO :: st) σ
    | some 3 => K (pc + 3) lv (jR 3000 :: st) σ
    | _ => False)) (hk : ∀ pc' lv' st' σ', K pc' lv' st' σ' → mw_Go D ad cA fm me p l e R s m args below meth c Qm pc' lv' st' σ') : mw_Go D ad cA fm me p l e R s m args below meth c Qm pc lv st σ := by
  have hx0 := hx
  obtain ⟨hex, hb, hml, hown, hts, hlk, hrt, hK, hCs, hfm, hinj, how, hR⟩ := hx
  intro oS oL oV H locs ls hP hS hl
  cases hj : mw_gT.lookup (mw_key me x) with
  | none => rw [hj] at hs; exact hs.elim
  | some k =>
    obtain ⟨h1, h2⟩ := mw_own_of hx0 (mw_klt rfl hj)
    have h3 := List.all_eq_true.mp mw_gT_ok _ (mw_lk hj)
    simp only [Bool.and_eq_true, decide_eq_true_eq, h1, h2] at h3
    obtain ⟨g0, g1, g2, g3⟩ := h3
    rw [hj] at hs
    rcases k with _ | _ | _ | _ | k
    · exact va_gets hex hb hCs.2.1 hS hown (hts _ (mw_wd_of (g0 rfl) rfl)) (fun _ h9 => h9) hd (hk _ _ _ _ hs oS (oL.cons (v := jR 3000) trivial) oV H locs ls hP hS hl)
    · exact va_gets hex hb hCs.2.2.2.1 hS hown (hts _ (mw_wd_of (g1 rfl) rfl)) (fun _ h9 => h9) hd (hk _ _ _ _ hs oS (oL.cons (v := jI 1) ⟨by decide, by decide⟩) oV H locs ls hP hS hl)
    · exact va_gets hex hb hCs.2.2.2.2.1 hS hown (hts _ (mw_wd_of (g2 rfl) rfl)) (fun _ h9 => h9) hd (hk _ _ _ _ hs oS (oL.cons (v := jO) trivial) oV H locs ls hP hS hl)
    · exact va_getsN hex hb hCs.2.1 hS hown (va_Nw.use rfl (hCs.2.2.2.2.2.2.1 _ (g3 rfl))) (fun _ h9 => h9) hd (hk _ _ _ _ hs oS (oL.cons (v := jR 3000) trivial) oV H locs ls hP hS hl)
    · exact hs.elim
theorem mw_s_ldc (hx : mw_Cx D ad cA fm me d p R s m args meth c) {x : Nat} {pc : Nat} {lv : mw_L} {st : List mw_V} {σ : mw_S} {K : Nat → mw_L → List mw_V → mw_S → Prop} (hd : decode me.2.1 pc = .ok (.ldc x, 2)) (hs : (match mw_kT.lookup (mw_key me x) with
    | some v => K (pc + 2) lv (jI (w32 v) :: st) σ
    | none => match mw_sT.lookup (mw_key me x) with
      | some k => K (pc + 2) lv (jR (1000 + k) :: st) σ
      | none => False)) (hk : ∀ pc' lv' st' σ', K pc' lv' st' σ' → mw_Go D ad cA fm me p l e R s m args below meth c Qm pc' lv' st' σ') : mw_Go D ad cA fm me p l e R s m args below meth c Qm pc lv st σ := by
  have hx0 := hx
  obtain ⟨hex, hb, hml, hown, hts, hlk, hrt, hK, hCs, hfm, hinj, how, hR⟩ := hx
  intro oS oL oV H locs ls hP hS hl
  cases hj : mw_kT.lookup (mw_key me x) with
  | some v =>
    rw [hj] at hs
    have g := hk _ _ _ _ hs oS (oL.cons (v := jI (w32 v)) (in32_of _)) oV H locs ls hP hS hl
    have e1 : (mw_tr ad fm (jI (w32 v))) = Value.int (Int32.ofInt v) := congrArg Value.int (i32_of _)
    rw [List.map_cons, e1] at g
    exact lv_ldc hex hb hown (mw_link_k hx0 hj) hd g
  | none =>
    rw [hj] at hs
    cases hz : mw_sT.lookup (mw_key me x) with
    | none => rw [hz] at hs; exact hs.elim
    | some k =>
      rw [hz] at hs
      obtain ⟨tx, hZ⟩ := mw_link_s hx0 hz
      exact va_ldcS hex hb hown hZ hd (hk _ _ _ _ hs oS (oL.cons (v := jR (1000 + k)) trivial) oV H locs ls hP hS hl)
theorem mw_s_ldc_w (hx : mw_Cx D ad cA fm me d p R s m args meth c) {x : Nat} {pc : Nat} {lv : mw_L} {st : List mw_V} {σ : mw_S} {K : Nat → mw_L → List mw_V → mw_S → Prop} (hd : decode me.2.1 pc = .ok (.ldc_w x, 3)) (hs : (match mw_kT.lookup (mw_key me x) with
    | some v => K (pc + 3) lv (jI (w32 v) :: st) σ
    | none => match mw_sT.lookup (mw_key me x) with
      | some k => K (pc + 3) lv (jR (1000 + k) :: st) σ
      | none => False)) (hk : ∀ pc' lv' st' σ', K pc' lv' st' σ' → mw_Go D ad cA fm me p l e R s m args below meth c Qm pc' lv' st' σ') : mw_Go D ad cA fm me p l e R s m args below meth c Qm pc lv st σ := by
  have hx0 := hx
  obtain ⟨hex, hb, hml, hown, hts, hlk, hrt, hK, hCs, hfm, hinj, how, hR⟩ := hx
  intro oS oL oV H locs ls hP hS hl
  cases hj : mw_kT.lookup (mw_key me x) with
  | some v =>
    rw [hj] at hs
    have g := hk _ _ _ _ hs oS (oL.cons (v := jI (w32 v)) (in32_of _)) oV H locs ls hP hS hl
    have e1 : (mw_tr ad fm (jI (w32 v))) = Value.int (Int32.ofInt v) := congrArg Value.int (i32_of _)
    rw [List.map_cons, e1] at g
    exact lv_ldcw hex hb hown (mw_link_k hx0 hj) hd g
  | none =>
    rw [hj] at hs
    cases hz : mw_sT.lookup (mw_key me x) with
    | none => rw [hz] at hs; exact hs.elim
    | some k =>
      rw [hz] at hs
      obtain ⟨tx, hZ⟩ := mw_link_s hx0 hz
      exact mw_ldcwS hex hb hown hZ hd (hk _ _ _ _ hs oS (oL.cons (v := jR (1000 + k)) trivial) oV H locs ls hP hS hl)
theorem mw_s_ldc2_w (hx : mw_Cx D ad cA fm me d p R s m args meth c) {x : Nat} {pc : Nat} {lv : mw_L} {st : List mw_V} {σ : mw_S} {K : Nat → mw_L → List mw_V → mw_S → Prop} (hd : decode me.2.1 pc = .ok (.ldc2_w x, 3)) (hs : (match mw_lT.lookup (mw_key me x) with
    | some v => K (pc + 3) lv (jL (w64 v) :: st) σ
    | none => False)) (hk : ∀ pc' lv' st' σ', K pc' lv' st' σ' → mw_Go D ad cA fm me p l e R s m args below meth c Qm pc' lv' st' σ') : mw_Go D ad cA fm me p l e R s m args below meth c Qm pc lv st σ := by
  have hx0 := hx
  obtain ⟨hex, hb, hml, hown, hts, hlk, hrt, hK, hCs, hfm, hinj, how, hR⟩ := hx
  intro oS oL oV H locs ls hP hS hl
  cases hj : mw_lT.lookup (mw_key me x) with
  | some v =>
    rw [hj] at hs
    have g := hk _ _ _ _ hs oS (oL.cons (v := jL (w64 v)) (in64_of _)) oV H locs ls hP hS hl
    have e1 : (mw_tr ad fm (jL (w64 v))) = Value.long (Int64.ofInt v) := congrArg Value.long (i64_of _)
    rw [List.map_cons, e1] at g
    exact lv_ldc2 hex hb hown (mw_link_l hx0 hj) hd g
  | none =>
    rw [hj] at hs
    exact hs.elim
theorem mw_s_acp (hx : mw_Cx D ad cA fm me d p R s m args meth c) {x : Nat} {pc : Nat} {lv : mw_L} {st : List mw_V} {σ : mw_S} {K : Nat → mw_L → List mw_V → mw_S → Prop} (hd : decode me.2.1 pc = .ok (.invokestatic x, 3)) (hs : mw_key me x ∈ mw_aT ∧ mw_acp st σ (fun st' σ' => K (pc + 3) lv st' σ')) (hk : ∀ pc' lv' st' σ', K pc' lv' st' σ' → mw_Go D ad cA fm me p l e R s m args below meth c Qm pc' lv' st' σ') : mw_Go D ad cA fm me p l e R s m args below meth c Qm pc lv st σ := by
  have hx0 := hx
  obtain ⟨hex, hb, hml, hown, hts, hlk, hrt, hK, hCs, hfm, hinj, how, hR⟩ := hx
  intro oS oL oV H locs ls hP hS hl
  obtain ⟨hin, hs⟩ := hs
  have hx9 : x < 10000 := by
    by_cases q : x < 10000
    · exact q
    · unfold mw_key at hin
      rw [if_neg q] at hin
      exact absurd hin (by decide)
  obtain ⟨h1, h2⟩ := mw_own_of hx0 hx9
  have h3 := mw_aT_in _ (List.mem_map.mpr ⟨_, hin, rfl⟩)
  simp only [mw_aW, h1, h2] at h3
  unfold mw_acp at hs
  split at hs
  · rename_i n dp b sp a rest
    obtain ⟨g1, g2, g3, g4, g6, g7⟩ := hs
    have in1 : in32 n := oL.head
    have in2 : in32 dp := oL.tail.head
    have in3 : in32 sp := oL.tail.tail.tail.head
    have neg : ∀ {z : Int}, in32 z → 0 ≤ z → ¬ i32 z < 0 := fun hz h0 q => by
      rw [← i32_0, i32_lt hz in32_0] at q
      omega
    subst hR
    have hroom : ((rest.map (mw_tr ad fm)).map fun v => v.category).sum + (nativeFrameWords "java/lang/System" "arraycopy" 5 + 11) ≤ 100 * (d + 1) := by
      have q1 : nativeFrameWords "java/lang/System" "arraycopy" 5 ≤ 60 := by decide +kernel
      have q2 := mw_catsum (ad := ad) hfm rest
      omega
    rcases g4 with ⟨g4, g5⟩ | ⟨g4, g5⟩
    · obtain ⟨na, ea, e2⟩ := mw_lenW_of (t := 0) (a := a) (z := sp + n - 1) (by omega) (by omega)
      obtain ⟨nb, eb, e3⟩ := mw_lenW_of (t := 0) (a := b) (z := dp + n - 1) (by omega) (by omega)
      refine va_copyi hex hb (by rw [hml]; exact hl.1.symm) hown (hts _ h3) (hts (.native arraycopyName) (mw_wd_of (by decide +kernel) rfl)) (hts (.static arraycopyName) (mw_wd_of (by decide +kernel) rfl)) (hts (.initialized "java/lang/System") (mw_wd_of (by decide +kernel) rfl)) hK hP (mw_D hinj σ _) hS a b 0 0 (f := fun j => i32 (σ a j)) (g := fun j => i32 (σ b j)) (ty := .int) (mw_ws_at ea) (mw_ws_at eb) rfl rfl rfl (sp := i32 sp) (dp := i32 dp) (n := i32 n) (neg in3 g1) (neg in2 g2) (neg in1 (by omega)) (by rw [i32_cl in3, i32_cl in1]; omega) (by rw [i32_cl in2, i32_cl in1]; omega) (fun _ _ => rfl) (by show 1 ≤ d + 1; omega) hroom hd (fun H1 locs1 hP1 _ hS1 => ?_)
      rw [i32_cl in1, i32_cl in2, i32_cl in3, mw_cpI] at hP1
      have hP2 : va_P D vwCl (mw_ws ad cA (cpS σ a sp.toNat b dp.toNat n.toNat)) H1 := by
        rw [← mw_set eb mw_cp_ne]
        exact hP1
      exact hk _ _ _ _ g7 (oS.cp ea eb) oL.tail.tail.tail.tail.tail oV H1 locs1 ls hP2 hS1 hl
    · obtain ⟨na, ea, e2⟩ := mw_lenW_of (t := 2) (a := a) (z := sp + n - 1) (by omega) (by omega)
      obtain ⟨nb, eb, e3⟩ := mw_lenW_of (t := 2) (a := b) (z := dp + n - 1) (by omega) (by omega)
      refine va_copyl hex hb (by rw [hml]; exact hl.1.symm) hown (hts _ h3) (hts (.native arraycopyName) (mw_wd_of (by decide +kernel) rfl)) (hts (.static arraycopyName) (mw_wd_of (by decide +kernel) rfl)) (hts (.initialized "java/lang/System") (mw_wd_of (by decide +kernel) rfl)) hK hP (mw_D hinj σ _) hS a b 2 2 (f := fun j => i64 (σ a j)) (g := fun j => i64 (σ b j)) (ty := .long) (mw_ws_at ea) (mw_ws_at eb) rfl rfl rfl (sp := i32 sp) (dp := i32 dp) (n := i32 n) (neg in3 g1) (neg in2 g2) (neg in1 (by omega)) (by rw [i32_cl in3, i32_cl in1]; omega) (by rw [i32_cl in2, i32_cl in1]; omega) (fun _ _ => rfl) (by show 1 ≤ d + 1; omega) hroom hd (fun H1 locs1 hP1 _ hS1 => ?_)
      rw [i32_cl in1, i32_cl in2, i32_cl in3, mw_cpL] at hP1
      have hP2 : va_P D vwCl (mw_ws ad cA (cpS σ a sp.toNat b dp.toNat n.toNat)) H1 := by
        rw [← mw_set eb mw_cp_ne]
        exact hP1
      exact hk _ _ _ _ g7 (oS.cpl eb) oL.tail.tail.tail.tail.tail oV H1 locs1 ls hP2 hS1 hl
  · exact hs.elim
end MWH
