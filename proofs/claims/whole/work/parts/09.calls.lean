/-! calls and answers; a run of the small machine is a run of the machine -/
/-- what a method's end says -/
def mw_Qc (D : va_G) (ad : Nat → Nat) (cA : Nat → ClassId) (fm : Value) (r : Option mw_V) (σ' : mw_S) (A : Nat → Prop) : Array Value → State → Outcome → State → Prop := fun _ st oc t => (oc = .returned (r.map (mw_tr ad fm)) ∧ va_P D vwCl (mw_ws ad cA σ') t.heap ∧ mw_okS σ' ∧ ∀ v, r = some v → mw_ok v) ∧ va_F A st t
def mw_Pc (D : va_G) (ad : Nat → Nat) (cA : Nat → ClassId) (fm : Value) (args : List mw_V) (σ : mw_S) (sz : Nat) : Array Value → State → Prop := va_Pc (args.map (mw_tr ad fm)) (fun U => U.heap.size = sz ∧ va_P D vwCl (mw_ws ad cA σ) U.heap ∧ va_K D vwCl (mw_ty cA) U ∧ mw_Cs ad fm (mw_A ad sz) U U.heap)
/-- every call of the small machine at a depth is a call of the machine -/
def mw_C (l : Launch) (D : va_G) (ad : Nat → Nat) (cA : Nat → ClassId) (fm : Value) (d : Nat) : Prop := ∀ (mi : Nat) (me : mw_Me) (args : List mw_V) (σ : mw_S) (r : Option mw_V) (σ' : mw_S) (sz : Nat), mw_mT[mi]? = some me → mw_okL args → mw_okS σ → mw_CR d mi args σ r σ' → Met l me.1 (Cond.code me.1 me.2.1 me.2.2.1 me.2.2.2.1 :: mw_wd) (mw_rm d) (mw_Pc D ad cA fm args σ sz) (mw_Qc D ad cA fm r σ' (mw_A ad sz)) 0 0 (mw_A ad sz)
theorem mw_okM_of {mi : Nat} {me : mw_Me} (h : mw_mT[mi]? = some me) : mw_ow[me.2.2.2.2.1]? = some me.1.cls ∧ plainFor me.1 = true ∧ me.1.cls ≠ "java/lang/invoke/MethodHandle" ∧ me.1.cls ≠ "java/lang/invoke/VarHandle" ∧ (parseMethodDescriptor me.1.desc).map (fun d => d.parameters.length) = some me.2.2.2.2.2.1 ∧ me.2.2.1 ≤ 60 ∧ (me.2.2.2.2.2.2 = 0 ∨ (me.2.2.2.2.2.2 = 50 ∧ me.1.cls = "java/lang/String") ∨ (vwCl[me.2.2.2.2.2.2 - 1]?).map (fun w => w.1) = some me.1.cls) := by
  have h1 := List.all_eq_true.mp mw_okM_all me (List.mem_of_getElem? h)
  simp only [mw_okM, Bool.and_eq_true, decide_eq_true_eq] at h1
  exact h1
theorem mw_blind {D : va_G} {ad : Nat → Nat} {cA : Nat → ClassId} {fm : Value} {args : List mw_V} {σ : mw_S} {sz : Nat} : FrameBlind (mw_Pc D ad cA fm args σ sz) := fun a U g mk q => by
  obtain ⟨q0, q1, qP, qK, qC⟩ := q
  exact ⟨q0, q1, qP, va_K.moved (u := U) (U := U.calling g mk a) (Vm.Alike.refl U.vm) qK, qC.same rfl⟩
theorem mw_good : GoodIn mw_wd mw_wd := fun w hw => ⟨hw, good_of_word (List.mem_filter.mp hw).2⟩
theorem mw_goodC {w : Cond} (h : w ∈ mw_wd) : w ∈ mw_wd ∧ ((w.onTables && w.keeps) = true ∨ ∃ ty, w = .arrayClass ty) := mw_good w h
section MWC
variable {D : va_G} {ad : Nat → Nat} {cA : Nat → ClassId} {fm : Value} {me : mw_Me} {d : Nat} {p : Program} {l : Launch} {e : Env} {R : Room} {s : State} {m : MethodId} {args : Array Value} {below : List Frame} {meth : Method} {c : Code} {Qm : State → Prop}
theorem mw_call {pc : Nat} {ls : Array Slot} {rest st0 : List Value} {H H0 : Heap} {locs : List Loc} {A0 A1 : Nat → Prop} {free : Addr → Prop} {v : Option Value} {P : Heap → Prop} {a : Array Value} (hr : va_Run p l e R s m args below meth c H locs 0 0 0 0 (F0 m pc ls st0) rest (fun st oc t => (oc = .returned v ∧ P t.heap) ∧ va_F A1 st t) free) (hS : va_S A0 H0 H locs) (hA : ∀ q, q < H.size → A1 q → A0 q) (hf : ∀ q, free q → A0 q)
    (kk : ∀ (H1 : Heap) (locs1 : List Loc), P H1 → va_S A0 H0 H1 locs1 → W p l e R s m args below meth c H1 locs1 0 0 Qm (F0 m (pc + 3) ls (v.toList ++ rest))) : W p l e R s m args below meth c H locs 0 0 Qm (F0 m pc ls st0) := by
  intro T hT X
  obtain ⟨w, st₀, t, T', L, h0, X', hL, e1, e2, ⟨⟨hv, hp⟩, hz, hk⟩, st⟩ := hr T hT X
  cases hv
  rw [h0] at hz hk
  obtain ⟨t2, a1, b1⟩ := kk T'.heap (locs ++ L) (by rw [e1]; exact hp)
    ⟨Nat.le_trans hS.1 (by rw [e1]; exact hz), fun q h1 h2 => by rw [e1, hk q (Nat.lt_of_lt_of_le h1 hS.1) (fun z => h2 (hA q (Nat.lt_of_lt_of_le h1 hS.1) z))]; exact hS.2.1 q h1 h2, fun q hq => by
      rcases List.mem_append.mp hq with h | h
      · exact hS.2.2 q h
      · exact hf _ (hL q h)⟩ T' rfl X'
  exact ⟨t2, st t2 a1, b1⟩
theorem mw_narrow {H : Heap} {sz : Nat} (h : sz ≤ H.size) : ∀ q, mw_A ad H.size q → mw_A ad sz q := fun q hq => by
  rcases hq with hq | hq
  · exact Or.inl hq
  · exact Or.inr (Nat.le_trans h hq)
theorem mw_pre (hx : mw_Cx D ad cA fm me d p R s m args meth c) {H : Heap} {locs : List Loc} {σ : mw_S} {as : List mw_V} (hP : va_P D vwCl (mw_ws ad cA σ) H) (hS : va_S (mw_A ad s.heap.size) s.heap H locs) : ∀ U : State, U.heap = H → s.WarmedH U.vm → mw_Pc D ad cA fm as σ H.size (as.map (mw_tr ad fm)).toArray U := fun U hU hW => by
  obtain ⟨hex, hb, hml, hown, hts, hlk, hrt, hK, hCs, hfm, hinj, how, hR⟩ := hx
  refine ⟨rfl, by rw [hU], by rw [hU]; exact hP, va_K.moved hW.alike hK, ?_⟩
  rw [hU]
  exact hCs.to hW hS.2.1 (mw_narrow hS.1)
theorem mw_after {r1 : Option mw_V} {rest : List mw_V} : (r1.map (mw_tr ad fm)).toList ++ rest.map (mw_tr ad fm) = (r1.toList ++ rest).map (mw_tr ad fm) := by
  cases r1 <;> rfl
theorem mw_okA {r1 : Option mw_V} {rest : List mw_V} (h : ∀ v, r1 = some v → mw_ok v) (hr : mw_okL rest) : mw_okL (r1.toList ++ rest) := by
  cases r1 with
  | none => exact hr
  | some v => exact hr.cons (h v rfl)
/-- the receiver's cell is of the method's kind -/
theorem mw_recv (hx : mw_Cx D ad cA fm me d p R s m args meth c) {H : Heap} {locs : List Loc} {σ : mw_S} {a mj : Nat} {mf : mw_Me} (hf : mw_mT[mj]? = some mf) (ha : mw_rc a = mf.2.2.2.2.2.2) (hP : va_P D vwCl (mw_ws ad cA σ) H) (hS : va_S (mw_A ad s.heap.size) s.heap H locs) : mf.2.2.2.2.2.2 ≠ 0 ∧ ∃ cellB : Cell, H[ad a]? = some cellB ∧ cellB.vm.isStatics = false ∧ s.vm.findClass mf.1.cls = some cellB.cls := by
  obtain ⟨hex, hb, hml, hown, hts, hlk, hrt, hK, hCs, hfm, hinj, how, hR⟩ := hx
  obtain ⟨k1, k2, k3, k4, k5, k6, k7⟩ := mw_okM_of hf
  have hlen : vwCl.length = 12 := rfl
  unfold mw_rc at ha
  split at ha
  · rename_i h
    rw [← ha] at k7 ⊢
    refine ⟨by decide, ?_⟩
    have hc : mf.1.cls = "java/lang/String" := by
      rcases k7 with k7 | k7 | k7
      · exact absurd k7 (by decide)
      · exact k7.2
      · rw [List.getElem?_eq_none (by rw [hlen]; decide)] at k7
        cases k7
    have hO := (hCs.1 (a - 1000) (by omega)).1.kept hS.2.1
    rw [show 1000 + (a - 1000) = a by omega] at hO
    obtain ⟨cell, h1, h2, h3, -⟩ := hO
    rw [hc]
    exact ⟨cell, h1, h2, h3⟩
  · split at ha
    · rename_i ci fs hsh
      rw [← ha] at k7 ⊢
      refine ⟨by omega, ?_⟩
      have hok := mw_sh_ok hsh
      simp only [mw_okC, mw_okF] at hok
      split at hok
      · rename_i q hq
        have hci : ci < 12 := by rw [← hlen]; exact (List.getElem?_eq_some_iff.mp hq).1
        have hc : mf.1.cls = q.1 := by
          rcases k7 with k7 | k7 | k7
          · omega
          · omega
          · rw [show ci + 1 - 1 = ci by omega, hq] at k7
            exact (Option.some.inj k7).symm
        rw [hc]
        exact va_recv hK hP hq (mw_ws_at hsh)
      · cases hok
    · exfalso
      rw [← ha] at k7
      rcases k7 with k7 | k7 | k7
      · exact absurd k7 (by decide)
      · exact absurd k7.1 (by decide)
      · rw [List.getElem?_eq_none (by rw [hlen]; decide)] at k7
        cases k7
theorem mw_ws_m {mj : Nat} {mf : mw_Me} (hf : mw_mT[mj]? = some mf) : Cond.code mf.1 mf.2.1 mf.2.2.1 mf.2.2.2.1 ∈ mw_wd ∧ Cond.initialized mf.1.cls ∈ mw_wd ∧ (mf.2.2.2.2.2.2 = 0 → Cond.static mf.1 ∈ mw_wd) ∧ (mf.2.2.2.2.2.2 ≠ 0 → Cond.instanceMethod mf.1 ∈ mw_wd ∧ Cond.selects mf.1.cls mf.1 mf.1 ∈ mw_wd) := by
  have hm := List.mem_of_getElem? hf
  refine ⟨mw_code_in mf hm, mw_ini_in _ (List.mem_map.mpr ⟨mf, hm, rfl⟩), fun h => mw_stat_in _ (List.mem_map.mpr ⟨mf, List.mem_filter.mpr ⟨hm, by simp [h]⟩, rfl⟩), fun h => ⟨mw_inst_in _ (List.mem_map.mpr ⟨mf, List.mem_filter.mpr ⟨hm, by simp [h]⟩, rfl⟩), mw_sel_in _ (List.mem_map.mpr ⟨mf, List.mem_filter.mpr ⟨hm, by simp [h]⟩, rfl⟩)⟩⟩
set_option maxRecDepth 100000 in
theorem mw_link_c (hx : mw_Cx D ad cA fm me d p R s m args meth c) {x mj : Nat} {mf : mw_Me} (hf : mw_mT[mj]? = some mf) (h : mw_cT.lookup (mw_key me x) = some mj) : Cond.methodLink me.1.cls x mf.1 ∈ mw_wd := by
  obtain ⟨h1, h2⟩ := mw_own_of hx (mw_klt rfl h)
  have h3 := mw_cT_in _ (List.mem_map.mpr ⟨_, mw_lk h, rfl⟩)
  simp only [mw_cW, h1, h2, hf, Option.elim_some] at h3
  exact h3
theorem mw_s_inv (hx : mw_Cx D ad cA fm me d p R s m args meth c) (hC : mw_C l D ad cA fm d) {x mj pc : Nat} {lv : mw_L} {st : List mw_V} {σ : mw_S} {K : Nat → mw_L → List mw_V → mw_S → Prop} (hd : decode me.2.1 pc = .ok (.invokevirtual x, 3)) (hlk9 : mw_cT.lookup (mw_key me x) = some mj) (hs : mw_inv (mw_CR d) st σ mj true (fun st' σ' => K (pc + 3) lv st' σ')) (hk : ∀ pc' lv' st' σ', K pc' lv' st' σ' → mw_Go D ad cA fm me p l e R s m args below meth c Qm pc' lv' st' σ') : mw_Go D ad cA fm me p l e R s m args below meth c Qm pc lv st σ := by
  have hx0 := hx
  obtain ⟨hex, hb, hml, hown, hts, hlk, hrt, hK, hCs, hfm, hinj, how, hR⟩ := hx
  intro oS oL oV H locs ls hP hS hl
  unfold mw_inv at hs
  cases hf : mw_mT[mj]? with
  | none => rw [hf] at hs; exact hs.elim
  | some mf =>
    rw [hf] at hs
    simp only [if_true] at hs
    split at hs
    · rename_i a rest hdr
      obtain ⟨h1, h2, r1, σ1, h3, h4⟩ := hs
      obtain ⟨k1, k2, k3, k4, k5, k6, k7⟩ := mw_okM_of hf
      obtain ⟨hrc0, hcell⟩ := mw_recv hx0 hf h1 hP hS
      obtain ⟨w1, w2, w3, w4⟩ := mw_ws_m hf
      obtain ⟨w5, w6⟩ := w4 hrc0
      have hst : st = st.take mf.2.2.2.2.2.1 ++ jR a :: rest := by rw [← hdr, List.take_append_drop]
      have hnp : (st.take mf.2.2.2.2.2.1).length = mf.2.2.2.2.2.1 := by
        rw [List.length_take]
        have : 0 < (st.drop mf.2.2.2.2.2.1).length := by rw [hdr]; exact Nat.succ_pos _
        rw [List.length_drop] at this
        omega
      have okall : mw_okL (jR a :: (st.take mf.2.2.2.2.2.1).reverse) := by
        intro v hv
        rcases List.mem_cons.mp hv with e9 | e9
        · rw [e9]; trivial
        · exact oL v (by rw [hst]; exact List.mem_append.mpr (Or.inl (List.mem_reverse.mp e9)))
      have okrest : mw_okL rest := fun v hv => oL v (by rw [hst]; exact List.mem_append.mpr (Or.inr (List.mem_cons_of_mem _ hv)))
      have hM := hC mj mf _ σ r1 σ1 H.size hf okall oS h3
      subst hR
      refine mw_call (A1 := mw_A ad H.size) (v := r1.map (mw_tr ad fm)) (rest := rest.map (mw_tr ad fm)) (P := fun H1 => va_P D vwCl (mw_ws ad cA σ1) H1 ∧ mw_okS σ1 ∧ ∀ v, r1 = some v → mw_ok v) (a := #[]) (va_runV (As := (st.take mf.2.2.2.2.2.1).reverse.map (mw_tr ad fm)) (b := ad a) (rest := rest.map (mw_tr ad fm)) (n := mf.2.2.2.2.2.1) (C := mf.1.cls) ⟨hex, hb, hml, hown, hts⟩ hM (cwV mf.2.2.2.2.2.1 hts ?_ rfl rfl rfl ⟨rfl, k3, k4, k5⟩ ⟨Nat.le_refl _, ?_⟩) ⟨mw_blind, hcell, mw_pre hx0 hP hS⟩ rfl ?_ hl.1 ?_ (lv_room ?_) hd ⟨Nat.le_refl _, Nat.le_refl _⟩) hS (fun q _ h => mw_narrow hS.1 q h) (fun q h => mw_narrow hS.1 q h) (fun H1 locs1 hq hS1 => ?_)
      · intro w hw
        simp only [wsV, List.mem_append, List.mem_cons, List.not_mem_nil, or_false] at hw
        rcases hw with (rfl | rfl | rfl | rfl) | (rfl | hw)
        · exact mw_goodC (mw_link_c hx0 hf hlk9)
        · exact mw_goodC w5
        · exact mw_goodC w6
        · exact mw_goodC w2
        · exact mw_goodC w1
        · exact mw_good w hw
      · show 8 + (mf.2.2.1 + 11) + 100 * d ≤ 100 * (d + 1)
        omega
      · rw [List.length_map, List.length_reverse, hnp]
      · show st.map (mw_tr ad fm) = _
        rw [← List.map_reverse, List.reverse_reverse]
        conv => lhs; rw [hst]
        rw [List.map_append]
        rfl
      · rw [mw_catsum hfm]
        exact h2
      · rw [mw_after]
        exact hk _ _ _ _ h4 hq.2.1 (mw_okA hq.2.2 okrest) oV H1 locs1 ls hq.1 hS1 hl
    · exact hs.elim
theorem mw_s_invs (hx : mw_Cx D ad cA fm me d p R s m args meth c) (hC : mw_C l D ad cA fm d) {x mj pc : Nat} {lv : mw_L} {st : List mw_V} {σ : mw_S} {K : Nat → mw_L → List mw_V → mw_S → Prop} (hd : decode me.2.1 pc = .ok (.invokestatic x, 3)) (hlk9 : mw_cT.lookup (mw_key me x) = some mj ∨ mw_nT.lookup (mw_key me x) = some mj) (hs : mw_inv (mw_CR d) st σ mj false (fun st' σ' => K (pc + 3) lv st' σ')) (hk : ∀ pc' lv' st' σ', K pc' lv' st' σ' → mw_Go D ad cA fm me p l e R s m args below meth c Qm pc' lv' st' σ') : mw_Go D ad cA fm me p l e R s m args below meth c Qm pc lv st σ := by
  have hx0 := hx
  obtain ⟨hex, hb, hml, hown, hts, hlk, hrt, hK, hCs, hfm, hinj, how, hR⟩ := hx
  intro oS oL oV H locs ls hP hS hl
  unfold mw_inv at hs
  cases hf : mw_mT[mj]? with
  | none => rw [hf] at hs; exact hs.elim
  | some mf =>
    rw [hf] at hs
    simp only [Bool.false_eq_true, if_false] at hs
    obtain ⟨h0, hlen, h2, r1, σ1, h3, h4⟩ := hs
    obtain ⟨k1, k2, k3, k4, k5, k6, k7⟩ := mw_okM_of hf
    obtain ⟨w1, w2, w3, w4⟩ := mw_ws_m hf
    have w5 := w3 h0
    have hst : st = st.take mf.2.2.2.2.2.1 ++ st.drop mf.2.2.2.2.2.1 := (List.take_append_drop _ _).symm
    have hnp : (st.take mf.2.2.2.2.2.1).length = mf.2.2.2.2.2.1 := by
      rw [List.length_take]
      omega
    have okall : mw_okL (st.take mf.2.2.2.2.2.1).reverse := fun v hv => oL v (List.mem_of_mem_take (List.mem_reverse.mp hv))
    have okrest : mw_okL (st.drop mf.2.2.2.2.2.1) := fun v hv => oL v (List.mem_of_mem_drop hv)
    have hM := hC mj mf _ σ r1 σ1 H.size hf okall oS h3
    subst hR
    have hroom : 8 + (mf.2.2.1 + 11) + 100 * d ≤ 100 * (d + 1) := by omega
    have hstk : (F0 m pc ls (st.map (mw_tr ad fm))).stack = ((st.take mf.2.2.2.2.2.1).reverse.map (mw_tr ad fm)).reverse ++ (st.drop mf.2.2.2.2.2.1).map (mw_tr ad fm) := by
      show st.map (mw_tr ad fm) = _
      rw [← List.map_reverse, List.reverse_reverse, ← List.map_append, List.take_append_drop]
    have hG : GoodIn mw_wd (Cond.code mf.1 mf.2.1 mf.2.2.1 mf.2.2.2.1 :: mw_wd) := fun w hw => by
      rcases List.mem_cons.mp hw with rfl | hw
      · exact mw_goodC w1
      · exact mw_good w hw
    have kk9 : ∀ (H1 : Heap) (locs1 : List Loc), (va_P D vwCl (mw_ws ad cA σ1) H1 ∧ mw_okS σ1 ∧ ∀ v, r1 = some v → mw_ok v) → va_S (mw_A ad s.heap.size) s.heap H1 locs1 → W p l e (mw_rm (d + 1)) s m args below meth c H1 locs1 0 0 Qm (F0 m (pc + 3) ls ((r1.map (mw_tr ad fm)).toList ++ (st.drop mf.2.2.2.2.2.1).map (mw_tr ad fm))) := fun H1 locs1 hq hS1 => by
      rw [mw_after]
      exact hk _ _ _ _ h4 hq.2.1 (mw_okA hq.2.2 okrest) oV H1 locs1 ls hq.1 hS1 hl
    rcases hlk9 with hlk9 | hlk9
    · refine mw_call (A1 := mw_A ad H.size) (v := r1.map (mw_tr ad fm)) (rest := (st.drop mf.2.2.2.2.2.1).map (mw_tr ad fm)) (P := fun H1 => va_P D vwCl (mw_ws ad cA σ1) H1 ∧ mw_okS σ1 ∧ ∀ v, r1 = some v → mw_ok v) (a := #[]) (va_runS (As := (st.take mf.2.2.2.2.2.1).reverse.map (mw_tr ad fm)) (rest := (st.drop mf.2.2.2.2.2.1).map (mw_tr ad fm)) (n := mf.2.2.2.2.2.1) ⟨hex, hb, hml, hown, hts⟩ hM ⟨callB_of mf.2.2.2.2.2.1 hts hG rfl rfl rfl (hts _ w2) (hts _ (mw_link_c hx0 hf hlk9)) ⟨k3, k4, k5⟩ ⟨Nat.le_refl _, hroom⟩, hts _ w5⟩ ⟨mw_blind, mw_pre hx0 hP hS⟩ rfl (by rw [List.length_map, List.length_reverse, hnp]) hl.1 hstk (lv_room (by rw [mw_catsum hfm]; exact h2)) hd ⟨Nat.le_refl _, Nat.le_refl _⟩) hS (fun q _ h => mw_narrow hS.1 q h) (fun q h => mw_narrow hS.1 q h) kk9
    · have hNw : va_Nw (.methodLinkNest me.1.cls x mf.1 "LateMirror") s := by
        obtain ⟨g1, g2⟩ := mw_own_of hx0 (mw_klt rfl hlk9)
        have g3 : (mw_own (mw_key me x), mw_key me x % 10000, mj, "LateMirror") ∈ mw_nT.map (fun e => (mw_own e.1, e.1 % 10000, e.2, "LateMirror")) := List.mem_map.mpr ⟨_, mw_lk hlk9, rfl⟩
        rw [mw_nT_ok, g1, g2] at g3
        exact hCs.2.2.2.2.2.1 _ g3 mf hf
      refine mw_call (A1 := mw_A ad H.size) (v := r1.map (mw_tr ad fm)) (rest := (st.drop mf.2.2.2.2.2.1).map (mw_tr ad fm)) (P := fun H1 => va_P D vwCl (mw_ws ad cA σ1) H1 ∧ mw_okS σ1 ∧ ∀ v, r1 = some v → mw_ok v) (a := #[]) (va_runSN (As := (st.take mf.2.2.2.2.2.1).reverse.map (mw_tr ad fm)) (rest := (st.drop mf.2.2.2.2.2.1).map (mw_tr ad fm)) (n := mf.2.2.2.2.2.1) ⟨hex, hb, hml, hown, hts⟩ hM ⟨va_cnB mf.2.2.2.2.2.1 hts hG rfl rfl rfl hNw (hts _ w2) ⟨k3, k4, k5⟩ ⟨Nat.le_refl _, hroom⟩, hts _ w5, trivial⟩ ⟨mw_blind, mw_pre hx0 hP hS⟩ rfl (by rw [List.length_map, List.length_reverse, hnp]) hl.1 hstk (lv_room (by rw [mw_catsum hfm]; exact h2)) hd ⟨Nat.le_refl _, Nat.le_refl _⟩) hS (fun q _ h => mw_narrow hS.1 q h) (fun q h => mw_narrow hS.1 q h) kk9
theorem mw_s_ireturn (hx : mw_Cx D ad cA fm me d p R s m args meth c) {pc : Nat} {lv : mw_L} {st : List mw_V} {σ σ' : mw_S} {r : Option mw_V} (hd : decode me.2.1 pc = .ok (.ireturn, 1)) (hs : (match st with | [.inl z] => (∃ ty, me.2.2.2.1 = some ty ∧ narrow ty (.int (i32 z)) = .int (i32 z)) ∧ (some (jI z) = r ∧ σ = σ') | _ => False)) : mw_Go D ad cA fm me p l e R s m args below meth c (MQ below (mw_Qc D ad cA fm r σ' (mw_A ad s.heap.size)) args s 0 0 (mw_A ad s.heap.size)) pc lv st σ := by
  obtain ⟨hex, hb, hml, hown, hts, hlk, hrt, hK, hCs, hfm, hinj, how, hR⟩ := hx
  intro oS oL oV H locs ls hP hS hl
  split at hs
  · rename_i z
    obtain ⟨⟨ty, h1, h2⟩, rfl, rfl⟩ := hs
    exact W.zret (v := i32 z) hex hb (hrt.trans h1) h2 (fun t ht _ => ⟨⟨rfl, by rw [ht]; exact hP, oS, fun v hv => by cases hv; exact oL.head⟩, hS.F ht⟩) hS.2.2 hd hlk
  · exact hs.elim
theorem mw_s_lreturn (hx : mw_Cx D ad cA fm me d p R s m args meth c) {pc : Nat} {lv : mw_L} {st : List mw_V} {σ σ' : mw_S} {r : Option mw_V} (hd : decode me.2.1 pc = .ok (.lreturn, 1)) (hs : (match st with | [.inr (.inl z)] => me.2.2.2.1 = some .long ∧ (some (jL z) = r ∧ σ = σ') | _ => False)) : mw_Go D ad cA fm me p l e R s m args below meth c (MQ below (mw_Qc D ad cA fm r σ' (mw_A ad s.heap.size)) args s 0 0 (mw_A ad s.heap.size)) pc lv st σ := by
  obtain ⟨hex, hb, hml, hown, hts, hlk, hrt, hK, hCs, hfm, hinj, how, hR⟩ := hx
  intro oS oL oV H locs ls hP hS hl
  split at hs
  · rename_i z
    obtain ⟨h1, rfl, rfl⟩ := hs
    exact W.lret (v := i64 z) hex hb (hrt.trans h1) (fun t ht _ => ⟨⟨rfl, by rw [ht]; exact hP, oS, fun v hv => by cases hv; exact oL.head⟩, hS.F ht⟩) hS.2.2 hd hlk
  · exact hs.elim
theorem mw_s_return (hx : mw_Cx D ad cA fm me d p R s m args meth c) {pc : Nat} {lv : mw_L} {st : List mw_V} {σ σ' : mw_S} {r : Option mw_V} (hd : decode me.2.1 pc = .ok (.return_, 1)) (hs : (match st with | [] => me.2.2.2.1 = none ∧ (none = r ∧ σ = σ') | _ => False)) : mw_Go D ad cA fm me p l e R s m args below meth c (MQ below (mw_Qc D ad cA fm r σ' (mw_A ad s.heap.size)) args s 0 0 (mw_A ad s.heap.size)) pc lv st σ := by
  obtain ⟨hex, hb, hml, hown, hts, hlk, hrt, hK, hCs, hfm, hinj, how, hR⟩ := hx
  intro oS oL oV H locs ls hP hS hl
  split at hs
  · obtain ⟨h1, rfl, rfl⟩ := hs
    exact W.vret hex hb (hrt.trans h1) (fun t ht _ => ⟨⟨rfl, by rw [ht]; exact hP, oS, fun v hv => by cases hv⟩, hS.F ht⟩) hS.2.2 hd hlk
  · exact hs.elim
set_option maxHeartbeats 4000000 in
theorem mw_step (hx : mw_Cx D ad cA fm me d p R s m args meth c) (hC : mw_C l D ad cA fm d) {i : Jvm.ClassFile.Instr} {len pc : Nat} {lv : mw_L} {st : List mw_V} {σ σ' : mw_S} {r : Option mw_V} {K : Nat → mw_L → List mw_V → mw_S → Prop} (hd : decode me.2.1 pc = .ok (i, len)) (hl : mw_ln i len = true) (hs : mw_stp (mw_CR d) me i len pc lv st σ (fun v s => v = r ∧ s = σ') K)
    (hk : ∀ pc' lv' st' s', K pc' lv' st' s' → mw_Go D ad cA fm me p l e R s m args below meth c (MQ below (mw_Qc D ad cA fm r σ' (mw_A ad s.heap.size)) args s 0 0 (mw_A ad s.heap.size)) pc' lv' st' s') : mw_Go D ad cA fm me p l e R s m args below meth c (MQ below (mw_Qc D ad cA fm r σ' (mw_A ad s.heap.size)) args s 0 0 (mw_A ad s.heap.size)) pc lv st σ := by
  cases i
  case iadd =>
    obtain rfl : len = 1 := by simpa [mw_ln] using hl
    exact mw_s_iadd hx hd hs hk
  case isub =>
    obtain rfl : len = 1 := by simpa [mw_ln] using hl
    exact mw_s_isub hx hd hs hk
  case imul =>
    obtain rfl : len = 1 := by simpa [mw_ln] using hl
    exact mw_s_imul hx hd hs hk
  case iand =>
    obtain rfl : len = 1 := by simpa [mw_ln] using hl
    exact mw_s_iand hx hd hs hk
  case ior =>
    obtain rfl : len = 1 := by simpa [mw_ln] using hl
    exact mw_s_ior hx hd hs hk
  case ixor =>
    obtain rfl : len = 1 := by simpa [mw_ln] using hl
    exact mw_s_ixor hx hd hs hk
  case ishl =>
    obtain rfl : len = 1 := by simpa [mw_ln] using hl
    exact mw_s_ishl hx hd hs hk
  case ishr =>
    obtain rfl : len = 1 := by simpa [mw_ln] using hl
    exact mw_s_ishr hx hd hs hk
  case iushr =>
    obtain rfl : len = 1 := by simpa [mw_ln] using hl
    exact mw_s_iushr hx hd hs hk
  case idiv =>
    obtain rfl : len = 1 := by simpa [mw_ln] using hl
    exact mw_s_idiv hx hd hs hk
  case irem =>
    obtain rfl : len = 1 := by simpa [mw_ln] using hl
    exact mw_s_irem hx hd hs hk
  case ineg =>
    obtain rfl : len = 1 := by simpa [mw_ln] using hl
    exact mw_s_ineg hx hd hs hk
  case i2b =>
    obtain rfl : len = 1 := by simpa [mw_ln] using hl
    exact mw_s_i2b hx hd hs hk
  case i2s =>
    obtain rfl : len = 1 := by simpa [mw_ln] using hl
    exact mw_s_i2s hx hd hs hk
  case i2c =>
    obtain rfl : len = 1 := by simpa [mw_ln] using hl
    exact mw_s_i2c hx hd hs hk
  case i2l =>
    obtain rfl : len = 1 := by simpa [mw_ln] using hl
    exact mw_s_i2l hx hd hs hk
  case l2i =>
    obtain rfl : len = 1 := by simpa [mw_ln] using hl
    exact mw_s_l2i hx hd hs hk
  case ladd =>
    obtain rfl : len = 1 := by simpa [mw_ln] using hl
    exact mw_s_ladd hx hd hs hk
  case lsub =>
    obtain rfl : len = 1 := by simpa [mw_ln] using hl
    exact mw_s_lsub hx hd hs hk
  case lmul =>
    obtain rfl : len = 1 := by simpa [mw_ln] using hl
    exact mw_s_lmul hx hd hs hk
  case land =>
    obtain rfl : len = 1 := by simpa [mw_ln] using hl
    exact mw_s_land hx hd hs hk
  case lor =>
    obtain rfl : len = 1 := by simpa [mw_ln] using hl
    exact mw_s_lor hx hd hs hk
  case ldiv =>
    obtain rfl : len = 1 := by simpa [mw_ln] using hl
    exact mw_s_ldiv hx hd hs hk
  case lrem =>
    obtain rfl : len = 1 := by simpa [mw_ln] using hl
    exact mw_s_lrem hx hd hs hk
  case lcmp =>
    obtain rfl : len = 1 := by simpa [mw_ln] using hl
    exact mw_s_lcmp hx hd hs hk
  case lshl =>
    obtain rfl : len = 1 := by simpa [mw_ln] using hl
    exact mw_s_lshl hx hd hs hk
  case lshr =>
    obtain rfl : len = 1 := by simpa [mw_ln] using hl
    exact mw_s_lshr hx hd hs hk
  case lushr =>
    obtain rfl : len = 1 := by simpa [mw_ln] using hl
    exact mw_s_lushr hx hd hs hk
  case dup =>
    obtain rfl : len = 1 := by simpa [mw_ln] using hl
    exact mw_s_dup hx hd hs hk
  case dup2 =>
    obtain rfl : len = 1 := by simpa [mw_ln] using hl
    exact mw_s_dup2 hx hd hs hk
  case pop =>
    obtain rfl : len = 1 := by simpa [mw_ln] using hl
    exact mw_s_pop hx hd hs hk
  case pop2 =>
    obtain rfl : len = 1 := by simpa [mw_ln] using hl
    exact mw_s_pop2 hx hd hs hk
  case iaload =>
    obtain rfl : len = 1 := by simpa [mw_ln] using hl
    exact mw_s_iaload hx hd hs hk
  case baload =>
    obtain rfl : len = 1 := by simpa [mw_ln] using hl
    exact mw_s_baload hx hd hs hk
  case laload =>
    obtain rfl : len = 1 := by simpa [mw_ln] using hl
    exact mw_s_laload hx hd hs hk
  case aaload =>
    obtain rfl : len = 1 := by simpa [mw_ln] using hl
    exact mw_s_aaload hx hd hs hk
  case iastore =>
    obtain rfl : len = 1 := by simpa [mw_ln] using hl
    exact mw_s_iastore hx hd hs hk
  case bastore =>
    obtain rfl : len = 1 := by simpa [mw_ln] using hl
    exact mw_s_bastore hx hd hs hk
  case lastore =>
    obtain rfl : len = 1 := by simpa [mw_ln] using hl
    exact mw_s_lastore hx hd hs hk
  case arraylength =>
    obtain rfl : len = 1 := by simpa [mw_ln] using hl
    exact mw_s_arraylength hx hd hs hk
  case iconst n =>
    obtain rfl : len = 1 := by simpa [mw_ln] using hl
    exact mw_s_iconst hx hd hs hk
  case lconst n =>
    obtain rfl : len = 1 := by simpa [mw_ln] using hl
    exact mw_s_lconst hx hd hs hk
  case iload_n n =>
    obtain rfl : len = 1 := by simpa [mw_ln] using hl
    exact mw_s_iload_n hx hd hs hk
  case lload_n n =>
    obtain rfl : len = 1 := by simpa [mw_ln] using hl
    exact mw_s_lload_n hx hd hs hk
  case aload_n n =>
    obtain rfl : len = 1 := by simpa [mw_ln] using hl
    exact mw_s_aload_n hx hd hs hk
  case istore_n n =>
    obtain rfl : len = 1 := by simpa [mw_ln] using hl
    exact mw_s_istore_n hx hd hs hk
  case lstore_n n =>
    obtain rfl : len = 1 := by simpa [mw_ln] using hl
    exact mw_s_lstore_n hx hd hs hk
  case astore_n n =>
    obtain rfl : len = 1 := by simpa [mw_ln] using hl
    exact mw_s_astore_n hx hd hs hk
  case bipush n =>
    obtain rfl : len = 2 := by simpa [mw_ln] using hl
    exact mw_s_bipush hx hd hs hk
  case iload n =>
    obtain rfl : len = 2 := by simpa [mw_ln] using hl
    exact mw_s_iload hx hd hs hk
  case lload n =>
    obtain rfl : len = 2 := by simpa [mw_ln] using hl
    exact mw_s_lload hx hd hs hk
  case aload n =>
    obtain rfl : len = 2 := by simpa [mw_ln] using hl
    exact mw_s_aload hx hd hs hk
  case istore n =>
    obtain rfl : len = 2 := by simpa [mw_ln] using hl
    exact mw_s_istore hx hd hs hk
  case lstore n =>
    obtain rfl : len = 2 := by simpa [mw_ln] using hl
    exact mw_s_lstore hx hd hs hk
  case astore n =>
    obtain rfl : len = 2 := by simpa [mw_ln] using hl
    exact mw_s_astore hx hd hs hk
  case ldc n =>
    obtain rfl : len = 2 := by simpa [mw_ln] using hl
    exact mw_s_ldc hx hd hs hk
  case sipush n =>
    obtain rfl : len = 3 := by simpa [mw_ln] using hl
    exact mw_s_sipush hx hd hs hk
  case ldc_w n =>
    obtain rfl : len = 3 := by simpa [mw_ln] using hl
    exact mw_s_ldc_w hx hd hs hk
  case ldc2_w n =>
    obtain rfl : len = 3 := by simpa [mw_ln] using hl
    exact mw_s_ldc2_w hx hd hs hk
  case goto n =>
    obtain rfl : len = 3 := by simpa [mw_ln] using hl
    exact mw_s_goto hx hd hs hk
  case getfield n =>
    obtain rfl : len = 3 := by simpa [mw_ln] using hl
    exact mw_s_getfield hx hd hs hk
  case putfield n =>
    obtain rfl : len = 3 := by simpa [mw_ln] using hl
    exact mw_s_putfield hx hd hs hk
  case getstatic n =>
    obtain rfl : len = 3 := by simpa [mw_ln] using hl
    exact mw_s_getstatic hx hd hs hk
  case iinc k n =>
    obtain rfl : len = 3 := by simpa [mw_ln] using hl
    exact mw_s_iinc hx hd hs hk
  case ifCond cn off =>
    obtain rfl : len = 3 := by simpa [mw_ln] using hl
    cases cn
    · exact mw_s_if_eq hx hd hs hk
    · exact mw_s_if_ne hx hd hs hk
    · exact mw_s_if_lt hx hd hs hk
    · exact mw_s_if_ge hx hd hs hk
    · exact mw_s_if_gt hx hd hs hk
    · exact mw_s_if_le hx hd hs hk
  case if_icmp cn off =>
    obtain rfl : len = 3 := by simpa [mw_ln] using hl
    cases cn
    · exact mw_s_icmp_eq hx hd hs hk
    · exact mw_s_icmp_ne hx hd hs hk
    · exact mw_s_icmp_lt hx hd hs hk
    · exact mw_s_icmp_ge hx hd hs hk
    · exact mw_s_icmp_gt hx hd hs hk
    · exact mw_s_icmp_le hx hd hs hk
  case tableswitch a b c0 offs => exact mw_s_tableswitch hx hd hs hk
  case lookupswitch a ps => exact mw_s_lookupswitch hx hd hs hk
  case ireturn =>
    obtain rfl : len = 1 := by simpa [mw_ln] using hl
    exact mw_s_ireturn hx hd hs
  case lreturn =>
    obtain rfl : len = 1 := by simpa [mw_ln] using hl
    exact mw_s_lreturn hx hd hs
  case return_ =>
    obtain rfl : len = 1 := by simpa [mw_ln] using hl
    exact mw_s_return hx hd hs
  case invokevirtual x =>
    obtain rfl : len = 3 := by simpa [mw_ln] using hl
    simp only [mw_stp] at hs
    cases hj : mw_cT.lookup (mw_key me x) with
    | none => rw [hj] at hs; exact hs.elim
    | some mj =>
      rw [hj] at hs
      exact mw_s_inv hx hC hd hj hs hk
  case invokestatic x =>
    obtain rfl : len = 3 := by simpa [mw_ln] using hl
    simp only [mw_stp] at hs
    cases hj : mw_cT.lookup (mw_key me x) with
    | some mj =>
      rw [hj] at hs
      exact mw_s_invs hx hC hd (Or.inl hj) hs hk
    | none =>
      rw [hj] at hs
      cases hn : mw_nT.lookup (mw_key me x) with
      | some mj =>
        rw [hn] at hs
        exact mw_s_invs hx hC hd (Or.inr hn) hs hk
      | none =>
        rw [hn] at hs
        exact mw_s_acp hx hd hs hk
  all_goals exact False.elim hs
theorem mw_sound (hx : mw_Cx D ad cA fm me d p R s m args meth c) (hC : mw_C l D ad cA fm d) {mi : Nat} (hm : mw_mT[mi]? = some me) : ∀ (n pc : Nat) (lv : mw_L) (st : List mw_V) (σ : mw_S) (r : Option mw_V) (σ' : mw_S), mw_run (mw_CR d) n mi pc lv st σ r σ' → mw_Go D ad cA fm me p l e R s m args below meth c (MQ below (mw_Qc D ad cA fm r σ' (mw_A ad s.heap.size)) args s 0 0 (mw_A ad s.heap.size)) pc lv st σ
  | 0, _, _, _, _, _, _, h => h.elim
  | n + 1, pc, lv, st, σ, r, σ', h => by
    unfold mw_run at h
    rw [hm] at h
    cases hd : decode me.2.1 pc with
    | error x => simp only [hd] at h
    | ok q =>
      obtain ⟨i, len⟩ := q
      simp only [hd] at h
      exact mw_step hx hC hd h.1 h.2 (fun pc' lv' st' s' h' => mw_sound hx hC hm n pc' lv' st' s' r σ' h')
end MWC
