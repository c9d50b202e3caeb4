/-! every call of the small machine, at every depth, is a call of the machine -/
theorem mw_al_len {ad : Nat → Nat} {fm : Value} (hf : fm.category = 1) : ∀ as : List mw_V, (lg_sl (as.map (mw_tr ad fm))).length = (mw_al as).length
  | [] => rfl
  | v :: as => by
    have ih := mw_al_len (ad := ad) hf as
    unfold lg_sl mw_al at ih ⊢
    rw [List.map_cons, List.flatMap_cons, List.flatMap_cons, List.length_append, List.length_append, ih, mw_tr_cat hf]
    by_cases e : mw_cat v = 2 <;> simp [e]
theorem mw_al_at {ad : Nat → Nat} {fm : Value} (hf : fm.category = 1) : ∀ (as : List mw_V) (i : Nat) (v : mw_V), (mw_al as)[i]? = some (some v) → (lg_sl (as.map (mw_tr ad fm)))[i]? = some (.val (mw_tr ad fm v))
  | [], i, v, h => by simp [mw_al] at h
  | w :: as, i, v, h => by
    have ih := mw_al_at (ad := ad) hf as
    unfold lg_sl mw_al at ih
    unfold lg_sl
    unfold mw_al at h
    rw [List.flatMap_cons] at h
    rw [List.map_cons, List.flatMap_cons, mw_tr_cat hf]
    by_cases e : mw_cat w = 2
    · rw [if_pos e] at h ⊢
      rcases i with _ | _ | i
      · simp at h ⊢
        rw [h]
      · simp at h
      · simp only [List.cons_append, List.nil_append, List.getElem?_cons_succ] at h ⊢
        exact ih i v h
    · rw [if_neg e] at h ⊢
      rcases i with _ | i
      · simp at h ⊢
        rw [h]
      · simp only [List.cons_append, List.nil_append, List.getElem?_cons_succ] at h ⊢
        exact ih i v h
theorem mw_al_ok : ∀ (as : List mw_V), mw_okL as → mw_okV (mw_al as)
  | [], _ => fun i v h => by simp [mw_al] at h
  | w :: as, ho => by
    have ih := mw_al_ok as ho.tail
    intro i v h
    unfold mw_al at h ih
    rw [List.flatMap_cons] at h
    by_cases e : mw_cat w = 2
    · rw [if_pos e] at h
      rcases i with _ | _ | i
      · simp at h
        rw [← h]
        exact ho.head
      · simp at h
      · simp only [List.cons_append, List.nil_append, List.getElem?_cons_succ] at h
        exact ih i v h
    · rw [if_neg e] at h
      rcases i with _ | i
      · simp at h
        rw [← h]
        exact ho.head
      · simp only [List.cons_append, List.nil_append, List.getElem?_cons_succ] at h
        exact ih i v h
theorem mw_rep {i k : Nat} {lv : mw_L} {v : mw_V} (h : (lv ++ List.replicate k none)[i]? = some (some v)) : lv[i]? = some (some v) := by
  by_cases e : i < lv.length
  · rwa [List.getElem?_append_left e] at h
  · rw [List.getElem?_append_right (by omega), List.getElem?_replicate] at h
    split at h
    · cases h
    · cases h
theorem mw_all {l : Launch} {D : va_G} {ad : Nat → Nat} {cA : Nat → ClassId} {fm : Value} (hinj : mw_inj ad) (hfm : fm.category = 1) : ∀ d : Nat, mw_C l D ad cA fm d
  | 0 => fun mi me args σ r σ' sz hm oA oS h => h.elim
  | d + 1 => fun mi me as σ r σ' sz hm oA oS h => by
    have ih := mw_all (l := l) (D := D) (ad := ad) (cA := cA) hinj hfm d
    obtain ⟨me', n, hm', hlen, hrun⟩ := h
    rw [hm] at hm'
    cases hm'
    obtain ⟨k1, k2, k3, k4, k5, k6, k7⟩ := mw_okM_of hm
    refine va_MetF (cc := me.2.1) (maxL := me.2.2.1) (ret := me.2.2.2.1) k2 rfl ?_
    intro p e s m args below meth c s₁ B hml hv
    obtain ⟨rfl, hsz, hP, hK, hCs⟩ := hv
    subst hsz
    have hts0 := atoms_spec (ws := Cond.code me.1 me.2.1 me.2.2.1 me.2.2.2.1 :: mw_wd) B.pre
    have hx : mw_Cx D ad cA fm me d p (mw_rm (d + 1)) s m (as.map (mw_tr ad fm)).toArray meth c := ⟨B.exec, B.bytes, hml, findClass_of_methodNamed B.named, fun w hw => hts0 w (List.mem_cons_of_mem _ hw), B.notSynchronized, B.returns, hK, hCs, hfm, hinj, k1, rfl⟩
    rw [lg_entry_eq]
    have hl := lv_entry (as.map (mw_tr ad fm)) (n := me.2.2.1) (by rw [mw_al_len hfm]; exact hlen)
    refine mw_sound hx ih hm n 0 _ [] σ r σ' hrun oS (fun v hv => by cases hv) (fun i v hi => mw_al_ok as oA i v (mw_rep hi)) s.heap [] _ hP va_S.rf ⟨hl.1, hl.2.1, ?_, fun i v hi => ?_⟩
    · rw [List.length_append, List.length_replicate]
      omega
    · have h1 := mw_al_at (ad := ad) hfm as i v (mw_rep hi)
      rw [List.getElem?_toArray, List.getElem?_append_left (List.getElem?_eq_some_iff.mp h1).1]
      exact h1
