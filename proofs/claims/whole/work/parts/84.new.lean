/-! rows that make arrays, of classes that are known -/
section NW
variable {p : Program} {l : Launch} {e : Env} {R : Room} {s : State} {m : MethodId} {args : Array Value} {below : List Frame} {meth : Method} {c : Code} {H H0 : Heap} {locs : List Loc} {cells slots : Nat} {Q : State → Prop} {cc : ByteArray} {pc : Nat} {ls : Array Slot} {rest : List Value} {D : va_G} {cl : List vw_C} {cA : Nat → ClassId} {ws : va_W} {A : Nat → Prop}
theorem nw_i (hexec : p.tables.exec = Jvm.exec) (hb : c.code = cc) (harr : (Cond.arrayClass .int).before args s = true) (hK : va_K D cl (mw_ty cA) s) (hP : va_P D cl ws H) (hD : va_D A ws) (hS : va_S A H0 H locs) (hA : ∀ q, H0.size ≤ q → A q) {n : Int32} {N : Nat} (hn : ¬ n < 0) (hN : n.toNatClampNeg = N) (hbytes : N * 4 ≤ 536870912) (hcells : cells + 1 ≤ R.cells) (hslots : slots + N ≤ R.slots) (hdg : decode cc pc = .ok (.newarray .int, 2))
    (kk : ∀ (q : Nat) (H1 : Heap), va_P D cl (ws ++ [(q, .inl (cA 0, N, .inl (fun _ => 0)))]) H1 → va_D A (ws ++ [(q, .inl (cA 0, N, .inl (fun _ => 0)))]) → va_S A H0 H1 locs → W p l e R s m args below meth c H1 locs (cells + 1) (slots + N) Q (F0 m (pc + 2) ls (.ref q :: rest))) : W p l e R s m args below meth c H locs cells slots Q (F0 m pc ls (.int n :: rest)) := by
  refine va_newa (atype := .int) (ty := .int) hexec hb harr rfl hK hP hD hS hA (a0 := (N, .inl (fun _ => 0))) (fun _ => rfl) hn hN hbytes hcells hslots hdg (fun q cA' H1 K1 P1 D1 S1 => ?_)
  have e : cA' = cA 0 := Option.some.inj ((K1.2 5 (cA', .int) rfl).2.symm.trans (hK.2 0 (cA 0, .int) rfl).2)
  subst e
  exact kk q H1 P1 D1 S1
theorem nw_z (hexec : p.tables.exec = Jvm.exec) (hb : c.code = cc) (harr : (Cond.arrayClass .boolean).before args s = true) (hK : va_K D cl (mw_ty cA) s) (hP : va_P D cl ws H) (hD : va_D A ws) (hS : va_S A H0 H locs) (hA : ∀ q, H0.size ≤ q → A q) {n : Int32} {N : Nat} (hn : ¬ n < 0) (hN : n.toNatClampNeg = N) (hbytes : N * 1 ≤ 536870912) (hcells : cells + 1 ≤ R.cells) (hslots : slots + N ≤ R.slots) (hdg : decode cc pc = .ok (.newarray .boolean, 2))
    (kk : ∀ (q : Nat) (H1 : Heap), va_P D cl (ws ++ [(q, .inl (cA 1, N, .inl (fun _ => 0)))]) H1 → va_D A (ws ++ [(q, .inl (cA 1, N, .inl (fun _ => 0)))]) → va_S A H0 H1 locs → W p l e R s m args below meth c H1 locs (cells + 1) (slots + N) Q (F0 m (pc + 2) ls (.ref q :: rest))) : W p l e R s m args below meth c H locs cells slots Q (F0 m pc ls (.int n :: rest)) := by
  refine va_newa (atype := .boolean) (ty := .boolean) hexec hb harr rfl hK hP hD hS hA (a0 := (N, .inl (fun _ => 0))) (fun _ => rfl) hn hN hbytes hcells hslots hdg (fun q cA' H1 K1 P1 D1 S1 => ?_)
  have e : cA' = cA 1 := Option.some.inj ((K1.2 5 (cA', .boolean) rfl).2.symm.trans (hK.2 1 (cA 1, .boolean) rfl).2)
  subst e
  exact kk q H1 P1 D1 S1
theorem nw_l (hexec : p.tables.exec = Jvm.exec) (hb : c.code = cc) (harr : (Cond.arrayClass .long).before args s = true) (hK : va_K D cl (mw_ty cA) s) (hP : va_P D cl ws H) (hD : va_D A ws) (hS : va_S A H0 H locs) (hA : ∀ q, H0.size ≤ q → A q) {n : Int32} {N : Nat} (hn : ¬ n < 0) (hN : n.toNatClampNeg = N) (hbytes : N * 8 ≤ 536870912) (hcells : cells + 1 ≤ R.cells) (hslots : slots + N ≤ R.slots) (hdg : decode cc pc = .ok (.newarray .long, 2))
    (kk : ∀ (q : Nat) (H1 : Heap), va_P D cl (ws ++ [(q, .inl (cA 2, N, .inr (.inl (fun _ => 0))))]) H1 → va_D A (ws ++ [(q, .inl (cA 2, N, .inr (.inl (fun _ => 0))))]) → va_S A H0 H1 locs → W p l e R s m args below meth c H1 locs (cells + 1) (slots + N) Q (F0 m (pc + 2) ls (.ref q :: rest))) : W p l e R s m args below meth c H locs cells slots Q (F0 m pc ls (.int n :: rest)) := by
  refine va_newa (atype := .long) (ty := .long) hexec hb harr rfl hK hP hD hS hA (a0 := (N, .inr (.inl (fun _ => 0)))) (fun _ => rfl) hn hN hbytes hcells hslots hdg (fun q cA' H1 K1 P1 D1 S1 => ?_)
  have e : cA' = cA 2 := Option.some.inj ((K1.2 5 (cA', .long) rfl).2.symm.trans (hK.2 2 (cA 2, .long) rfl).2)
  subst e
  exact kk q H1 P1 D1 S1
theorem nw_ii (hexec : p.tables.exec = Jvm.exec) (hb : c.code = cc) {own : String} {index : Nat} (hown : s.vm.findClass own = some m.cls) (hclink : (Cond.classLink own index "[[I").before args s = true) (hover : nz_O .int s) (harr : (Cond.arrayClass .int).before args s = true) (hK : va_K D cl (mw_ty cA) s) (hP : va_P D cl ws H) (hD : va_D A ws) (hS : va_S A H0 H locs) (hA : ∀ q, H0.size ≤ q → A q) {n k : Int32} {N M : Nat} (hn : ¬ n < 0) (hk : ¬ k < 0) (hN : n.toNatClampNeg = N) (hM : k.toNatClampNeg = M) (hb1 : N * 4 ≤ 536870912) (hb2 : M * 4 ≤ 536870912) (hb3 : M ≤ 536870912) (hcells : cells + (1 + N) ≤ R.cells) (hslots : slots + (N + N * M) ≤ R.slots) (hdg : decode cc pc = .ok (.multianewarray index 2, 4))
    (kk : ∀ (q : Nat) (H1 : Heap) (locs1 : List Loc), va_P D cl (ws ++ nz_L q (cA 3) (cA 0) N (M, .inl (fun _ => 0))) H1 → va_D A (ws ++ nz_L q (cA 3) (cA 0) N (M, .inl (fun _ => 0))) → va_S A H0 H1 locs1 → W p l e R s m args below meth c H1 locs1 (cells + 1 + N) (slots + N + N * M) Q (F0 m (pc + 4) ls (.ref q :: rest))) : W p l e R s m args below meth c H locs cells slots Q (F0 m pc ls (.int k :: .int n :: rest)) := by
  refine nz_row (ty := .int) hexec hb hown hclink hover harr (fun _ h => h) hK hP hD hS hA hn hk hN hM hb1 hb2 hb3 rfl rfl hcells hslots (a0 := (M, .inl (fun _ => 0))) (fun _ => rfl) hdg (fun q c1 c2 H1 locs1 K1 P1 D1 S1 => ?_)
  have e1 : c2 = cA 0 := Option.some.inj ((K1.2 5 (c2, .int) rfl).2.symm.trans (hK.2 0 (cA 0, .int) rfl).2)
  have e2 : c1 = cA 3 := Option.some.inj ((K1.2 6 (c1, .array .int) rfl).2.symm.trans (hK.2 3 (cA 3, .array .int) rfl).2)
  subst e1 e2
  exact kk q H1 locs1 P1 D1 S1
theorem nw_ll (hexec : p.tables.exec = Jvm.exec) (hb : c.code = cc) {own : String} {index : Nat} (hown : s.vm.findClass own = some m.cls) (hclink : (Cond.classLink own index "[[J").before args s = true) (hover : nz_O .long s) (harr : (Cond.arrayClass .long).before args s = true) (hK : va_K D cl (mw_ty cA) s) (hP : va_P D cl ws H) (hD : va_D A ws) (hS : va_S A H0 H locs) (hA : ∀ q, H0.size ≤ q → A q) {n k : Int32} {N M : Nat} (hn : ¬ n < 0) (hk : ¬ k < 0) (hN : n.toNatClampNeg = N) (hM : k.toNatClampNeg = M) (hb1 : N * 4 ≤ 536870912) (hb2 : M * 8 ≤ 536870912) (hb3 : M ≤ 536870912) (hcells : cells + (1 + N) ≤ R.cells) (hslots : slots + (N + N * M) ≤ R.slots) (hdg : decode cc pc = .ok (.multianewarray index 2, 4))
    (kk : ∀ (q : Nat) (H1 : Heap) (locs1 : List Loc), va_P D cl (ws ++ nz_L q (cA 4) (cA 2) N (M, .inr (.inl (fun _ => 0)))) H1 → va_D A (ws ++ nz_L q (cA 4) (cA 2) N (M, .inr (.inl (fun _ => 0)))) → va_S A H0 H1 locs1 → W p l e R s m args below meth c H1 locs1 (cells + 1 + N) (slots + N + N * M) Q (F0 m (pc + 4) ls (.ref q :: rest))) : W p l e R s m args below meth c H locs cells slots Q (F0 m pc ls (.int k :: .int n :: rest)) := by
  refine nz_row (ty := .long) hexec hb hown hclink hover harr (fun _ h => h) hK hP hD hS hA hn hk hN hM hb1 hb2 hb3 rfl rfl hcells hslots (a0 := (M, .inr (.inl (fun _ => 0)))) (fun _ => rfl) hdg (fun q c1 c2 H1 locs1 K1 P1 D1 S1 => ?_)
  have e1 : c2 = cA 2 := Option.some.inj ((K1.2 5 (c2, .long) rfl).2.symm.trans (hK.2 2 (cA 2, .long) rfl).2)
  have e2 : c1 = cA 4 := Option.some.inj ((K1.2 6 (c1, .array .long) rfl).2.symm.trans (hK.2 4 (cA 4, .array .long) rfl).2)
  subst e1 e2
  exact kk q H1 locs1 P1 D1 S1
end NW
theorem kw_oc : Cond.code objectInit ⟨#[0xb1]⟩ 1 none ∈ mw_wd := mw_wd_of (List.mem_of_getElem? (i := 150) rfl) rfl
theorem kw_oi : Cond.instanceMethod objectInit ∈ mw_wd := mw_wd_of (List.mem_of_getElem? (i := 149) rfl) rfl
theorem kw_ai : Cond.arrayClass .int ∈ mw_wd := mw_wd_of (List.mem_of_getElem? (i := 235) rfl) rfl
theorem kw_al : Cond.arrayClass .long ∈ mw_wd := mw_wd_of (List.mem_of_getElem? (i := 374) rfl) rfl
set_option maxRecDepth 100000 in
theorem kw_az : Cond.arrayClass .boolean ∈ mw_wd := mw_wd_of (List.mem_of_getElem? (i := 511) rfl) rfl
abbrev kc_P (D : va_G) (cA : Nat → ClassId) (as : List Value) (W0 : va_W) (sz : Nat) : Array Value → State → Prop := va_Pc as (fun U => U.heap.size = sz ∧ va_P D vwCl W0 U.heap ∧ va_K D vwCl (mw_ty cA) U ∧ va_D (fun _ => True) W0 ∧ nz_O .int U ∧ nz_O .long U)
abbrev kc_Q (D : va_G) (cA : Nat → ClassId) (WF : (Nat → Nat) → va_W) (A : Nat → Prop) : Array Value → State → Outcome → State → Prop := va_Qv (fun _ : Unit => True) (fun _ t => ∃ q : Nat → Nat, va_P D vwCl (WF q) t.heap ∧ va_K D vwCl (mw_ty cA) t ∧ va_D A (WF q)) A
