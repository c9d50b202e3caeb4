/-! a constructor, by its contract -/
theorem dX10_init_0 : decode cX10_init 0 = .ok (.aload_n 0, 1) := by decide +kernel
theorem dX10_init_1 : decode cX10_init 1 = .ok (.invokespecial 3, 3) := by decide +kernel
theorem dX10_init_4 : decode cX10_init 4 = .ok (.aload_n 0, 1) := by decide +kernel
theorem dX10_init_5 : decode cX10_init 5 = .ok (.iconst 4, 1) := by decide +kernel
theorem dX10_init_6 : decode cX10_init 6 = .ok (.newarray .int, 2) := by decide +kernel
theorem dX10_init_8 : decode cX10_init 8 = .ok (.dup, 1) := by decide +kernel
theorem dX10_init_9 : decode cX10_init 9 = .ok (.iconst 0, 1) := by decide +kernel
theorem dX10_init_10 : decode cX10_init 10 = .ok (.iconst (-1), 1) := by decide +kernel
theorem dX10_init_11 : decode cX10_init 11 = .ok (.iastore, 1) := by decide +kernel
theorem dX10_init_12 : decode cX10_init 12 = .ok (.dup, 1) := by decide +kernel
theorem dX10_init_13 : decode cX10_init 13 = .ok (.iconst 1, 1) := by decide +kernel
theorem dX10_init_14 : decode cX10_init 14 = .ok (.iconst (-1), 1) := by decide +kernel
theorem dX10_init_15 : decode cX10_init 15 = .ok (.iastore, 1) := by decide +kernel
theorem dX10_init_16 : decode cX10_init 16 = .ok (.dup, 1) := by decide +kernel
theorem dX10_init_17 : decode cX10_init 17 = .ok (.iconst 2, 1) := by decide +kernel
theorem dX10_init_18 : decode cX10_init 18 = .ok (.iconst (-1), 1) := by decide +kernel
theorem dX10_init_19 : decode cX10_init 19 = .ok (.iastore, 1) := by decide +kernel
theorem dX10_init_20 : decode cX10_init 20 = .ok (.dup, 1) := by decide +kernel
theorem dX10_init_21 : decode cX10_init 21 = .ok (.iconst 3, 1) := by decide +kernel
theorem dX10_init_22 : decode cX10_init 22 = .ok (.iconst (-1), 1) := by decide +kernel
theorem dX10_init_23 : decode cX10_init 23 = .ok (.iastore, 1) := by decide +kernel
theorem dX10_init_24 : decode cX10_init 24 = .ok (.putfield 9, 3) := by decide +kernel
theorem dX10_init_27 : decode cX10_init 27 = .ok (.aload_n 0, 1) := by decide +kernel
theorem dX10_init_28 : decode cX10_init 28 = .ok (.iconst 4, 1) := by decide +kernel
theorem dX10_init_29 : decode cX10_init 29 = .ok (.newarray .int, 2) := by decide +kernel
theorem dX10_init_31 : decode cX10_init 31 = .ok (.putfield 15, 3) := by decide +kernel
theorem dX10_init_34 : decode cX10_init 34 = .ok (.aload_n 0, 1) := by decide +kernel
theorem dX10_init_35 : decode cX10_init 35 = .ok (.iconst 4, 1) := by decide +kernel
theorem dX10_init_36 : decode cX10_init 36 = .ok (.bipush 40, 2) := by decide +kernel
theorem dX10_init_38 : decode cX10_init 38 = .ok (.multianewarray 18 2, 4) := by decide +kernel
theorem dX10_init_42 : decode cX10_init 42 = .ok (.putfield 20, 3) := by decide +kernel
theorem dX10_init_45 : decode cX10_init 45 = .ok (.return_, 1) := by decide +kernel
abbrev WX10 (cA : Nat → ClassId) (h0 : Nat) (q : Nat → Nat) : va_W := [(h0, .inr (9, [.ref (q 0), .ref (q 1), .ref (q 2)])), ((q 0), .inl (cA 0, 4, .inl (upd (upd (upd (upd (fun _ => 0) (0 : Int32).toNatClampNeg (-1)) (1 : Int32).toNatClampNeg (-1)) (2 : Int32).toNatClampNeg (-1)) (3 : Int32).toNatClampNeg (-1)))), ((q 1), .inl (cA 0, 4, .inl (fun _ => 0))), ((q 2), .inl (cA 4, 4, .inr (.inr (.inr (.inr (fun i => if i < 4 then some ((q 2) + 1 + i) else none)))))), ((q 2) + 1 + 0, .inl (cA 2, 40, .inr (.inl (fun _ => 0)))), ((q 2) + 1 + 1, .inl (cA 2, 40, .inr (.inl (fun _ => 0)))), ((q 2) + 1 + 2, .inl (cA 2, 40, .inr (.inl (fun _ => 0)))), ((q 2) + 1 + 3, .inl (cA 2, 40, .inr (.inl (fun _ => 0))))]
abbrev VX10 (h0 : Nat) : va_W := [(h0, .inr (9, [.null, .null, .null]))]
set_option maxRecDepth 100000 in
theorem kwX10 : ∀ w ∈ ([.methodLink RX10 3 objectInit, .fieldLink RX10 9 "LateMirror$Trays" "sizes" "[I", .fieldLink RX10 15 "LateMirror$Trays" "sorts" "[I", .classLink RX10 18 "[[J", .fieldLink RX10 20 "LateMirror$Trays" "rows" "[[J"] : List Cond), w ∈ mw_wd := mw_pl (ps := [361, 364, 365, 362, 366]) (by decide +kernel) (by decide +kernel)
set_option maxRecDepth 100000 in
theorem kcX10 : Cond.code yX10_init cX10_init 1 none ∈ mw_wd := mw_wd_of (List.mem_of_getElem? (i := 360) rfl) rfl
set_option maxHeartbeats 4000000 in
set_option maxRecDepth 100000 in
theorem knX10 (l : Launch) (D : va_G) (cA : Nat → ClassId) (h0 sz : Nat) : Met l yX10_init (Cond.code yX10_init cX10_init 1 none :: mw_wd) ({ frames := 1, cells := 7, slots := 172, locals := 40 }) (kc_P D cA [.ref h0] (VX10 h0) sz) (kc_Q D cA (WX10 cA h0) (va_A (VX10 h0) sz)) 7 172 (va_A (VX10 h0) sz) := by
  refine Met.ofW (cc := cX10_init) (maxL := 1) (ret := none) (by decide) rfl ?_
  intro p e s m args below meth c s₁ B hml hv
  obtain ⟨rfl, hsz, hP, hK, hD0, hOi, hOl⟩ := hv
  have hx := B.exec
  have hb := B.bytes
  have hr := B.returns
  have hts := atoms_spec (ws := Cond.code yX10_init cX10_init 1 none :: mw_wd) B.pre
  have hin : ∀ w ∈ u_ws RX10 TX10 3, w ∈ Cond.code yX10_init cX10_init 1 none :: mw_wd := fun w hw => List.mem_cons_of_mem _ (mw_lay_in w (List.mem_flatMap.mpr ⟨(RX10, TX10, 3), List.mem_of_getElem? (i := 9) rfl, hw⟩))
  have hown : s.vm.findClass RX10 = some m.cls := findClass_of_methodNamed B.named
  have hlocks := B.notSynchronized
  have hnm : meth.name = "<init>" := (name_of_methodNamed B.named B.method).1
  subst hsz
  have hD := hD0.self (sz := s.heap.size)
  generalize hAe : va_A (VX10 h0) s.heap.size = A at hD ⊢
  have hA : ∀ q : Nat, s.heap.size ≤ q → A q := fun q h => by rw [← hAe]; exact Or.inr h
  have hS : va_S A s.heap s.heap [] := va_S.rf
  have hl := lv_entry ([.ref h0]) (n := 1) (Nat.le_of_ble_eq_true rfl)
  rw [lg_entry_eq]
  generalize (lg_sl ([.ref h0]) ++ List.replicate (1 - (lg_sl ([.ref h0])).length) Slot.unset).toArray = ls at hl ⊢
  have hl : lv_has ls 1 [(0, .ref h0)] := hl
  have hP : va_P D vwCl [(h0, .inr (9, [.null, .null, .null]))] s.heap := hP
  have hD : va_D A [(h0, .inr (9, [.null, .null, .null]))] := hD
  refine lv_aload_n hx hb dX10_init_0 rfl (lv_at hl 0 rfl) ?_
  refine W.objInit hx hb hown (hts _ (List.mem_cons_of_mem _ (kwX10 _ (List.mem_of_getElem? (i := 0) rfl)))) (hts _ (List.mem_cons_of_mem _ kw_oi)) (hts _ (List.mem_cons_of_mem _ kw_oc)) rfl (by rw [hml]; exact hl.1) rfl dX10_init_1 (Nat.le_of_ble_eq_true rfl) (Nat.le_of_ble_eq_true rfl) ?_
  refine W.eq (g2 := F0 m 4 ls []) rfl ?_
  refine lv_aload_n hx hb dX10_init_4 rfl (lv_at hl 0 rfl) ?_
  refine lv_iconst (v := 4) hx hb dX10_init_5 (by decide) ?_
  refine nw_i hx hb (hts _ (List.mem_cons_of_mem _ kw_ai)) hK hP hD hS hA (N := 4) (by decide) (by decide) (Nat.le_of_ble_eq_true rfl) (Nat.le_of_ble_eq_true rfl) (Nat.le_of_ble_eq_true rfl) dX10_init_6 (fun q6 H hP hD hS => ?_)
  have hP : va_P D vwCl [(h0, .inr (9, [.null, .null, .null])), (q6, .inl (cA 0, 4, .inl (fun _ => 0)))] H := hP
  have hD : va_D A [(h0, .inr (9, [.null, .null, .null])), (q6, .inl (cA 0, 4, .inl (fun _ => 0)))] := hD
  refine lv_dup hx hb dX10_init_8 rfl ?_
  refine lv_iconst (v := 0) hx hb dX10_init_9 (by decide) ?_
  refine lv_iconst (v := -1) hx hb dX10_init_10 (by decide) ?_
  refine va_iast hx hb hK hP hD hS 1 0 rfl rfl (by unfold vp_in; decide) dX10_init_11 (fun H locs hP hD hS => ?_)
  have hP : va_P D vwCl [(h0, .inr (9, [.null, .null, .null])), (q6, .inl (cA 0, 4, .inl (upd (fun _ => 0) (0 : Int32).toNatClampNeg (-1))))] H := hP
  have hD : va_D A [(h0, .inr (9, [.null, .null, .null])), (q6, .inl (cA 0, 4, .inl (upd (fun _ => 0) (0 : Int32).toNatClampNeg (-1))))] := hD
  refine lv_dup hx hb dX10_init_12 rfl ?_
  refine lv_iconst (v := 1) hx hb dX10_init_13 (by decide) ?_
  refine lv_iconst (v := -1) hx hb dX10_init_14 (by decide) ?_
  refine va_iast hx hb hK hP hD hS 1 0 rfl rfl (by unfold vp_in; decide) dX10_init_15 (fun H locs hP hD hS => ?_)
  have hP : va_P D vwCl [(h0, .inr (9, [.null, .null, .null])), (q6, .inl (cA 0, 4, .inl (upd (upd (fun _ => 0) (0 : Int32).toNatClampNeg (-1)) (1 : Int32).toNatClampNeg (-1))))] H := hP
  have hD : va_D A [(h0, .inr (9, [.null, .null, .null])), (q6, .inl (cA 0, 4, .inl (upd (upd (fun _ => 0) (0 : Int32).toNatClampNeg (-1)) (1 : Int32).toNatClampNeg (-1))))] := hD
  refine lv_dup hx hb dX10_init_16 rfl ?_
  refine lv_iconst (v := 2) hx hb dX10_init_17 (by decide) ?_
  refine lv_iconst (v := -1) hx hb dX10_init_18 (by decide) ?_
  refine va_iast hx hb hK hP hD hS 1 0 rfl rfl (by unfold vp_in; decide) dX10_init_19 (fun H locs hP hD hS => ?_)
  have hP : va_P D vwCl [(h0, .inr (9, [.null, .null, .null])), (q6, .inl (cA 0, 4, .inl (upd (upd (upd (fun _ => 0) (0 : Int32).toNatClampNeg (-1)) (1 : Int32).toNatClampNeg (-1)) (2 : Int32).toNatClampNeg (-1))))] H := hP
  have hD : va_D A [(h0, .inr (9, [.null, .null, .null])), (q6, .inl (cA 0, 4, .inl (upd (upd (upd (fun _ => 0) (0 : Int32).toNatClampNeg (-1)) (1 : Int32).toNatClampNeg (-1)) (2 : Int32).toNatClampNeg (-1))))] := hD
  refine lv_dup hx hb dX10_init_20 rfl ?_
  refine lv_iconst (v := 3) hx hb dX10_init_21 (by decide) ?_
  refine lv_iconst (v := -1) hx hb dX10_init_22 (by decide) ?_
  refine va_iast hx hb hK hP hD hS 1 0 rfl rfl (by unfold vp_in; decide) dX10_init_23 (fun H locs hP hD hS => ?_)
  have hP : va_P D vwCl [(h0, .inr (9, [.null, .null, .null])), (q6, .inl (cA 0, 4, .inl (upd (upd (upd (upd (fun _ => 0) (0 : Int32).toNatClampNeg (-1)) (1 : Int32).toNatClampNeg (-1)) (2 : Int32).toNatClampNeg (-1)) (3 : Int32).toNatClampNeg (-1))))] H := hP
  have hD : va_D A [(h0, .inr (9, [.null, .null, .null])), (q6, .inl (cA 0, 4, .inl (upd (upd (upd (upd (fun _ => 0) (0 : Int32).toNatClampNeg (-1)) (1 : Int32).toNatClampNeg (-1)) (2 : Int32).toNatClampNeg (-1)) (3 : Int32).toNatClampNeg (-1))))] := hD
  refine va_putF (D := D) (ci := 9) (v := .ref q6) (ty := .array .int) (C := RX10) (T := TX10) (N := 3) hx hb hts hin tyX10 tyX10_ok nmX10 hown hK hP hD hS 0 rfl rfl 0 (by decide) (hts _ (List.mem_cons_of_mem _ (kwX10 _ (List.mem_of_getElem? (i := 1) rfl)))) (fun _ h9 => h9) rfl hnm rfl (by decide +kernel) rfl rfl (Nat.le_of_ble_eq_true rfl) dX10_init_24 (fun H locs hP hD hS => ?_)
  have hP : va_P D vwCl [(h0, .inr (9, [.ref q6, .null, .null])), (q6, .inl (cA 0, 4, .inl (upd (upd (upd (upd (fun _ => 0) (0 : Int32).toNatClampNeg (-1)) (1 : Int32).toNatClampNeg (-1)) (2 : Int32).toNatClampNeg (-1)) (3 : Int32).toNatClampNeg (-1))))] H := hP
  have hD : va_D A [(h0, .inr (9, [.ref q6, .null, .null])), (q6, .inl (cA 0, 4, .inl (upd (upd (upd (upd (fun _ => 0) (0 : Int32).toNatClampNeg (-1)) (1 : Int32).toNatClampNeg (-1)) (2 : Int32).toNatClampNeg (-1)) (3 : Int32).toNatClampNeg (-1))))] := hD
  refine lv_aload_n hx hb dX10_init_27 rfl (lv_at hl 0 rfl) ?_
  refine lv_iconst (v := 4) hx hb dX10_init_28 (by decide) ?_
  refine nw_i hx hb (hts _ (List.mem_cons_of_mem _ kw_ai)) hK hP hD hS hA (N := 4) (by decide) (by decide) (Nat.le_of_ble_eq_true rfl) (Nat.le_of_ble_eq_true rfl) (Nat.le_of_ble_eq_true rfl) dX10_init_29 (fun q29 H hP hD hS => ?_)
  have hP : va_P D vwCl [(h0, .inr (9, [.ref q6, .null, .null])), (q6, .inl (cA 0, 4, .inl (upd (upd (upd (upd (fun _ => 0) (0 : Int32).toNatClampNeg (-1)) (1 : Int32).toNatClampNeg (-1)) (2 : Int32).toNatClampNeg (-1)) (3 : Int32).toNatClampNeg (-1)))), (q29, .inl (cA 0, 4, .inl (fun _ => 0)))] H := hP
  have hD : va_D A [(h0, .inr (9, [.ref q6, .null, .null])), (q6, .inl (cA 0, 4, .inl (upd (upd (upd (upd (fun _ => 0) (0 : Int32).toNatClampNeg (-1)) (1 : Int32).toNatClampNeg (-1)) (2 : Int32).toNatClampNeg (-1)) (3 : Int32).toNatClampNeg (-1)))), (q29, .inl (cA 0, 4, .inl (fun _ => 0)))] := hD
  refine va_putF (D := D) (ci := 9) (v := .ref q29) (ty := .array .int) (C := RX10) (T := TX10) (N := 3) hx hb hts hin tyX10 tyX10_ok nmX10 hown hK hP hD hS 0 rfl rfl 1 (by decide) (hts _ (List.mem_cons_of_mem _ (kwX10 _ (List.mem_of_getElem? (i := 2) rfl)))) (fun _ h9 => h9) rfl hnm rfl (by decide +kernel) rfl rfl (Nat.le_of_ble_eq_true rfl) dX10_init_31 (fun H locs hP hD hS => ?_)
  have hP : va_P D vwCl [(h0, .inr (9, [.ref q6, .ref q29, .null])), (q6, .inl (cA 0, 4, .inl (upd (upd (upd (upd (fun _ => 0) (0 : Int32).toNatClampNeg (-1)) (1 : Int32).toNatClampNeg (-1)) (2 : Int32).toNatClampNeg (-1)) (3 : Int32).toNatClampNeg (-1)))), (q29, .inl (cA 0, 4, .inl (fun _ => 0)))] H := hP
  have hD : va_D A [(h0, .inr (9, [.ref q6, .ref q29, .null])), (q6, .inl (cA 0, 4, .inl (upd (upd (upd (upd (fun _ => 0) (0 : Int32).toNatClampNeg (-1)) (1 : Int32).toNatClampNeg (-1)) (2 : Int32).toNatClampNeg (-1)) (3 : Int32).toNatClampNeg (-1)))), (q29, .inl (cA 0, 4, .inl (fun _ => 0)))] := hD
  refine lv_aload_n hx hb dX10_init_34 rfl (lv_at hl 0 rfl) ?_
  refine lv_iconst (v := 4) hx hb dX10_init_35 (by decide) ?_
  refine lv_bipush (v := 40) hx hb dX10_init_36 (by decide) ?_
  refine nw_ll hx hb hown (hts _ (List.mem_cons_of_mem _ (kwX10 _ (List.mem_of_getElem? (i := 3) rfl)))) hOl (hts _ (List.mem_cons_of_mem _ kw_al)) hK hP hD hS hA (N := 4) (M := 40) (by decide) (by decide) (by decide) (by decide) (Nat.le_of_ble_eq_true rfl) (Nat.le_of_ble_eq_true rfl) (Nat.le_of_ble_eq_true rfl) (Nat.le_of_ble_eq_true rfl) (Nat.le_of_ble_eq_true rfl) dX10_init_38 (fun q38 H locs hP hD hS => ?_)
  have hP : va_P D vwCl [(h0, .inr (9, [.ref q6, .ref q29, .null])), (q6, .inl (cA 0, 4, .inl (upd (upd (upd (upd (fun _ => 0) (0 : Int32).toNatClampNeg (-1)) (1 : Int32).toNatClampNeg (-1)) (2 : Int32).toNatClampNeg (-1)) (3 : Int32).toNatClampNeg (-1)))), (q29, .inl (cA 0, 4, .inl (fun _ => 0))), (q38, .inl (cA 4, 4, .inr (.inr (.inr (.inr (fun i => if i < 4 then some (q38 + 1 + i) else none)))))), (q38 + 1 + 0, .inl (cA 2, 40, .inr (.inl (fun _ => 0)))), (q38 + 1 + 1, .inl (cA 2, 40, .inr (.inl (fun _ => 0)))), (q38 + 1 + 2, .inl (cA 2, 40, .inr (.inl (fun _ => 0)))), (q38 + 1 + 3, .inl (cA 2, 40, .inr (.inl (fun _ => 0))))] H := hP
  have hD : va_D A [(h0, .inr (9, [.ref q6, .ref q29, .null])), (q6, .inl (cA 0, 4, .inl (upd (upd (upd (upd (fun _ => 0) (0 : Int32).toNatClampNeg (-1)) (1 : Int32).toNatClampNeg (-1)) (2 : Int32).toNatClampNeg (-1)) (3 : Int32).toNatClampNeg (-1)))), (q29, .inl (cA 0, 4, .inl (fun _ => 0))), (q38, .inl (cA 4, 4, .inr (.inr (.inr (.inr (fun i => if i < 4 then some (q38 + 1 + i) else none)))))), (q38 + 1 + 0, .inl (cA 2, 40, .inr (.inl (fun _ => 0)))), (q38 + 1 + 1, .inl (cA 2, 40, .inr (.inl (fun _ => 0)))), (q38 + 1 + 2, .inl (cA 2, 40, .inr (.inl (fun _ => 0)))), (q38 + 1 + 3, .inl (cA 2, 40, .inr (.inl (fun _ => 0))))] := hD
  refine va_putF (D := D) (ci := 9) (v := .ref q38) (ty := .array (.array .long)) (C := RX10) (T := TX10) (N := 3) hx hb hts hin tyX10 tyX10_ok nmX10 hown hK hP hD hS 0 rfl rfl 2 (by decide) (hts _ (List.mem_cons_of_mem _ (kwX10 _ (List.mem_of_getElem? (i := 4) rfl)))) (fun _ h9 => h9) rfl hnm rfl (by decide +kernel) rfl rfl (Nat.le_of_ble_eq_true rfl) dX10_init_42 (fun H locs hP hD hS => ?_)
  have hP : va_P D vwCl [(h0, .inr (9, [.ref q6, .ref q29, .ref q38])), (q6, .inl (cA 0, 4, .inl (upd (upd (upd (upd (fun _ => 0) (0 : Int32).toNatClampNeg (-1)) (1 : Int32).toNatClampNeg (-1)) (2 : Int32).toNatClampNeg (-1)) (3 : Int32).toNatClampNeg (-1)))), (q29, .inl (cA 0, 4, .inl (fun _ => 0))), (q38, .inl (cA 4, 4, .inr (.inr (.inr (.inr (fun i => if i < 4 then some (q38 + 1 + i) else none)))))), (q38 + 1 + 0, .inl (cA 2, 40, .inr (.inl (fun _ => 0)))), (q38 + 1 + 1, .inl (cA 2, 40, .inr (.inl (fun _ => 0)))), (q38 + 1 + 2, .inl (cA 2, 40, .inr (.inl (fun _ => 0)))), (q38 + 1 + 3, .inl (cA 2, 40, .inr (.inl (fun _ => 0))))] H := hP
  have hD : va_D A [(h0, .inr (9, [.ref q6, .ref q29, .ref q38])), (q6, .inl (cA 0, 4, .inl (upd (upd (upd (upd (fun _ => 0) (0 : Int32).toNatClampNeg (-1)) (1 : Int32).toNatClampNeg (-1)) (2 : Int32).toNatClampNeg (-1)) (3 : Int32).toNatClampNeg (-1)))), (q29, .inl (cA 0, 4, .inl (fun _ => 0))), (q38, .inl (cA 4, 4, .inr (.inr (.inr (.inr (fun i => if i < 4 then some (q38 + 1 + i) else none)))))), (q38 + 1 + 0, .inl (cA 2, 40, .inr (.inl (fun _ => 0)))), (q38 + 1 + 1, .inl (cA 2, 40, .inr (.inl (fun _ => 0)))), (q38 + 1 + 2, .inl (cA 2, 40, .inr (.inl (fun _ => 0)))), (q38 + 1 + 3, .inl (cA 2, 40, .inr (.inl (fun _ => 0))))] := hD
  refine W.widen (k := 7) (n := 172) (Nat.le_of_ble_eq_true rfl) (Nat.le_of_ble_eq_true rfl) ?_
  exact W.vret hx hb hr (fun t ht hW => ⟨⟨(), rfl, trivial, (fun k => match k with | 0 => q6 | 1 => q29 | 2 => q38 | _ => 0), by rw [ht]; exact hP, va_K.moved hW.alike hK, hD⟩, hS.F ht⟩) hS.2.2 dX10_init_45
