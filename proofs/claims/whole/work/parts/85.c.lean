/-! a constructor, by its contract -/
theorem dX5_init_0 : decode cX5_init 0 = .ok (.aload_n 0, 1) := by decide +kernel
theorem dX5_init_1 : decode cX5_init 1 = .ok (.invokespecial 5, 3) := by decide +kernel
theorem dX5_init_4 : decode cX5_init 4 = .ok (.aload_n 0, 1) := by decide +kernel
theorem dX5_init_5 : decode cX5_init 5 = .ok (.iconst 5, 1) := by decide +kernel
theorem dX5_init_6 : decode cX5_init 6 = .ok (.newarray .int, 2) := by decide +kernel
theorem dX5_init_8 : decode cX5_init 8 = .ok (.putfield 11, 3) := by decide +kernel
theorem dX5_init_11 : decode cX5_init 11 = .ok (.aload_n 0, 1) := by decide +kernel
theorem dX5_init_12 : decode cX5_init 12 = .ok (.iconst 5, 1) := by decide +kernel
theorem dX5_init_13 : decode cX5_init 13 = .ok (.newarray .int, 2) := by decide +kernel
theorem dX5_init_15 : decode cX5_init 15 = .ok (.putfield 15, 3) := by decide +kernel
theorem dX5_init_18 : decode cX5_init 18 = .ok (.aload_n 0, 1) := by decide +kernel
theorem dX5_init_19 : decode cX5_init 19 = .ok (.iconst 5, 1) := by decide +kernel
theorem dX5_init_20 : decode cX5_init 20 = .ok (.newarray .boolean, 2) := by decide +kernel
theorem dX5_init_22 : decode cX5_init 22 = .ok (.putfield 18, 3) := by decide +kernel
theorem dX5_init_25 : decode cX5_init 25 = .ok (.aload_n 0, 1) := by decide +kernel
theorem dX5_init_26 : decode cX5_init 26 = .ok (.bipush 35, 2) := by decide +kernel
theorem dX5_init_28 : decode cX5_init 28 = .ok (.newarray .int, 2) := by decide +kernel
theorem dX5_init_30 : decode cX5_init 30 = .ok (.putfield 22, 3) := by decide +kernel
theorem dX5_init_33 : decode cX5_init 33 = .ok (.aload_n 0, 1) := by decide +kernel
theorem dX5_init_34 : decode cX5_init 34 = .ok (.bipush 30, 2) := by decide +kernel
theorem dX5_init_36 : decode cX5_init 36 = .ok (.newarray .int, 2) := by decide +kernel
theorem dX5_init_38 : decode cX5_init 38 = .ok (.putfield 25, 3) := by decide +kernel
theorem dX5_init_41 : decode cX5_init 41 = .ok (.aload_n 0, 1) := by decide +kernel
theorem dX5_init_42 : decode cX5_init 42 = .ok (.iconst 5, 1) := by decide +kernel
theorem dX5_init_43 : decode cX5_init 43 = .ok (.newarray .int, 2) := by decide +kernel
theorem dX5_init_45 : decode cX5_init 45 = .ok (.putfield 28, 3) := by decide +kernel
theorem dX5_init_48 : decode cX5_init 48 = .ok (.aload_n 0, 1) := by decide +kernel
theorem dX5_init_49 : decode cX5_init 49 = .ok (.sipush 160, 3) := by decide +kernel
theorem dX5_init_52 : decode cX5_init 52 = .ok (.newarray .int, 2) := by decide +kernel
theorem dX5_init_54 : decode cX5_init 54 = .ok (.putfield 31, 3) := by decide +kernel
theorem dX5_init_57 : decode cX5_init 57 = .ok (.aload_n 0, 1) := by decide +kernel
theorem dX5_init_58 : decode cX5_init 58 = .ok (.sipush 160, 3) := by decide +kernel
theorem dX5_init_61 : decode cX5_init 61 = .ok (.newarray .int, 2) := by decide +kernel
theorem dX5_init_63 : decode cX5_init 63 = .ok (.putfield 34, 3) := by decide +kernel
theorem dX5_init_66 : decode cX5_init 66 = .ok (.return_, 1) := by decide +kernel
abbrev WX5 (cA : Nat → ClassId) (h0 : Nat) (q : Nat → Nat) : va_W := [(h0, .inr (4, [.ref (q 0), .int 0, .int 0, .ref (q 1), .ref (q 2), .ref (q 3), .ref (q 4), .ref (q 5), .ref (q 6), .ref (q 7), .int 0, .int 0])), ((q 0), .inl (cA 0, 5, .inl (fun _ => 0))), ((q 1), .inl (cA 0, 5, .inl (fun _ => 0))), ((q 2), .inl (cA 1, 5, .inl (fun _ => 0))), ((q 3), .inl (cA 0, 35, .inl (fun _ => 0))), ((q 4), .inl (cA 0, 30, .inl (fun _ => 0))), ((q 5), .inl (cA 0, 5, .inl (fun _ => 0))), ((q 6), .inl (cA 0, 160, .inl (fun _ => 0))), ((q 7), .inl (cA 0, 160, .inl (fun _ => 0)))]
abbrev VX5 (h0 : Nat) : va_W := [(h0, .inr (4, [.null, .int 0, .int 0, .null, .null, .null, .null, .null, .null, .null, .int 0, .int 0]))]
set_option maxRecDepth 100000 in
theorem kwX5 : ∀ w ∈ ([.methodLink RX5 5 objectInit, .fieldLink RX5 11 "LateMirror$Laws" "mustLeaveOut" "[I", .fieldLink RX5 15 "LateMirror$Laws" "cantLeaveOut" "[I", .fieldLink RX5 18 "LateMirror$Laws" "fit" "[Z", .fieldLink RX5 22 "LateMirror$Laws" "told" "[I", .fieldLink RX5 25 "LateMirror$Laws" "seen" "[I", .fieldLink RX5 28 "LateMirror$Laws" "expected" "[I", .fieldLink RX5 31 "LateMirror$Laws" "partKeys" "[I", .fieldLink RX5 34 "LateMirror$Laws" "partSizes" "[I"] : List Cond), w ∈ mw_wd := mw_pl (ps := [470, 471, 477, 478, 479, 480, 481, 482, 483]) (by decide +kernel) (by decide +kernel)
set_option maxRecDepth 100000 in
theorem kcX5 : Cond.code yX5_init cX5_init 1 none ∈ mw_wd := mw_wd_of (List.mem_of_getElem? (i := 469) rfl) rfl
set_option maxHeartbeats 4000000 in
set_option maxRecDepth 100000 in
theorem knX5 (l : Launch) (D : va_G) (cA : Nat → ClassId) (h0 sz : Nat) : Met l yX5_init (Cond.code yX5_init cX5_init 1 none :: mw_wd) ({ frames := 1, cells := 8, slots := 405, locals := 40 }) (kc_P D cA [.ref h0] (VX5 h0) sz) (kc_Q D cA (WX5 cA h0) (va_A (VX5 h0) sz)) 8 405 (va_A (VX5 h0) sz) := by
  refine Met.ofW (cc := cX5_init) (maxL := 1) (ret := none) (by decide) rfl ?_
  intro p e s m args below meth c s₁ B hml hv
  obtain ⟨rfl, hsz, hP, hK, hD0, hOi, hOl⟩ := hv
  have hx := B.exec
  have hb := B.bytes
  have hr := B.returns
  have hts := atoms_spec (ws := Cond.code yX5_init cX5_init 1 none :: mw_wd) B.pre
  have hin : ∀ w ∈ u_ws RX5 TX5 12, w ∈ Cond.code yX5_init cX5_init 1 none :: mw_wd := fun w hw => List.mem_cons_of_mem _ (mw_lay_in w (List.mem_flatMap.mpr ⟨(RX5, TX5, 12), List.mem_of_getElem? (i := 4) rfl, hw⟩))
  have hown : s.vm.findClass RX5 = some m.cls := findClass_of_methodNamed B.named
  have hlocks := B.notSynchronized
  have hnm : meth.name = "<init>" := (name_of_methodNamed B.named B.method).1
  subst hsz
  have hD := hD0.self (sz := s.heap.size)
  generalize hAe : va_A (VX5 h0) s.heap.size = A at hD ⊢
  have hA : ∀ q : Nat, s.heap.size ≤ q → A q := fun q h => by rw [← hAe]; exact Or.inr h
  have hS : va_S A s.heap s.heap [] := va_S.rf
  have hl := lv_entry ([.ref h0]) (n := 1) (Nat.le_of_ble_eq_true rfl)
  rw [lg_entry_eq]
  generalize (lg_sl ([.ref h0]) ++ List.replicate (1 - (lg_sl ([.ref h0])).length) Slot.unset).toArray = ls at hl ⊢
  have hl : lv_has ls 1 [(0, .ref h0)] := hl
  have hP : va_P D vwCl [(h0, .inr (4, [.null, .int 0, .int 0, .null, .null, .null, .null, .null, .null, .null, .int 0, .int 0]))] s.heap := hP
  have hD : va_D A [(h0, .inr (4, [.null, .int 0, .int 0, .null, .null, .null, .null, .null, .null, .null, .int 0, .int 0]))] := hD
  refine lv_aload_n hx hb dX5_init_0 rfl (lv_at hl 0 rfl) ?_
  refine W.objInit hx hb hown (hts _ (List.mem_cons_of_mem _ (kwX5 _ (List.mem_of_getElem? (i := 0) rfl)))) (hts _ (List.mem_cons_of_mem _ kw_oi)) (hts _ (List.mem_cons_of_mem _ kw_oc)) rfl (by rw [hml]; exact hl.1) rfl dX5_init_1 (Nat.le_of_ble_eq_true rfl) (Nat.le_of_ble_eq_true rfl) ?_
  refine W.eq (g2 := F0 m 4 ls []) rfl ?_
  refine lv_aload_n hx hb dX5_init_4 rfl (lv_at hl 0 rfl) ?_
  refine lv_iconst (v := 5) hx hb dX5_init_5 (by decide) ?_
  refine nw_i hx hb (hts _ (List.mem_cons_of_mem _ kw_ai)) hK hP hD hS hA (N := 5) (by decide) (by decide) (Nat.le_of_ble_eq_true rfl) (Nat.le_of_ble_eq_true rfl) (Nat.le_of_ble_eq_true rfl) dX5_init_6 (fun q6 H hP hD hS => ?_)
  have hP : va_P D vwCl [(h0, .inr (4, [.null, .int 0, .int 0, .null, .null, .null, .null, .null, .null, .null, .int 0, .int 0])), (q6, .inl (cA 0, 5, .inl (fun _ => 0)))] H := hP
  have hD : va_D A [(h0, .inr (4, [.null, .int 0, .int 0, .null, .null, .null, .null, .null, .null, .null, .int 0, .int 0])), (q6, .inl (cA 0, 5, .inl (fun _ => 0)))] := hD
  refine va_putF (D := D) (ci := 4) (v := .ref q6) (ty := .array .int) (C := RX5) (T := TX5) (N := 12) hx hb hts hin tyX5 tyX5_ok nmX5 hown hK hP hD hS 0 rfl rfl 0 (by decide) (hts _ (List.mem_cons_of_mem _ (kwX5 _ (List.mem_of_getElem? (i := 1) rfl)))) (fun _ h9 => h9) rfl hnm rfl (by decide +kernel) rfl rfl (Nat.le_of_ble_eq_true rfl) dX5_init_8 (fun H locs hP hD hS => ?_)
  have hP : va_P D vwCl [(h0, .inr (4, [.ref q6, .int 0, .int 0, .null, .null, .null, .null, .null, .null, .null, .int 0, .int 0])), (q6, .inl (cA 0, 5, .inl (fun _ => 0)))] H := hP
  have hD : va_D A [(h0, .inr (4, [.ref q6, .int 0, .int 0, .null, .null, .null, .null, .null, .null, .null, .int 0, .int 0])), (q6, .inl (cA 0, 5, .inl (fun _ => 0)))] := hD
  refine lv_aload_n hx hb dX5_init_11 rfl (lv_at hl 0 rfl) ?_
  refine lv_iconst (v := 5) hx hb dX5_init_12 (by decide) ?_
  refine nw_i hx hb (hts _ (List.mem_cons_of_mem _ kw_ai)) hK hP hD hS hA (N := 5) (by decide) (by decide) (Nat.le_of_ble_eq_true rfl) (Nat.le_of_ble_eq_true rfl) (Nat.le_of_ble_eq_true rfl) dX5_init_13 (fun q13 H hP hD hS => ?_)
  have hP : va_P D vwCl [(h0, .inr (4, [.ref q6, .int 0, .int 0, .null, .null, .null, .null, .null, .null, .null, .int 0, .int 0])), (q6, .inl (cA 0, 5, .inl (fun _ => 0))), (q13, .inl (cA 0, 5, .inl (fun _ => 0)))] H := hP
  have hD : va_D A [(h0, .inr (4, [.ref q6, .int 0, .int 0, .null, .null, .null, .null, .null, .null, .null, .int 0, .int 0])), (q6, .inl (cA 0, 5, .inl (fun _ => 0))), (q13, .inl (cA 0, 5, .inl (fun _ => 0)))] := hD
  refine va_putF (D := D) (ci := 4) (v := .ref q13) (ty := .array .int) (C := RX5) (T := TX5) (N := 12) hx hb hts hin tyX5 tyX5_ok nmX5 hown hK hP hD hS 0 rfl rfl 3 (by decide) (hts _ (List.mem_cons_of_mem _ (kwX5 _ (List.mem_of_getElem? (i := 2) rfl)))) (fun _ h9 => h9) rfl hnm rfl (by decide +kernel) rfl rfl (Nat.le_of_ble_eq_true rfl) dX5_init_15 (fun H locs hP hD hS => ?_)
  have hP : va_P D vwCl [(h0, .inr (4, [.ref q6, .int 0, .int 0, .ref q13, .null, .null, .null, .null, .null, .null, .int 0, .int 0])), (q6, .inl (cA 0, 5, .inl (fun _ => 0))), (q13, .inl (cA 0, 5, .inl (fun _ => 0)))] H := hP
  have hD : va_D A [(h0, .inr (4, [.ref q6, .int 0, .int 0, .ref q13, .null, .null, .null, .null, .null, .null, .int 0, .int 0])), (q6, .inl (cA 0, 5, .inl (fun _ => 0))), (q13, .inl (cA 0, 5, .inl (fun _ => 0)))] := hD
  refine lv_aload_n hx hb dX5_init_18 rfl (lv_at hl 0 rfl) ?_
  refine lv_iconst (v := 5) hx hb dX5_init_19 (by decide) ?_
  refine nw_z hx hb (hts _ (List.mem_cons_of_mem _ kw_az)) hK hP hD hS hA (N := 5) (by decide) (by decide) (Nat.le_of_ble_eq_true rfl) (Nat.le_of_ble_eq_true rfl) (Nat.le_of_ble_eq_true rfl) dX5_init_20 (fun q20 H hP hD hS => ?_)
  have hP : va_P D vwCl [(h0, .inr (4, [.ref q6, .int 0, .int 0, .ref q13, .null, .null, .null, .null, .null, .null, .int 0, .int 0])), (q6, .inl (cA 0, 5, .inl (fun _ => 0))), (q13, .inl (cA 0, 5, .inl (fun _ => 0))), (q20, .inl (cA 1, 5, .inl (fun _ => 0)))] H := hP
  have hD : va_D A [(h0, .inr (4, [.ref q6, .int 0, .int 0, .ref q13, .null, .null, .null, .null, .null, .null, .int 0, .int 0])), (q6, .inl (cA 0, 5, .inl (fun _ => 0))), (q13, .inl (cA 0, 5, .inl (fun _ => 0))), (q20, .inl (cA 1, 5, .inl (fun _ => 0)))] := hD
  refine va_putF (D := D) (ci := 4) (v := .ref q20) (ty := .array .boolean) (C := RX5) (T := TX5) (N := 12) hx hb hts hin tyX5 tyX5_ok nmX5 hown hK hP hD hS 0 rfl rfl 4 (by decide) (hts _ (List.mem_cons_of_mem _ (kwX5 _ (List.mem_of_getElem? (i := 3) rfl)))) (fun _ h9 => h9) rfl hnm rfl (by decide +kernel) rfl rfl (Nat.le_of_ble_eq_true rfl) dX5_init_22 (fun H locs hP hD hS => ?_)
  have hP : va_P D vwCl [(h0, .inr (4, [.ref q6, .int 0, .int 0, .ref q13, .ref q20, .null, .null, .null, .null, .null, .int 0, .int 0])), (q6, .inl (cA 0, 5, .inl (fun _ => 0))), (q13, .inl (cA 0, 5, .inl (fun _ => 0))), (q20, .inl (cA 1, 5, .inl (fun _ => 0)))] H := hP
  have hD : va_D A [(h0, .inr (4, [.ref q6, .int 0, .int 0, .ref q13, .ref q20, .null, .null, .null, .null, .null, .int 0, .int 0])), (q6, .inl (cA 0, 5, .inl (fun _ => 0))), (q13, .inl (cA 0, 5, .inl (fun _ => 0))), (q20, .inl (cA 1, 5, .inl (fun _ => 0)))] := hD
  refine lv_aload_n hx hb dX5_init_25 rfl (lv_at hl 0 rfl) ?_
  refine lv_bipush (v := 35) hx hb dX5_init_26 (by decide) ?_
  refine nw_i hx hb (hts _ (List.mem_cons_of_mem _ kw_ai)) hK hP hD hS hA (N := 35) (by decide) (by decide) (Nat.le_of_ble_eq_true rfl) (Nat.le_of_ble_eq_true rfl) (Nat.le_of_ble_eq_true rfl) dX5_init_28 (fun q28 H hP hD hS => ?_)
  have hP : va_P D vwCl [(h0, .inr (4, [.ref q6, .int 0, .int 0, .ref q13, .ref q20, .null, .null, .null, .null, .null, .int 0, .int 0])), (q6, .inl (cA 0, 5, .inl (fun _ => 0))), (q13, .inl (cA 0, 5, .inl (fun _ => 0))), (q20, .inl (cA 1, 5, .inl (fun _ => 0))), (q28, .inl (cA 0, 35, .inl (fun _ => 0)))] H := hP
  have hD : va_D A [(h0, .inr (4, [.ref q6, .int 0, .int 0, .ref q13, .ref q20, .null, .null, .null, .null, .null, .int 0, .int 0])), (q6, .inl (cA 0, 5, .inl (fun _ => 0))), (q13, .inl (cA 0, 5, .inl (fun _ => 0))), (q20, .inl (cA 1, 5, .inl (fun _ => 0))), (q28, .inl (cA 0, 35, .inl (fun _ => 0)))] := hD
  refine va_putF (D := D) (ci := 4) (v := .ref q28) (ty := .array .int) (C := RX5) (T := TX5) (N := 12) hx hb hts hin tyX5 tyX5_ok nmX5 hown hK hP hD hS 0 rfl rfl 5 (by decide) (hts _ (List.mem_cons_of_mem _ (kwX5 _ (List.mem_of_getElem? (i := 4) rfl)))) (fun _ h9 => h9) rfl hnm rfl (by decide +kernel) rfl rfl (Nat.le_of_ble_eq_true rfl) dX5_init_30 (fun H locs hP hD hS => ?_)
  have hP : va_P D vwCl [(h0, .inr (4, [.ref q6, .int 0, .int 0, .ref q13, .ref q20, .ref q28, .null, .null, .null, .null, .int 0, .int 0])), (q6, .inl (cA 0, 5, .inl (fun _ => 0))), (q13, .inl (cA 0, 5, .inl (fun _ => 0))), (q20, .inl (cA 1, 5, .inl (fun _ => 0))), (q28, .inl (cA 0, 35, .inl (fun _ => 0)))] H := hP
  have hD : va_D A [(h0, .inr (4, [.ref q6, .int 0, .int 0, .ref q13, .ref q20, .ref q28, .null, .null, .null, .null, .int 0, .int 0])), (q6, .inl (cA 0, 5, .inl (fun _ => 0))), (q13, .inl (cA 0, 5, .inl (fun _ => 0))), (q20, .inl (cA 1, 5, .inl (fun _ => 0))), (q28, .inl (cA 0, 35, .inl (fun _ => 0)))] := hD
  refine lv_aload_n hx hb dX5_init_33 rfl (lv_at hl 0 rfl) ?_
  refine lv_bipush (v := 30) hx hb dX5_init_34 (by decide) ?_
  refine nw_i hx hb (hts _ (List.mem_cons_of_mem _ kw_ai)) hK hP hD hS hA (N := 30) (by decide) (by decide) (Nat.le_of_ble_eq_true rfl) (Nat.le_of_ble_eq_true rfl) (Nat.le_of_ble_eq_true rfl) dX5_init_36 (fun q36 H hP hD hS => ?_)
  have hP : va_P D vwCl [(h0, .inr (4, [.ref q6, .int 0, .int 0, .ref q13, .ref q20, .ref q28, .null, .null, .null, .null, .int 0, .int 0])), (q6, .inl (cA 0, 5, .inl (fun _ => 0))), (q13, .inl (cA 0, 5, .inl (fun _ => 0))), (q20, .inl (cA 1, 5, .inl (fun _ => 0))), (q28, .inl (cA 0, 35, .inl (fun _ => 0))), (q36, .inl (cA 0, 30, .inl (fun _ => 0)))] H := hP
  have hD : va_D A [(h0, .inr (4, [.ref q6, .int 0, .int 0, .ref q13, .ref q20, .ref q28, .null, .null, .null, .null, .int 0, .int 0])), (q6, .inl (cA 0, 5, .inl (fun _ => 0))), (q13, .inl (cA 0, 5, .inl (fun _ => 0))), (q20, .inl (cA 1, 5, .inl (fun _ => 0))), (q28, .inl (cA 0, 35, .inl (fun _ => 0))), (q36, .inl (cA 0, 30, .inl (fun _ => 0)))] := hD
  refine va_putF (D := D) (ci := 4) (v := .ref q36) (ty := .array .int) (C := RX5) (T := TX5) (N := 12) hx hb hts hin tyX5 tyX5_ok nmX5 hown hK hP hD hS 0 rfl rfl 6 (by decide) (hts _ (List.mem_cons_of_mem _ (kwX5 _ (List.mem_of_getElem? (i := 5) rfl)))) (fun _ h9 => h9) rfl hnm rfl (by decide +kernel) rfl rfl (Nat.le_of_ble_eq_true rfl) dX5_init_38 (fun H locs hP hD hS => ?_)
  have hP : va_P D vwCl [(h0, .inr (4, [.ref q6, .int 0, .int 0, .ref q13, .ref q20, .ref q28, .ref q36, .null, .null, .null, .int 0, .int 0])), (q6, .inl (cA 0, 5, .inl (fun _ => 0))), (q13, .inl (cA 0, 5, .inl (fun _ => 0))), (q20, .inl (cA 1, 5, .inl (fun _ => 0))), (q28, .inl (cA 0, 35, .inl (fun _ => 0))), (q36, .inl (cA 0, 30, .inl (fun _ => 0)))] H := hP
  have hD : va_D A [(h0, .inr (4, [.ref q6, .int 0, .int 0, .ref q13, .ref q20, .ref q28, .ref q36, .null, .null, .null, .int 0, .int 0])), (q6, .inl (cA 0, 5, .inl (fun _ => 0))), (q13, .inl (cA 0, 5, .inl (fun _ => 0))), (q20, .inl (cA 1, 5, .inl (fun _ => 0))), (q28, .inl (cA 0, 35, .inl (fun _ => 0))), (q36, .inl (cA 0, 30, .inl (fun _ => 0)))] := hD
  refine lv_aload_n hx hb dX5_init_41 rfl (lv_at hl 0 rfl) ?_
  refine lv_iconst (v := 5) hx hb dX5_init_42 (by decide) ?_
  refine nw_i hx hb (hts _ (List.mem_cons_of_mem _ kw_ai)) hK hP hD hS hA (N := 5) (by decide) (by decide) (Nat.le_of_ble_eq_true rfl) (Nat.le_of_ble_eq_true rfl) (Nat.le_of_ble_eq_true rfl) dX5_init_43 (fun q43 H hP hD hS => ?_)
  have hP : va_P D vwCl [(h0, .inr (4, [.ref q6, .int 0, .int 0, .ref q13, .ref q20, .ref q28, .ref q36, .null, .null, .null, .int 0, .int 0])), (q6, .inl (cA 0, 5, .inl (fun _ => 0))), (q13, .inl (cA 0, 5, .inl (fun _ => 0))), (q20, .inl (cA 1, 5, .inl (fun _ => 0))), (q28, .inl (cA 0, 35, .inl (fun _ => 0))), (q36, .inl (cA 0, 30, .inl (fun _ => 0))), (q43, .inl (cA 0, 5, .inl (fun _ => 0)))] H := hP
  have hD : va_D A [(h0, .inr (4, [.ref q6, .int 0, .int 0, .ref q13, .ref q20, .ref q28, .ref q36, .null, .null, .null, .int 0, .int 0])), (q6, .inl (cA 0, 5, .inl (fun _ => 0))), (q13, .inl (cA 0, 5, .inl (fun _ => 0))), (q20, .inl (cA 1, 5, .inl (fun _ => 0))), (q28, .inl (cA 0, 35, .inl (fun _ => 0))), (q36, .inl (cA 0, 30, .inl (fun _ => 0))), (q43, .inl (cA 0, 5, .inl (fun _ => 0)))] := hD
  refine va_putF (D := D) (ci := 4) (v := .ref q43) (ty := .array .int) (C := RX5) (T := TX5) (N := 12) hx hb hts hin tyX5 tyX5_ok nmX5 hown hK hP hD hS 0 rfl rfl 7 (by decide) (hts _ (List.mem_cons_of_mem _ (kwX5 _ (List.mem_of_getElem? (i := 6) rfl)))) (fun _ h9 => h9) rfl hnm rfl (by decide +kernel) rfl rfl (Nat.le_of_ble_eq_true rfl) dX5_init_45 (fun H locs hP hD hS => ?_)
  have hP : va_P D vwCl [(h0, .inr (4, [.ref q6, .int 0, .int 0, .ref q13, .ref q20, .ref q28, .ref q36, .ref q43, .null, .null, .int 0, .int 0])), (q6, .inl (cA 0, 5, .inl (fun _ => 0))), (q13, .inl (cA 0, 5, .inl (fun _ => 0))), (q20, .inl (cA 1, 5, .inl (fun _ => 0))), (q28, .inl (cA 0, 35, .inl (fun _ => 0))), (q36, .inl (cA 0, 30, .inl (fun _ => 0))), (q43, .inl (cA 0, 5, .inl (fun _ => 0)))] H := hP
  have hD : va_D A [(h0, .inr (4, [.ref q6, .int 0, .int 0, .ref q13, .ref q20, .ref q28, .ref q36, .ref q43, .null, .null, .int 0, .int 0])), (q6, .inl (cA 0, 5, .inl (fun _ => 0))), (q13, .inl (cA 0, 5, .inl (fun _ => 0))), (q20, .inl (cA 1, 5, .inl (fun _ => 0))), (q28, .inl (cA 0, 35, .inl (fun _ => 0))), (q36, .inl (cA 0, 30, .inl (fun _ => 0))), (q43, .inl (cA 0, 5, .inl (fun _ => 0)))] := hD
  refine lv_aload_n hx hb dX5_init_48 rfl (lv_at hl 0 rfl) ?_
  refine lv_sipush (v := 160) hx hb dX5_init_49 (by decide) ?_
  refine nw_i hx hb (hts _ (List.mem_cons_of_mem _ kw_ai)) hK hP hD hS hA (N := 160) (by decide) (by decide) (Nat.le_of_ble_eq_true rfl) (Nat.le_of_ble_eq_true rfl) (Nat.le_of_ble_eq_true rfl) dX5_init_52 (fun q52 H hP hD hS => ?_)
  have hP : va_P D vwCl [(h0, .inr (4, [.ref q6, .int 0, .int 0, .ref q13, .ref q20, .ref q28, .ref q36, .ref q43, .null, .null, .int 0, .int 0])), (q6, .inl (cA 0, 5, .inl (fun _ => 0))), (q13, .inl (cA 0, 5, .inl (fun _ => 0))), (q20, .inl (cA 1, 5, .inl (fun _ => 0))), (q28, .inl (cA 0, 35, .inl (fun _ => 0))), (q36, .inl (cA 0, 30, .inl (fun _ => 0))), (q43, .inl (cA 0, 5, .inl (fun _ => 0))), (q52, .inl (cA 0, 160, .inl (fun _ => 0)))] H := hP
  have hD : va_D A [(h0, .inr (4, [.ref q6, .int 0, .int 0, .ref q13, .ref q20, .ref q28, .ref q36, .ref q43, .null, .null, .int 0, .int 0])), (q6, .inl (cA 0, 5, .inl (fun _ => 0))), (q13, .inl (cA 0, 5, .inl (fun _ => 0))), (q20, .inl (cA 1, 5, .inl (fun _ => 0))), (q28, .inl (cA 0, 35, .inl (fun _ => 0))), (q36, .inl (cA 0, 30, .inl (fun _ => 0))), (q43, .inl (cA 0, 5, .inl (fun _ => 0))), (q52, .inl (cA 0, 160, .inl (fun _ => 0)))] := hD
  refine va_putF (D := D) (ci := 4) (v := .ref q52) (ty := .array .int) (C := RX5) (T := TX5) (N := 12) hx hb hts hin tyX5 tyX5_ok nmX5 hown hK hP hD hS 0 rfl rfl 8 (by decide) (hts _ (List.mem_cons_of_mem _ (kwX5 _ (List.mem_of_getElem? (i := 7) rfl)))) (fun _ h9 => h9) rfl hnm rfl (by decide +kernel) rfl rfl (Nat.le_of_ble_eq_true rfl) dX5_init_54 (fun H locs hP hD hS => ?_)
  have hP : va_P D vwCl [(h0, .inr (4, [.ref q6, .int 0, .int 0, .ref q13, .ref q20, .ref q28, .ref q36, .ref q43, .ref q52, .null, .int 0, .int 0])), (q6, .inl (cA 0, 5, .inl (fun _ => 0))), (q13, .inl (cA 0, 5, .inl (fun _ => 0))), (q20, .inl (cA 1, 5, .inl (fun _ => 0))), (q28, .inl (cA 0, 35, .inl (fun _ => 0))), (q36, .inl (cA 0, 30, .inl (fun _ => 0))), (q43, .inl (cA 0, 5, .inl (fun _ => 0))), (q52, .inl (cA 0, 160, .inl (fun _ => 0)))] H := hP
  have hD : va_D A [(h0, .inr (4, [.ref q6, .int 0, .int 0, .ref q13, .ref q20, .ref q28, .ref q36, .ref q43, .ref q52, .null, .int 0, .int 0])), (q6, .inl (cA 0, 5, .inl (fun _ => 0))), (q13, .inl (cA 0, 5, .inl (fun _ => 0))), (q20, .inl (cA 1, 5, .inl (fun _ => 0))), (q28, .inl (cA 0, 35, .inl (fun _ => 0))), (q36, .inl (cA 0, 30, .inl (fun _ => 0))), (q43, .inl (cA 0, 5, .inl (fun _ => 0))), (q52, .inl (cA 0, 160, .inl (fun _ => 0)))] := hD
  refine lv_aload_n hx hb dX5_init_57 rfl (lv_at hl 0 rfl) ?_
  refine lv_sipush (v := 160) hx hb dX5_init_58 (by decide) ?_
  refine nw_i hx hb (hts _ (List.mem_cons_of_mem _ kw_ai)) hK hP hD hS hA (N := 160) (by decide) (by decide) (Nat.le_of_ble_eq_true rfl) (Nat.le_of_ble_eq_true rfl) (Nat.le_of_ble_eq_true rfl) dX5_init_61 (fun q61 H hP hD hS => ?_)
  have hP : va_P D vwCl [(h0, .inr (4, [.ref q6, .int 0, .int 0, .ref q13, .ref q20, .ref q28, .ref q36, .ref q43, .ref q52, .null, .int 0, .int 0])), (q6, .inl (cA 0, 5, .inl (fun _ => 0))), (q13, .inl (cA 0, 5, .inl (fun _ => 0))), (q20, .inl (cA 1, 5, .inl (fun _ => 0))), (q28, .inl (cA 0, 35, .inl (fun _ => 0))), (q36, .inl (cA 0, 30, .inl (fun _ => 0))), (q43, .inl (cA 0, 5, .inl (fun _ => 0))), (q52, .inl (cA 0, 160, .inl (fun _ => 0))), (q61, .inl (cA 0, 160, .inl (fun _ => 0)))] H := hP
  have hD : va_D A [(h0, .inr (4, [.ref q6, .int 0, .int 0, .ref q13, .ref q20, .ref q28, .ref q36, .ref q43, .ref q52, .null, .int 0, .int 0])), (q6, .inl (cA 0, 5, .inl (fun _ => 0))), (q13, .inl (cA 0, 5, .inl (fun _ => 0))), (q20, .inl (cA 1, 5, .inl (fun _ => 0))), (q28, .inl (cA 0, 35, .inl (fun _ => 0))), (q36, .inl (cA 0, 30, .inl (fun _ => 0))), (q43, .inl (cA 0, 5, .inl (fun _ => 0))), (q52, .inl (cA 0, 160, .inl (fun _ => 0))), (q61, .inl (cA 0, 160, .inl (fun _ => 0)))] := hD
  refine va_putF (D := D) (ci := 4) (v := .ref q61) (ty := .array .int) (C := RX5) (T := TX5) (N := 12) hx hb hts hin tyX5 tyX5_ok nmX5 hown hK hP hD hS 0 rfl rfl 9 (by decide) (hts _ (List.mem_cons_of_mem _ (kwX5 _ (List.mem_of_getElem? (i := 8) rfl)))) (fun _ h9 => h9) rfl hnm rfl (by decide +kernel) rfl rfl (Nat.le_of_ble_eq_true rfl) dX5_init_63 (fun H locs hP hD hS => ?_)
  have hP : va_P D vwCl [(h0, .inr (4, [.ref q6, .int 0, .int 0, .ref q13, .ref q20, .ref q28, .ref q36, .ref q43, .ref q52, .ref q61, .int 0, .int 0])), (q6, .inl (cA 0, 5, .inl (fun _ => 0))), (q13, .inl (cA 0, 5, .inl (fun _ => 0))), (q20, .inl (cA 1, 5, .inl (fun _ => 0))), (q28, .inl (cA 0, 35, .inl (fun _ => 0))), (q36, .inl (cA 0, 30, .inl (fun _ => 0))), (q43, .inl (cA 0, 5, .inl (fun _ => 0))), (q52, .inl (cA 0, 160, .inl (fun _ => 0))), (q61, .inl (cA 0, 160, .inl (fun _ => 0)))] H := hP
  have hD : va_D A [(h0, .inr (4, [.ref q6, .int 0, .int 0, .ref q13, .ref q20, .ref q28, .ref q36, .ref q43, .ref q52, .ref q61, .int 0, .int 0])), (q6, .inl (cA 0, 5, .inl (fun _ => 0))), (q13, .inl (cA 0, 5, .inl (fun _ => 0))), (q20, .inl (cA 1, 5, .inl (fun _ => 0))), (q28, .inl (cA 0, 35, .inl (fun _ => 0))), (q36, .inl (cA 0, 30, .inl (fun _ => 0))), (q43, .inl (cA 0, 5, .inl (fun _ => 0))), (q52, .inl (cA 0, 160, .inl (fun _ => 0))), (q61, .inl (cA 0, 160, .inl (fun _ => 0)))] := hD
  refine W.widen (k := 8) (n := 405) (Nat.le_of_ble_eq_true rfl) (Nat.le_of_ble_eq_true rfl) ?_
  exact W.vret hx hb hr (fun t ht hW => ⟨⟨(), rfl, trivial, (fun k => match k with | 0 => q6 | 1 => q13 | 2 => q20 | 3 => q28 | 4 => q36 | 5 => q43 | 6 => q52 | 7 => q61 | _ => 0), by rw [ht]; exact hP, va_K.moved hW.alike hK, hD⟩, hS.F ht⟩) hS.2.2 dX5_init_66
