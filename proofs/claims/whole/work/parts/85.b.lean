/-! a constructor, by its contract -/
theorem dX0_init_0 : decode cX0_init 0 = .ok (.aload_n 0, 1) := by decide +kernel
theorem dX0_init_1 : decode cX0_init 1 = .ok (.invokespecial 3, 3) := by decide +kernel
theorem dX0_init_4 : decode cX0_init 4 = .ok (.aload_n 0, 1) := by decide +kernel
theorem dX0_init_5 : decode cX0_init 5 = .ok (.iconst 5, 1) := by decide +kernel
theorem dX0_init_6 : decode cX0_init 6 = .ok (.putfield 9, 3) := by decide +kernel
theorem dX0_init_9 : decode cX0_init 9 = .ok (.aload_n 0, 1) := by decide +kernel
theorem dX0_init_10 : decode cX0_init 10 = .ok (.iconst 3, 1) := by decide +kernel
theorem dX0_init_11 : decode cX0_init 11 = .ok (.newarray .int, 2) := by decide +kernel
theorem dX0_init_13 : decode cX0_init 13 = .ok (.putfield 15, 3) := by decide +kernel
theorem dX0_init_16 : decode cX0_init 16 = .ok (.aload_n 0, 1) := by decide +kernel
theorem dX0_init_17 : decode cX0_init 17 = .ok (.iconst 3, 1) := by decide +kernel
theorem dX0_init_18 : decode cX0_init 18 = .ok (.newarray .int, 2) := by decide +kernel
theorem dX0_init_20 : decode cX0_init 20 = .ok (.putfield 19, 3) := by decide +kernel
theorem dX0_init_23 : decode cX0_init 23 = .ok (.aload_n 0, 1) := by decide +kernel
theorem dX0_init_24 : decode cX0_init 24 = .ok (.iconst 4, 1) := by decide +kernel
theorem dX0_init_25 : decode cX0_init 25 = .ok (.newarray .int, 2) := by decide +kernel
theorem dX0_init_27 : decode cX0_init 27 = .ok (.putfield 22, 3) := by decide +kernel
theorem dX0_init_30 : decode cX0_init 30 = .ok (.aload_n 0, 1) := by decide +kernel
theorem dX0_init_31 : decode cX0_init 31 = .ok (.bipush 8, 2) := by decide +kernel
theorem dX0_init_33 : decode cX0_init 33 = .ok (.newarray .int, 2) := by decide +kernel
theorem dX0_init_35 : decode cX0_init 35 = .ok (.putfield 25, 3) := by decide +kernel
theorem dX0_init_38 : decode cX0_init 38 = .ok (.aload_n 0, 1) := by decide +kernel
theorem dX0_init_39 : decode cX0_init 39 = .ok (.bipush 8, 2) := by decide +kernel
theorem dX0_init_41 : decode cX0_init 41 = .ok (.newarray .int, 2) := by decide +kernel
theorem dX0_init_43 : decode cX0_init 43 = .ok (.putfield 28, 3) := by decide +kernel
theorem dX0_init_46 : decode cX0_init 46 = .ok (.aload_n 0, 1) := by decide +kernel
theorem dX0_init_47 : decode cX0_init 47 = .ok (.bipush 8, 2) := by decide +kernel
theorem dX0_init_49 : decode cX0_init 49 = .ok (.newarray .int, 2) := by decide +kernel
theorem dX0_init_51 : decode cX0_init 51 = .ok (.putfield 31, 3) := by decide +kernel
theorem dX0_init_54 : decode cX0_init 54 = .ok (.aload_n 0, 1) := by decide +kernel
theorem dX0_init_55 : decode cX0_init 55 = .ok (.bipush 8, 2) := by decide +kernel
theorem dX0_init_57 : decode cX0_init 57 = .ok (.newarray .int, 2) := by decide +kernel
theorem dX0_init_59 : decode cX0_init 59 = .ok (.putfield 34, 3) := by decide +kernel
theorem dX0_init_62 : decode cX0_init 62 = .ok (.aload_n 0, 1) := by decide +kernel
theorem dX0_init_63 : decode cX0_init 63 = .ok (.sipush 900, 3) := by decide +kernel
theorem dX0_init_66 : decode cX0_init 66 = .ok (.newarray .int, 2) := by decide +kernel
theorem dX0_init_68 : decode cX0_init 68 = .ok (.putfield 37, 3) := by decide +kernel
theorem dX0_init_71 : decode cX0_init 71 = .ok (.return_, 1) := by decide +kernel
abbrev WX0 (cA : Nat → ClassId) (h0 : Nat) (q : Nat → Nat) : va_W := [(h0, .inr (0, [.int 5, .int 0, .int 0, .int 0, .int 0, .int 0, .int 0, .ref (q 0), .ref (q 1), .ref (q 2), .ref (q 3), .ref (q 4), .ref (q 5), .ref (q 6), .ref (q 7)])), ((q 0), .inl (cA 0, 3, .inl (fun _ => 0))), ((q 1), .inl (cA 0, 3, .inl (fun _ => 0))), ((q 2), .inl (cA 0, 4, .inl (fun _ => 0))), ((q 3), .inl (cA 0, 8, .inl (fun _ => 0))), ((q 4), .inl (cA 0, 8, .inl (fun _ => 0))), ((q 5), .inl (cA 0, 8, .inl (fun _ => 0))), ((q 6), .inl (cA 0, 8, .inl (fun _ => 0))), ((q 7), .inl (cA 0, 900, .inl (fun _ => 0)))]
abbrev VX0 (h0 : Nat) : va_W := [(h0, .inr (0, [.int 0, .int 0, .int 0, .int 0, .int 0, .int 0, .int 0, .null, .null, .null, .null, .null, .null, .null, .null]))]
set_option maxRecDepth 100000 in
theorem kwX0 : ∀ w ∈ ([.methodLink RX0 3 objectInit, .fieldLink RX0 9 "LateMirror$Arcade" "deep" "I", .fieldLink RX0 15 "LateMirror$Arcade" "cell" "[I", .fieldLink RX0 19 "LateMirror$Arcade" "late" "[I", .fieldLink RX0 22 "LateMirror$Arcade" "place" "[I", .fieldLink RX0 25 "LateMirror$Arcade" "ruleFor" "[I", .fieldLink RX0 28 "LateMirror$Arcade" "ruleFrom" "[I", .fieldLink RX0 31 "LateMirror$Arcade" "ruleTo" "[I", .fieldLink RX0 34 "LateMirror$Arcade" "ruleDoing" "[I", .fieldLink RX0 37 "LateMirror$Arcade" "code" "[I"] : List Cond), w ∈ mw_wd := mw_pl (ps := [162, 163, 189, 190, 193, 194, 196, 198, 200, 202]) (by decide +kernel) (by decide +kernel)
set_option maxRecDepth 100000 in
theorem kcX0 : Cond.code yX0_init cX0_init 1 none ∈ mw_wd := mw_wd_of (List.mem_of_getElem? (i := 161) rfl) rfl
set_option maxHeartbeats 4000000 in
set_option maxRecDepth 100000 in
theorem knX0 (l : Launch) (D : va_G) (cA : Nat → ClassId) (h0 sz : Nat) : Met l yX0_init (Cond.code yX0_init cX0_init 1 none :: mw_wd) ({ frames := 1, cells := 8, slots := 942, locals := 40 }) (kc_P D cA [.ref h0] (VX0 h0) sz) (kc_Q D cA (WX0 cA h0) (va_A (VX0 h0) sz)) 8 942 (va_A (VX0 h0) sz) := by
  refine Met.ofW (cc := cX0_init) (maxL := 1) (ret := none) (by decide) rfl ?_
  intro p e s m args below meth c s₁ B hml hv
  obtain ⟨rfl, hsz, hP, hK, hD0, hOi, hOl⟩ := hv
  have hx := B.exec
  have hb := B.bytes
  have hr := B.returns
  have hts := atoms_spec (ws := Cond.code yX0_init cX0_init 1 none :: mw_wd) B.pre
  have hin : ∀ w ∈ u_ws RX0 TX0 15, w ∈ Cond.code yX0_init cX0_init 1 none :: mw_wd := fun w hw => List.mem_cons_of_mem _ (mw_lay_in w (List.mem_flatMap.mpr ⟨(RX0, TX0, 15), List.mem_of_getElem? (i := 0) rfl, hw⟩))
  have hown : s.vm.findClass RX0 = some m.cls := findClass_of_methodNamed B.named
  have hlocks := B.notSynchronized
  have hnm : meth.name = "<init>" := (name_of_methodNamed B.named B.method).1
  subst hsz
  have hD := hD0.self (sz := s.heap.size)
  generalize hAe : va_A (VX0 h0) s.heap.size = A at hD ⊢
  have hA : ∀ q : Nat, s.heap.size ≤ q → A q := fun q h => by rw [← hAe]; exact Or.inr h
  have hS : va_S A s.heap s.heap [] := va_S.rf
  have hl := lv_entry ([.ref h0]) (n := 1) (Nat.le_of_ble_eq_true rfl)
  rw [lg_entry_eq]
  generalize (lg_sl ([.ref h0]) ++ List.replicate (1 - (lg_sl ([.ref h0])).length) Slot.unset).toArray = ls at hl ⊢
  have hl : lv_has ls 1 [(0, .ref h0)] := hl
  have hP : va_P D vwCl [(h0, .inr (0, [.int 0, .int 0, .int 0, .int 0, .int 0, .int 0, .int 0, .null, .null, .null, .null, .null, .null, .null, .null]))] s.heap := hP
  have hD : va_D A [(h0, .inr (0, [.int 0, .int 0, .int 0, .int 0, .int 0, .int 0, .int 0, .null, .null, .null, .null, .null, .null, .null, .null]))] := hD
  refine lv_aload_n hx hb dX0_init_0 rfl (lv_at hl 0 rfl) ?_
  refine W.objInit hx hb hown (hts _ (List.mem_cons_of_mem _ (kwX0 _ (List.mem_of_getElem? (i := 0) rfl)))) (hts _ (List.mem_cons_of_mem _ kw_oi)) (hts _ (List.mem_cons_of_mem _ kw_oc)) rfl (by rw [hml]; exact hl.1) rfl dX0_init_1 (Nat.le_of_ble_eq_true rfl) (Nat.le_of_ble_eq_true rfl) ?_
  refine W.eq (g2 := F0 m 4 ls []) rfl ?_
  refine lv_aload_n hx hb dX0_init_4 rfl (lv_at hl 0 rfl) ?_
  refine lv_iconst (v := 5) hx hb dX0_init_5 (by decide) ?_
  refine va_put (D := D) (ci := 0) (v := .int 5) (ty := .int) (C := RX0) (T := TX0) (N := 15) hx hb hts hin tyX0 tyX0_ok nmX0 hown hK hP hD hS 0 rfl rfl 0 (by decide) (hts _ (List.mem_cons_of_mem _ (kwX0 _ (List.mem_of_getElem? (i := 1) rfl)))) (fun _ h9 => h9) rfl (by decide +kernel) rfl rfl (Nat.le_of_ble_eq_true rfl) dX0_init_6 (fun H locs hP hD hS => ?_)
  have hP : va_P D vwCl [(h0, .inr (0, [.int 5, .int 0, .int 0, .int 0, .int 0, .int 0, .int 0, .null, .null, .null, .null, .null, .null, .null, .null]))] H := hP
  have hD : va_D A [(h0, .inr (0, [.int 5, .int 0, .int 0, .int 0, .int 0, .int 0, .int 0, .null, .null, .null, .null, .null, .null, .null, .null]))] := hD
  refine lv_aload_n hx hb dX0_init_9 rfl (lv_at hl 0 rfl) ?_
  refine lv_iconst (v := 3) hx hb dX0_init_10 (by decide) ?_
  refine nw_i hx hb (hts _ (List.mem_cons_of_mem _ kw_ai)) hK hP hD hS hA (N := 3) (by decide) (by decide) (Nat.le_of_ble_eq_true rfl) (Nat.le_of_ble_eq_true rfl) (Nat.le_of_ble_eq_true rfl) dX0_init_11 (fun q11 H hP hD hS => ?_)
  have hP : va_P D vwCl [(h0, .inr (0, [.int 5, .int 0, .int 0, .int 0, .int 0, .int 0, .int 0, .null, .null, .null, .null, .null, .null, .null, .null])), (q11, .inl (cA 0, 3, .inl (fun _ => 0)))] H := hP
  have hD : va_D A [(h0, .inr (0, [.int 5, .int 0, .int 0, .int 0, .int 0, .int 0, .int 0, .null, .null, .null, .null, .null, .null, .null, .null])), (q11, .inl (cA 0, 3, .inl (fun _ => 0)))] := hD
  refine va_putF (D := D) (ci := 0) (v := .ref q11) (ty := .array .int) (C := RX0) (T := TX0) (N := 15) hx hb hts hin tyX0 tyX0_ok nmX0 hown hK hP hD hS 0 rfl rfl 7 (by decide) (hts _ (List.mem_cons_of_mem _ (kwX0 _ (List.mem_of_getElem? (i := 2) rfl)))) (fun _ h9 => h9) rfl hnm rfl (by decide +kernel) rfl rfl (Nat.le_of_ble_eq_true rfl) dX0_init_13 (fun H locs hP hD hS => ?_)
  have hP : va_P D vwCl [(h0, .inr (0, [.int 5, .int 0, .int 0, .int 0, .int 0, .int 0, .int 0, .ref q11, .null, .null, .null, .null, .null, .null, .null])), (q11, .inl (cA 0, 3, .inl (fun _ => 0)))] H := hP
  have hD : va_D A [(h0, .inr (0, [.int 5, .int 0, .int 0, .int 0, .int 0, .int 0, .int 0, .ref q11, .null, .null, .null, .null, .null, .null, .null])), (q11, .inl (cA 0, 3, .inl (fun _ => 0)))] := hD
  refine lv_aload_n hx hb dX0_init_16 rfl (lv_at hl 0 rfl) ?_
  refine lv_iconst (v := 3) hx hb dX0_init_17 (by decide) ?_
  refine nw_i hx hb (hts _ (List.mem_cons_of_mem _ kw_ai)) hK hP hD hS hA (N := 3) (by decide) (by decide) (Nat.le_of_ble_eq_true rfl) (Nat.le_of_ble_eq_true rfl) (Nat.le_of_ble_eq_true rfl) dX0_init_18 (fun q18 H hP hD hS => ?_)
  have hP : va_P D vwCl [(h0, .inr (0, [.int 5, .int 0, .int 0, .int 0, .int 0, .int 0, .int 0, .ref q11, .null, .null, .null, .null, .null, .null, .null])), (q11, .inl (cA 0, 3, .inl (fun _ => 0))), (q18, .inl (cA 0, 3, .inl (fun _ => 0)))] H := hP
  have hD : va_D A [(h0, .inr (0, [.int 5, .int 0, .int 0, .int 0, .int 0, .int 0, .int 0, .ref q11, .null, .null, .null, .null, .null, .null, .null])), (q11, .inl (cA 0, 3, .inl (fun _ => 0))), (q18, .inl (cA 0, 3, .inl (fun _ => 0)))] := hD
  refine va_putF (D := D) (ci := 0) (v := .ref q18) (ty := .array .int) (C := RX0) (T := TX0) (N := 15) hx hb hts hin tyX0 tyX0_ok nmX0 hown hK hP hD hS 0 rfl rfl 8 (by decide) (hts _ (List.mem_cons_of_mem _ (kwX0 _ (List.mem_of_getElem? (i := 3) rfl)))) (fun _ h9 => h9) rfl hnm rfl (by decide +kernel) rfl rfl (Nat.le_of_ble_eq_true rfl) dX0_init_20 (fun H locs hP hD hS => ?_)
  have hP : va_P D vwCl [(h0, .inr (0, [.int 5, .int 0, .int 0, .int 0, .int 0, .int 0, .int 0, .ref q11, .ref q18, .null, .null, .null, .null, .null, .null])), (q11, .inl (cA 0, 3, .inl (fun _ => 0))), (q18, .inl (cA 0, 3, .inl (fun _ => 0)))] H := hP
  have hD : va_D A [(h0, .inr (0, [.int 5, .int 0, .int 0, .int 0, .int 0, .int 0, .int 0, .ref q11, .ref q18, .null, .null, .null, .null, .null, .null])), (q11, .inl (cA 0, 3, .inl (fun _ => 0))), (q18, .inl (cA 0, 3, .inl (fun _ => 0)))] := hD
  refine lv_aload_n hx hb dX0_init_23 rfl (lv_at hl 0 rfl) ?_
  refine lv_iconst (v := 4) hx hb dX0_init_24 (by decide) ?_
  refine nw_i hx hb (hts _ (List.mem_cons_of_mem _ kw_ai)) hK hP hD hS hA (N := 4) (by decide) (by decide) (Nat.le_of_ble_eq_true rfl) (Nat.le_of_ble_eq_true rfl) (Nat.le_of_ble_eq_true rfl) dX0_init_25 (fun q25 H hP hD hS => ?_)
  have hP : va_P D vwCl [(h0, .inr (0, [.int 5, .int 0, .int 0, .int 0, .int 0, .int 0, .int 0, .ref q11, .ref q18, .null, .null, .null, .null, .null, .null])), (q11, .inl (cA 0, 3, .inl (fun _ => 0))), (q18, .inl (cA 0, 3, .inl (fun _ => 0))), (q25, .inl (cA 0, 4, .inl (fun _ => 0)))] H := hP
  have hD : va_D A [(h0, .inr (0, [.int 5, .int 0, .int 0, .int 0, .int 0, .int 0, .int 0, .ref q11, .ref q18, .null, .null, .null, .null, .null, .null])), (q11, .inl (cA 0, 3, .inl (fun _ => 0))), (q18, .inl (cA 0, 3, .inl (fun _ => 0))), (q25, .inl (cA 0, 4, .inl (fun _ => 0)))] := hD
  refine va_putF (D := D) (ci := 0) (v := .ref q25) (ty := .array .int) (C := RX0) (T := TX0) (N := 15) hx hb hts hin tyX0 tyX0_ok nmX0 hown hK hP hD hS 0 rfl rfl 9 (by decide) (hts _ (List.mem_cons_of_mem _ (kwX0 _ (List.mem_of_getElem? (i := 4) rfl)))) (fun _ h9 => h9) rfl hnm rfl (by decide +kernel) rfl rfl (Nat.le_of_ble_eq_true rfl) dX0_init_27 (fun H locs hP hD hS => ?_)
  have hP : va_P D vwCl [(h0, .inr (0, [.int 5, .int 0, .int 0, .int 0, .int 0, .int 0, .int 0, .ref q11, .ref q18, .ref q25, .null, .null, .null, .null, .null])), (q11, .inl (cA 0, 3, .inl (fun _ => 0))), (q18, .inl (cA 0, 3, .inl (fun _ => 0))), (q25, .inl (cA 0, 4, .inl (fun _ => 0)))] H := hP
  have hD : va_D A [(h0, .inr (0, [.int 5, .int 0, .int 0, .int 0, .int 0, .int 0, .int 0, .ref q11, .ref q18, .ref q25, .null, .null, .null, .null, .null])), (q11, .inl (cA 0, 3, .inl (fun _ => 0))), (q18, .inl (cA 0, 3, .inl (fun _ => 0))), (q25, .inl (cA 0, 4, .inl (fun _ => 0)))] := hD
  refine lv_aload_n hx hb dX0_init_30 rfl (lv_at hl 0 rfl) ?_
  refine lv_bipush (v := 8) hx hb dX0_init_31 (by decide) ?_
  refine nw_i hx hb (hts _ (List.mem_cons_of_mem _ kw_ai)) hK hP hD hS hA (N := 8) (by decide) (by decide) (Nat.le_of_ble_eq_true rfl) (Nat.le_of_ble_eq_true rfl) (Nat.le_of_ble_eq_true rfl) dX0_init_33 (fun q33 H hP hD hS => ?_)
  have hP : va_P D vwCl [(h0, .inr (0, [.int 5, .int 0, .int 0, .int 0, .int 0, .int 0, .int 0, .ref q11, .ref q18, .ref q25, .null, .null, .null, .null, .null])), (q11, .inl (cA 0, 3, .inl (fun _ => 0))), (q18, .inl (cA 0, 3, .inl (fun _ => 0))), (q25, .inl (cA 0, 4, .inl (fun _ => 0))), (q33, .inl (cA 0, 8, .inl (fun _ => 0)))] H := hP
  have hD : va_D A [(h0, .inr (0, [.int 5, .int 0, .int 0, .int 0, .int 0, .int 0, .int 0, .ref q11, .ref q18, .ref q25, .null, .null, .null, .null, .null])), (q11, .inl (cA 0, 3, .inl (fun _ => 0))), (q18, .inl (cA 0, 3, .inl (fun _ => 0))), (q25, .inl (cA 0, 4, .inl (fun _ => 0))), (q33, .inl (cA 0, 8, .inl (fun _ => 0)))] := hD
  refine va_putF (D := D) (ci := 0) (v := .ref q33) (ty := .array .int) (C := RX0) (T := TX0) (N := 15) hx hb hts hin tyX0 tyX0_ok nmX0 hown hK hP hD hS 0 rfl rfl 10 (by decide) (hts _ (List.mem_cons_of_mem _ (kwX0 _ (List.mem_of_getElem? (i := 5) rfl)))) (fun _ h9 => h9) rfl hnm rfl (by decide +kernel) rfl rfl (Nat.le_of_ble_eq_true rfl) dX0_init_35 (fun H locs hP hD hS => ?_)
  have hP : va_P D vwCl [(h0, .inr (0, [.int 5, .int 0, .int 0, .int 0, .int 0, .int 0, .int 0, .ref q11, .ref q18, .ref q25, .ref q33, .null, .null, .null, .null])), (q11, .inl (cA 0, 3, .inl (fun _ => 0))), (q18, .inl (cA 0, 3, .inl (fun _ => 0))), (q25, .inl (cA 0, 4, .inl (fun _ => 0))), (q33, .inl (cA 0, 8, .inl (fun _ => 0)))] H := hP
  have hD : va_D A [(h0, .inr (0, [.int 5, .int 0, .int 0, .int 0, .int 0, .int 0, .int 0, .ref q11, .ref q18, .ref q25, .ref q33, .null, .null, .null, .null])), (q11, .inl (cA 0, 3, .inl (fun _ => 0))), (q18, .inl (cA 0, 3, .inl (fun _ => 0))), (q25, .inl (cA 0, 4, .inl (fun _ => 0))), (q33, .inl (cA 0, 8, .inl (fun _ => 0)))] := hD
  refine lv_aload_n hx hb dX0_init_38 rfl (lv_at hl 0 rfl) ?_
  refine lv_bipush (v := 8) hx hb dX0_init_39 (by decide) ?_
  refine nw_i hx hb (hts _ (List.mem_cons_of_mem _ kw_ai)) hK hP hD hS hA (N := 8) (by decide) (by decide) (Nat.le_of_ble_eq_true rfl) (Nat.le_of_ble_eq_true rfl) (Nat.le_of_ble_eq_true rfl) dX0_init_41 (fun q41 H hP hD hS => ?_)
  have hP : va_P D vwCl [(h0, .inr (0, [.int 5, .int 0, .int 0, .int 0, .int 0, .int 0, .int 0, .ref q11, .ref q18, .ref q25, .ref q33, .null, .null, .null, .null])), (q11, .inl (cA 0, 3, .inl (fun _ => 0))), (q18, .inl (cA 0, 3, .inl (fun _ => 0))), (q25, .inl (cA 0, 4, .inl (fun _ => 0))), (q33, .inl (cA 0, 8, .inl (fun _ => 0))), (q41, .inl (cA 0, 8, .inl (fun _ => 0)))] H := hP
  have hD : va_D A [(h0, .inr (0, [.int 5, .int 0, .int 0, .int 0, .int 0, .int 0, .int 0, .ref q11, .ref q18, .ref q25, .ref q33, .null, .null, .null, .null])), (q11, .inl (cA 0, 3, .inl (fun _ => 0))), (q18, .inl (cA 0, 3, .inl (fun _ => 0))), (q25, .inl (cA 0, 4, .inl (fun _ => 0))), (q33, .inl (cA 0, 8, .inl (fun _ => 0))), (q41, .inl (cA 0, 8, .inl (fun _ => 0)))] := hD
  refine va_putF (D := D) (ci := 0) (v := .ref q41) (ty := .array .int) (C := RX0) (T := TX0) (N := 15) hx hb hts hin tyX0 tyX0_ok nmX0 hown hK hP hD hS 0 rfl rfl 11 (by decide) (hts _ (List.mem_cons_of_mem _ (kwX0 _ (List.mem_of_getElem? (i := 6) rfl)))) (fun _ h9 => h9) rfl hnm rfl (by decide +kernel) rfl rfl (Nat.le_of_ble_eq_true rfl) dX0_init_43 (fun H locs hP hD hS => ?_)
  have hP : va_P D vwCl [(h0, .inr (0, [.int 5, .int 0, .int 0, .int 0, .int 0, .int 0, .int 0, .ref q11, .ref q18, .ref q25, .ref q33, .ref q41, .null, .null, .null])), (q11, .inl (cA 0, 3, .inl (fun _ => 0))), (q18, .inl (cA 0, 3, .inl (fun _ => 0))), (q25, .inl (cA 0, 4, .inl (fun _ => 0))), (q33, .inl (cA 0, 8, .inl (fun _ => 0))), (q41, .inl (cA 0, 8, .inl (fun _ => 0)))] H := hP
  have hD : va_D A [(h0, .inr (0, [.int 5, .int 0, .int 0, .int 0, .int 0, .int 0, .int 0, .ref q11, .ref q18, .ref q25, .ref q33, .ref q41, .null, .null, .null])), (q11, .inl (cA 0, 3, .inl (fun _ => 0))), (q18, .inl (cA 0, 3, .inl (fun _ => 0))), (q25, .inl (cA 0, 4, .inl (fun _ => 0))), (q33, .inl (cA 0, 8, .inl (fun _ => 0))), (q41, .inl (cA 0, 8, .inl (fun _ => 0)))] := hD
  refine lv_aload_n hx hb dX0_init_46 rfl (lv_at hl 0 rfl) ?_
  refine lv_bipush (v := 8) hx hb dX0_init_47 (by decide) ?_
  refine nw_i hx hb (hts _ (List.mem_cons_of_mem _ kw_ai)) hK hP hD hS hA (N := 8) (by decide) (by decide) (Nat.le_of_ble_eq_true rfl) (Nat.le_of_ble_eq_true rfl) (Nat.le_of_ble_eq_true rfl) dX0_init_49 (fun q49 H hP hD hS => ?_)
  have hP : va_P D vwCl [(h0, .inr (0, [.int 5, .int 0, .int 0, .int 0, .int 0, .int 0, .int 0, .ref q11, .ref q18, .ref q25, .ref q33, .ref q41, .null, .null, .null])), (q11, .inl (cA 0, 3, .inl (fun _ => 0))), (q18, .inl (cA 0, 3, .inl (fun _ => 0))), (q25, .inl (cA 0, 4, .inl (fun _ => 0))), (q33, .inl (cA 0, 8, .inl (fun _ => 0))), (q41, .inl (cA 0, 8, .inl (fun _ => 0))), (q49, .inl (cA 0, 8, .inl (fun _ => 0)))] H := hP
  have hD : va_D A [(h0, .inr (0, [.int 5, .int 0, .int 0, .int 0, .int 0, .int 0, .int 0, .ref q11, .ref q18, .ref q25, .ref q33, .ref q41, .null, .null, .null])), (q11, .inl (cA 0, 3, .inl (fun _ => 0))), (q18, .inl (cA 0, 3, .inl (fun _ => 0))), (q25, .inl (cA 0, 4, .inl (fun _ => 0))), (q33, .inl (cA 0, 8, .inl (fun _ => 0))), (q41, .inl (cA 0, 8, .inl (fun _ => 0))), (q49, .inl (cA 0, 8, .inl (fun _ => 0)))] := hD
  refine va_putF (D := D) (ci := 0) (v := .ref q49) (ty := .array .int) (C := RX0) (T := TX0) (N := 15) hx hb hts hin tyX0 tyX0_ok nmX0 hown hK hP hD hS 0 rfl rfl 12 (by decide) (hts _ (List.mem_cons_of_mem _ (kwX0 _ (List.mem_of_getElem? (i := 7) rfl)))) (fun _ h9 => h9) rfl hnm rfl (by decide +kernel) rfl rfl (Nat.le_of_ble_eq_true rfl) dX0_init_51 (fun H locs hP hD hS => ?_)
  have hP : va_P D vwCl [(h0, .inr (0, [.int 5, .int 0, .int 0, .int 0, .int 0, .int 0, .int 0, .ref q11, .ref q18, .ref q25, .ref q33, .ref q41, .ref q49, .null, .null])), (q11, .inl (cA 0, 3, .inl (fun _ => 0))), (q18, .inl (cA 0, 3, .inl (fun _ => 0))), (q25, .inl (cA 0, 4, .inl (fun _ => 0))), (q33, .inl (cA 0, 8, .inl (fun _ => 0))), (q41, .inl (cA 0, 8, .inl (fun _ => 0))), (q49, .inl (cA 0, 8, .inl (fun _ => 0)))] H := hP
  have hD : va_D A [(h0, .inr (0, [.int 5, .int 0, .int 0, .int 0, .int 0, .int 0, .int 0, .ref q11, .ref q18, .ref q25, .ref q33, .ref q41, .ref q49, .null, .null])), (q11, .inl (cA 0, 3, .inl (fun _ => 0))), (q18, .inl (cA 0, 3, .inl (fun _ => 0))), (q25, .inl (cA 0, 4, .inl (fun _ => 0))), (q33, .inl (cA 0, 8, .inl (fun _ => 0))), (q41, .inl (cA 0, 8, .inl (fun _ => 0))), (q49, .inl (cA 0, 8, .inl (fun _ => 0)))] := hD
  refine lv_aload_n hx hb dX0_init_54 rfl (lv_at hl 0 rfl) ?_
  refine lv_bipush (v := 8) hx hb dX0_init_55 (by decide) ?_
  refine nw_i hx hb (hts _ (List.mem_cons_of_mem _ kw_ai)) hK hP hD hS hA (N := 8) (by decide) (by decide) (Nat.le_of_ble_eq_true rfl) (Nat.le_of_ble_eq_true rfl) (Nat.le_of_ble_eq_true rfl) dX0_init_57 (fun q57 H hP hD hS => ?_)
  have hP : va_P D vwCl [(h0, .inr (0, [.int 5, .int 0, .int 0, .int 0, .int 0, .int 0, .int 0, .ref q11, .ref q18, .ref q25, .ref q33, .ref q41, .ref q49, .null, .null])), (q11, .inl (cA 0, 3, .inl (fun _ => 0))), (q18, .inl (cA 0, 3, .inl (fun _ => 0))), (q25, .inl (cA 0, 4, .inl (fun _ => 0))), (q33, .inl (cA 0, 8, .inl (fun _ => 0))), (q41, .inl (cA 0, 8, .inl (fun _ => 0))), (q49, .inl (cA 0, 8, .inl (fun _ => 0))), (q57, .inl (cA 0, 8, .inl (fun _ => 0)))] H := hP
  have hD : va_D A [(h0, .inr (0, [.int 5, .int 0, .int 0, .int 0, .int 0, .int 0, .int 0, .ref q11, .ref q18, .ref q25, .ref q33, .ref q41, .ref q49, .null, .null])), (q11, .inl (cA 0, 3, .inl (fun _ => 0))), (q18, .inl (cA 0, 3, .inl (fun _ => 0))), (q25, .inl (cA 0, 4, .inl (fun _ => 0))), (q33, .inl (cA 0, 8, .inl (fun _ => 0))), (q41, .inl (cA 0, 8, .inl (fun _ => 0))), (q49, .inl (cA 0, 8, .inl (fun _ => 0))), (q57, .inl (cA 0, 8, .inl (fun _ => 0)))] := hD
  refine va_putF (D := D) (ci := 0) (v := .ref q57) (ty := .array .int) (C := RX0) (T := TX0) (N := 15) hx hb hts hin tyX0 tyX0_ok nmX0 hown hK hP hD hS 0 rfl rfl 13 (by decide) (hts _ (List.mem_cons_of_mem _ (kwX0 _ (List.mem_of_getElem? (i := 8) rfl)))) (fun _ h9 => h9) rfl hnm rfl (by decide +kernel) rfl rfl (Nat.le_of_ble_eq_true rfl) dX0_init_59 (fun H locs hP hD hS => ?_)
  have hP : va_P D vwCl [(h0, .inr (0, [.int 5, .int 0, .int 0, .int 0, .int 0, .int 0, .int 0, .ref q11, .ref q18, .ref q25, .ref q33, .ref q41, .ref q49, .ref q57, .null])), (q11, .inl (cA 0, 3, .inl (fun _ => 0))), (q18, .inl (cA 0, 3, .inl (fun _ => 0))), (q25, .inl (cA 0, 4, .inl (fun _ => 0))), (q33, .inl (cA 0, 8, .inl (fun _ => 0))), (q41, .inl (cA 0, 8, .inl (fun _ => 0))), (q49, .inl (cA 0, 8, .inl (fun _ => 0))), (q57, .inl (cA 0, 8, .inl (fun _ => 0)))] H := hP
  have hD : va_D A [(h0, .inr (0, [.int 5, .int 0, .int 0, .int 0, .int 0, .int 0, .int 0, .ref q11, .ref q18, .ref q25, .ref q33, .ref q41, .ref q49, .ref q57, .null])), (q11, .inl (cA 0, 3, .inl (fun _ => 0))), (q18, .inl (cA 0, 3, .inl (fun _ => 0))), (q25, .inl (cA 0, 4, .inl (fun _ => 0))), (q33, .inl (cA 0, 8, .inl (fun _ => 0))), (q41, .inl (cA 0, 8, .inl (fun _ => 0))), (q49, .inl (cA 0, 8, .inl (fun _ => 0))), (q57, .inl (cA 0, 8, .inl (fun _ => 0)))] := hD
  refine lv_aload_n hx hb dX0_init_62 rfl (lv_at hl 0 rfl) ?_
  refine lv_sipush (v := 900) hx hb dX0_init_63 (by decide) ?_
  refine nw_i hx hb (hts _ (List.mem_cons_of_mem _ kw_ai)) hK hP hD hS hA (N := 900) (by decide) (by decide) (Nat.le_of_ble_eq_true rfl) (Nat.le_of_ble_eq_true rfl) (Nat.le_of_ble_eq_true rfl) dX0_init_66 (fun q66 H hP hD hS => ?_)
  have hP : va_P D vwCl [(h0, .inr (0, [.int 5, .int 0, .int 0, .int 0, .int 0, .int 0, .int 0, .ref q11, .ref q18, .ref q25, .ref q33, .ref q41, .ref q49, .ref q57, .null])), (q11, .inl (cA 0, 3, .inl (fun _ => 0))), (q18, .inl (cA 0, 3, .inl (fun _ => 0))), (q25, .inl (cA 0, 4, .inl (fun _ => 0))), (q33, .inl (cA 0, 8, .inl (fun _ => 0))), (q41, .inl (cA 0, 8, .inl (fun _ => 0))), (q49, .inl (cA 0, 8, .inl (fun _ => 0))), (q57, .inl (cA 0, 8, .inl (fun _ => 0))), (q66, .inl (cA 0, 900, .inl (fun _ => 0)))] H := hP
  have hD : va_D A [(h0, .inr (0, [.int 5, .int 0, .int 0, .int 0, .int 0, .int 0, .int 0, .ref q11, .ref q18, .ref q25, .ref q33, .ref q41, .ref q49, .ref q57, .null])), (q11, .inl (cA 0, 3, .inl (fun _ => 0))), (q18, .inl (cA 0, 3, .inl (fun _ => 0))), (q25, .inl (cA 0, 4, .inl (fun _ => 0))), (q33, .inl (cA 0, 8, .inl (fun _ => 0))), (q41, .inl (cA 0, 8, .inl (fun _ => 0))), (q49, .inl (cA 0, 8, .inl (fun _ => 0))), (q57, .inl (cA 0, 8, .inl (fun _ => 0))), (q66, .inl (cA 0, 900, .inl (fun _ => 0)))] := hD
  refine va_putF (D := D) (ci := 0) (v := .ref q66) (ty := .array .int) (C := RX0) (T := TX0) (N := 15) hx hb hts hin tyX0 tyX0_ok nmX0 hown hK hP hD hS 0 rfl rfl 14 (by decide) (hts _ (List.mem_cons_of_mem _ (kwX0 _ (List.mem_of_getElem? (i := 9) rfl)))) (fun _ h9 => h9) rfl hnm rfl (by decide +kernel) rfl rfl (Nat.le_of_ble_eq_true rfl) dX0_init_68 (fun H locs hP hD hS => ?_)
  have hP : va_P D vwCl [(h0, .inr (0, [.int 5, .int 0, .int 0, .int 0, .int 0, .int 0, .int 0, .ref q11, .ref q18, .ref q25, .ref q33, .ref q41, .ref q49, .ref q57, .ref q66])), (q11, .inl (cA 0, 3, .inl (fun _ => 0))), (q18, .inl (cA 0, 3, .inl (fun _ => 0))), (q25, .inl (cA 0, 4, .inl (fun _ => 0))), (q33, .inl (cA 0, 8, .inl (fun _ => 0))), (q41, .inl (cA 0, 8, .inl (fun _ => 0))), (q49, .inl (cA 0, 8, .inl (fun _ => 0))), (q57, .inl (cA 0, 8, .inl (fun _ => 0))), (q66, .inl (cA 0, 900, .inl (fun _ => 0)))] H := hP
  have hD : va_D A [(h0, .inr (0, [.int 5, .int 0, .int 0, .int 0, .int 0, .int 0, .int 0, .ref q11, .ref q18, .ref q25, .ref q33, .ref q41, .ref q49, .ref q57, .ref q66])), (q11, .inl (cA 0, 3, .inl (fun _ => 0))), (q18, .inl (cA 0, 3, .inl (fun _ => 0))), (q25, .inl (cA 0, 4, .inl (fun _ => 0))), (q33, .inl (cA 0, 8, .inl (fun _ => 0))), (q41, .inl (cA 0, 8, .inl (fun _ => 0))), (q49, .inl (cA 0, 8, .inl (fun _ => 0))), (q57, .inl (cA 0, 8, .inl (fun _ => 0))), (q66, .inl (cA 0, 900, .inl (fun _ => 0)))] := hD
  refine W.widen (k := 8) (n := 942) (Nat.le_of_ble_eq_true rfl) (Nat.le_of_ble_eq_true rfl) ?_
  exact W.vret hx hb hr (fun t ht hW => ⟨⟨(), rfl, trivial, (fun k => match k with | 0 => q11 | 1 => q18 | 2 => q25 | 3 => q33 | 4 => q41 | 5 => q49 | 6 => q57 | 7 => q66 | _ => 0), by rw [ht]; exact hP, va_K.moved hW.alike hK, hD⟩, hS.F ht⟩) hS.2.2 dX0_init_71
