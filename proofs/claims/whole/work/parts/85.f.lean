/-! a constructor, by its contract -/
theorem dX9_init_0 : decode cX9_init 0 = .ok (.aload_n 0, 1) := by decide +kernel
theorem dX9_init_1 : decode cX9_init 1 = .ok (.invokespecial 3, 3) := by decide +kernel
theorem dX9_init_4 : decode cX9_init 4 = .ok (.aload_n 0, 1) := by decide +kernel
theorem dX9_init_5 : decode cX9_init 5 = .ok (.bipush 64, 2) := by decide +kernel
theorem dX9_init_7 : decode cX9_init 7 = .ok (.newarray .int, 2) := by decide +kernel
theorem dX9_init_9 : decode cX9_init 9 = .ok (.putfield 11, 3) := by decide +kernel
theorem dX9_init_12 : decode cX9_init 12 = .ok (.aload_n 0, 1) := by decide +kernel
theorem dX9_init_13 : decode cX9_init 13 = .ok (.bipush 6, 2) := by decide +kernel
theorem dX9_init_15 : decode cX9_init 15 = .ok (.newarray .int, 2) := by decide +kernel
theorem dX9_init_17 : decode cX9_init 17 = .ok (.putfield 15, 3) := by decide +kernel
theorem dX9_init_20 : decode cX9_init 20 = .ok (.aload_n 0, 1) := by decide +kernel
theorem dX9_init_21 : decode cX9_init 21 = .ok (.aload_n 1, 1) := by decide +kernel
theorem dX9_init_22 : decode cX9_init 22 = .ok (.putfield 18, 3) := by decide +kernel
theorem dX9_init_25 : decode cX9_init 25 = .ok (.return_, 1) := by decide +kernel
abbrev WX9 (cA : Nat → ClassId) (h0 r1 : Nat) (q : Nat → Nat) : va_W := [(h0, .inr (8, [.ref r1, .int 0, .int 0, .int 0, .int 0, .int 0, .ref (q 0), .ref (q 1)])), ((q 0), .inl (cA 0, 64, .inl (fun _ => 0))), ((q 1), .inl (cA 0, 6, .inl (fun _ => 0)))]
abbrev VX9 (h0 : Nat) : va_W := [(h0, .inr (8, [.null, .int 0, .int 0, .int 0, .int 0, .int 0, .null, .null]))]
set_option maxRecDepth 100000 in
theorem kwX9 : ∀ w ∈ ([.methodLink RX9 3 objectInit, .fieldLink RX9 11 "LateMirror$Stage" "waiting" "[I", .fieldLink RX9 15 "LateMirror$Stage" "named" "[I", .fieldLink RX9 18 "LateMirror$Stage" "live" "LLateMirror$Arcade;"] : List Cond), w ∈ mw_wd := mw_pl (ps := [305, 318, 319, 306]) (by decide +kernel) (by decide +kernel)
set_option maxRecDepth 100000 in
theorem kcX9 : Cond.code yX9_init cX9_init 2 none ∈ mw_wd := mw_wd_of (List.mem_of_getElem? (i := 304) rfl) rfl
set_option maxHeartbeats 4000000 in
set_option maxRecDepth 100000 in
theorem knX9 (l : Launch) (D : va_G) (cA : Nat → ClassId) (h0 r1 sz : Nat) : Met l yX9_init (Cond.code yX9_init cX9_init 2 none :: mw_wd) ({ frames := 1, cells := 2, slots := 70, locals := 40 }) (kc_P D cA [.ref h0, .ref r1] (VX9 h0) sz) (kc_Q D cA (WX9 cA h0 r1) (va_A (VX9 h0) sz)) 2 70 (va_A (VX9 h0) sz) := by
  refine Met.ofW (cc := cX9_init) (maxL := 2) (ret := none) (by decide) rfl ?_
  intro p e s m args below meth c s₁ B hml hv
  obtain ⟨rfl, hsz, hP, hK, hD0, hOi, hOl⟩ := hv
  have hx := B.exec
  have hb := B.bytes
  have hr := B.returns
  have hts := atoms_spec (ws := Cond.code yX9_init cX9_init 2 none :: mw_wd) B.pre
  have hin : ∀ w ∈ u_ws RX9 TX9 8, w ∈ Cond.code yX9_init cX9_init 2 none :: mw_wd := fun w hw => List.mem_cons_of_mem _ (mw_lay_in w (List.mem_flatMap.mpr ⟨(RX9, TX9, 8), List.mem_of_getElem? (i := 8) rfl, hw⟩))
  have hown : s.vm.findClass RX9 = some m.cls := findClass_of_methodNamed B.named
  have hlocks := B.notSynchronized
  have hnm : meth.name = "<init>" := (name_of_methodNamed B.named B.method).1
  subst hsz
  have hD := hD0.self (sz := s.heap.size)
  generalize hAe : va_A (VX9 h0) s.heap.size = A at hD ⊢
  have hA : ∀ q : Nat, s.heap.size ≤ q → A q := fun q h => by rw [← hAe]; exact Or.inr h
  have hS : va_S A s.heap s.heap [] := va_S.rf
  have hl := lv_entry ([.ref h0, .ref r1]) (n := 2) (Nat.le_of_ble_eq_true rfl)
  rw [lg_entry_eq]
  generalize (lg_sl ([.ref h0, .ref r1]) ++ List.replicate (2 - (lg_sl ([.ref h0, .ref r1])).length) Slot.unset).toArray = ls at hl ⊢
  have hl : lv_has ls 2 [(0, .ref h0), (1, .ref r1)] := hl
  have hP : va_P D vwCl [(h0, .inr (8, [.null, .int 0, .int 0, .int 0, .int 0, .int 0, .null, .null]))] s.heap := hP
  have hD : va_D A [(h0, .inr (8, [.null, .int 0, .int 0, .int 0, .int 0, .int 0, .null, .null]))] := hD
  refine lv_aload_n hx hb dX9_init_0 rfl (lv_at hl 0 rfl) ?_
  refine W.objInit hx hb hown (hts _ (List.mem_cons_of_mem _ (kwX9 _ (List.mem_of_getElem? (i := 0) rfl)))) (hts _ (List.mem_cons_of_mem _ kw_oi)) (hts _ (List.mem_cons_of_mem _ kw_oc)) rfl (by rw [hml]; exact hl.1) rfl dX9_init_1 (Nat.le_of_ble_eq_true rfl) (Nat.le_of_ble_eq_true rfl) ?_
  refine W.eq (g2 := F0 m 4 ls []) rfl ?_
  refine lv_aload_n hx hb dX9_init_4 rfl (lv_at hl 0 rfl) ?_
  refine lv_bipush (v := 64) hx hb dX9_init_5 (by decide) ?_
  refine nw_i hx hb (hts _ (List.mem_cons_of_mem _ kw_ai)) hK hP hD hS hA (N := 64) (by decide) (by decide) (Nat.le_of_ble_eq_true rfl) (Nat.le_of_ble_eq_true rfl) (Nat.le_of_ble_eq_true rfl) dX9_init_7 (fun q7 H hP hD hS => ?_)
  have hP : va_P D vwCl [(h0, .inr (8, [.null, .int 0, .int 0, .int 0, .int 0, .int 0, .null, .null])), (q7, .inl (cA 0, 64, .inl (fun _ => 0)))] H := hP
  have hD : va_D A [(h0, .inr (8, [.null, .int 0, .int 0, .int 0, .int 0, .int 0, .null, .null])), (q7, .inl (cA 0, 64, .inl (fun _ => 0)))] := hD
  refine va_putF (D := D) (ci := 8) (v := .ref q7) (ty := .array .int) (C := RX9) (T := TX9) (N := 8) hx hb hts hin tyX9 tyX9_ok nmX9 hown hK hP hD hS 0 rfl rfl 6 (by decide) (hts _ (List.mem_cons_of_mem _ (kwX9 _ (List.mem_of_getElem? (i := 1) rfl)))) (fun _ h9 => h9) rfl hnm rfl (by decide +kernel) rfl rfl (Nat.le_of_ble_eq_true rfl) dX9_init_9 (fun H locs hP hD hS => ?_)
  have hP : va_P D vwCl [(h0, .inr (8, [.null, .int 0, .int 0, .int 0, .int 0, .int 0, .ref q7, .null])), (q7, .inl (cA 0, 64, .inl (fun _ => 0)))] H := hP
  have hD : va_D A [(h0, .inr (8, [.null, .int 0, .int 0, .int 0, .int 0, .int 0, .ref q7, .null])), (q7, .inl (cA 0, 64, .inl (fun _ => 0)))] := hD
  refine lv_aload_n hx hb dX9_init_12 rfl (lv_at hl 0 rfl) ?_
  refine lv_bipush (v := 6) hx hb dX9_init_13 (by decide) ?_
  refine nw_i hx hb (hts _ (List.mem_cons_of_mem _ kw_ai)) hK hP hD hS hA (N := 6) (by decide) (by decide) (Nat.le_of_ble_eq_true rfl) (Nat.le_of_ble_eq_true rfl) (Nat.le_of_ble_eq_true rfl) dX9_init_15 (fun q15 H hP hD hS => ?_)
  have hP : va_P D vwCl [(h0, .inr (8, [.null, .int 0, .int 0, .int 0, .int 0, .int 0, .ref q7, .null])), (q7, .inl (cA 0, 64, .inl (fun _ => 0))), (q15, .inl (cA 0, 6, .inl (fun _ => 0)))] H := hP
  have hD : va_D A [(h0, .inr (8, [.null, .int 0, .int 0, .int 0, .int 0, .int 0, .ref q7, .null])), (q7, .inl (cA 0, 64, .inl (fun _ => 0))), (q15, .inl (cA 0, 6, .inl (fun _ => 0)))] := hD
  refine va_putF (D := D) (ci := 8) (v := .ref q15) (ty := .array .int) (C := RX9) (T := TX9) (N := 8) hx hb hts hin tyX9 tyX9_ok nmX9 hown hK hP hD hS 0 rfl rfl 7 (by decide) (hts _ (List.mem_cons_of_mem _ (kwX9 _ (List.mem_of_getElem? (i := 2) rfl)))) (fun _ h9 => h9) rfl hnm rfl (by decide +kernel) rfl rfl (Nat.le_of_ble_eq_true rfl) dX9_init_17 (fun H locs hP hD hS => ?_)
  have hP : va_P D vwCl [(h0, .inr (8, [.null, .int 0, .int 0, .int 0, .int 0, .int 0, .ref q7, .ref q15])), (q7, .inl (cA 0, 64, .inl (fun _ => 0))), (q15, .inl (cA 0, 6, .inl (fun _ => 0)))] H := hP
  have hD : va_D A [(h0, .inr (8, [.null, .int 0, .int 0, .int 0, .int 0, .int 0, .ref q7, .ref q15])), (q7, .inl (cA 0, 64, .inl (fun _ => 0))), (q15, .inl (cA 0, 6, .inl (fun _ => 0)))] := hD
  refine lv_aload_n hx hb dX9_init_20 rfl (lv_at hl 0 rfl) ?_
  refine lv_aload_n hx hb dX9_init_21 rfl (lv_at hl 1 rfl) ?_
  refine va_putF (D := D) (ci := 8) (v := .ref r1) (ty := .object "LateMirror$Arcade") (C := RX9) (T := TX9) (N := 8) hx hb hts hin tyX9 tyX9_ok nmX9 hown hK hP hD hS 0 rfl rfl 0 (by decide) (hts _ (List.mem_cons_of_mem _ (kwX9 _ (List.mem_of_getElem? (i := 3) rfl)))) (fun _ h9 => h9) rfl hnm rfl (by decide +kernel) rfl rfl (Nat.le_of_ble_eq_true rfl) dX9_init_22 (fun H locs hP hD hS => ?_)
  have hP : va_P D vwCl [(h0, .inr (8, [.ref r1, .int 0, .int 0, .int 0, .int 0, .int 0, .ref q7, .ref q15])), (q7, .inl (cA 0, 64, .inl (fun _ => 0))), (q15, .inl (cA 0, 6, .inl (fun _ => 0)))] H := hP
  have hD : va_D A [(h0, .inr (8, [.ref r1, .int 0, .int 0, .int 0, .int 0, .int 0, .ref q7, .ref q15])), (q7, .inl (cA 0, 64, .inl (fun _ => 0))), (q15, .inl (cA 0, 6, .inl (fun _ => 0)))] := hD
  refine W.widen (k := 2) (n := 70) (Nat.le_of_ble_eq_true rfl) (Nat.le_of_ble_eq_true rfl) ?_
  exact W.vret hx hb hr (fun t ht hW => ⟨⟨(), rfl, trivial, (fun k => match k with | 0 => q7 | 1 => q15 | _ => 0), by rw [ht]; exact hP, va_K.moved hW.alike hK, hD⟩, hS.F ht⟩) hS.2.2 dX9_init_25
