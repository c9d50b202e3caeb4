/-! a constructor that calls others, by its contract -/
theorem dX4_init_0 : decode cX4_init 0 = .ok (.aload_n 0, 1) := by decide +kernel
theorem dX4_init_1 : decode cX4_init 1 = .ok (.invokespecial 3, 3) := by decide +kernel
theorem dX4_init_4 : decode cX4_init 4 = .ok (.aload_n 0, 1) := by decide +kernel
theorem dX4_init_5 : decode cX4_init 5 = .ok (.new 9, 3) := by decide +kernel
theorem dX4_init_8 : decode cX4_init 8 = .ok (.dup, 1) := by decide +kernel
theorem dX4_init_9 : decode cX4_init 9 = .ok (.invokespecial 11, 3) := by decide +kernel
theorem dX4_init_12 : decode cX4_init 12 = .ok (.putfield 12, 3) := by decide +kernel
theorem dX4_init_15 : decode cX4_init 15 = .ok (.aload_n 0, 1) := by decide +kernel
theorem dX4_init_16 : decode cX4_init 16 = .ok (.bipush 35, 2) := by decide +kernel
theorem dX4_init_18 : decode cX4_init 18 = .ok (.newarray .int, 2) := by decide +kernel
theorem dX4_init_20 : decode cX4_init 20 = .ok (.putfield 18, 3) := by decide +kernel
theorem dX4_init_23 : decode cX4_init 23 = .ok (.return_, 1) := by decide +kernel
abbrev WX4 (cA : Nat → ClassId) (h0 : Nat) (q : Nat → Nat) : va_W := [(h0, .inr (3, [.int 0, .ref (q 0), .ref (q 9)])), ((q 0), .inr (0, [.int 5, .int 0, .int 0, .int 0, .int 0, .int 0, .int 0, .ref (q 1), .ref (q 2), .ref (q 3), .ref (q 4), .ref (q 5), .ref (q 6), .ref (q 7), .ref (q 8)])), ((q 1), .inl (cA 0, 3, .inl (fun _ => 0))), ((q 2), .inl (cA 0, 3, .inl (fun _ => 0))), ((q 3), .inl (cA 0, 4, .inl (fun _ => 0))), ((q 4), .inl (cA 0, 8, .inl (fun _ => 0))), ((q 5), .inl (cA 0, 8, .inl (fun _ => 0))), ((q 6), .inl (cA 0, 8, .inl (fun _ => 0))), ((q 7), .inl (cA 0, 8, .inl (fun _ => 0))), ((q 8), .inl (cA 0, 900, .inl (fun _ => 0))), ((q 9), .inl (cA 0, 35, .inl (fun _ => 0)))]
abbrev VX4 (h0 : Nat) : va_W := [(h0, .inr (3, [.int 0, .null, .null]))]
set_option maxRecDepth 100000 in
theorem kwX4 : ∀ w ∈ ([.methodLink RX4 3 objectInit, .classLink RX4 9 RX0, .instantiable RX0 15, .initialized RX0, .instanceMethod yX0_init, .fieldLink RX4 12 "LateMirror$Image" "told" "LLateMirror$Arcade;", .fieldLink RX4 18 "LateMirror$Image" "row" "[I"] : List Cond), w ∈ mw_wd := mw_pl (ps := [536, 537, 158, 123, 160, 541, 543]) (by decide +kernel) (by decide +kernel)
set_option maxRecDepth 100000 in
theorem kcX4 : Cond.code yX4_init cX4_init 1 none ∈ mw_wd := mw_wd_of (List.mem_of_getElem? (i := 535) rfl) rfl
set_option maxHeartbeats 40000000 in
set_option maxRecDepth 100000 in
theorem knX4 (l : Launch) (D : va_G) (cA : Nat → ClassId) (h0 sz : Nat) : Met l yX4_init (Cond.code yX4_init cX4_init 1 none :: mw_wd) ({ frames := 2, cells := 10, slots := 992, locals := 80 }) (kd_P D cA [.ref h0] (VX4 h0) sz) (kc_Q D cA (WX4 cA h0) (va_A (VX4 h0) sz)) 10 992 (va_A (VX4 h0) sz) := by
  refine Met.ofW (cc := cX4_init) (maxL := 1) (ret := none) (by decide) rfl ?_
  intro p e s m args below meth c s₁ B hml hv
  obtain ⟨rfl, hsz, hP, hK, hD0, hOi, hOl, hN⟩ := hv
  have hx := B.exec
  have hb := B.bytes
  have hr := B.returns
  have hts := atoms_spec (ws := Cond.code yX4_init cX4_init 1 none :: mw_wd) B.pre
  have hin : ∀ w ∈ u_ws RX4 TX4 3, w ∈ Cond.code yX4_init cX4_init 1 none :: mw_wd := fun w hw => List.mem_cons_of_mem _ (mw_lay_in w (List.mem_flatMap.mpr ⟨(RX4, TX4, 3), List.mem_of_getElem? (i := 3) rfl, hw⟩))
  have hown : s.vm.findClass RX4 = some m.cls := findClass_of_methodNamed B.named
  have hnm : meth.name = "<init>" := (name_of_methodNamed B.named B.method).1
  subst hsz
  have hD := hD0.self (sz := s.heap.size)
  generalize hAe : va_A (VX4 h0) s.heap.size = A at hD ⊢
  have hA : ∀ q : Nat, s.heap.size ≤ q → A q := fun q h => by rw [← hAe]; exact Or.inr h
  have hS : va_S A s.heap s.heap [] := va_S.rf
  have hl := lv_entry ([.ref h0]) (n := 1) (Nat.le_of_ble_eq_true rfl)
  rw [lg_entry_eq]
  generalize (lg_sl ([.ref h0]) ++ List.replicate (1 - (lg_sl ([.ref h0])).length) Slot.unset).toArray = ls at hl ⊢
  have hl : lv_has ls 1 [(0, .ref h0)] := hl
  have hP : va_P D vwCl [(h0, .inr (3, [.int 0, .null, .null]))] s.heap := hP
  have hD : va_D A [(h0, .inr (3, [.int 0, .null, .null]))] := hD
  refine lv_aload_n hx hb dX4_init_0 rfl (lv_at hl 0 rfl) ?_
  refine W.objInit hx hb hown (hts _ (List.mem_cons_of_mem _ (kwX4 _ (List.mem_of_getElem? (i := 0) rfl)))) (hts _ (List.mem_cons_of_mem _ kw_oi)) (hts _ (List.mem_cons_of_mem _ kw_oc)) rfl (by rw [hml]; exact hl.1) rfl dX4_init_1 (Nat.le_of_ble_eq_true rfl) (Nat.le_of_ble_eq_true rfl) ?_
  refine W.eq (g2 := F0 m 4 ls []) rfl ?_
  refine lv_aload_n hx hb dX4_init_4 rfl (lv_at hl 0 rfl) ?_
  refine va_new (ci := 0) (fs := [.int 0, .int 0, .int 0, .int 0, .int 0, .int 0, .int 0, .null, .null, .null, .null, .null, .null, .null, .null]) (C := RX0) (T := TX0) (N := 15) hx hb hts (fun w hw => List.mem_cons_of_mem _ (mw_lay_in w (List.mem_flatMap.mpr ⟨(RX0, TX0, 15), List.mem_of_getElem? (i := 0) rfl, hw⟩))) tyX0 tyX0_ok hown (hts _ (List.mem_cons_of_mem _ (kwX4 _ (List.mem_of_getElem? (i := 1) rfl)))) (hts _ (List.mem_cons_of_mem _ (kwX4 _ (List.mem_of_getElem? (i := 2) rfl)))) (hts _ (List.mem_cons_of_mem _ (kwX4 _ (List.mem_of_getElem? (i := 3) rfl)))) hK hP hD hS hA rfl (fun j hj => by rcases (show j = 0 ∨ j = 1 ∨ j = 2 ∨ j = 3 ∨ j = 4 ∨ j = 5 ∨ j = 6 ∨ j = 7 ∨ j = 8 ∨ j = 9 ∨ j = 10 ∨ j = 11 ∨ j = 12 ∨ j = 13 ∨ j = 14 by omega) with rfl | rfl | rfl | rfl | rfl | rfl | rfl | rfl | rfl | rfl | rfl | rfl | rfl | rfl | rfl <;> rfl) (Nat.le_of_ble_eq_true rfl) (Nat.le_of_ble_eq_true rfl) dX4_init_5 (fun q5 H hP hD hS => ?_)
  have hP : va_P D vwCl [(h0, .inr (3, [.int 0, .null, .null])), (q5, .inr (0, [.int 0, .int 0, .int 0, .int 0, .int 0, .int 0, .int 0, .null, .null, .null, .null, .null, .null, .null, .null]))] H := hP
  have hD : va_D A [(h0, .inr (3, [.int 0, .null, .null])), (q5, .inr (0, [.int 0, .int 0, .int 0, .int 0, .int 0, .int 0, .int 0, .null, .null, .null, .null, .null, .null, .null, .null]))] := hD
  refine lv_dup hx hb dX4_init_8 rfl ?_
  have hPc := hP.sub (ws' := VX0 q5) [1] rfl
  have hDc := hD.sub (ws' := VX0 q5) [1] (by decide) rfl
  have hFc := va_free (wc := VX0 q5) hD hS hA [1] rfl
  refine va_callv (va_runIN (As := []) (rest := [.ref q5, .ref h0]) ⟨hx, hb, hml, hown, hts⟩ (knX0 l D cA q5 H.size) ⟨va_cnB 0 hts (kc_good kcX0) rfl rfl rfl (hN _ (List.mem_of_getElem? (i := 1) rfl)) (hts _ (List.mem_cons_of_mem _ (kwX4 _ (List.mem_of_getElem? (i := 3) rfl)))) ⟨by decide, by decide, by decide +kernel⟩ ⟨Nat.le_of_ble_eq_true rfl, Nat.le_of_ble_eq_true rfl⟩, rfl, (hts _ (List.mem_cons_of_mem _ (kwX4 _ (List.mem_of_getElem? (i := 4) rfl))))⟩ (kc_pre hPc hK hDc hOi hOl) rfl rfl hl.1 rfl (lv_room (Nat.le_of_ble_eq_true rfl)) dX4_init_9 ⟨Nat.le_of_ble_eq_true rfl, Nat.le_of_ble_eq_true rfl⟩) hS (fun q _ h => hFc q h) hFc (fun u t H1 locs ht hvm hw hB hz1 hk1 hS => ?_)
  obtain ⟨u9, hP1, hK1, hD1⟩ := hB
  rw [ht] at hP1
  obtain ⟨hP, hD⟩ := va_join (wr := [(h0, .inr (3, [.int 0, .null, .null]))]) (w1 := WX0 cA q5 u9) hP hD [1] [0] rfl rfl (by decide +kernel) (by decide +kernel) hk1 hFc hP1 hD1
  clear hPc hDc hFc hP1 hD1 hk1 hK1 hw
  generalize H1 = H at hP hS ⊢
  have hP : va_P D vwCl [(h0, .inr (3, [.int 0, .null, .null])), (q5, .inr (0, [.int 5, .int 0, .int 0, .int 0, .int 0, .int 0, .int 0, .ref (u9 0), .ref (u9 1), .ref (u9 2), .ref (u9 3), .ref (u9 4), .ref (u9 5), .ref (u9 6), .ref (u9 7)])), ((u9 0), .inl (cA 0, 3, .inl (fun _ => 0))), ((u9 1), .inl (cA 0, 3, .inl (fun _ => 0))), ((u9 2), .inl (cA 0, 4, .inl (fun _ => 0))), ((u9 3), .inl (cA 0, 8, .inl (fun _ => 0))), ((u9 4), .inl (cA 0, 8, .inl (fun _ => 0))), ((u9 5), .inl (cA 0, 8, .inl (fun _ => 0))), ((u9 6), .inl (cA 0, 8, .inl (fun _ => 0))), ((u9 7), .inl (cA 0, 900, .inl (fun _ => 0)))] H := hP
  have hD : va_D A [(h0, .inr (3, [.int 0, .null, .null])), (q5, .inr (0, [.int 5, .int 0, .int 0, .int 0, .int 0, .int 0, .int 0, .ref (u9 0), .ref (u9 1), .ref (u9 2), .ref (u9 3), .ref (u9 4), .ref (u9 5), .ref (u9 6), .ref (u9 7)])), ((u9 0), .inl (cA 0, 3, .inl (fun _ => 0))), ((u9 1), .inl (cA 0, 3, .inl (fun _ => 0))), ((u9 2), .inl (cA 0, 4, .inl (fun _ => 0))), ((u9 3), .inl (cA 0, 8, .inl (fun _ => 0))), ((u9 4), .inl (cA 0, 8, .inl (fun _ => 0))), ((u9 5), .inl (cA 0, 8, .inl (fun _ => 0))), ((u9 6), .inl (cA 0, 8, .inl (fun _ => 0))), ((u9 7), .inl (cA 0, 900, .inl (fun _ => 0)))] := hD
  refine va_putF (D := D) (ci := 3) (v := .ref q5) (ty := .object "LateMirror$Arcade") (C := RX4) (T := TX4) (N := 3) hx hb hts hin tyX4 tyX4_ok nmX4 hown hK hP hD hS 0 rfl rfl 1 (by decide) (hts _ (List.mem_cons_of_mem _ (kwX4 _ (List.mem_of_getElem? (i := 5) rfl)))) (fun _ h9 => h9) rfl hnm rfl (by decide +kernel) rfl rfl (Nat.le_of_ble_eq_true rfl) dX4_init_12 (fun H locs hP hD hS => ?_)
  have hP : va_P D vwCl [(h0, .inr (3, [.int 0, .ref q5, .null])), (q5, .inr (0, [.int 5, .int 0, .int 0, .int 0, .int 0, .int 0, .int 0, .ref (u9 0), .ref (u9 1), .ref (u9 2), .ref (u9 3), .ref (u9 4), .ref (u9 5), .ref (u9 6), .ref (u9 7)])), ((u9 0), .inl (cA 0, 3, .inl (fun _ => 0))), ((u9 1), .inl (cA 0, 3, .inl (fun _ => 0))), ((u9 2), .inl (cA 0, 4, .inl (fun _ => 0))), ((u9 3), .inl (cA 0, 8, .inl (fun _ => 0))), ((u9 4), .inl (cA 0, 8, .inl (fun _ => 0))), ((u9 5), .inl (cA 0, 8, .inl (fun _ => 0))), ((u9 6), .inl (cA 0, 8, .inl (fun _ => 0))), ((u9 7), .inl (cA 0, 900, .inl (fun _ => 0)))] H := hP
  have hD : va_D A [(h0, .inr (3, [.int 0, .ref q5, .null])), (q5, .inr (0, [.int 5, .int 0, .int 0, .int 0, .int 0, .int 0, .int 0, .ref (u9 0), .ref (u9 1), .ref (u9 2), .ref (u9 3), .ref (u9 4), .ref (u9 5), .ref (u9 6), .ref (u9 7)])), ((u9 0), .inl (cA 0, 3, .inl (fun _ => 0))), ((u9 1), .inl (cA 0, 3, .inl (fun _ => 0))), ((u9 2), .inl (cA 0, 4, .inl (fun _ => 0))), ((u9 3), .inl (cA 0, 8, .inl (fun _ => 0))), ((u9 4), .inl (cA 0, 8, .inl (fun _ => 0))), ((u9 5), .inl (cA 0, 8, .inl (fun _ => 0))), ((u9 6), .inl (cA 0, 8, .inl (fun _ => 0))), ((u9 7), .inl (cA 0, 900, .inl (fun _ => 0)))] := hD
  refine lv_aload_n hx hb dX4_init_15 rfl (lv_at hl 0 rfl) ?_
  refine lv_bipush (v := 35) hx hb dX4_init_16 (by decide) ?_
  refine nw_i hx hb (hts _ (List.mem_cons_of_mem _ kw_ai)) hK hP hD hS hA (N := 35) (by decide) (by decide) (Nat.le_of_ble_eq_true rfl) (Nat.le_of_ble_eq_true rfl) (Nat.le_of_ble_eq_true rfl) dX4_init_18 (fun q18 H hP hD hS => ?_)
  have hP : va_P D vwCl [(h0, .inr (3, [.int 0, .ref q5, .null])), (q5, .inr (0, [.int 5, .int 0, .int 0, .int 0, .int 0, .int 0, .int 0, .ref (u9 0), .ref (u9 1), .ref (u9 2), .ref (u9 3), .ref (u9 4), .ref (u9 5), .ref (u9 6), .ref (u9 7)])), ((u9 0), .inl (cA 0, 3, .inl (fun _ => 0))), ((u9 1), .inl (cA 0, 3, .inl (fun _ => 0))), ((u9 2), .inl (cA 0, 4, .inl (fun _ => 0))), ((u9 3), .inl (cA 0, 8, .inl (fun _ => 0))), ((u9 4), .inl (cA 0, 8, .inl (fun _ => 0))), ((u9 5), .inl (cA 0, 8, .inl (fun _ => 0))), ((u9 6), .inl (cA 0, 8, .inl (fun _ => 0))), ((u9 7), .inl (cA 0, 900, .inl (fun _ => 0))), (q18, .inl (cA 0, 35, .inl (fun _ => 0)))] H := hP
  have hD : va_D A [(h0, .inr (3, [.int 0, .ref q5, .null])), (q5, .inr (0, [.int 5, .int 0, .int 0, .int 0, .int 0, .int 0, .int 0, .ref (u9 0), .ref (u9 1), .ref (u9 2), .ref (u9 3), .ref (u9 4), .ref (u9 5), .ref (u9 6), .ref (u9 7)])), ((u9 0), .inl (cA 0, 3, .inl (fun _ => 0))), ((u9 1), .inl (cA 0, 3, .inl (fun _ => 0))), ((u9 2), .inl (cA 0, 4, .inl (fun _ => 0))), ((u9 3), .inl (cA 0, 8, .inl (fun _ => 0))), ((u9 4), .inl (cA 0, 8, .inl (fun _ => 0))), ((u9 5), .inl (cA 0, 8, .inl (fun _ => 0))), ((u9 6), .inl (cA 0, 8, .inl (fun _ => 0))), ((u9 7), .inl (cA 0, 900, .inl (fun _ => 0))), (q18, .inl (cA 0, 35, .inl (fun _ => 0)))] := hD
  refine va_putF (D := D) (ci := 3) (v := .ref q18) (ty := .array .int) (C := RX4) (T := TX4) (N := 3) hx hb hts hin tyX4 tyX4_ok nmX4 hown hK hP hD hS 0 rfl rfl 2 (by decide) (hts _ (List.mem_cons_of_mem _ (kwX4 _ (List.mem_of_getElem? (i := 6) rfl)))) (fun _ h9 => h9) rfl hnm rfl (by decide +kernel) rfl rfl (Nat.le_of_ble_eq_true rfl) dX4_init_20 (fun H locs hP hD hS => ?_)
  have hP : va_P D vwCl [(h0, .inr (3, [.int 0, .ref q5, .ref q18])), (q5, .inr (0, [.int 5, .int 0, .int 0, .int 0, .int 0, .int 0, .int 0, .ref (u9 0), .ref (u9 1), .ref (u9 2), .ref (u9 3), .ref (u9 4), .ref (u9 5), .ref (u9 6), .ref (u9 7)])), ((u9 0), .inl (cA 0, 3, .inl (fun _ => 0))), ((u9 1), .inl (cA 0, 3, .inl (fun _ => 0))), ((u9 2), .inl (cA 0, 4, .inl (fun _ => 0))), ((u9 3), .inl (cA 0, 8, .inl (fun _ => 0))), ((u9 4), .inl (cA 0, 8, .inl (fun _ => 0))), ((u9 5), .inl (cA 0, 8, .inl (fun _ => 0))), ((u9 6), .inl (cA 0, 8, .inl (fun _ => 0))), ((u9 7), .inl (cA 0, 900, .inl (fun _ => 0))), (q18, .inl (cA 0, 35, .inl (fun _ => 0)))] H := hP
  have hD : va_D A [(h0, .inr (3, [.int 0, .ref q5, .ref q18])), (q5, .inr (0, [.int 5, .int 0, .int 0, .int 0, .int 0, .int 0, .int 0, .ref (u9 0), .ref (u9 1), .ref (u9 2), .ref (u9 3), .ref (u9 4), .ref (u9 5), .ref (u9 6), .ref (u9 7)])), ((u9 0), .inl (cA 0, 3, .inl (fun _ => 0))), ((u9 1), .inl (cA 0, 3, .inl (fun _ => 0))), ((u9 2), .inl (cA 0, 4, .inl (fun _ => 0))), ((u9 3), .inl (cA 0, 8, .inl (fun _ => 0))), ((u9 4), .inl (cA 0, 8, .inl (fun _ => 0))), ((u9 5), .inl (cA 0, 8, .inl (fun _ => 0))), ((u9 6), .inl (cA 0, 8, .inl (fun _ => 0))), ((u9 7), .inl (cA 0, 900, .inl (fun _ => 0))), (q18, .inl (cA 0, 35, .inl (fun _ => 0)))] := hD
  refine W.widen (k := 10) (n := 992) (Nat.le_of_ble_eq_true rfl) (Nat.le_of_ble_eq_true rfl) ?_
  exact W.vret hx hb hr (fun t ht hW => ⟨⟨(), rfl, trivial, (fun k => match k with | 0 => q5 | 1 => (u9 0) | 2 => (u9 1) | 3 => (u9 2) | 4 => (u9 3) | 5 => (u9 4) | 6 => (u9 5) | 7 => (u9 6) | 8 => (u9 7) | 9 => q18 | _ => 0), by rw [ht]; exact hP, va_K.moved hW.alike hK, hD⟩, hS.F ht⟩) hS.2.2 dX4_init_23
