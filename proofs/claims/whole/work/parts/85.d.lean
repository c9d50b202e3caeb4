/-! a constructor, by its contract -/
theorem dX6_init_0 : decode cX6_init 0 = .ok (.aload_n 0, 1) := by decide +kernel
theorem dX6_init_1 : decode cX6_init 1 = .ok (.invokespecial 3, 3) := by decide +kernel
theorem dX6_init_4 : decode cX6_init 4 = .ok (.aload_n 0, 1) := by decide +kernel
theorem dX6_init_5 : decode cX6_init 5 = .ok (.bipush 10, 2) := by decide +kernel
theorem dX6_init_7 : decode cX6_init 7 = .ok (.bipush 35, 2) := by decide +kernel
theorem dX6_init_9 : decode cX6_init 9 = .ok (.multianewarray 9 2, 4) := by decide +kernel
theorem dX6_init_13 : decode cX6_init 13 = .ok (.putfield 11, 3) := by decide +kernel
theorem dX6_init_16 : decode cX6_init 16 = .ok (.return_, 1) := by decide +kernel
abbrev WX6 (cA : Nat → ClassId) (h0 : Nat) (q : Nat → Nat) : va_W := [(h0, .inr (5, [.int 0, .int 0, .ref (q 0)])), ((q 0), .inl (cA 3, 10, .inr (.inr (.inr (.inr (fun i => if i < 10 then some ((q 0) + 1 + i) else none)))))), ((q 0) + 1 + 0, .inl (cA 0, 35, .inl (fun _ => 0))), ((q 0) + 1 + 1, .inl (cA 0, 35, .inl (fun _ => 0))), ((q 0) + 1 + 2, .inl (cA 0, 35, .inl (fun _ => 0))), ((q 0) + 1 + 3, .inl (cA 0, 35, .inl (fun _ => 0))), ((q 0) + 1 + 4, .inl (cA 0, 35, .inl (fun _ => 0))), ((q 0) + 1 + 5, .inl (cA 0, 35, .inl (fun _ => 0))), ((q 0) + 1 + 6, .inl (cA 0, 35, .inl (fun _ => 0))), ((q 0) + 1 + 7, .inl (cA 0, 35, .inl (fun _ => 0))), ((q 0) + 1 + 8, .inl (cA 0, 35, .inl (fun _ => 0))), ((q 0) + 1 + 9, .inl (cA 0, 35, .inl (fun _ => 0)))]
abbrev VX6 (h0 : Nat) : va_W := [(h0, .inr (5, [.int 0, .int 0, .null]))]
set_option maxRecDepth 100000 in
theorem kwX6 : ∀ w ∈ ([.methodLink RX6 3 objectInit, .classLink RX6 9 "[[I", .fieldLink RX6 11 "LateMirror$Past" "rows" "[[I"] : List Cond), w ∈ mw_wd := mw_pl (ps := [342, 343, 348]) (by decide +kernel) (by decide +kernel)
set_option maxRecDepth 100000 in
theorem kcX6 : Cond.code yX6_init cX6_init 1 none ∈ mw_wd := mw_wd_of (List.mem_of_getElem? (i := 341) rfl) rfl
set_option maxHeartbeats 4000000 in
set_option maxRecDepth 100000 in
theorem knX6 (l : Launch) (D : va_G) (cA : Nat → ClassId) (h0 sz : Nat) : Met l yX6_init (Cond.code yX6_init cX6_init 1 none :: mw_wd) ({ frames := 1, cells := 11, slots := 360, locals := 40 }) (kc_P D cA [.ref h0] (VX6 h0) sz) (kc_Q D cA (WX6 cA h0) (va_A (VX6 h0) sz)) 11 360 (va_A (VX6 h0) sz) := by
  refine Met.ofW (cc := cX6_init) (maxL := 1) (ret := none) (by decide) rfl ?_
  intro p e s m args below meth c s₁ B hml hv
  obtain ⟨rfl, hsz, hP, hK, hD0, hOi, hOl⟩ := hv
  have hx := B.exec
  have hb := B.bytes
  have hr := B.returns
  have hts := atoms_spec (ws := Cond.code yX6_init cX6_init 1 none :: mw_wd) B.pre
  have hin : ∀ w ∈ u_ws RX6 TX6 3, w ∈ Cond.code yX6_init cX6_init 1 none :: mw_wd := fun w hw => List.mem_cons_of_mem _ (mw_lay_in w (List.mem_flatMap.mpr ⟨(RX6, TX6, 3), List.mem_of_getElem? (i := 5) rfl, hw⟩))
  have hown : s.vm.findClass RX6 = some m.cls := findClass_of_methodNamed B.named
  have hlocks := B.notSynchronized
  have hnm : meth.name = "<init>" := (name_of_methodNamed B.named B.method).1
  subst hsz
  have hD := hD0.self (sz := s.heap.size)
  generalize hAe : va_A (VX6 h0) s.heap.size = A at hD ⊢
  have hA : ∀ q : Nat, s.heap.size ≤ q → A q := fun q h => by rw [← hAe]; exact Or.inr h
  have hS : va_S A s.heap s.heap [] := va_S.rf
  have hl := lv_entry ([.ref h0]) (n := 1) (Nat.le_of_ble_eq_true rfl)
  rw [lg_entry_eq]
  generalize (lg_sl ([.ref h0]) ++ List.replicate (1 - (lg_sl ([.ref h0])).length) Slot.unset).toArray = ls at hl ⊢
  have hl : lv_has ls 1 [(0, .ref h0)] := hl
  have hP : va_P D vwCl [(h0, .inr (5, [.int 0, .int 0, .null]))] s.heap := hP
  have hD : va_D A [(h0, .inr (5, [.int 0, .int 0, .null]))] := hD
  refine lv_aload_n hx hb dX6_init_0 rfl (lv_at hl 0 rfl) ?_
  refine W.objInit hx hb hown (hts _ (List.mem_cons_of_mem _ (kwX6 _ (List.mem_of_getElem? (i := 0) rfl)))) (hts _ (List.mem_cons_of_mem _ kw_oi)) (hts _ (List.mem_cons_of_mem _ kw_oc)) rfl (by rw [hml]; exact hl.1) rfl dX6_init_1 (Nat.le_of_ble_eq_true rfl) (Nat.le_of_ble_eq_true rfl) ?_
  refine W.eq (g2 := F0 m 4 ls []) rfl ?_
  refine lv_aload_n hx hb dX6_init_4 rfl (lv_at hl 0 rfl) ?_
  refine lv_bipush (v := 10) hx hb dX6_init_5 (by decide) ?_
  refine lv_bipush (v := 35) hx hb dX6_init_7 (by decide) ?_
  refine nw_ii hx hb hown (hts _ (List.mem_cons_of_mem _ (kwX6 _ (List.mem_of_getElem? (i := 1) rfl)))) hOi (hts _ (List.mem_cons_of_mem _ kw_ai)) hK hP hD hS hA (N := 10) (M := 35) (by decide) (by decide) (by decide) (by decide) (Nat.le_of_ble_eq_true rfl) (Nat.le_of_ble_eq_true rfl) (Nat.le_of_ble_eq_true rfl) (Nat.le_of_ble_eq_true rfl) (Nat.le_of_ble_eq_true rfl) dX6_init_9 (fun q9 H locs hP hD hS => ?_)
  have hP : va_P D vwCl [(h0, .inr (5, [.int 0, .int 0, .null])), (q9, .inl (cA 3, 10, .inr (.inr (.inr (.inr (fun i => if i < 10 then some (q9 + 1 + i) else none)))))), (q9 + 1 + 0, .inl (cA 0, 35, .inl (fun _ => 0))), (q9 + 1 + 1, .inl (cA 0, 35, .inl (fun _ => 0))), (q9 + 1 + 2, .inl (cA 0, 35, .inl (fun _ => 0))), (q9 + 1 + 3, .inl (cA 0, 35, .inl (fun _ => 0))), (q9 + 1 + 4, .inl (cA 0, 35, .inl (fun _ => 0))), (q9 + 1 + 5, .inl (cA 0, 35, .inl (fun _ => 0))), (q9 + 1 + 6, .inl (cA 0, 35, .inl (fun _ => 0))), (q9 + 1 + 7, .inl (cA 0, 35, .inl (fun _ => 0))), (q9 + 1 + 8, .inl (cA 0, 35, .inl (fun _ => 0))), (q9 + 1 + 9, .inl (cA 0, 35, .inl (fun _ => 0)))] H := hP
  have hD : va_D A [(h0, .inr (5, [.int 0, .int 0, .null])), (q9, .inl (cA 3, 10, .inr (.inr (.inr (.inr (fun i => if i < 10 then some (q9 + 1 + i) else none)))))), (q9 + 1 + 0, .inl (cA 0, 35, .inl (fun _ => 0))), (q9 + 1 + 1, .inl (cA 0, 35, .inl (fun _ => 0))), (q9 + 1 + 2, .inl (cA 0, 35, .inl (fun _ => 0))), (q9 + 1 + 3, .inl (cA 0, 35, .inl (fun _ => 0))), (q9 + 1 + 4, .inl (cA 0, 35, .inl (fun _ => 0))), (q9 + 1 + 5, .inl (cA 0, 35, .inl (fun _ => 0))), (q9 + 1 + 6, .inl (cA 0, 35, .inl (fun _ => 0))), (q9 + 1 + 7, .inl (cA 0, 35, .inl (fun _ => 0))), (q9 + 1 + 8, .inl (cA 0, 35, .inl (fun _ => 0))), (q9 + 1 + 9, .inl (cA 0, 35, .inl (fun _ => 0)))] := hD
  refine va_putF (D := D) (ci := 5) (v := .ref q9) (ty := .array (.array .int)) (C := RX6) (T := TX6) (N := 3) hx hb hts hin tyX6 tyX6_ok nmX6 hown hK hP hD hS 0 rfl rfl 2 (by decide) (hts _ (List.mem_cons_of_mem _ (kwX6 _ (List.mem_of_getElem? (i := 2) rfl)))) (fun _ h9 => h9) rfl hnm rfl (by decide +kernel) rfl rfl (Nat.le_of_ble_eq_true rfl) dX6_init_13 (fun H locs hP hD hS => ?_)
  have hP : va_P D vwCl [(h0, .inr (5, [.int 0, .int 0, .ref q9])), (q9, .inl (cA 3, 10, .inr (.inr (.inr (.inr (fun i => if i < 10 then some (q9 + 1 + i) else none)))))), (q9 + 1 + 0, .inl (cA 0, 35, .inl (fun _ => 0))), (q9 + 1 + 1, .inl (cA 0, 35, .inl (fun _ => 0))), (q9 + 1 + 2, .inl (cA 0, 35, .inl (fun _ => 0))), (q9 + 1 + 3, .inl (cA 0, 35, .inl (fun _ => 0))), (q9 + 1 + 4, .inl (cA 0, 35, .inl (fun _ => 0))), (q9 + 1 + 5, .inl (cA 0, 35, .inl (fun _ => 0))), (q9 + 1 + 6, .inl (cA 0, 35, .inl (fun _ => 0))), (q9 + 1 + 7, .inl (cA 0, 35, .inl (fun _ => 0))), (q9 + 1 + 8, .inl (cA 0, 35, .inl (fun _ => 0))), (q9 + 1 + 9, .inl (cA 0, 35, .inl (fun _ => 0)))] H := hP
  have hD : va_D A [(h0, .inr (5, [.int 0, .int 0, .ref q9])), (q9, .inl (cA 3, 10, .inr (.inr (.inr (.inr (fun i => if i < 10 then some (q9 + 1 + i) else none)))))), (q9 + 1 + 0, .inl (cA 0, 35, .inl (fun _ => 0))), (q9 + 1 + 1, .inl (cA 0, 35, .inl (fun _ => 0))), (q9 + 1 + 2, .inl (cA 0, 35, .inl (fun _ => 0))), (q9 + 1 + 3, .inl (cA 0, 35, .inl (fun _ => 0))), (q9 + 1 + 4, .inl (cA 0, 35, .inl (fun _ => 0))), (q9 + 1 + 5, .inl (cA 0, 35, .inl (fun _ => 0))), (q9 + 1 + 6, .inl (cA 0, 35, .inl (fun _ => 0))), (q9 + 1 + 7, .inl (cA 0, 35, .inl (fun _ => 0))), (q9 + 1 + 8, .inl (cA 0, 35, .inl (fun _ => 0))), (q9 + 1 + 9, .inl (cA 0, 35, .inl (fun _ => 0)))] := hD
  refine W.widen (k := 11) (n := 360) (Nat.le_of_ble_eq_true rfl) (Nat.le_of_ble_eq_true rfl) ?_
  exact W.vret hx hb hr (fun t ht hW => ⟨⟨(), rfl, trivial, (fun k => match k with | 0 => q9 | _ => 0), by rw [ht]; exact hP, va_K.moved hW.alike hK, hD⟩, hS.F ht⟩) hS.2.2 dX6_init_16
