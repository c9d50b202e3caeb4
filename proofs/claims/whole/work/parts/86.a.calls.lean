/-! what a constructor that calls others carries; the model's plain row -/
def kn_nL : List (String × Nat × MethodName) := [(RX7, 17, yX0_init), (RX4, 11, yX0_init), (RX11, 11, yX7_init), (RX11, 18, yX0_init), (RX11, 34, yX6_init), (RX11, 41, yX10_init), (RX11, 64, yX5_init), (RX11, 71, yX2_init), (RX11, 78, yX4_init)]
def kn_n (U : State) : Prop := ∀ q ∈ kn_nL, va_Nw (.methodLinkNest q.1 q.2.1 q.2.2 "LateMirror") U
theorem kn_n.warm {s U : State} (hW : s.WarmedH U.vm) (h : kn_n s) : kn_n U := fun q hq => (h q hq).warmM hW
theorem kn_n.same {s U : State} (e : s.vm = U.vm) (h : kn_n s) : kn_n U := fun q hq => (h q hq).same rfl e
abbrev kd_P (D : va_G) (cA : Nat → ClassId) (as : List Value) (W0 : va_W) (sz : Nat) : Array Value → State → Prop := va_Pc as (fun U => U.heap.size = sz ∧ va_P D vwCl W0 U.heap ∧ va_K D vwCl (mw_ty cA) U ∧ va_D (fun _ => True) W0 ∧ nz_O .int U ∧ nz_O .long U ∧ kn_n U)
theorem kc_good {w0 w1 : Cond} (h : w1 ∈ mw_wd) : GoodIn (w0 :: mw_wd) (w1 :: mw_wd) := fun w hw => by
  rcases List.mem_cons.mp hw with rfl | hw
  · exact ⟨List.mem_cons_of_mem _ h, (mw_goodC h).2⟩
  · exact ⟨List.mem_cons_of_mem _ hw, (mw_goodC hw).2⟩
theorem kc_pre {D : va_G} {cA : Nat → ClassId} {as : List Value} {W0 : va_W} {s : State} {H : Heap} {A : Nat → Prop} (hP : va_P D vwCl W0 H) (hK : va_K D vwCl (mw_ty cA) s) (hD : va_D A W0) (hi : nz_O .int s) (hj : nz_O .long s) : PreS s H (kc_P D cA as W0 H.size) as :=
  ⟨fun a U g mk q => by
    obtain ⟨q0, q1, qP, qK, qD, qi, ql⟩ := q
    exact ⟨q0, q1, qP, va_K.moved (u := U) (U := U.calling g mk a) (Vm.Alike.refl U.vm) qK, qD, nz_O.moved (u := U) (U := U.calling g mk a) (Vm.Alike.refl U.vm) qi, nz_O.moved (u := U) (U := U.calling g mk a) (Vm.Alike.refl U.vm) ql⟩, fun U hU hW => ⟨rfl, by rw [hU], by rw [hU]; exact hP, va_K.moved hW.alike hK, hD.weaken (fun _ _ _ _ => trivial), hi.moved hW.alike, hj.moved hW.alike⟩⟩
theorem kd_pre {D : va_G} {cA : Nat → ClassId} {as : List Value} {W0 : va_W} {s : State} {H : Heap} {A : Nat → Prop} (hP : va_P D vwCl W0 H) (hK : va_K D vwCl (mw_ty cA) s) (hD : va_D A W0) (hi : nz_O .int s) (hj : nz_O .long s) (hN : kn_n s) : PreS s H (kd_P D cA as W0 H.size) as :=
  ⟨fun a U g mk q => by
    obtain ⟨q0, q1, qP, qK, qD, qi, ql, qN⟩ := q
    exact ⟨q0, q1, qP, va_K.moved (u := U) (U := U.calling g mk a) (Vm.Alike.refl U.vm) qK, qD, nz_O.moved (u := U) (U := U.calling g mk a) (Vm.Alike.refl U.vm) qi, nz_O.moved (u := U) (U := U.calling g mk a) (Vm.Alike.refl U.vm) ql, qN.same (U := U.calling g mk a) rfl⟩, fun U hU hW => ⟨rfl, by rw [hU], by rw [hU]; exact hP, va_K.moved hW.alike hK, hD.weaken (fun _ _ _ _ => trivial), hi.moved hW.alike, hj.moved hW.alike, hN.warm hW⟩⟩
theorem dX12_plain_0 : decode cX12_plain 0 = .ok (.iconst 0, 1) := by decide +kernel
theorem dX12_plain_1 : decode cX12_plain 1 = .ok (.istore_n 1, 1) := by decide +kernel
theorem dX12_plain_2 : decode cX12_plain 2 = .ok (.iload_n 1, 1) := by decide +kernel
theorem dX12_plain_3 : decode cX12_plain 3 = .ok (.sipush 1460, 3) := by decide +kernel
theorem dX12_plain_6 : decode cX12_plain 6 = .ok (.if_icmp .ge 13, 3) := by decide +kernel
theorem dX12_plain_9 : decode cX12_plain 9 = .ok (.aload_n 0, 1) := by decide +kernel
theorem dX12_plain_10 : decode cX12_plain 10 = .ok (.iload_n 1, 1) := by decide +kernel
theorem dX12_plain_11 : decode cX12_plain 11 = .ok (.iconst 0, 1) := by decide +kernel
theorem dX12_plain_12 : decode cX12_plain 12 = .ok (.iastore, 1) := by decide +kernel
theorem dX12_plain_13 : decode cX12_plain 13 = .ok (.iinc 1 1, 3) := by decide +kernel
theorem dX12_plain_16 : decode cX12_plain 16 = .ok (.goto (-14), 3) := by decide +kernel
theorem dX12_plain_19 : decode cX12_plain 19 = .ok (.aload_n 0, 1) := by decide +kernel
theorem dX12_plain_20 : decode cX12_plain 20 = .ok (.iconst 1, 1) := by decide +kernel
theorem dX12_plain_21 : decode cX12_plain 21 = .ok (.iconst 5, 1) := by decide +kernel
theorem dX12_plain_22 : decode cX12_plain 22 = .ok (.iastore, 1) := by decide +kernel
theorem dX12_plain_23 : decode cX12_plain 23 = .ok (.iconst 0, 1) := by decide +kernel
theorem dX12_plain_24 : decode cX12_plain 24 = .ok (.istore_n 1, 1) := by decide +kernel
theorem dX12_plain_25 : decode cX12_plain 25 = .ok (.iload_n 1, 1) := by decide +kernel
theorem dX12_plain_26 : decode cX12_plain 26 = .ok (.iconst 3, 1) := by decide +kernel
theorem dX12_plain_27 : decode cX12_plain 27 = .ok (.if_icmp .ge 23, 3) := by decide +kernel
theorem dX12_plain_30 : decode cX12_plain 30 = .ok (.aload_n 0, 1) := by decide +kernel
theorem dX12_plain_31 : decode cX12_plain 31 = .ok (.bipush 76, 2) := by decide +kernel
theorem dX12_plain_33 : decode cX12_plain 33 = .ok (.iload_n 1, 1) := by decide +kernel
theorem dX12_plain_34 : decode cX12_plain 34 = .ok (.iadd, 1) := by decide +kernel
theorem dX12_plain_35 : decode cX12_plain 35 = .ok (.iconst (-1), 1) := by decide +kernel
theorem dX12_plain_36 : decode cX12_plain 36 = .ok (.iastore, 1) := by decide +kernel
theorem dX12_plain_37 : decode cX12_plain 37 = .ok (.aload_n 0, 1) := by decide +kernel
theorem dX12_plain_38 : decode cX12_plain 38 = .ok (.bipush 82, 2) := by decide +kernel
theorem dX12_plain_40 : decode cX12_plain 40 = .ok (.iload_n 1, 1) := by decide +kernel
theorem dX12_plain_41 : decode cX12_plain 41 = .ok (.iadd, 1) := by decide +kernel
theorem dX12_plain_42 : decode cX12_plain 42 = .ok (.iconst (-1), 1) := by decide +kernel
theorem dX12_plain_43 : decode cX12_plain 43 = .ok (.iastore, 1) := by decide +kernel
theorem dX12_plain_44 : decode cX12_plain 44 = .ok (.iinc 1 1, 3) := by decide +kernel
theorem dX12_plain_47 : decode cX12_plain 47 = .ok (.goto (-22), 3) := by decide +kernel
theorem dX12_plain_50 : decode cX12_plain 50 = .ok (.return_, 1) := by decide +kernel
theorem kp_fill (k : Nat) : upd (fun _ => (0 : Int32)) k 0 = fun _ => 0 := by
  funext j
  unfold upd
  split <;> rfl
section KP
variable {p : Program} {l : Launch} {e : Env} {R : Room} {s : State} {m : MethodId} {args : Array Value} {below : List Frame} {meth : Method} {c : Code} {H0 : Heap} {cells slots : Nat} {Q : State → Prop} {D : va_G} {cA : Nat → ClassId} {A : Nat → Prop} {h0 : Nat}
theorem kp_loop (hx : p.tables.exec = Jvm.exec) (hb : c.code = cX12_plain) (hK : va_K D vwCl (mw_ty cA) s) (kk : ∀ (H : Heap) (locs : List Loc) (ls : Array Slot), va_P D vwCl [(h0, .inl (cA 0, 4380, .inl (fun _ => 0)))] H → va_D A [(h0, .inl (cA 0, 4380, .inl (fun _ => 0)))] → va_S A H0 H locs → lv_has ls 2 [(1, .int (i32 1460)), (0, .ref h0)] → W p l e R s m args below meth c H locs cells slots Q (F0 m 19 ls [])) :
    ∀ (n k : Nat) (H : Heap) (locs : List Loc) (ls : Array Slot), k + n = 1460 → va_P D vwCl [(h0, .inl (cA 0, 4380, .inl (fun _ => 0)))] H → va_D A [(h0, .inl (cA 0, 4380, .inl (fun _ => 0)))] → va_S A H0 H locs → lv_has ls 2 [(1, .int (i32 k)), (0, .ref h0)] → W p l e R s m args below meth c H locs cells slots Q (F0 m 2 ls []) := by
  intro n
  induction n with
  | zero =>
    intro k H locs ls hk hP hD hS hl
    obtain rfl : k = 1460 := by omega
    refine lv_iload_n hx hb dX12_plain_2 rfl (lv_at hl 0 rfl) ?_
    refine lv_sipush (v := 1460) hx hb dX12_plain_3 (by decide) ?_
    refine lv_icmp_ge (tgt := 19) hx hb dX12_plain_6 (by decide) (fun _ => ?_) (fun h => absurd h (by decide))
    exact kk H locs ls hP hD hS hl
  | succ n ih =>
    intro k H locs ls hk hP hD hS hl
    have h32 : in32 (k : Int) := ⟨by omega, by omega⟩
    refine lv_iload_n hx hb dX12_plain_2 rfl (lv_at hl 0 rfl) ?_
    refine lv_sipush (v := 1460) hx hb dX12_plain_3 (by decide) ?_
    refine lv_icmp_ge (tgt := 19) hx hb dX12_plain_6 (by decide) (fun h => absurd h ?_) (fun _ => ?_)
    · rw [Int32.le_iff_toInt_le, i32_to h32]
      show ¬ (1460 : Int) ≤ k
      omega
    refine lv_aload_n hx hb dX12_plain_9 rfl (lv_at hl 1 rfl) ?_
    refine lv_iload_n hx hb dX12_plain_10 rfl (lv_at hl 0 rfl) ?_
    refine lv_iconst (v := 0) hx hb dX12_plain_11 (by decide) ?_
    refine va_iast hx hb hK hP hD hS 0 0 rfl rfl (mw_vin h32 (by omega) (by omega)) dX12_plain_12 (fun H locs hP hD hS => ?_)
    rw [kp_fill] at hP hD
    refine lv_iinc (v := i32 ((k + 1 : Nat) : Int)) (lv' := [(1, .int (i32 ((k + 1 : Nat) : Int))), (0, .ref h0)]) hx hb dX12_plain_13 hl (k := 0) rfl ?_ (by decide) rfl (fun ls hl => ?_)
    · apply Int32.toInt_inj.mp
      rw [i32_to ⟨by omega, by omega⟩, Int32.toInt_add, i32_to h32]
      show Int.bmod (k + 1) _ = _
      rw [Int.bmod_eq_of_le (by omega) (by omega)]
      omega
    refine lv_goto (tgt := 2) hx hb dX12_plain_16 (by decide) ?_
    exact ih (k + 1) H locs ls (by omega) hP hD hS hl
end KP
def kp_f : Nat → Int32 := fun j => i32 (mw_s0 101 j)
abbrev kp_V (cA : Nat → ClassId) (h0 : Nat) : va_W := [(h0, .inl (cA 0, 4380, .inl (fun _ => 0)))]
abbrev kp_W (cA : Nat → ClassId) (h0 : Nat) (_ : Nat → Nat) : va_W := [(h0, .inl (cA 0, 4380, .inl kp_f))]
theorem kp_end : (upd (upd (upd (upd (upd (upd (upd (fun _ => 0) 1 5) 76 (-1)) 82 (-1)) 77 (-1)) 83 (-1)) 78 (-1)) 84 (-1) : Nat → Int32) = kp_f := by
  funext j
  unfold kp_f
  rw [mw_s0_101]
  simp only [upd]
  (repeat' split) <;> first | omega | decide
set_option maxRecDepth 100000 in
theorem kcP : Cond.code yX12_plain cX12_plain 2 none ∈ mw_wd := mw_wd_of (List.mem_of_getElem? (i := 1477) rfl) rfl
set_option maxHeartbeats 4000000 in
set_option maxRecDepth 100000 in
theorem knP (l : Launch) (D : va_G) (cA : Nat → ClassId) (h0 sz : Nat) : Met l yX12_plain (Cond.code yX12_plain cX12_plain 2 none :: mw_wd) ({ frames := 1, cells := 0, slots := 0, locals := 40 }) (kc_P D cA [.ref h0] (kp_V cA h0) sz) (kc_Q D cA (kp_W cA h0) (va_A (kp_V cA h0) sz)) 0 0 (va_A (kp_V cA h0) sz) := by
  refine Met.ofW (cc := cX12_plain) (maxL := 2) (ret := none) (by decide) rfl ?_
  intro p e s m args below meth c s₁ B hml hv
  obtain ⟨rfl, hsz, hP, hK, hD0, hOi, hOl⟩ := hv
  have hx := B.exec
  have hb := B.bytes
  have hr := B.returns
  subst hsz
  have hD := hD0.self (sz := s.heap.size)
  generalize hAe : va_A (kp_V cA h0) s.heap.size = A at hD ⊢
  have hS : va_S A s.heap s.heap [] := va_S.rf
  have hl := lv_entry ([.ref h0]) (n := 2) (Nat.le_of_ble_eq_true rfl)
  rw [lg_entry_eq]
  generalize (lg_sl ([.ref h0]) ++ List.replicate (2 - (lg_sl ([.ref h0])).length) Slot.unset).toArray = ls at hl ⊢
  have hl : lv_has ls 2 [(0, .ref h0)] := hl
  refine lv_iconst (v := 0) hx hb dX12_plain_0 (by decide) ?_
  refine lv_istore_n (lv' := [(1, .int 0), (0, .ref h0)]) hx hb dX12_plain_1 rfl hl (by decide) rfl (fun ls hl => ?_)
  refine kp_loop hx hb hK (fun H locs ls hP hD hS hl => ?_) 1460 0 s.heap [] ls rfl hP hD hS hl
  refine lv_aload_n hx hb dX12_plain_19 rfl (lv_at hl 1 rfl) ?_
  refine lv_iconst (v := 1) hx hb dX12_plain_20 (by decide) ?_
  refine lv_iconst (v := 5) hx hb dX12_plain_21 (by decide) ?_
  refine va_iast hx hb hK hP hD hS 0 0 rfl rfl (by unfold vp_in; decide) dX12_plain_22 (fun H locs hP hD hS => ?_)
  refine lv_iconst (v := 0) hx hb dX12_plain_23 (by decide) ?_
  refine lv_istore_n (lv' := [(1, .int 0), (0, .ref h0)]) hx hb dX12_plain_24 rfl hl (by decide) rfl (fun ls hl => ?_)
  refine lv_iload_n hx hb dX12_plain_25 rfl (lv_at hl 0 rfl) ?_
  refine lv_iconst (v := 3) hx hb dX12_plain_26 (by decide) ?_
  refine lv_icmp_ge (tgt := 50) hx hb dX12_plain_27 (by decide) (fun h => absurd h (by decide)) (fun _ => ?_)
  refine lv_aload_n hx hb dX12_plain_30 rfl (lv_at hl 1 rfl) ?_
  refine lv_bipush (v := 76) hx hb dX12_plain_31 (by decide) ?_
  refine lv_iload_n hx hb dX12_plain_33 rfl (lv_at hl 0 rfl) ?_
  refine lv_iadd hx hb dX12_plain_34 ?_
  refine lv_iconst (v := -1) hx hb dX12_plain_35 (by decide) ?_
  refine va_iast hx hb hK hP hD hS 0 0 rfl rfl (by unfold vp_in; decide) dX12_plain_36 (fun H locs hP hD hS => ?_)
  refine lv_aload_n hx hb dX12_plain_37 rfl (lv_at hl 1 rfl) ?_
  refine lv_bipush (v := 82) hx hb dX12_plain_38 (by decide) ?_
  refine lv_iload_n hx hb dX12_plain_40 rfl (lv_at hl 0 rfl) ?_
  refine lv_iadd hx hb dX12_plain_41 ?_
  refine lv_iconst (v := -1) hx hb dX12_plain_42 (by decide) ?_
  refine va_iast hx hb hK hP hD hS 0 0 rfl rfl (by unfold vp_in; decide) dX12_plain_43 (fun H locs hP hD hS => ?_)
  refine lv_iinc (v := 1) (lv' := [(1, .int 1), (0, .ref h0)]) hx hb dX12_plain_44 hl (k := 0) rfl (by decide) (by decide) rfl (fun ls hl => ?_)
  refine lv_goto (tgt := 25) hx hb dX12_plain_47 (by decide) ?_
  refine lv_iload_n hx hb dX12_plain_25 rfl (lv_at hl 0 rfl) ?_
  refine lv_iconst (v := 3) hx hb dX12_plain_26 (by decide) ?_
  refine lv_icmp_ge (tgt := 50) hx hb dX12_plain_27 (by decide) (fun h => absurd h (by decide)) (fun _ => ?_)
  refine lv_aload_n hx hb dX12_plain_30 rfl (lv_at hl 1 rfl) ?_
  refine lv_bipush (v := 76) hx hb dX12_plain_31 (by decide) ?_
  refine lv_iload_n hx hb dX12_plain_33 rfl (lv_at hl 0 rfl) ?_
  refine lv_iadd hx hb dX12_plain_34 ?_
  refine lv_iconst (v := -1) hx hb dX12_plain_35 (by decide) ?_
  refine va_iast hx hb hK hP hD hS 0 0 rfl rfl (by unfold vp_in; decide) dX12_plain_36 (fun H locs hP hD hS => ?_)
  refine lv_aload_n hx hb dX12_plain_37 rfl (lv_at hl 1 rfl) ?_
  refine lv_bipush (v := 82) hx hb dX12_plain_38 (by decide) ?_
  refine lv_iload_n hx hb dX12_plain_40 rfl (lv_at hl 0 rfl) ?_
  refine lv_iadd hx hb dX12_plain_41 ?_
  refine lv_iconst (v := -1) hx hb dX12_plain_42 (by decide) ?_
  refine va_iast hx hb hK hP hD hS 0 0 rfl rfl (by unfold vp_in; decide) dX12_plain_43 (fun H locs hP hD hS => ?_)
  refine lv_iinc (v := 2) (lv' := [(1, .int 2), (0, .ref h0)]) hx hb dX12_plain_44 hl (k := 0) rfl (by decide) (by decide) rfl (fun ls hl => ?_)
  refine lv_goto (tgt := 25) hx hb dX12_plain_47 (by decide) ?_
  refine lv_iload_n hx hb dX12_plain_25 rfl (lv_at hl 0 rfl) ?_
  refine lv_iconst (v := 3) hx hb dX12_plain_26 (by decide) ?_
  refine lv_icmp_ge (tgt := 50) hx hb dX12_plain_27 (by decide) (fun h => absurd h (by decide)) (fun _ => ?_)
  refine lv_aload_n hx hb dX12_plain_30 rfl (lv_at hl 1 rfl) ?_
  refine lv_bipush (v := 76) hx hb dX12_plain_31 (by decide) ?_
  refine lv_iload_n hx hb dX12_plain_33 rfl (lv_at hl 0 rfl) ?_
  refine lv_iadd hx hb dX12_plain_34 ?_
  refine lv_iconst (v := -1) hx hb dX12_plain_35 (by decide) ?_
  refine va_iast hx hb hK hP hD hS 0 0 rfl rfl (by unfold vp_in; decide) dX12_plain_36 (fun H locs hP hD hS => ?_)
  refine lv_aload_n hx hb dX12_plain_37 rfl (lv_at hl 1 rfl) ?_
  refine lv_bipush (v := 82) hx hb dX12_plain_38 (by decide) ?_
  refine lv_iload_n hx hb dX12_plain_40 rfl (lv_at hl 0 rfl) ?_
  refine lv_iadd hx hb dX12_plain_41 ?_
  refine lv_iconst (v := -1) hx hb dX12_plain_42 (by decide) ?_
  refine va_iast hx hb hK hP hD hS 0 0 rfl rfl (by unfold vp_in; decide) dX12_plain_43 (fun H locs hP hD hS => ?_)
  refine lv_iinc (v := 3) (lv' := [(1, .int 3), (0, .ref h0)]) hx hb dX12_plain_44 hl (k := 0) rfl (by decide) (by decide) rfl (fun ls hl => ?_)
  refine lv_goto (tgt := 25) hx hb dX12_plain_47 (by decide) ?_
  refine lv_iload_n hx hb dX12_plain_25 rfl (lv_at hl 0 rfl) ?_
  refine lv_iconst (v := 3) hx hb dX12_plain_26 (by decide) ?_
  refine lv_icmp_ge (tgt := 50) hx hb dX12_plain_27 (by decide) (fun _ => ?_) (fun h => absurd (by decide) h)
  have ef : (upd (upd (upd (upd (upd (upd (upd (fun _ => 0) (1 : Int32).toNatClampNeg 5) ((76 : Int32) + 0).toNatClampNeg (-1)) ((82 : Int32) + 0).toNatClampNeg (-1)) ((76 : Int32) + 1).toNatClampNeg (-1)) ((82 : Int32) + 1).toNatClampNeg (-1)) ((76 : Int32) + 2).toNatClampNeg (-1)) ((82 : Int32) + 2).toNatClampNeg (-1) : Nat → Int32) = kp_f := kp_end
  have hP : va_P D vwCl [(h0, .inl (cA 0, 4380, .inl (upd (upd (upd (upd (upd (upd (upd (fun _ => 0) (1 : Int32).toNatClampNeg 5) ((76 : Int32) + 0).toNatClampNeg (-1)) ((82 : Int32) + 0).toNatClampNeg (-1)) ((76 : Int32) + 1).toNatClampNeg (-1)) ((82 : Int32) + 1).toNatClampNeg (-1)) ((76 : Int32) + 2).toNatClampNeg (-1)) ((82 : Int32) + 2).toNatClampNeg (-1))))] H := hP
  have hD : va_D A [(h0, .inl (cA 0, 4380, .inl (upd (upd (upd (upd (upd (upd (upd (fun _ => 0) (1 : Int32).toNatClampNeg 5) ((76 : Int32) + 0).toNatClampNeg (-1)) ((82 : Int32) + 0).toNatClampNeg (-1)) ((76 : Int32) + 1).toNatClampNeg (-1)) ((82 : Int32) + 1).toNatClampNeg (-1)) ((76 : Int32) + 2).toNatClampNeg (-1)) ((82 : Int32) + 2).toNatClampNeg (-1))))] := hD
  rw [ef] at hP hD
  exact W.vret hx hb hr (fun t ht hW => ⟨⟨(), rfl, trivial, (fun _ => 0), by rw [ht]; exact hP, va_K.moved hW.alike hK, hD⟩, hS.F ht⟩) hS.2.2 dX12_plain_50
