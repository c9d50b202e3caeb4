/-! 13.m1: rows that decode each instruction, and its rule -/
theorem ee206 {d : Nat} {a : Nat} {z0 : Int} {z1 : Int} {σ : mw_S} {Q : Option mw_V → mw_S → Prop} : mw_Call (d + 1) 206 [jR a, jI z0, jI z1] σ Q ↔ mw_WP d 206 0 [some (jR a), some (jI z0), some (jI z1)] [] σ Q := CL_u mq206 (Nat.le_of_ble_eq_true rfl) rfl
theorem dd206_0 : decode cX12_can 0 = .ok (.aload_n 0, 1) := by decide +kernel
theorem ww206_0 {d : Nat} {l1 l2 : Option mw_V} {x : Nat} {st : List mw_V} {σ : mw_S} {Q : Option mw_V → mw_S → Prop} : mw_WP d 206 0 [some (jR x), l1, l2] st σ Q ↔ mw_WP d 206 1 [some (jR x), l1, l2] (jR x :: st) σ Q := WP_aload_n mq206 dd206_0 rfl
theorem dd206_1 : decode cX12_can 1 = .ok (.iconst 0, 1) := by decide +kernel
theorem ww206_1 {d : Nat} {l0 l1 l2 : Option mw_V} {st : List mw_V} {σ : mw_S} {Q : Option mw_V → mw_S → Prop} : mw_WP d 206 1 [l0, l1, l2] st σ Q ↔ mw_WP d 206 2 [l0, l1, l2] (jI (0) :: st) σ Q := WP_iconst mq206 dd206_1 (by decide)
theorem dd206_2 : decode cX12_can 2 = .ok (.putfield 1, 3) := by decide +kernel
theorem ww206_2 {d : Nat} {l0 l1 l2 : Option mw_V} {v : Int} {st : List mw_V} {σ : mw_S} {Q : Option mw_V → mw_S → Prop} : mw_WP d 206 2 [l0, l1, l2] (jI v :: jR 100 :: st) σ Q ↔ mw_WP d 206 5 [l0, l1, l2] st (upS σ 100 0 v) Q := WP_putI (ci := 11) (k := 0) mq206 dd206_2 (by decide) rfl
theorem dd206_5 : decode cX12_can 5 = .ok (.aload_n 0, 1) := by decide +kernel
theorem ww206_5 {d : Nat} {l1 l2 : Option mw_V} {x : Nat} {st : List mw_V} {σ : mw_S} {Q : Option mw_V → mw_S → Prop} : mw_WP d 206 5 [some (jR x), l1, l2] st σ Q ↔ mw_WP d 206 6 [some (jR x), l1, l2] (jR x :: st) σ Q := WP_aload_n mq206 dd206_5 rfl
theorem dd206_6 : decode cX12_can 6 = .ok (.iload_n 1, 1) := by decide +kernel
theorem ww206_6 {d : Nat} {l0 l2 : Option mw_V} {x : Int} {st : List mw_V} {σ : mw_S} {Q : Option mw_V → mw_S → Prop} : mw_WP d 206 6 [l0, some (jI x), l2] st σ Q ↔ mw_WP d 206 7 [l0, some (jI x), l2] (jI x :: st) σ Q := WP_iload_n mq206 dd206_6 rfl
theorem dd206_7 : decode cX12_can 7 = .ok (.invokevirtual 222, 3) := by decide +kernel
theorem ww206_7 {d : Nat} {l0 l1 l2 : Option mw_V} {v0 : mw_V} {a : Nat} {st : List mw_V} {σ : mw_S} {Q : Option mw_V → mw_S → Prop} (hr : mw_rc a = 12) (h8 : (st.map mw_cat).sum ≤ 8) : mw_WP d 206 7 [l0, l1, l2] (v0 :: jR a :: st) σ Q ↔ mw_Call d 196 [jR a, v0] σ (fun r1 s1 => mw_WP d 206 10 [l0, l1, l2] (r1.toList ++ st) s1 Q) := WP_inv (as := [v0]) mq206 dd206_7 (by decide) mq196 rfl hr h8
theorem dd206_10 : decode cX12_can 10 = .ok (.ifCond .eq 15, 3) := by decide +kernel
theorem ww206_10 {d : Nat} {l0 l1 l2 : Option mw_V} {x : Int} {st : List mw_V} {σ : mw_S} {Q : Option mw_V → mw_S → Prop} : mw_WP d 206 10 [l0, l1, l2] (jI x :: st) σ Q ↔ (if x = 0 then mw_WP d 206 25 [l0, l1, l2] st σ Q else mw_WP d 206 13 [l0, l1, l2] st σ Q) := WP_if_eq mq206 dd206_10 (by decide)
theorem dd206_13 : decode cX12_can 13 = .ok (.iload_n 2, 1) := by decide +kernel
theorem ww206_13 {d : Nat} {l0 l1 : Option mw_V} {x : Int} {st : List mw_V} {σ : mw_S} {Q : Option mw_V → mw_S → Prop} : mw_WP d 206 13 [l0, l1, some (jI x)] st σ Q ↔ mw_WP d 206 14 [l0, l1, some (jI x)] (jI x :: st) σ Q := WP_iload_n mq206 dd206_13 rfl
theorem dd206_14 : decode cX12_can 14 = .ok (.i2l, 1) := by decide +kernel
theorem ww206_14 {d : Nat} {l0 l1 l2 : Option mw_V} {x : Int} {st : List mw_V} {σ : mw_S} {Q : Option mw_V → mw_S → Prop} : mw_WP d 206 14 [l0, l1, l2] (jI x :: st) σ Q ↔ mw_WP d 206 15 [l0, l1, l2] (jL (yL x) :: st) σ Q := WP_i2l mq206 dd206_14
theorem dd206_15 : decode cX12_can 15 = .ok (.lconst 0, 1) := by decide +kernel
theorem ww206_15 {d : Nat} {l0 l1 l2 : Option mw_V} {st : List mw_V} {σ : mw_S} {Q : Option mw_V → mw_S → Prop} : mw_WP d 206 15 [l0, l1, l2] st σ Q ↔ mw_WP d 206 16 [l0, l1, l2] (jL (0) :: st) σ Q := WP_lconst mq206 dd206_15 (by decide)
theorem dd206_16 : decode cX12_can 16 = .ok (.ldc2_w 202, 3) := by decide +kernel
theorem ww206_16 {d : Nat} {l0 l1 l2 : Option mw_V} {st : List mw_V} {σ : mw_S} {Q : Option mw_V → mw_S → Prop} : mw_WP d 206 16 [l0, l1, l2] st σ Q ↔ mw_WP d 206 19 [l0, l1, l2] (jL (8) :: st) σ Q := WP_ldc2_w (v := 8) mq206 dd206_16 (by decide) (by decide)
theorem dd206_19 : decode cX12_can 19 = .ok (.invokestatic 159, 3) := by decide +kernel
theorem ww206_19 {d : Nat} {l0 l1 l2 : Option mw_V} {v0 v1 v2 : mw_V} {st : List mw_V} {σ : mw_S} {Q : Option mw_V → mw_S → Prop} (h8 : (st.map mw_cat).sum ≤ 8) : mw_WP d 206 19 [l0, l1, l2] (v2 :: v1 :: v0 :: st) σ Q ↔ mw_Call d 170 [v0, v1, v2] σ (fun r1 s1 => mw_WP d 206 22 [l0, l1, l2] (r1.toList ++ st) s1 Q) := WP_invs (as := [v2, v1, v0]) mq206 dd206_19 (by decide) mq170 rfl rfl h8
theorem dd206_22 : decode cX12_can 22 = .ok (.ifCond .ne 6, 3) := by decide +kernel
theorem ww206_22 {d : Nat} {l0 l1 l2 : Option mw_V} {x : Int} {st : List mw_V} {σ : mw_S} {Q : Option mw_V → mw_S → Prop} : mw_WP d 206 22 [l0, l1, l2] (jI x :: st) σ Q ↔ (if ¬ x = 0 then mw_WP d 206 28 [l0, l1, l2] st σ Q else mw_WP d 206 25 [l0, l1, l2] st σ Q) := WP_if_ne mq206 dd206_22 (by decide)
theorem dd206_25 : decode cX12_can 25 = .ok (.bipush (-2), 2) := by decide +kernel
theorem ww206_25 {d : Nat} {l0 l1 l2 : Option mw_V} {st : List mw_V} {σ : mw_S} {Q : Option mw_V → mw_S → Prop} : mw_WP d 206 25 [l0, l1, l2] st σ Q ↔ mw_WP d 206 27 [l0, l1, l2] (jI (-2) :: st) σ Q := WP_bipush mq206 dd206_25 (by decide)
theorem dd206_27 : decode cX12_can 27 = .ok (.ireturn, 1) := by decide +kernel
theorem ww206_27 {d : Nat} {l0 l1 l2 : Option mw_V} {z : Int} {σ : mw_S} {Q : Option mw_V → mw_S → Prop} : mw_WP d 206 27 [l0, l1, l2] [jI z] σ Q ↔ Q (some (jI z)) σ := WP_ireturn (ty := .int) mq206 dd206_27 rfl rfl
theorem dd206_28 : decode cX12_can 28 = .ok (.aload_n 0, 1) := by decide +kernel
theorem ww206_28 {d : Nat} {l1 l2 : Option mw_V} {x : Nat} {st : List mw_V} {σ : mw_S} {Q : Option mw_V → mw_S → Prop} : mw_WP d 206 28 [some (jR x), l1, l2] st σ Q ↔ mw_WP d 206 29 [some (jR x), l1, l2] (jR x :: st) σ Q := WP_aload_n mq206 dd206_28 rfl
theorem dd206_29 : decode cX12_can 29 = .ok (.iload_n 1, 1) := by decide +kernel
theorem ww206_29 {d : Nat} {l0 l2 : Option mw_V} {x : Int} {st : List mw_V} {σ : mw_S} {Q : Option mw_V → mw_S → Prop} : mw_WP d 206 29 [l0, some (jI x), l2] st σ Q ↔ mw_WP d 206 30 [l0, some (jI x), l2] (jI x :: st) σ Q := WP_iload_n mq206 dd206_29 rfl
theorem dd206_30 : decode cX12_can 30 = .ok (.iload_n 2, 1) := by decide +kernel
theorem ww206_30 {d : Nat} {l0 l1 : Option mw_V} {x : Int} {st : List mw_V} {σ : mw_S} {Q : Option mw_V → mw_S → Prop} : mw_WP d 206 30 [l0, l1, some (jI x)] st σ Q ↔ mw_WP d 206 31 [l0, l1, some (jI x)] (jI x :: st) σ Q := WP_iload_n mq206 dd206_30 rfl
theorem dd206_31 : decode cX12_can 31 = .ok (.invokevirtual 231, 3) := by decide +kernel
theorem ww206_31 {d : Nat} {l0 l1 l2 : Option mw_V} {v0 v1 : mw_V} {a : Nat} {st : List mw_V} {σ : mw_S} {Q : Option mw_V → mw_S → Prop} (hr : mw_rc a = 12) (h8 : (st.map mw_cat).sum ≤ 8) : mw_WP d 206 31 [l0, l1, l2] (v1 :: v0 :: jR a :: st) σ Q ↔ mw_Call d 204 [jR a, v0, v1] σ (fun r1 s1 => mw_WP d 206 34 [l0, l1, l2] (r1.toList ++ st) s1 Q) := WP_inv (as := [v1, v0]) mq206 dd206_31 (by decide) mq204 rfl hr h8
theorem dd206_34 : decode cX12_can 34 = .ok (.ifCond .eq 7, 3) := by decide +kernel
theorem ww206_34 {d : Nat} {l0 l1 l2 : Option mw_V} {x : Int} {st : List mw_V} {σ : mw_S} {Q : Option mw_V → mw_S → Prop} : mw_WP d 206 34 [l0, l1, l2] (jI x :: st) σ Q ↔ (if x = 0 then mw_WP d 206 41 [l0, l1, l2] st σ Q else mw_WP d 206 37 [l0, l1, l2] st σ Q) := WP_if_eq mq206 dd206_34 (by decide)
theorem dd206_37 : decode cX12_can 37 = .ok (.iconst 1, 1) := by decide +kernel
theorem ww206_37 {d : Nat} {l0 l1 l2 : Option mw_V} {st : List mw_V} {σ : mw_S} {Q : Option mw_V → mw_S → Prop} : mw_WP d 206 37 [l0, l1, l2] st σ Q ↔ mw_WP d 206 38 [l0, l1, l2] (jI (1) :: st) σ Q := WP_iconst mq206 dd206_37 (by decide)
theorem dd206_38 : decode cX12_can 38 = .ok (.goto 4, 3) := by decide +kernel
theorem ww206_38 {d : Nat} {l0 l1 l2 : Option mw_V} {st : List mw_V} {σ : mw_S} {Q : Option mw_V → mw_S → Prop} : mw_WP d 206 38 [l0, l1, l2] st σ Q ↔ mw_WP d 206 42 [l0, l1, l2] st σ Q := WP_goto mq206 dd206_38 (by decide)
theorem dd206_41 : decode cX12_can 41 = .ok (.iconst 0, 1) := by decide +kernel
theorem ww206_41 {d : Nat} {l0 l1 l2 : Option mw_V} {st : List mw_V} {σ : mw_S} {Q : Option mw_V → mw_S → Prop} : mw_WP d 206 41 [l0, l1, l2] st σ Q ↔ mw_WP d 206 42 [l0, l1, l2] (jI (0) :: st) σ Q := WP_iconst mq206 dd206_41 (by decide)
theorem dd206_42 : decode cX12_can 42 = .ok (.ireturn, 1) := by decide +kernel
theorem ww206_42 {d : Nat} {l0 l1 l2 : Option mw_V} {z : Int} {σ : mw_S} {Q : Option mw_V → mw_S → Prop} : mw_WP d 206 42 [l0, l1, l2] [jI z] σ Q ↔ Q (some (jI z)) σ := WP_ireturn (ty := .int) mq206 dd206_42 rfl rfl
theorem ee207 {d : Nat} {z0 : Int} {z1 : Int} {z2 : Int} {σ : mw_S} {Q : Option mw_V → mw_S → Prop} : mw_Call (d + 1) 207 [jI z0, jI z1, jI z2] σ Q ↔ mw_WP d 207 0 [some (jI z0), some (jI z1), some (jI z2), none, none] [] σ Q := CL_u mq207 (Nat.le_of_ble_eq_true rfl) rfl
theorem dd207_0 : decode cX12_between 0 = .ok (.iload_n 0, 1) := by decide +kernel
theorem ww207_0 {d : Nat} {l1 l2 l3 l4 : Option mw_V} {x : Int} {st : List mw_V} {σ : mw_S} {Q : Option mw_V → mw_S → Prop} : mw_WP d 207 0 [some (jI x), l1, l2, l3, l4] st σ Q ↔ mw_WP d 207 1 [some (jI x), l1, l2, l3, l4] (jI x :: st) σ Q := WP_iload_n mq207 dd207_0 rfl
theorem dd207_1 : decode cX12_between 1 = .ok (.sipush 3002, 3) := by decide +kernel
theorem ww207_1 {d : Nat} {l0 l1 l2 l3 l4 : Option mw_V} {st : List mw_V} {σ : mw_S} {Q : Option mw_V → mw_S → Prop} : mw_WP d 207 1 [l0, l1, l2, l3, l4] st σ Q ↔ mw_WP d 207 4 [l0, l1, l2, l3, l4] (jI (3002) :: st) σ Q := WP_sipush mq207 dd207_1 (by decide)
theorem dd207_4 : decode cX12_between 4 = .ok (.if_icmp .gt 70, 3) := by decide +kernel
theorem ww207_4 {d : Nat} {l0 l1 l2 l3 l4 : Option mw_V} {x y : Int} {st : List mw_V} {σ : mw_S} {Q : Option mw_V → mw_S → Prop} : mw_WP d 207 4 [l0, l1, l2, l3, l4] (jI y :: jI x :: st) σ Q ↔ (if y < x then mw_WP d 207 74 [l0, l1, l2, l3, l4] st σ Q else mw_WP d 207 7 [l0, l1, l2, l3, l4] st σ Q) := WP_icmp_gt mq207 dd207_4 (by decide)
theorem dd207_7 : decode cX12_between 7 = .ok (.iload_n 0, 1) := by decide +kernel
theorem ww207_7 {d : Nat} {l1 l2 l3 l4 : Option mw_V} {x : Int} {st : List mw_V} {σ : mw_S} {Q : Option mw_V → mw_S → Prop} : mw_WP d 207 7 [some (jI x), l1, l2, l3, l4] st σ Q ↔ mw_WP d 207 8 [some (jI x), l1, l2, l3, l4] (jI x :: st) σ Q := WP_iload_n mq207 dd207_7 rfl
theorem dd207_8 : decode cX12_between 8 = .ok (.sipush 3000, 3) := by decide +kernel
theorem ww207_8 {d : Nat} {l0 l1 l2 l3 l4 : Option mw_V} {st : List mw_V} {σ : mw_S} {Q : Option mw_V → mw_S → Prop} : mw_WP d 207 8 [l0, l1, l2, l3, l4] st σ Q ↔ mw_WP d 207 11 [l0, l1, l2, l3, l4] (jI (3000) :: st) σ Q := WP_sipush mq207 dd207_8 (by decide)
theorem dd207_11 : decode cX12_between 11 = .ok (.if_icmp .ne 11, 3) := by decide +kernel
theorem ww207_11 {d : Nat} {l0 l1 l2 l3 l4 : Option mw_V} {x y : Int} {st : List mw_V} {σ : mw_S} {Q : Option mw_V → mw_S → Prop} : mw_WP d 207 11 [l0, l1, l2, l3, l4] (jI y :: jI x :: st) σ Q ↔ (if ¬ x = y then mw_WP d 207 22 [l0, l1, l2, l3, l4] st σ Q else mw_WP d 207 14 [l0, l1, l2, l3, l4] st σ Q) := WP_icmp_ne mq207 dd207_11 (by decide)
theorem dd207_14 : decode cX12_between 14 = .ok (.iload_n 1, 1) := by decide +kernel
theorem ww207_14 {d : Nat} {l0 l2 l3 l4 : Option mw_V} {x : Int} {st : List mw_V} {σ : mw_S} {Q : Option mw_V → mw_S → Prop} : mw_WP d 207 14 [l0, some (jI x), l2, l3, l4] st σ Q ↔ mw_WP d 207 15 [l0, some (jI x), l2, l3, l4] (jI x :: st) σ Q := WP_iload_n mq207 dd207_14 rfl
theorem dd207_15 : decode cX12_between 15 = .ok (.i2l, 1) := by decide +kernel
theorem ww207_15 {d : Nat} {l0 l1 l2 l3 l4 : Option mw_V} {x : Int} {st : List mw_V} {σ : mw_S} {Q : Option mw_V → mw_S → Prop} : mw_WP d 207 15 [l0, l1, l2, l3, l4] (jI x :: st) σ Q ↔ mw_WP d 207 16 [l0, l1, l2, l3, l4] (jL (yL x) :: st) σ Q := WP_i2l mq207 dd207_15
theorem dd207_16 : decode cX12_between 16 = .ok (.iload_n 2, 1) := by decide +kernel
theorem ww207_16 {d : Nat} {l0 l1 l3 l4 : Option mw_V} {x : Int} {st : List mw_V} {σ : mw_S} {Q : Option mw_V → mw_S → Prop} : mw_WP d 207 16 [l0, l1, some (jI x), l3, l4] st σ Q ↔ mw_WP d 207 17 [l0, l1, some (jI x), l3, l4] (jI x :: st) σ Q := WP_iload_n mq207 dd207_16 rfl
theorem dd207_17 : decode cX12_between 17 = .ok (.i2l, 1) := by decide +kernel
theorem ww207_17 {d : Nat} {l0 l1 l2 l3 l4 : Option mw_V} {x : Int} {st : List mw_V} {σ : mw_S} {Q : Option mw_V → mw_S → Prop} : mw_WP d 207 17 [l0, l1, l2, l3, l4] (jI x :: st) σ Q ↔ mw_WP d 207 18 [l0, l1, l2, l3, l4] (jL (yL x) :: st) σ Q := WP_i2l mq207 dd207_17
theorem dd207_18 : decode cX12_between 18 = .ok (.ladd, 1) := by decide +kernel
theorem ww207_18 {d : Nat} {l0 l1 l2 l3 l4 : Option mw_V} {x y : Int} {st : List mw_V} {σ : mw_S} {Q : Option mw_V → mw_S → Prop} : mw_WP d 207 18 [l0, l1, l2, l3, l4] (jL y :: jL x :: st) σ Q ↔ mw_WP d 207 19 [l0, l1, l2, l3, l4] (jL (w64 (x + y)) :: st) σ Q := WP_ladd mq207 dd207_18
theorem dd207_19 : decode cX12_between 19 = .ok (.goto 23, 3) := by decide +kernel
theorem ww207_19 {d : Nat} {l0 l1 l2 l3 l4 : Option mw_V} {st : List mw_V} {σ : mw_S} {Q : Option mw_V → mw_S → Prop} : mw_WP d 207 19 [l0, l1, l2, l3, l4] st σ Q ↔ mw_WP d 207 42 [l0, l1, l2, l3, l4] st σ Q := WP_goto mq207 dd207_19 (by decide)
theorem dd207_22 : decode cX12_between 22 = .ok (.iload_n 0, 1) := by decide +kernel
theorem ww207_22 {d : Nat} {l1 l2 l3 l4 : Option mw_V} {x : Int} {st : List mw_V} {σ : mw_S} {Q : Option mw_V → mw_S → Prop} : mw_WP d 207 22 [some (jI x), l1, l2, l3, l4] st σ Q ↔ mw_WP d 207 23 [some (jI x), l1, l2, l3, l4] (jI x :: st) σ Q := WP_iload_n mq207 dd207_22 rfl
theorem dd207_23 : decode cX12_between 23 = .ok (.sipush 3001, 3) := by decide +kernel
theorem ww207_23 {d : Nat} {l0 l1 l2 l3 l4 : Option mw_V} {st : List mw_V} {σ : mw_S} {Q : Option mw_V → mw_S → Prop} : mw_WP d 207 23 [l0, l1, l2, l3, l4] st σ Q ↔ mw_WP d 207 26 [l0, l1, l2, l3, l4] (jI (3001) :: st) σ Q := WP_sipush mq207 dd207_23 (by decide)
theorem dd207_26 : decode cX12_between 26 = .ok (.if_icmp .ne 11, 3) := by decide +kernel
theorem ww207_26 {d : Nat} {l0 l1 l2 l3 l4 : Option mw_V} {x y : Int} {st : List mw_V} {σ : mw_S} {Q : Option mw_V → mw_S → Prop} : mw_WP d 207 26 [l0, l1, l2, l3, l4] (jI y :: jI x :: st) σ Q ↔ (if ¬ x = y then mw_WP d 207 37 [l0, l1, l2, l3, l4] st σ Q else mw_WP d 207 29 [l0, l1, l2, l3, l4] st σ Q) := WP_icmp_ne mq207 dd207_26 (by decide)
theorem dd207_29 : decode cX12_between 29 = .ok (.iload_n 1, 1) := by decide +kernel
theorem ww207_29 {d : Nat} {l0 l2 l3 l4 : Option mw_V} {x : Int} {st : List mw_V} {σ : mw_S} {Q : Option mw_V → mw_S → Prop} : mw_WP d 207 29 [l0, some (jI x), l2, l3, l4] st σ Q ↔ mw_WP d 207 30 [l0, some (jI x), l2, l3, l4] (jI x :: st) σ Q := WP_iload_n mq207 dd207_29 rfl
theorem dd207_30 : decode cX12_between 30 = .ok (.i2l, 1) := by decide +kernel
theorem ww207_30 {d : Nat} {l0 l1 l2 l3 l4 : Option mw_V} {x : Int} {st : List mw_V} {σ : mw_S} {Q : Option mw_V → mw_S → Prop} : mw_WP d 207 30 [l0, l1, l2, l3, l4] (jI x :: st) σ Q ↔ mw_WP d 207 31 [l0, l1, l2, l3, l4] (jL (yL x) :: st) σ Q := WP_i2l mq207 dd207_30
theorem dd207_31 : decode cX12_between 31 = .ok (.iload_n 2, 1) := by decide +kernel
theorem ww207_31 {d : Nat} {l0 l1 l3 l4 : Option mw_V} {x : Int} {st : List mw_V} {σ : mw_S} {Q : Option mw_V → mw_S → Prop} : mw_WP d 207 31 [l0, l1, some (jI x), l3, l4] st σ Q ↔ mw_WP d 207 32 [l0, l1, some (jI x), l3, l4] (jI x :: st) σ Q := WP_iload_n mq207 dd207_31 rfl
theorem dd207_32 : decode cX12_between 32 = .ok (.i2l, 1) := by decide +kernel
theorem ww207_32 {d : Nat} {l0 l1 l2 l3 l4 : Option mw_V} {x : Int} {st : List mw_V} {σ : mw_S} {Q : Option mw_V → mw_S → Prop} : mw_WP d 207 32 [l0, l1, l2, l3, l4] (jI x :: st) σ Q ↔ mw_WP d 207 33 [l0, l1, l2, l3, l4] (jL (yL x) :: st) σ Q := WP_i2l mq207 dd207_32
theorem dd207_33 : decode cX12_between 33 = .ok (.lsub, 1) := by decide +kernel
theorem ww207_33 {d : Nat} {l0 l1 l2 l3 l4 : Option mw_V} {x y : Int} {st : List mw_V} {σ : mw_S} {Q : Option mw_V → mw_S → Prop} : mw_WP d 207 33 [l0, l1, l2, l3, l4] (jL y :: jL x :: st) σ Q ↔ mw_WP d 207 34 [l0, l1, l2, l3, l4] (jL (w64 (x - y)) :: st) σ Q := WP_lsub mq207 dd207_33
theorem dd207_34 : decode cX12_between 34 = .ok (.goto 8, 3) := by decide +kernel
theorem ww207_34 {d : Nat} {l0 l1 l2 l3 l4 : Option mw_V} {st : List mw_V} {σ : mw_S} {Q : Option mw_V → mw_S → Prop} : mw_WP d 207 34 [l0, l1, l2, l3, l4] st σ Q ↔ mw_WP d 207 42 [l0, l1, l2, l3, l4] st σ Q := WP_goto mq207 dd207_34 (by decide)
theorem dd207_37 : decode cX12_between 37 = .ok (.iload_n 1, 1) := by decide +kernel
theorem ww207_37 {d : Nat} {l0 l2 l3 l4 : Option mw_V} {x : Int} {st : List mw_V} {σ : mw_S} {Q : Option mw_V → mw_S → Prop} : mw_WP d 207 37 [l0, some (jI x), l2, l3, l4] st σ Q ↔ mw_WP d 207 38 [l0, some (jI x), l2, l3, l4] (jI x :: st) σ Q := WP_iload_n mq207 dd207_37 rfl
theorem dd207_38 : decode cX12_between 38 = .ok (.i2l, 1) := by decide +kernel
theorem ww207_38 {d : Nat} {l0 l1 l2 l3 l4 : Option mw_V} {x : Int} {st : List mw_V} {σ : mw_S} {Q : Option mw_V → mw_S → Prop} : mw_WP d 207 38 [l0, l1, l2, l3, l4] (jI x :: st) σ Q ↔ mw_WP d 207 39 [l0, l1, l2, l3, l4] (jL (yL x) :: st) σ Q := WP_i2l mq207 dd207_38
theorem dd207_39 : decode cX12_between 39 = .ok (.iload_n 2, 1) := by decide +kernel
theorem ww207_39 {d : Nat} {l0 l1 l3 l4 : Option mw_V} {x : Int} {st : List mw_V} {σ : mw_S} {Q : Option mw_V → mw_S → Prop} : mw_WP d 207 39 [l0, l1, some (jI x), l3, l4] st σ Q ↔ mw_WP d 207 40 [l0, l1, some (jI x), l3, l4] (jI x :: st) σ Q := WP_iload_n mq207 dd207_39 rfl
theorem dd207_40 : decode cX12_between 40 = .ok (.i2l, 1) := by decide +kernel
theorem ww207_40 {d : Nat} {l0 l1 l2 l3 l4 : Option mw_V} {x : Int} {st : List mw_V} {σ : mw_S} {Q : Option mw_V → mw_S → Prop} : mw_WP d 207 40 [l0, l1, l2, l3, l4] (jI x :: st) σ Q ↔ mw_WP d 207 41 [l0, l1, l2, l3, l4] (jL (yL x) :: st) σ Q := WP_i2l mq207 dd207_40
theorem dd207_41 : decode cX12_between 41 = .ok (.lmul, 1) := by decide +kernel
theorem ww207_41 {d : Nat} {l0 l1 l2 l3 l4 : Option mw_V} {x y : Int} {st : List mw_V} {σ : mw_S} {Q : Option mw_V → mw_S → Prop} : mw_WP d 207 41 [l0, l1, l2, l3, l4] (jL y :: jL x :: st) σ Q ↔ mw_WP d 207 42 [l0, l1, l2, l3, l4] (jL (w64 (x * y)) :: st) σ Q := WP_lmul mq207 dd207_41
theorem dd207_42 : decode cX12_between 42 = .ok (.lstore_n 3, 1) := by decide +kernel
theorem ww207_42 {d : Nat} {l0 l1 l2 l3 l4 : Option mw_V} {x : Int} {st : List mw_V} {σ : mw_S} {Q : Option mw_V → mw_S → Prop} (h : mw_nlo l2 = true) : mw_WP d 207 42 [l0, l1, l2, l3, l4] (jL x :: st) σ Q ↔ mw_WP d 207 43 [l0, l1, l2, some (jL x), none] st σ Q := WP_lstore_n mq207 dd207_42 (Nat.le_of_ble_eq_true rfl) (mw_nl_of (i := 2) rfl h) rfl
theorem dd207_43 : decode cX12_between 43 = .ok (.lload_n 3, 1) := by decide +kernel
theorem ww207_43 {d : Nat} {l0 l1 l2 l4 : Option mw_V} {x : Int} {st : List mw_V} {σ : mw_S} {Q : Option mw_V → mw_S → Prop} : mw_WP d 207 43 [l0, l1, l2, some (jL x), l4] st σ Q ↔ mw_WP d 207 44 [l0, l1, l2, some (jL x), l4] (jL x :: st) σ Q := WP_lload_n mq207 dd207_43 rfl
theorem dd207_44 : decode cX12_between 44 = .ok (.ldc2_w 235, 3) := by decide +kernel
theorem ww207_44 {d : Nat} {l0 l1 l2 l3 l4 : Option mw_V} {st : List mw_V} {σ : mw_S} {Q : Option mw_V → mw_S → Prop} : mw_WP d 207 44 [l0, l1, l2, l3, l4] st σ Q ↔ mw_WP d 207 47 [l0, l1, l2, l3, l4] (jL (1000000) :: st) σ Q := WP_ldc2_w (v := 1000000) mq207 dd207_44 (by decide) (by decide)
theorem dd207_47 : decode cX12_between 47 = .ok (.lcmp, 1) := by decide +kernel
theorem ww207_47 {d : Nat} {l0 l1 l2 l3 l4 : Option mw_V} {x y : Int} {st : List mw_V} {σ : mw_S} {Q : Option mw_V → mw_S → Prop} : mw_WP d 207 47 [l0, l1, l2, l3, l4] (jL y :: jL x :: st) σ Q ↔ mw_WP d 207 48 [l0, l1, l2, l3, l4] (jI (yCmp x y) :: st) σ Q := WP_lcmp mq207 dd207_47
theorem dd207_48 : decode cX12_between 48 = .ok (.ifCond .le 9, 3) := by decide +kernel
theorem ww207_48 {d : Nat} {l0 l1 l2 l3 l4 : Option mw_V} {x : Int} {st : List mw_V} {σ : mw_S} {Q : Option mw_V → mw_S → Prop} : mw_WP d 207 48 [l0, l1, l2, l3, l4] (jI x :: st) σ Q ↔ (if x ≤ 0 then mw_WP d 207 57 [l0, l1, l2, l3, l4] st σ Q else mw_WP d 207 51 [l0, l1, l2, l3, l4] st σ Q) := WP_if_le mq207 dd207_48 (by decide)
theorem dd207_51 : decode cX12_between 51 = .ok (.ldc2_w 235, 3) := by decide +kernel
theorem ww207_51 {d : Nat} {l0 l1 l2 l3 l4 : Option mw_V} {st : List mw_V} {σ : mw_S} {Q : Option mw_V → mw_S → Prop} : mw_WP d 207 51 [l0, l1, l2, l3, l4] st σ Q ↔ mw_WP d 207 54 [l0, l1, l2, l3, l4] (jL (1000000) :: st) σ Q := WP_ldc2_w (v := 1000000) mq207 dd207_51 (by decide) (by decide)
theorem dd207_54 : decode cX12_between 54 = .ok (.goto 18, 3) := by decide +kernel
theorem ww207_54 {d : Nat} {l0 l1 l2 l3 l4 : Option mw_V} {st : List mw_V} {σ : mw_S} {Q : Option mw_V → mw_S → Prop} : mw_WP d 207 54 [l0, l1, l2, l3, l4] st σ Q ↔ mw_WP d 207 72 [l0, l1, l2, l3, l4] st σ Q := WP_goto mq207 dd207_54 (by decide)
theorem dd207_57 : decode cX12_between 57 = .ok (.lload_n 3, 1) := by decide +kernel
theorem ww207_57 {d : Nat} {l0 l1 l2 l4 : Option mw_V} {x : Int} {st : List mw_V} {σ : mw_S} {Q : Option mw_V → mw_S → Prop} : mw_WP d 207 57 [l0, l1, l2, some (jL x), l4] st σ Q ↔ mw_WP d 207 58 [l0, l1, l2, some (jL x), l4] (jL x :: st) σ Q := WP_lload_n mq207 dd207_57 rfl
theorem dd207_58 : decode cX12_between 58 = .ok (.ldc2_w 237, 3) := by decide +kernel
theorem ww207_58 {d : Nat} {l0 l1 l2 l3 l4 : Option mw_V} {st : List mw_V} {σ : mw_S} {Q : Option mw_V → mw_S → Prop} : mw_WP d 207 58 [l0, l1, l2, l3, l4] st σ Q ↔ mw_WP d 207 61 [l0, l1, l2, l3, l4] (jL (-1000000) :: st) σ Q := WP_ldc2_w (v := -1000000) mq207 dd207_58 (by decide) (by decide)
theorem dd207_61 : decode cX12_between 61 = .ok (.lcmp, 1) := by decide +kernel
theorem ww207_61 {d : Nat} {l0 l1 l2 l3 l4 : Option mw_V} {x y : Int} {st : List mw_V} {σ : mw_S} {Q : Option mw_V → mw_S → Prop} : mw_WP d 207 61 [l0, l1, l2, l3, l4] (jL y :: jL x :: st) σ Q ↔ mw_WP d 207 62 [l0, l1, l2, l3, l4] (jI (yCmp x y) :: st) σ Q := WP_lcmp mq207 dd207_61
theorem dd207_62 : decode cX12_between 62 = .ok (.ifCond .ge 9, 3) := by decide +kernel
theorem ww207_62 {d : Nat} {l0 l1 l2 l3 l4 : Option mw_V} {x : Int} {st : List mw_V} {σ : mw_S} {Q : Option mw_V → mw_S → Prop} : mw_WP d 207 62 [l0, l1, l2, l3, l4] (jI x :: st) σ Q ↔ (if 0 ≤ x then mw_WP d 207 71 [l0, l1, l2, l3, l4] st σ Q else mw_WP d 207 65 [l0, l1, l2, l3, l4] st σ Q) := WP_if_ge mq207 dd207_62 (by decide)
theorem dd207_65 : decode cX12_between 65 = .ok (.ldc2_w 237, 3) := by decide +kernel
theorem ww207_65 {d : Nat} {l0 l1 l2 l3 l4 : Option mw_V} {st : List mw_V} {σ : mw_S} {Q : Option mw_V → mw_S → Prop} : mw_WP d 207 65 [l0, l1, l2, l3, l4] st σ Q ↔ mw_WP d 207 68 [l0, l1, l2, l3, l4] (jL (-1000000) :: st) σ Q := WP_ldc2_w (v := -1000000) mq207 dd207_65 (by decide) (by decide)
theorem dd207_68 : decode cX12_between 68 = .ok (.goto 4, 3) := by decide +kernel
theorem ww207_68 {d : Nat} {l0 l1 l2 l3 l4 : Option mw_V} {st : List mw_V} {σ : mw_S} {Q : Option mw_V → mw_S → Prop} : mw_WP d 207 68 [l0, l1, l2, l3, l4] st σ Q ↔ mw_WP d 207 72 [l0, l1, l2, l3, l4] st σ Q := WP_goto mq207 dd207_68 (by decide)
theorem dd207_71 : decode cX12_between 71 = .ok (.lload_n 3, 1) := by decide +kernel
theorem ww207_71 {d : Nat} {l0 l1 l2 l4 : Option mw_V} {x : Int} {st : List mw_V} {σ : mw_S} {Q : Option mw_V → mw_S → Prop} : mw_WP d 207 71 [l0, l1, l2, some (jL x), l4] st σ Q ↔ mw_WP d 207 72 [l0, l1, l2, some (jL x), l4] (jL x :: st) σ Q := WP_lload_n mq207 dd207_71 rfl
theorem dd207_72 : decode cX12_between 72 = .ok (.l2i, 1) := by decide +kernel
theorem ww207_72 {d : Nat} {l0 l1 l2 l3 l4 : Option mw_V} {x : Int} {st : List mw_V} {σ : mw_S} {Q : Option mw_V → mw_S → Prop} : mw_WP d 207 72 [l0, l1, l2, l3, l4] (jL x :: st) σ Q ↔ mw_WP d 207 73 [l0, l1, l2, l3, l4] (jI (zI x) :: st) σ Q := WP_l2i mq207 dd207_72
theorem dd207_73 : decode cX12_between 73 = .ok (.ireturn, 1) := by decide +kernel
theorem ww207_73 {d : Nat} {l0 l1 l2 l3 l4 : Option mw_V} {z : Int} {σ : mw_S} {Q : Option mw_V → mw_S → Prop} : mw_WP d 207 73 [l0, l1, l2, l3, l4] [jI z] σ Q ↔ Q (some (jI z)) σ := WP_ireturn (ty := .int) mq207 dd207_73 rfl rfl
theorem dd207_74 : decode cX12_between 74 = .ok (.iload_n 0, 1) := by decide +kernel
theorem ww207_74 {d : Nat} {l1 l2 l3 l4 : Option mw_V} {x : Int} {st : List mw_V} {σ : mw_S} {Q : Option mw_V → mw_S → Prop} : mw_WP d 207 74 [some (jI x), l1, l2, l3, l4] st σ Q ↔ mw_WP d 207 75 [some (jI x), l1, l2, l3, l4] (jI x :: st) σ Q := WP_iload_n mq207 dd207_74 rfl
theorem dd207_75 : decode cX12_between 75 = .ok (.sipush 3003, 3) := by decide +kernel
theorem ww207_75 {d : Nat} {l0 l1 l2 l3 l4 : Option mw_V} {st : List mw_V} {σ : mw_S} {Q : Option mw_V → mw_S → Prop} : mw_WP d 207 75 [l0, l1, l2, l3, l4] st σ Q ↔ mw_WP d 207 78 [l0, l1, l2, l3, l4] (jI (3003) :: st) σ Q := WP_sipush mq207 dd207_75 (by decide)
theorem dd207_78 : decode cX12_between 78 = .ok (.if_icmp .ne 16, 3) := by decide +kernel
theorem ww207_78 {d : Nat} {l0 l1 l2 l3 l4 : Option mw_V} {x y : Int} {st : List mw_V} {σ : mw_S} {Q : Option mw_V → mw_S → Prop} : mw_WP d 207 78 [l0, l1, l2, l3, l4] (jI y :: jI x :: st) σ Q ↔ (if ¬ x = y then mw_WP d 207 94 [l0, l1, l2, l3, l4] st σ Q else mw_WP d 207 81 [l0, l1, l2, l3, l4] st σ Q) := WP_icmp_ne mq207 dd207_78 (by decide)
theorem dd207_81 : decode cX12_between 81 = .ok (.iload_n 1, 1) := by decide +kernel
theorem ww207_81 {d : Nat} {l0 l2 l3 l4 : Option mw_V} {x : Int} {st : List mw_V} {σ : mw_S} {Q : Option mw_V → mw_S → Prop} : mw_WP d 207 81 [l0, some (jI x), l2, l3, l4] st σ Q ↔ mw_WP d 207 82 [l0, some (jI x), l2, l3, l4] (jI x :: st) σ Q := WP_iload_n mq207 dd207_81 rfl
theorem dd207_82 : decode cX12_between 82 = .ok (.iload_n 2, 1) := by decide +kernel
theorem ww207_82 {d : Nat} {l0 l1 l3 l4 : Option mw_V} {x : Int} {st : List mw_V} {σ : mw_S} {Q : Option mw_V → mw_S → Prop} : mw_WP d 207 82 [l0, l1, some (jI x), l3, l4] st σ Q ↔ mw_WP d 207 83 [l0, l1, some (jI x), l3, l4] (jI x :: st) σ Q := WP_iload_n mq207 dd207_82 rfl
theorem dd207_83 : decode cX12_between 83 = .ok (.if_icmp .ne 7, 3) := by decide +kernel
theorem ww207_83 {d : Nat} {l0 l1 l2 l3 l4 : Option mw_V} {x y : Int} {st : List mw_V} {σ : mw_S} {Q : Option mw_V → mw_S → Prop} : mw_WP d 207 83 [l0, l1, l2, l3, l4] (jI y :: jI x :: st) σ Q ↔ (if ¬ x = y then mw_WP d 207 90 [l0, l1, l2, l3, l4] st σ Q else mw_WP d 207 86 [l0, l1, l2, l3, l4] st σ Q) := WP_icmp_ne mq207 dd207_83 (by decide)
theorem dd207_86 : decode cX12_between 86 = .ok (.iconst 1, 1) := by decide +kernel
theorem ww207_86 {d : Nat} {l0 l1 l2 l3 l4 : Option mw_V} {st : List mw_V} {σ : mw_S} {Q : Option mw_V → mw_S → Prop} : mw_WP d 207 86 [l0, l1, l2, l3, l4] st σ Q ↔ mw_WP d 207 87 [l0, l1, l2, l3, l4] (jI (1) :: st) σ Q := WP_iconst mq207 dd207_86 (by decide)
theorem dd207_87 : decode cX12_between 87 = .ok (.goto 80, 3) := by decide +kernel
theorem ww207_87 {d : Nat} {l0 l1 l2 l3 l4 : Option mw_V} {st : List mw_V} {σ : mw_S} {Q : Option mw_V → mw_S → Prop} : mw_WP d 207 87 [l0, l1, l2, l3, l4] st σ Q ↔ mw_WP d 207 167 [l0, l1, l2, l3, l4] st σ Q := WP_goto mq207 dd207_87 (by decide)
theorem dd207_90 : decode cX12_between 90 = .ok (.iconst 0, 1) := by decide +kernel
theorem ww207_90 {d : Nat} {l0 l1 l2 l3 l4 : Option mw_V} {st : List mw_V} {σ : mw_S} {Q : Option mw_V → mw_S → Prop} : mw_WP d 207 90 [l0, l1, l2, l3, l4] st σ Q ↔ mw_WP d 207 91 [l0, l1, l2, l3, l4] (jI (0) :: st) σ Q := WP_iconst mq207 dd207_90 (by decide)
theorem dd207_91 : decode cX12_between 91 = .ok (.goto 76, 3) := by decide +kernel
theorem ww207_91 {d : Nat} {l0 l1 l2 l3 l4 : Option mw_V} {st : List mw_V} {σ : mw_S} {Q : Option mw_V → mw_S → Prop} : mw_WP d 207 91 [l0, l1, l2, l3, l4] st σ Q ↔ mw_WP d 207 167 [l0, l1, l2, l3, l4] st σ Q := WP_goto mq207 dd207_91 (by decide)
theorem dd207_94 : decode cX12_between 94 = .ok (.iload_n 0, 1) := by decide +kernel
theorem ww207_94 {d : Nat} {l1 l2 l3 l4 : Option mw_V} {x : Int} {st : List mw_V} {σ : mw_S} {Q : Option mw_V → mw_S → Prop} : mw_WP d 207 94 [some (jI x), l1, l2, l3, l4] st σ Q ↔ mw_WP d 207 95 [some (jI x), l1, l2, l3, l4] (jI x :: st) σ Q := WP_iload_n mq207 dd207_94 rfl
theorem dd207_95 : decode cX12_between 95 = .ok (.sipush 3004, 3) := by decide +kernel
theorem ww207_95 {d : Nat} {l0 l1 l2 l3 l4 : Option mw_V} {st : List mw_V} {σ : mw_S} {Q : Option mw_V → mw_S → Prop} : mw_WP d 207 95 [l0, l1, l2, l3, l4] st σ Q ↔ mw_WP d 207 98 [l0, l1, l2, l3, l4] (jI (3004) :: st) σ Q := WP_sipush mq207 dd207_95 (by decide)
theorem dd207_98 : decode cX12_between 98 = .ok (.if_icmp .ne 16, 3) := by decide +kernel
theorem ww207_98 {d : Nat} {l0 l1 l2 l3 l4 : Option mw_V} {x y : Int} {st : List mw_V} {σ : mw_S} {Q : Option mw_V → mw_S → Prop} : mw_WP d 207 98 [l0, l1, l2, l3, l4] (jI y :: jI x :: st) σ Q ↔ (if ¬ x = y then mw_WP d 207 114 [l0, l1, l2, l3, l4] st σ Q else mw_WP d 207 101 [l0, l1, l2, l3, l4] st σ Q) := WP_icmp_ne mq207 dd207_98 (by decide)
theorem dd207_101 : decode cX12_between 101 = .ok (.iload_n 1, 1) := by decide +kernel
theorem ww207_101 {d : Nat} {l0 l2 l3 l4 : Option mw_V} {x : Int} {st : List mw_V} {σ : mw_S} {Q : Option mw_V → mw_S → Prop} : mw_WP d 207 101 [l0, some (jI x), l2, l3, l4] st σ Q ↔ mw_WP d 207 102 [l0, some (jI x), l2, l3, l4] (jI x :: st) σ Q := WP_iload_n mq207 dd207_101 rfl
theorem dd207_102 : decode cX12_between 102 = .ok (.iload_n 2, 1) := by decide +kernel
theorem ww207_102 {d : Nat} {l0 l1 l3 l4 : Option mw_V} {x : Int} {st : List mw_V} {σ : mw_S} {Q : Option mw_V → mw_S → Prop} : mw_WP d 207 102 [l0, l1, some (jI x), l3, l4] st σ Q ↔ mw_WP d 207 103 [l0, l1, some (jI x), l3, l4] (jI x :: st) σ Q := WP_iload_n mq207 dd207_102 rfl
theorem dd207_103 : decode cX12_between 103 = .ok (.if_icmp .ge 7, 3) := by decide +kernel
theorem ww207_103 {d : Nat} {l0 l1 l2 l3 l4 : Option mw_V} {x y : Int} {st : List mw_V} {σ : mw_S} {Q : Option mw_V → mw_S → Prop} : mw_WP d 207 103 [l0, l1, l2, l3, l4] (jI y :: jI x :: st) σ Q ↔ (if y ≤ x then mw_WP d 207 110 [l0, l1, l2, l3, l4] st σ Q else mw_WP d 207 106 [l0, l1, l2, l3, l4] st σ Q) := WP_icmp_ge mq207 dd207_103 (by decide)
theorem dd207_106 : decode cX12_between 106 = .ok (.iconst 1, 1) := by decide +kernel
theorem ww207_106 {d : Nat} {l0 l1 l2 l3 l4 : Option mw_V} {st : List mw_V} {σ : mw_S} {Q : Option mw_V → mw_S → Prop} : mw_WP d 207 106 [l0, l1, l2, l3, l4] st σ Q ↔ mw_WP d 207 107 [l0, l1, l2, l3, l4] (jI (1) :: st) σ Q := WP_iconst mq207 dd207_106 (by decide)
theorem dd207_107 : decode cX12_between 107 = .ok (.goto 60, 3) := by decide +kernel
theorem ww207_107 {d : Nat} {l0 l1 l2 l3 l4 : Option mw_V} {st : List mw_V} {σ : mw_S} {Q : Option mw_V → mw_S → Prop} : mw_WP d 207 107 [l0, l1, l2, l3, l4] st σ Q ↔ mw_WP d 207 167 [l0, l1, l2, l3, l4] st σ Q := WP_goto mq207 dd207_107 (by decide)
theorem dd207_110 : decode cX12_between 110 = .ok (.iconst 0, 1) := by decide +kernel
theorem ww207_110 {d : Nat} {l0 l1 l2 l3 l4 : Option mw_V} {st : List mw_V} {σ : mw_S} {Q : Option mw_V → mw_S → Prop} : mw_WP d 207 110 [l0, l1, l2, l3, l4] st σ Q ↔ mw_WP d 207 111 [l0, l1, l2, l3, l4] (jI (0) :: st) σ Q := WP_iconst mq207 dd207_110 (by decide)
theorem dd207_111 : decode cX12_between 111 = .ok (.goto 56, 3) := by decide +kernel
theorem ww207_111 {d : Nat} {l0 l1 l2 l3 l4 : Option mw_V} {st : List mw_V} {σ : mw_S} {Q : Option mw_V → mw_S → Prop} : mw_WP d 207 111 [l0, l1, l2, l3, l4] st σ Q ↔ mw_WP d 207 167 [l0, l1, l2, l3, l4] st σ Q := WP_goto mq207 dd207_111 (by decide)
theorem dd207_114 : decode cX12_between 114 = .ok (.iload_n 0, 1) := by decide +kernel
theorem ww207_114 {d : Nat} {l1 l2 l3 l4 : Option mw_V} {x : Int} {st : List mw_V} {σ : mw_S} {Q : Option mw_V → mw_S → Prop} : mw_WP d 207 114 [some (jI x), l1, l2, l3, l4] st σ Q ↔ mw_WP d 207 115 [some (jI x), l1, l2, l3, l4] (jI x :: st) σ Q := WP_iload_n mq207 dd207_114 rfl
theorem dd207_115 : decode cX12_between 115 = .ok (.sipush 3005, 3) := by decide +kernel
theorem ww207_115 {d : Nat} {l0 l1 l2 l3 l4 : Option mw_V} {st : List mw_V} {σ : mw_S} {Q : Option mw_V → mw_S → Prop} : mw_WP d 207 115 [l0, l1, l2, l3, l4] st σ Q ↔ mw_WP d 207 118 [l0, l1, l2, l3, l4] (jI (3005) :: st) σ Q := WP_sipush mq207 dd207_115 (by decide)
theorem dd207_118 : decode cX12_between 118 = .ok (.if_icmp .ne 16, 3) := by decide +kernel
theorem ww207_118 {d : Nat} {l0 l1 l2 l3 l4 : Option mw_V} {x y : Int} {st : List mw_V} {σ : mw_S} {Q : Option mw_V → mw_S → Prop} : mw_WP d 207 118 [l0, l1, l2, l3, l4] (jI y :: jI x :: st) σ Q ↔ (if ¬ x = y then mw_WP d 207 134 [l0, l1, l2, l3, l4] st σ Q else mw_WP d 207 121 [l0, l1, l2, l3, l4] st σ Q) := WP_icmp_ne mq207 dd207_118 (by decide)
theorem dd207_121 : decode cX12_between 121 = .ok (.iload_n 1, 1) := by decide +kernel
theorem ww207_121 {d : Nat} {l0 l2 l3 l4 : Option mw_V} {x : Int} {st : List mw_V} {σ : mw_S} {Q : Option mw_V → mw_S → Prop} : mw_WP d 207 121 [l0, some (jI x), l2, l3, l4] st σ Q ↔ mw_WP d 207 122 [l0, some (jI x), l2, l3, l4] (jI x :: st) σ Q := WP_iload_n mq207 dd207_121 rfl
theorem dd207_122 : decode cX12_between 122 = .ok (.iload_n 2, 1) := by decide +kernel
theorem ww207_122 {d : Nat} {l0 l1 l3 l4 : Option mw_V} {x : Int} {st : List mw_V} {σ : mw_S} {Q : Option mw_V → mw_S → Prop} : mw_WP d 207 122 [l0, l1, some (jI x), l3, l4] st σ Q ↔ mw_WP d 207 123 [l0, l1, some (jI x), l3, l4] (jI x :: st) σ Q := WP_iload_n mq207 dd207_122 rfl
theorem dd207_123 : decode cX12_between 123 = .ok (.if_icmp .le 7, 3) := by decide +kernel
theorem ww207_123 {d : Nat} {l0 l1 l2 l3 l4 : Option mw_V} {x y : Int} {st : List mw_V} {σ : mw_S} {Q : Option mw_V → mw_S → Prop} : mw_WP d 207 123 [l0, l1, l2, l3, l4] (jI y :: jI x :: st) σ Q ↔ (if x ≤ y then mw_WP d 207 130 [l0, l1, l2, l3, l4] st σ Q else mw_WP d 207 126 [l0, l1, l2, l3, l4] st σ Q) := WP_icmp_le mq207 dd207_123 (by decide)
theorem dd207_126 : decode cX12_between 126 = .ok (.iconst 1, 1) := by decide +kernel
theorem ww207_126 {d : Nat} {l0 l1 l2 l3 l4 : Option mw_V} {st : List mw_V} {σ : mw_S} {Q : Option mw_V → mw_S → Prop} : mw_WP d 207 126 [l0, l1, l2, l3, l4] st σ Q ↔ mw_WP d 207 127 [l0, l1, l2, l3, l4] (jI (1) :: st) σ Q := WP_iconst mq207 dd207_126 (by decide)
theorem dd207_127 : decode cX12_between 127 = .ok (.goto 40, 3) := by decide +kernel
theorem ww207_127 {d : Nat} {l0 l1 l2 l3 l4 : Option mw_V} {st : List mw_V} {σ : mw_S} {Q : Option mw_V → mw_S → Prop} : mw_WP d 207 127 [l0, l1, l2, l3, l4] st σ Q ↔ mw_WP d 207 167 [l0, l1, l2, l3, l4] st σ Q := WP_goto mq207 dd207_127 (by decide)
theorem dd207_130 : decode cX12_between 130 = .ok (.iconst 0, 1) := by decide +kernel
theorem ww207_130 {d : Nat} {l0 l1 l2 l3 l4 : Option mw_V} {st : List mw_V} {σ : mw_S} {Q : Option mw_V → mw_S → Prop} : mw_WP d 207 130 [l0, l1, l2, l3, l4] st σ Q ↔ mw_WP d 207 131 [l0, l1, l2, l3, l4] (jI (0) :: st) σ Q := WP_iconst mq207 dd207_130 (by decide)
theorem dd207_131 : decode cX12_between 131 = .ok (.goto 36, 3) := by decide +kernel
theorem ww207_131 {d : Nat} {l0 l1 l2 l3 l4 : Option mw_V} {st : List mw_V} {σ : mw_S} {Q : Option mw_V → mw_S → Prop} : mw_WP d 207 131 [l0, l1, l2, l3, l4] st σ Q ↔ mw_WP d 207 167 [l0, l1, l2, l3, l4] st σ Q := WP_goto mq207 dd207_131 (by decide)
theorem dd207_134 : decode cX12_between 134 = .ok (.iload_n 0, 1) := by decide +kernel
theorem ww207_134 {d : Nat} {l1 l2 l3 l4 : Option mw_V} {x : Int} {st : List mw_V} {σ : mw_S} {Q : Option mw_V → mw_S → Prop} : mw_WP d 207 134 [some (jI x), l1, l2, l3, l4] st σ Q ↔ mw_WP d 207 135 [some (jI x), l1, l2, l3, l4] (jI x :: st) σ Q := WP_iload_n mq207 dd207_134 rfl
theorem dd207_135 : decode cX12_between 135 = .ok (.sipush 3006, 3) := by decide +kernel
theorem ww207_135 {d : Nat} {l0 l1 l2 l3 l4 : Option mw_V} {st : List mw_V} {σ : mw_S} {Q : Option mw_V → mw_S → Prop} : mw_WP d 207 135 [l0, l1, l2, l3, l4] st σ Q ↔ mw_WP d 207 138 [l0, l1, l2, l3, l4] (jI (3006) :: st) σ Q := WP_sipush mq207 dd207_135 (by decide)
theorem dd207_138 : decode cX12_between 138 = .ok (.if_icmp .ne 18, 3) := by decide +kernel
theorem ww207_138 {d : Nat} {l0 l1 l2 l3 l4 : Option mw_V} {x y : Int} {st : List mw_V} {σ : mw_S} {Q : Option mw_V → mw_S → Prop} : mw_WP d 207 138 [l0, l1, l2, l3, l4] (jI y :: jI x :: st) σ Q ↔ (if ¬ x = y then mw_WP d 207 156 [l0, l1, l2, l3, l4] st σ Q else mw_WP d 207 141 [l0, l1, l2, l3, l4] st σ Q) := WP_icmp_ne mq207 dd207_138 (by decide)
theorem dd207_141 : decode cX12_between 141 = .ok (.iload_n 1, 1) := by decide +kernel
theorem ww207_141 {d : Nat} {l0 l2 l3 l4 : Option mw_V} {x : Int} {st : List mw_V} {σ : mw_S} {Q : Option mw_V → mw_S → Prop} : mw_WP d 207 141 [l0, some (jI x), l2, l3, l4] st σ Q ↔ mw_WP d 207 142 [l0, some (jI x), l2, l3, l4] (jI x :: st) σ Q := WP_iload_n mq207 dd207_141 rfl
theorem dd207_142 : decode cX12_between 142 = .ok (.iload_n 2, 1) := by decide +kernel
theorem ww207_142 {d : Nat} {l0 l1 l3 l4 : Option mw_V} {x : Int} {st : List mw_V} {σ : mw_S} {Q : Option mw_V → mw_S → Prop} : mw_WP d 207 142 [l0, l1, some (jI x), l3, l4] st σ Q ↔ mw_WP d 207 143 [l0, l1, some (jI x), l3, l4] (jI x :: st) σ Q := WP_iload_n mq207 dd207_142 rfl
theorem dd207_143 : decode cX12_between 143 = .ok (.iadd, 1) := by decide +kernel
theorem ww207_143 {d : Nat} {l0 l1 l2 l3 l4 : Option mw_V} {x y : Int} {st : List mw_V} {σ : mw_S} {Q : Option mw_V → mw_S → Prop} : mw_WP d 207 143 [l0, l1, l2, l3, l4] (jI y :: jI x :: st) σ Q ↔ mw_WP d 207 144 [l0, l1, l2, l3, l4] (jI (w32 (x + y)) :: st) σ Q := WP_iadd mq207 dd207_143
theorem dd207_144 : decode cX12_between 144 = .ok (.iconst 2, 1) := by decide +kernel
theorem ww207_144 {d : Nat} {l0 l1 l2 l3 l4 : Option mw_V} {st : List mw_V} {σ : mw_S} {Q : Option mw_V → mw_S → Prop} : mw_WP d 207 144 [l0, l1, l2, l3, l4] st σ Q ↔ mw_WP d 207 145 [l0, l1, l2, l3, l4] (jI (2) :: st) σ Q := WP_iconst mq207 dd207_144 (by decide)
theorem dd207_145 : decode cX12_between 145 = .ok (.if_icmp .ne 7, 3) := by decide +kernel
theorem ww207_145 {d : Nat} {l0 l1 l2 l3 l4 : Option mw_V} {x y : Int} {st : List mw_V} {σ : mw_S} {Q : Option mw_V → mw_S → Prop} : mw_WP d 207 145 [l0, l1, l2, l3, l4] (jI y :: jI x :: st) σ Q ↔ (if ¬ x = y then mw_WP d 207 152 [l0, l1, l2, l3, l4] st σ Q else mw_WP d 207 148 [l0, l1, l2, l3, l4] st σ Q) := WP_icmp_ne mq207 dd207_145 (by decide)
theorem dd207_148 : decode cX12_between 148 = .ok (.iconst 1, 1) := by decide +kernel
theorem ww207_148 {d : Nat} {l0 l1 l2 l3 l4 : Option mw_V} {st : List mw_V} {σ : mw_S} {Q : Option mw_V → mw_S → Prop} : mw_WP d 207 148 [l0, l1, l2, l3, l4] st σ Q ↔ mw_WP d 207 149 [l0, l1, l2, l3, l4] (jI (1) :: st) σ Q := WP_iconst mq207 dd207_148 (by decide)
theorem dd207_149 : decode cX12_between 149 = .ok (.goto 18, 3) := by decide +kernel
theorem ww207_149 {d : Nat} {l0 l1 l2 l3 l4 : Option mw_V} {st : List mw_V} {σ : mw_S} {Q : Option mw_V → mw_S → Prop} : mw_WP d 207 149 [l0, l1, l2, l3, l4] st σ Q ↔ mw_WP d 207 167 [l0, l1, l2, l3, l4] st σ Q := WP_goto mq207 dd207_149 (by decide)
theorem dd207_152 : decode cX12_between 152 = .ok (.iconst 0, 1) := by decide +kernel
theorem ww207_152 {d : Nat} {l0 l1 l2 l3 l4 : Option mw_V} {st : List mw_V} {σ : mw_S} {Q : Option mw_V → mw_S → Prop} : mw_WP d 207 152 [l0, l1, l2, l3, l4] st σ Q ↔ mw_WP d 207 153 [l0, l1, l2, l3, l4] (jI (0) :: st) σ Q := WP_iconst mq207 dd207_152 (by decide)
theorem dd207_153 : decode cX12_between 153 = .ok (.goto 14, 3) := by decide +kernel
theorem ww207_153 {d : Nat} {l0 l1 l2 l3 l4 : Option mw_V} {st : List mw_V} {σ : mw_S} {Q : Option mw_V → mw_S → Prop} : mw_WP d 207 153 [l0, l1, l2, l3, l4] st σ Q ↔ mw_WP d 207 167 [l0, l1, l2, l3, l4] st σ Q := WP_goto mq207 dd207_153 (by decide)
theorem dd207_156 : decode cX12_between 156 = .ok (.iload_n 1, 1) := by decide +kernel
theorem ww207_156 {d : Nat} {l0 l2 l3 l4 : Option mw_V} {x : Int} {st : List mw_V} {σ : mw_S} {Q : Option mw_V → mw_S → Prop} : mw_WP d 207 156 [l0, some (jI x), l2, l3, l4] st σ Q ↔ mw_WP d 207 157 [l0, some (jI x), l2, l3, l4] (jI x :: st) σ Q := WP_iload_n mq207 dd207_156 rfl
theorem dd207_157 : decode cX12_between 157 = .ok (.iload_n 2, 1) := by decide +kernel
theorem ww207_157 {d : Nat} {l0 l1 l3 l4 : Option mw_V} {x : Int} {st : List mw_V} {σ : mw_S} {Q : Option mw_V → mw_S → Prop} : mw_WP d 207 157 [l0, l1, some (jI x), l3, l4] st σ Q ↔ mw_WP d 207 158 [l0, l1, some (jI x), l3, l4] (jI x :: st) σ Q := WP_iload_n mq207 dd207_157 rfl
theorem dd207_158 : decode cX12_between 158 = .ok (.iadd, 1) := by decide +kernel
theorem ww207_158 {d : Nat} {l0 l1 l2 l3 l4 : Option mw_V} {x y : Int} {st : List mw_V} {σ : mw_S} {Q : Option mw_V → mw_S → Prop} : mw_WP d 207 158 [l0, l1, l2, l3, l4] (jI y :: jI x :: st) σ Q ↔ mw_WP d 207 159 [l0, l1, l2, l3, l4] (jI (w32 (x + y)) :: st) σ Q := WP_iadd mq207 dd207_158
theorem dd207_159 : decode cX12_between 159 = .ok (.ifCond .le 7, 3) := by decide +kernel
theorem ww207_159 {d : Nat} {l0 l1 l2 l3 l4 : Option mw_V} {x : Int} {st : List mw_V} {σ : mw_S} {Q : Option mw_V → mw_S → Prop} : mw_WP d 207 159 [l0, l1, l2, l3, l4] (jI x :: st) σ Q ↔ (if x ≤ 0 then mw_WP d 207 166 [l0, l1, l2, l3, l4] st σ Q else mw_WP d 207 162 [l0, l1, l2, l3, l4] st σ Q) := WP_if_le mq207 dd207_159 (by decide)
theorem dd207_162 : decode cX12_between 162 = .ok (.iconst 1, 1) := by decide +kernel
theorem ww207_162 {d : Nat} {l0 l1 l2 l3 l4 : Option mw_V} {st : List mw_V} {σ : mw_S} {Q : Option mw_V → mw_S → Prop} : mw_WP d 207 162 [l0, l1, l2, l3, l4] st σ Q ↔ mw_WP d 207 163 [l0, l1, l2, l3, l4] (jI (1) :: st) σ Q := WP_iconst mq207 dd207_162 (by decide)
theorem dd207_163 : decode cX12_between 163 = .ok (.goto 4, 3) := by decide +kernel
theorem ww207_163 {d : Nat} {l0 l1 l2 l3 l4 : Option mw_V} {st : List mw_V} {σ : mw_S} {Q : Option mw_V → mw_S → Prop} : mw_WP d 207 163 [l0, l1, l2, l3, l4] st σ Q ↔ mw_WP d 207 167 [l0, l1, l2, l3, l4] st σ Q := WP_goto mq207 dd207_163 (by decide)
theorem dd207_166 : decode cX12_between 166 = .ok (.iconst 0, 1) := by decide +kernel
theorem ww207_166 {d : Nat} {l0 l1 l2 l3 l4 : Option mw_V} {st : List mw_V} {σ : mw_S} {Q : Option mw_V → mw_S → Prop} : mw_WP d 207 166 [l0, l1, l2, l3, l4] st σ Q ↔ mw_WP d 207 167 [l0, l1, l2, l3, l4] (jI (0) :: st) σ Q := WP_iconst mq207 dd207_166 (by decide)
theorem dd207_167 : decode cX12_between 167 = .ok (.istore_n 3, 1) := by decide +kernel
theorem ww207_167 {d : Nat} {l0 l1 l2 l3 l4 : Option mw_V} {x : Int} {st : List mw_V} {σ : mw_S} {Q : Option mw_V → mw_S → Prop} (h : mw_nlo l2 = true) : mw_WP d 207 167 [l0, l1, l2, l3, l4] (jI x :: st) σ Q ↔ mw_WP d 207 168 [l0, l1, l2, some (jI x), l4] st σ Q := WP_istore_n mq207 dd207_167 (Nat.le_of_ble_eq_true rfl) (mw_nl_of (i := 2) rfl h) rfl
theorem dd207_168 : decode cX12_between 168 = .ok (.iload_n 3, 1) := by decide +kernel
theorem ww207_168 {d : Nat} {l0 l1 l2 l4 : Option mw_V} {x : Int} {st : List mw_V} {σ : mw_S} {Q : Option mw_V → mw_S → Prop} : mw_WP d 207 168 [l0, l1, l2, some (jI x), l4] st σ Q ↔ mw_WP d 207 169 [l0, l1, l2, some (jI x), l4] (jI x :: st) σ Q := WP_iload_n mq207 dd207_168 rfl
theorem dd207_169 : decode cX12_between 169 = .ok (.ifCond .eq 7, 3) := by decide +kernel
theorem ww207_169 {d : Nat} {l0 l1 l2 l3 l4 : Option mw_V} {x : Int} {st : List mw_V} {σ : mw_S} {Q : Option mw_V → mw_S → Prop} : mw_WP d 207 169 [l0, l1, l2, l3, l4] (jI x :: st) σ Q ↔ (if x = 0 then mw_WP d 207 176 [l0, l1, l2, l3, l4] st σ Q else mw_WP d 207 172 [l0, l1, l2, l3, l4] st σ Q) := WP_if_eq mq207 dd207_169 (by decide)
theorem dd207_172 : decode cX12_between 172 = .ok (.iconst 1, 1) := by decide +kernel
theorem ww207_172 {d : Nat} {l0 l1 l2 l3 l4 : Option mw_V} {st : List mw_V} {σ : mw_S} {Q : Option mw_V → mw_S → Prop} : mw_WP d 207 172 [l0, l1, l2, l3, l4] st σ Q ↔ mw_WP d 207 173 [l0, l1, l2, l3, l4] (jI (1) :: st) σ Q := WP_iconst mq207 dd207_172 (by decide)
theorem dd207_173 : decode cX12_between 173 = .ok (.goto 4, 3) := by decide +kernel
theorem ww207_173 {d : Nat} {l0 l1 l2 l3 l4 : Option mw_V} {st : List mw_V} {σ : mw_S} {Q : Option mw_V → mw_S → Prop} : mw_WP d 207 173 [l0, l1, l2, l3, l4] st σ Q ↔ mw_WP d 207 177 [l0, l1, l2, l3, l4] st σ Q := WP_goto mq207 dd207_173 (by decide)
theorem dd207_176 : decode cX12_between 176 = .ok (.iconst 0, 1) := by decide +kernel
theorem ww207_176 {d : Nat} {l0 l1 l2 l3 l4 : Option mw_V} {st : List mw_V} {σ : mw_S} {Q : Option mw_V → mw_S → Prop} : mw_WP d 207 176 [l0, l1, l2, l3, l4] st σ Q ↔ mw_WP d 207 177 [l0, l1, l2, l3, l4] (jI (0) :: st) σ Q := WP_iconst mq207 dd207_176 (by decide)
theorem dd207_177 : decode cX12_between 177 = .ok (.ireturn, 1) := by decide +kernel
theorem ww207_177 {d : Nat} {l0 l1 l2 l3 l4 : Option mw_V} {z : Int} {σ : mw_S} {Q : Option mw_V → mw_S → Prop} : mw_WP d 207 177 [l0, l1, l2, l3, l4] [jI z] σ Q ↔ Q (some (jI z)) σ := WP_ireturn (ty := .int) mq207 dd207_177 rfl rfl
theorem ee208 {d : Nat} {a : Nat} {z0 : Int} {z1 : Int} {z2 : Int} {σ : mw_S} {Q : Option mw_V → mw_S → Prop} : mw_Call (d + 1) 208 [jR a, jI z0, jI z1, jI z2] σ Q ↔ mw_WP d 208 0 [some (jR a), some (jI z0), some (jI z1), some (jI z2)] [] σ Q := CL_u mq208 (Nat.le_of_ble_eq_true rfl) rfl
theorem dd208_0 : decode cX12_wordOf 0 = .ok (.iload_n 1, 1) := by decide +kernel
theorem ww208_0 {d : Nat} {l0 l2 l3 : Option mw_V} {x : Int} {st : List mw_V} {σ : mw_S} {Q : Option mw_V → mw_S → Prop} : mw_WP d 208 0 [l0, some (jI x), l2, l3] st σ Q ↔ mw_WP d 208 1 [l0, some (jI x), l2, l3] (jI x :: st) σ Q := WP_iload_n mq208 dd208_0 rfl
theorem dd208_1 : decode cX12_wordOf 1 = .ok (.sipush 1000, 3) := by decide +kernel
theorem ww208_1 {d : Nat} {l0 l1 l2 l3 : Option mw_V} {st : List mw_V} {σ : mw_S} {Q : Option mw_V → mw_S → Prop} : mw_WP d 208 1 [l0, l1, l2, l3] st σ Q ↔ mw_WP d 208 4 [l0, l1, l2, l3] (jI (1000) :: st) σ Q := WP_sipush mq208 dd208_1 (by decide)
theorem dd208_4 : decode cX12_wordOf 4 = .ok (.isub, 1) := by decide +kernel
theorem ww208_4 {d : Nat} {l0 l1 l2 l3 : Option mw_V} {x y : Int} {st : List mw_V} {σ : mw_S} {Q : Option mw_V → mw_S → Prop} : mw_WP d 208 4 [l0, l1, l2, l3] (jI y :: jI x :: st) σ Q ↔ mw_WP d 208 5 [l0, l1, l2, l3] (jI (w32 (x - y)) :: st) σ Q := WP_isub mq208 dd208_4
theorem dd208_5 : decode cX12_wordOf 5 = .ok (.tableswitch 92 0 5 #[39, 47, 53, 53, 80, 90], 39) := by decide +kernel
theorem ww208_5k0 {d : Nat} {l0 l1 l2 l3 : Option mw_V} {st : List mw_V} {σ : mw_S} {Q : Option mw_V → mw_S → Prop} : mw_WP d 208 5 [l0, l1, l2, l3] (jI (0) :: st) σ Q ↔ mw_WP d 208 44 [l0, l1, l2, l3] st σ Q := WP_k mq208 dd208_5 rfl (fun _ _ => by simp [mw_stp, mw_b1, mw_go])
theorem ww208_5k1 {d : Nat} {l0 l1 l2 l3 : Option mw_V} {st : List mw_V} {σ : mw_S} {Q : Option mw_V → mw_S → Prop} : mw_WP d 208 5 [l0, l1, l2, l3] (jI (1) :: st) σ Q ↔ mw_WP d 208 52 [l0, l1, l2, l3] st σ Q := WP_k mq208 dd208_5 rfl (fun _ _ => by simp [mw_stp, mw_b1, mw_go])
theorem ww208_5k2 {d : Nat} {l0 l1 l2 l3 : Option mw_V} {st : List mw_V} {σ : mw_S} {Q : Option mw_V → mw_S → Prop} : mw_WP d 208 5 [l0, l1, l2, l3] (jI (2) :: st) σ Q ↔ mw_WP d 208 58 [l0, l1, l2, l3] st σ Q := WP_k mq208 dd208_5 rfl (fun _ _ => by simp [mw_stp, mw_b1, mw_go])
theorem ww208_5k3 {d : Nat} {l0 l1 l2 l3 : Option mw_V} {st : List mw_V} {σ : mw_S} {Q : Option mw_V → mw_S → Prop} : mw_WP d 208 5 [l0, l1, l2, l3] (jI (3) :: st) σ Q ↔ mw_WP d 208 58 [l0, l1, l2, l3] st σ Q := WP_k mq208 dd208_5 rfl (fun _ _ => by simp [mw_stp, mw_b1, mw_go])
theorem ww208_5k4 {d : Nat} {l0 l1 l2 l3 : Option mw_V} {st : List mw_V} {σ : mw_S} {Q : Option mw_V → mw_S → Prop} : mw_WP d 208 5 [l0, l1, l2, l3] (jI (4) :: st) σ Q ↔ mw_WP d 208 85 [l0, l1, l2, l3] st σ Q := WP_k mq208 dd208_5 rfl (fun _ _ => by simp [mw_stp, mw_b1, mw_go])
theorem ww208_5k5 {d : Nat} {l0 l1 l2 l3 : Option mw_V} {st : List mw_V} {σ : mw_S} {Q : Option mw_V → mw_S → Prop} : mw_WP d 208 5 [l0, l1, l2, l3] (jI (5) :: st) σ Q ↔ mw_WP d 208 95 [l0, l1, l2, l3] st σ Q := WP_k mq208 dd208_5 rfl (fun _ _ => by simp [mw_stp, mw_b1, mw_go])
theorem ww208_5kd {d : Nat} {l0 l1 l2 l3 : Option mw_V} {x : Int} {st : List mw_V} {σ : mw_S} {Q : Option mw_V → mw_S → Prop} (h : x < 0 ∨ 5 < x) : mw_WP d 208 5 [l0, l1, l2, l3] (jI x :: st) σ Q ↔ mw_WP d 208 97 [l0, l1, l2, l3] st σ Q := WP_k mq208 dd208_5 rfl (fun _ _ => by simp [mw_stp, mw_b1, mw_go, h])
theorem dd208_44 : decode cX12_wordOf 44 = .ok (.aload_n 0, 1) := by decide +kernel
theorem ww208_44 {d : Nat} {l1 l2 l3 : Option mw_V} {x : Nat} {st : List mw_V} {σ : mw_S} {Q : Option mw_V → mw_S → Prop} : mw_WP d 208 44 [some (jR x), l1, l2, l3] st σ Q ↔ mw_WP d 208 45 [some (jR x), l1, l2, l3] (jR x :: st) σ Q := WP_aload_n mq208 dd208_44 rfl
theorem dd208_45 : decode cX12_wordOf 45 = .ok (.iload_n 2, 1) := by decide +kernel
theorem ww208_45 {d : Nat} {l0 l1 l3 : Option mw_V} {x : Int} {st : List mw_V} {σ : mw_S} {Q : Option mw_V → mw_S → Prop} : mw_WP d 208 45 [l0, l1, some (jI x), l3] st σ Q ↔ mw_WP d 208 46 [l0, l1, some (jI x), l3] (jI x :: st) σ Q := WP_iload_n mq208 dd208_45 rfl
theorem dd208_46 : decode cX12_wordOf 46 = .ok (.iconst 3, 1) := by decide +kernel
theorem ww208_46 {d : Nat} {l0 l1 l2 l3 : Option mw_V} {st : List mw_V} {σ : mw_S} {Q : Option mw_V → mw_S → Prop} : mw_WP d 208 46 [l0, l1, l2, l3] st σ Q ↔ mw_WP d 208 47 [l0, l1, l2, l3] (jI (3) :: st) σ Q := WP_iconst mq208 dd208_46 (by decide)
theorem dd208_47 : decode cX12_wordOf 47 = .ok (.iadd, 1) := by decide +kernel
theorem ww208_47 {d : Nat} {l0 l1 l2 l3 : Option mw_V} {x y : Int} {st : List mw_V} {σ : mw_S} {Q : Option mw_V → mw_S → Prop} : mw_WP d 208 47 [l0, l1, l2, l3] (jI y :: jI x :: st) σ Q ↔ mw_WP d 208 48 [l0, l1, l2, l3] (jI (w32 (x + y)) :: st) σ Q := WP_iadd mq208 dd208_47
theorem dd208_48 : decode cX12_wordOf 48 = .ok (.invokevirtual 216, 3) := by decide +kernel
theorem ww208_48 {d : Nat} {l0 l1 l2 l3 : Option mw_V} {v0 : mw_V} {a : Nat} {st : List mw_V} {σ : mw_S} {Q : Option mw_V → mw_S → Prop} (hr : mw_rc a = 12) (h8 : (st.map mw_cat).sum ≤ 8) : mw_WP d 208 48 [l0, l1, l2, l3] (v0 :: jR a :: st) σ Q ↔ mw_Call d 197 [jR a, v0] σ (fun r1 s1 => mw_WP d 208 51 [l0, l1, l2, l3] (r1.toList ++ st) s1 Q) := WP_inv (as := [v0]) mq208 dd208_48 (by decide) mq197 rfl hr h8
theorem dd208_51 : decode cX12_wordOf 51 = .ok (.ireturn, 1) := by decide +kernel
theorem ww208_51 {d : Nat} {l0 l1 l2 l3 : Option mw_V} {z : Int} {σ : mw_S} {Q : Option mw_V → mw_S → Prop} : mw_WP d 208 51 [l0, l1, l2, l3] [jI z] σ Q ↔ Q (some (jI z)) σ := WP_ireturn (ty := .int) mq208 dd208_51 rfl rfl
theorem dd208_52 : decode cX12_wordOf 52 = .ok (.aload_n 0, 1) := by decide +kernel
theorem ww208_52 {d : Nat} {l1 l2 l3 : Option mw_V} {x : Nat} {st : List mw_V} {σ : mw_S} {Q : Option mw_V → mw_S → Prop} : mw_WP d 208 52 [some (jR x), l1, l2, l3] st σ Q ↔ mw_WP d 208 53 [some (jR x), l1, l2, l3] (jR x :: st) σ Q := WP_aload_n mq208 dd208_52 rfl
theorem dd208_53 : decode cX12_wordOf 53 = .ok (.iload_n 2, 1) := by decide +kernel
theorem ww208_53 {d : Nat} {l0 l1 l3 : Option mw_V} {x : Int} {st : List mw_V} {σ : mw_S} {Q : Option mw_V → mw_S → Prop} : mw_WP d 208 53 [l0, l1, some (jI x), l3] st σ Q ↔ mw_WP d 208 54 [l0, l1, some (jI x), l3] (jI x :: st) σ Q := WP_iload_n mq208 dd208_53 rfl
theorem dd208_54 : decode cX12_wordOf 54 = .ok (.invokevirtual 216, 3) := by decide +kernel
theorem ww208_54 {d : Nat} {l0 l1 l2 l3 : Option mw_V} {v0 : mw_V} {a : Nat} {st : List mw_V} {σ : mw_S} {Q : Option mw_V → mw_S → Prop} (hr : mw_rc a = 12) (h8 : (st.map mw_cat).sum ≤ 8) : mw_WP d 208 54 [l0, l1, l2, l3] (v0 :: jR a :: st) σ Q ↔ mw_Call d 197 [jR a, v0] σ (fun r1 s1 => mw_WP d 208 57 [l0, l1, l2, l3] (r1.toList ++ st) s1 Q) := WP_inv (as := [v0]) mq208 dd208_54 (by decide) mq197 rfl hr h8
theorem dd208_57 : decode cX12_wordOf 57 = .ok (.ireturn, 1) := by decide +kernel
theorem ww208_57 {d : Nat} {l0 l1 l2 l3 : Option mw_V} {z : Int} {σ : mw_S} {Q : Option mw_V → mw_S → Prop} : mw_WP d 208 57 [l0, l1, l2, l3] [jI z] σ Q ↔ Q (some (jI z)) σ := WP_ireturn (ty := .int) mq208 dd208_57 rfl rfl
theorem dd208_58 : decode cX12_wordOf 58 = .ok (.aload_n 0, 1) := by decide +kernel
theorem ww208_58 {d : Nat} {l1 l2 l3 : Option mw_V} {x : Nat} {st : List mw_V} {σ : mw_S} {Q : Option mw_V → mw_S → Prop} : mw_WP d 208 58 [some (jR x), l1, l2, l3] st σ Q ↔ mw_WP d 208 59 [some (jR x), l1, l2, l3] (jR x :: st) σ Q := WP_aload_n mq208 dd208_58 rfl
theorem dd208_59 : decode cX12_wordOf 59 = .ok (.iload_n 2, 1) := by decide +kernel
theorem ww208_59 {d : Nat} {l0 l1 l3 : Option mw_V} {x : Int} {st : List mw_V} {σ : mw_S} {Q : Option mw_V → mw_S → Prop} : mw_WP d 208 59 [l0, l1, some (jI x), l3] st σ Q ↔ mw_WP d 208 60 [l0, l1, some (jI x), l3] (jI x :: st) σ Q := WP_iload_n mq208 dd208_59 rfl
theorem dd208_60 : decode cX12_wordOf 60 = .ok (.iconst 3, 1) := by decide +kernel
theorem ww208_60 {d : Nat} {l0 l1 l2 l3 : Option mw_V} {st : List mw_V} {σ : mw_S} {Q : Option mw_V → mw_S → Prop} : mw_WP d 208 60 [l0, l1, l2, l3] st σ Q ↔ mw_WP d 208 61 [l0, l1, l2, l3] (jI (3) :: st) σ Q := WP_iconst mq208 dd208_60 (by decide)
theorem dd208_61 : decode cX12_wordOf 61 = .ok (.iadd, 1) := by decide +kernel
theorem ww208_61 {d : Nat} {l0 l1 l2 l3 : Option mw_V} {x y : Int} {st : List mw_V} {σ : mw_S} {Q : Option mw_V → mw_S → Prop} : mw_WP d 208 61 [l0, l1, l2, l3] (jI y :: jI x :: st) σ Q ↔ mw_WP d 208 62 [l0, l1, l2, l3] (jI (w32 (x + y)) :: st) σ Q := WP_iadd mq208 dd208_61
theorem dd208_62 : decode cX12_wordOf 62 = .ok (.iload_n 1, 1) := by decide +kernel
theorem ww208_62 {d : Nat} {l0 l2 l3 : Option mw_V} {x : Int} {st : List mw_V} {σ : mw_S} {Q : Option mw_V → mw_S → Prop} : mw_WP d 208 62 [l0, some (jI x), l2, l3] st σ Q ↔ mw_WP d 208 63 [l0, some (jI x), l2, l3] (jI x :: st) σ Q := WP_iload_n mq208 dd208_62 rfl
theorem dd208_63 : decode cX12_wordOf 63 = .ok (.sipush 1000, 3) := by decide +kernel
theorem ww208_63 {d : Nat} {l0 l1 l2 l3 : Option mw_V} {st : List mw_V} {σ : mw_S} {Q : Option mw_V → mw_S → Prop} : mw_WP d 208 63 [l0, l1, l2, l3] st σ Q ↔ mw_WP d 208 66 [l0, l1, l2, l3] (jI (1000) :: st) σ Q := WP_sipush mq208 dd208_63 (by decide)
theorem dd208_66 : decode cX12_wordOf 66 = .ok (.isub, 1) := by decide +kernel
theorem ww208_66 {d : Nat} {l0 l1 l2 l3 : Option mw_V} {x y : Int} {st : List mw_V} {σ : mw_S} {Q : Option mw_V → mw_S → Prop} : mw_WP d 208 66 [l0, l1, l2, l3] (jI y :: jI x :: st) σ Q ↔ mw_WP d 208 67 [l0, l1, l2, l3] (jI (w32 (x - y)) :: st) σ Q := WP_isub mq208 dd208_66
theorem dd208_67 : decode cX12_wordOf 67 = .ok (.iconst 2, 1) := by decide +kernel
theorem ww208_67 {d : Nat} {l0 l1 l2 l3 : Option mw_V} {st : List mw_V} {σ : mw_S} {Q : Option mw_V → mw_S → Prop} : mw_WP d 208 67 [l0, l1, l2, l3] st σ Q ↔ mw_WP d 208 68 [l0, l1, l2, l3] (jI (2) :: st) σ Q := WP_iconst mq208 dd208_67 (by decide)
theorem dd208_68 : decode cX12_wordOf 68 = .ok (.isub, 1) := by decide +kernel
theorem ww208_68 {d : Nat} {l0 l1 l2 l3 : Option mw_V} {x y : Int} {st : List mw_V} {σ : mw_S} {Q : Option mw_V → mw_S → Prop} : mw_WP d 208 68 [l0, l1, l2, l3] (jI y :: jI x :: st) σ Q ↔ mw_WP d 208 69 [l0, l1, l2, l3] (jI (w32 (x - y)) :: st) σ Q := WP_isub mq208 dd208_68
theorem dd208_69 : decode cX12_wordOf 69 = .ok (.invokestatic 225, 3) := by decide +kernel
theorem ww208_69 {d : Nat} {l0 l1 l2 l3 : Option mw_V} {v0 v1 : mw_V} {st : List mw_V} {σ : mw_S} {Q : Option mw_V → mw_S → Prop} (h8 : (st.map mw_cat).sum ≤ 8) : mw_WP d 208 69 [l0, l1, l2, l3] (v1 :: v0 :: st) σ Q ↔ mw_Call d 198 [v0, v1] σ (fun r1 s1 => mw_WP d 208 72 [l0, l1, l2, l3] (r1.toList ++ st) s1 Q) := WP_invs (as := [v1, v0]) mq208 dd208_69 (by decide) mq198 rfl rfl h8
theorem dd208_72 : decode cX12_wordOf 72 = .ok (.invokevirtual 219, 3) := by decide +kernel
theorem ww208_72 {d : Nat} {l0 l1 l2 l3 : Option mw_V} {v0 : mw_V} {a : Nat} {st : List mw_V} {σ : mw_S} {Q : Option mw_V → mw_S → Prop} (hr : mw_rc a = 12) (h8 : (st.map mw_cat).sum ≤ 8) : mw_WP d 208 72 [l0, l1, l2, l3] (v0 :: jR a :: st) σ Q ↔ mw_Call d 199 [jR a, v0] σ (fun r1 s1 => mw_WP d 208 75 [l0, l1, l2, l3] (r1.toList ++ st) s1 Q) := WP_inv (as := [v0]) mq208 dd208_72 (by decide) mq199 rfl hr h8
theorem dd208_75 : decode cX12_wordOf 75 = .ok (.iconst (-1), 1) := by decide +kernel
theorem ww208_75 {d : Nat} {l0 l1 l2 l3 : Option mw_V} {st : List mw_V} {σ : mw_S} {Q : Option mw_V → mw_S → Prop} : mw_WP d 208 75 [l0, l1, l2, l3] st σ Q ↔ mw_WP d 208 76 [l0, l1, l2, l3] (jI (-1) :: st) σ Q := WP_iconst mq208 dd208_75 (by decide)
theorem dd208_76 : decode cX12_wordOf 76 = .ok (.if_icmp .ne 7, 3) := by decide +kernel
theorem ww208_76 {d : Nat} {l0 l1 l2 l3 : Option mw_V} {x y : Int} {st : List mw_V} {σ : mw_S} {Q : Option mw_V → mw_S → Prop} : mw_WP d 208 76 [l0, l1, l2, l3] (jI y :: jI x :: st) σ Q ↔ (if ¬ x = y then mw_WP d 208 83 [l0, l1, l2, l3] st σ Q else mw_WP d 208 79 [l0, l1, l2, l3] st σ Q) := WP_icmp_ne mq208 dd208_76 (by decide)
theorem dd208_79 : decode cX12_wordOf 79 = .ok (.iconst 0, 1) := by decide +kernel
theorem ww208_79 {d : Nat} {l0 l1 l2 l3 : Option mw_V} {st : List mw_V} {σ : mw_S} {Q : Option mw_V → mw_S → Prop} : mw_WP d 208 79 [l0, l1, l2, l3] st σ Q ↔ mw_WP d 208 80 [l0, l1, l2, l3] (jI (0) :: st) σ Q := WP_iconst mq208 dd208_79 (by decide)
theorem dd208_80 : decode cX12_wordOf 80 = .ok (.goto 4, 3) := by decide +kernel
theorem ww208_80 {d : Nat} {l0 l1 l2 l3 : Option mw_V} {st : List mw_V} {σ : mw_S} {Q : Option mw_V → mw_S → Prop} : mw_WP d 208 80 [l0, l1, l2, l3] st σ Q ↔ mw_WP d 208 84 [l0, l1, l2, l3] st σ Q := WP_goto mq208 dd208_80 (by decide)
theorem dd208_83 : decode cX12_wordOf 83 = .ok (.iconst 1, 1) := by decide +kernel
theorem ww208_83 {d : Nat} {l0 l1 l2 l3 : Option mw_V} {st : List mw_V} {σ : mw_S} {Q : Option mw_V → mw_S → Prop} : mw_WP d 208 83 [l0, l1, l2, l3] st σ Q ↔ mw_WP d 208 84 [l0, l1, l2, l3] (jI (1) :: st) σ Q := WP_iconst mq208 dd208_83 (by decide)
theorem dd208_84 : decode cX12_wordOf 84 = .ok (.ireturn, 1) := by decide +kernel
theorem ww208_84 {d : Nat} {l0 l1 l2 l3 : Option mw_V} {z : Int} {σ : mw_S} {Q : Option mw_V → mw_S → Prop} : mw_WP d 208 84 [l0, l1, l2, l3] [jI z] σ Q ↔ Q (some (jI z)) σ := WP_ireturn (ty := .int) mq208 dd208_84 rfl rfl
theorem dd208_85 : decode cX12_wordOf 85 = .ok (.aload_n 0, 1) := by decide +kernel
theorem ww208_85 {d : Nat} {l1 l2 l3 : Option mw_V} {x : Nat} {st : List mw_V} {σ : mw_S} {Q : Option mw_V → mw_S → Prop} : mw_WP d 208 85 [some (jR x), l1, l2, l3] st σ Q ↔ mw_WP d 208 86 [some (jR x), l1, l2, l3] (jR x :: st) σ Q := WP_aload_n mq208 dd208_85 rfl
theorem dd208_86 : decode cX12_wordOf 86 = .ok (.getfield 13, 3) := by decide +kernel
theorem ww208_86 {d : Nat} {l0 l1 l2 l3 : Option mw_V} {st : List mw_V} {σ : mw_S} {Q : Option mw_V → mw_S → Prop} : mw_WP d 208 86 [l0, l1, l2, l3] (jR 100 :: st) σ Q ↔ mw_WP d 208 89 [l0, l1, l2, l3] (jR 101 :: st) σ Q := WP_getR (ci := 11) (k := 1) mq208 dd208_86 (by decide) rfl
theorem dd208_89 : decode cX12_wordOf 89 = .ok (.bipush 47, 2) := by decide +kernel
theorem ww208_89 {d : Nat} {l0 l1 l2 l3 : Option mw_V} {st : List mw_V} {σ : mw_S} {Q : Option mw_V → mw_S → Prop} : mw_WP d 208 89 [l0, l1, l2, l3] st σ Q ↔ mw_WP d 208 91 [l0, l1, l2, l3] (jI (47) :: st) σ Q := WP_bipush mq208 dd208_89 (by decide)
theorem dd208_91 : decode cX12_wordOf 91 = .ok (.iload_n 2, 1) := by decide +kernel
theorem ww208_91 {d : Nat} {l0 l1 l3 : Option mw_V} {x : Int} {st : List mw_V} {σ : mw_S} {Q : Option mw_V → mw_S → Prop} : mw_WP d 208 91 [l0, l1, some (jI x), l3] st σ Q ↔ mw_WP d 208 92 [l0, l1, some (jI x), l3] (jI x :: st) σ Q := WP_iload_n mq208 dd208_91 rfl
theorem dd208_92 : decode cX12_wordOf 92 = .ok (.iadd, 1) := by decide +kernel
theorem ww208_92 {d : Nat} {l0 l1 l2 l3 : Option mw_V} {x y : Int} {st : List mw_V} {σ : mw_S} {Q : Option mw_V → mw_S → Prop} : mw_WP d 208 92 [l0, l1, l2, l3] (jI y :: jI x :: st) σ Q ↔ mw_WP d 208 93 [l0, l1, l2, l3] (jI (w32 (x + y)) :: st) σ Q := WP_iadd mq208 dd208_92
theorem dd208_93 : decode cX12_wordOf 93 = .ok (.iaload, 1) := by decide +kernel
theorem ww208_93 {d : Nat} {l0 l1 l2 l3 : Option mw_V} {z : Int} {a : Nat} {st : List mw_V} {σ : mw_S} {Q : Option mw_V → mw_S → Prop} : mw_WP d 208 93 [l0, l1, l2, l3] (jI z :: jR a :: st) σ Q ↔ ((0 ≤ z ∧ z < mw_lenI a) ∧ mw_WP d 208 94 [l0, l1, l2, l3] (jI (mw_rdI σ a z.toNat) :: st) σ Q) := WP_iaload mq208 dd208_93
theorem dd208_94 : decode cX12_wordOf 94 = .ok (.ireturn, 1) := by decide +kernel
theorem ww208_94 {d : Nat} {l0 l1 l2 l3 : Option mw_V} {z : Int} {σ : mw_S} {Q : Option mw_V → mw_S → Prop} : mw_WP d 208 94 [l0, l1, l2, l3] [jI z] σ Q ↔ Q (some (jI z)) σ := WP_ireturn (ty := .int) mq208 dd208_94 rfl rfl
theorem dd208_95 : decode cX12_wordOf 95 = .ok (.iload_n 3, 1) := by decide +kernel
theorem ww208_95 {d : Nat} {l0 l1 l2 : Option mw_V} {x : Int} {st : List mw_V} {σ : mw_S} {Q : Option mw_V → mw_S → Prop} : mw_WP d 208 95 [l0, l1, l2, some (jI x)] st σ Q ↔ mw_WP d 208 96 [l0, l1, l2, some (jI x)] (jI x :: st) σ Q := WP_iload_n mq208 dd208_95 rfl
theorem dd208_96 : decode cX12_wordOf 96 = .ok (.ireturn, 1) := by decide +kernel
theorem ww208_96 {d : Nat} {l0 l1 l2 l3 : Option mw_V} {z : Int} {σ : mw_S} {Q : Option mw_V → mw_S → Prop} : mw_WP d 208 96 [l0, l1, l2, l3] [jI z] σ Q ↔ Q (some (jI z)) σ := WP_ireturn (ty := .int) mq208 dd208_96 rfl rfl
theorem dd208_97 : decode cX12_wordOf 97 = .ok (.iload_n 1, 1) := by decide +kernel
theorem ww208_97 {d : Nat} {l0 l2 l3 : Option mw_V} {x : Int} {st : List mw_V} {σ : mw_S} {Q : Option mw_V → mw_S → Prop} : mw_WP d 208 97 [l0, some (jI x), l2, l3] st σ Q ↔ mw_WP d 208 98 [l0, some (jI x), l2, l3] (jI x :: st) σ Q := WP_iload_n mq208 dd208_97 rfl
theorem dd208_98 : decode cX12_wordOf 98 = .ok (.ireturn, 1) := by decide +kernel
theorem ww208_98 {d : Nat} {l0 l1 l2 l3 : Option mw_V} {z : Int} {σ : mw_S} {Q : Option mw_V → mw_S → Prop} : mw_WP d 208 98 [l0, l1, l2, l3] [jI z] σ Q ↔ Q (some (jI z)) σ := WP_ireturn (ty := .int) mq208 dd208_98 rfl rfl
theorem ee209 {d : Nat} {a : Nat} {z0 : Int} {z1 : Int} {z2 : Int} {σ : mw_S} {Q : Option mw_V → mw_S → Prop} : mw_Call (d + 1) 209 [jR a, jI z0, jI z1, jI z2] σ Q ↔ mw_WP d 209 0 [some (jR a), some (jI z0), some (jI z1), some (jI z2), none, none, none] [] σ Q := CL_u mq209 (Nat.le_of_ble_eq_true rfl) rfl
theorem dd209_0 : decode cX12_holds 0 = .ok (.iconst 0, 1) := by decide +kernel
theorem ww209_0 {d : Nat} {l0 l1 l2 l3 l4 l5 l6 : Option mw_V} {st : List mw_V} {σ : mw_S} {Q : Option mw_V → mw_S → Prop} : mw_WP d 209 0 [l0, l1, l2, l3, l4, l5, l6] st σ Q ↔ mw_WP d 209 1 [l0, l1, l2, l3, l4, l5, l6] (jI (0) :: st) σ Q := WP_iconst mq209 dd209_0 (by decide)
theorem dd209_1 : decode cX12_holds 1 = .ok (.istore 4, 2) := by decide +kernel
theorem ww209_1 {d : Nat} {l0 l1 l2 l3 l4 l5 l6 : Option mw_V} {x : Int} {st : List mw_V} {σ : mw_S} {Q : Option mw_V → mw_S → Prop} (h : mw_nlo l3 = true) : mw_WP d 209 1 [l0, l1, l2, l3, l4, l5, l6] (jI x :: st) σ Q ↔ mw_WP d 209 3 [l0, l1, l2, l3, some (jI x), l5, l6] st σ Q := WP_istore mq209 dd209_1 (Nat.le_of_ble_eq_true rfl) (mw_nl_of (i := 3) rfl h) rfl
theorem dd209_3 : decode cX12_holds 3 = .ok (.iconst 0, 1) := by decide +kernel
theorem ww209_3 {d : Nat} {l0 l1 l2 l3 l4 l5 l6 : Option mw_V} {st : List mw_V} {σ : mw_S} {Q : Option mw_V → mw_S → Prop} : mw_WP d 209 3 [l0, l1, l2, l3, l4, l5, l6] st σ Q ↔ mw_WP d 209 4 [l0, l1, l2, l3, l4, l5, l6] (jI (0) :: st) σ Q := WP_iconst mq209 dd209_3 (by decide)
theorem dd209_4 : decode cX12_holds 4 = .ok (.istore 5, 2) := by decide +kernel
theorem ww209_4 {d : Nat} {l0 l1 l2 l3 l4 l5 l6 : Option mw_V} {x : Int} {st : List mw_V} {σ : mw_S} {Q : Option mw_V → mw_S → Prop} (h : mw_nlo l4 = true) : mw_WP d 209 4 [l0, l1, l2, l3, l4, l5, l6] (jI x :: st) σ Q ↔ mw_WP d 209 6 [l0, l1, l2, l3, l4, some (jI x), l6] st σ Q := WP_istore mq209 dd209_4 (Nat.le_of_ble_eq_true rfl) (mw_nl_of (i := 4) rfl h) rfl
theorem dd209_6 : decode cX12_holds 6 = .ok (.iload 5, 2) := by decide +kernel
theorem ww209_6 {d : Nat} {l0 l1 l2 l3 l4 l6 : Option mw_V} {x : Int} {st : List mw_V} {σ : mw_S} {Q : Option mw_V → mw_S → Prop} : mw_WP d 209 6 [l0, l1, l2, l3, l4, some (jI x), l6] st σ Q ↔ mw_WP d 209 8 [l0, l1, l2, l3, l4, some (jI x), l6] (jI x :: st) σ Q := WP_iload mq209 dd209_6 rfl
theorem dd209_8 : decode cX12_holds 8 = .ok (.aload_n 0, 1) := by decide +kernel
theorem ww209_8 {d : Nat} {l1 l2 l3 l4 l5 l6 : Option mw_V} {x : Nat} {st : List mw_V} {σ : mw_S} {Q : Option mw_V → mw_S → Prop} : mw_WP d 209 8 [some (jR x), l1, l2, l3, l4, l5, l6] st σ Q ↔ mw_WP d 209 9 [some (jR x), l1, l2, l3, l4, l5, l6] (jR x :: st) σ Q := WP_aload_n mq209 dd209_8 rfl
theorem dd209_9 : decode cX12_holds 9 = .ok (.getfield 13, 3) := by decide +kernel
theorem ww209_9 {d : Nat} {l0 l1 l2 l3 l4 l5 l6 : Option mw_V} {st : List mw_V} {σ : mw_S} {Q : Option mw_V → mw_S → Prop} : mw_WP d 209 9 [l0, l1, l2, l3, l4, l5, l6] (jR 100 :: st) σ Q ↔ mw_WP d 209 12 [l0, l1, l2, l3, l4, l5, l6] (jR 101 :: st) σ Q := WP_getR (ci := 11) (k := 1) mq209 dd209_9 (by decide) rfl
theorem dd209_12 : decode cX12_holds 12 = .ok (.bipush 33, 2) := by decide +kernel
theorem ww209_12 {d : Nat} {l0 l1 l2 l3 l4 l5 l6 : Option mw_V} {st : List mw_V} {σ : mw_S} {Q : Option mw_V → mw_S → Prop} : mw_WP d 209 12 [l0, l1, l2, l3, l4, l5, l6] st σ Q ↔ mw_WP d 209 14 [l0, l1, l2, l3, l4, l5, l6] (jI (33) :: st) σ Q := WP_bipush mq209 dd209_12 (by decide)
theorem dd209_14 : decode cX12_holds 14 = .ok (.iload_n 1, 1) := by decide +kernel
theorem ww209_14 {d : Nat} {l0 l2 l3 l4 l5 l6 : Option mw_V} {x : Int} {st : List mw_V} {σ : mw_S} {Q : Option mw_V → mw_S → Prop} : mw_WP d 209 14 [l0, some (jI x), l2, l3, l4, l5, l6] st σ Q ↔ mw_WP d 209 15 [l0, some (jI x), l2, l3, l4, l5, l6] (jI x :: st) σ Q := WP_iload_n mq209 dd209_14 rfl
theorem dd209_15 : decode cX12_holds 15 = .ok (.iadd, 1) := by decide +kernel
theorem ww209_15 {d : Nat} {l0 l1 l2 l3 l4 l5 l6 : Option mw_V} {x y : Int} {st : List mw_V} {σ : mw_S} {Q : Option mw_V → mw_S → Prop} : mw_WP d 209 15 [l0, l1, l2, l3, l4, l5, l6] (jI y :: jI x :: st) σ Q ↔ mw_WP d 209 16 [l0, l1, l2, l3, l4, l5, l6] (jI (w32 (x + y)) :: st) σ Q := WP_iadd mq209 dd209_15
theorem dd209_16 : decode cX12_holds 16 = .ok (.iaload, 1) := by decide +kernel
theorem ww209_16 {d : Nat} {l0 l1 l2 l3 l4 l5 l6 : Option mw_V} {z : Int} {a : Nat} {st : List mw_V} {σ : mw_S} {Q : Option mw_V → mw_S → Prop} : mw_WP d 209 16 [l0, l1, l2, l3, l4, l5, l6] (jI z :: jR a :: st) σ Q ↔ ((0 ≤ z ∧ z < mw_lenI a) ∧ mw_WP d 209 17 [l0, l1, l2, l3, l4, l5, l6] (jI (mw_rdI σ a z.toNat) :: st) σ Q) := WP_iaload mq209 dd209_16
theorem dd209_17 : decode cX12_holds 17 = .ok (.if_icmp .ge 125, 3) := by decide +kernel
theorem ww209_17 {d : Nat} {l0 l1 l2 l3 l4 l5 l6 : Option mw_V} {x y : Int} {st : List mw_V} {σ : mw_S} {Q : Option mw_V → mw_S → Prop} : mw_WP d 209 17 [l0, l1, l2, l3, l4, l5, l6] (jI y :: jI x :: st) σ Q ↔ (if y ≤ x then mw_WP d 209 142 [l0, l1, l2, l3, l4, l5, l6] st σ Q else mw_WP d 209 20 [l0, l1, l2, l3, l4, l5, l6] st σ Q) := WP_icmp_ge mq209 dd209_17 (by decide)
theorem dd209_20 : decode cX12_holds 20 = .ok (.aload_n 0, 1) := by decide +kernel
theorem ww209_20 {d : Nat} {l1 l2 l3 l4 l5 l6 : Option mw_V} {x : Nat} {st : List mw_V} {σ : mw_S} {Q : Option mw_V → mw_S → Prop} : mw_WP d 209 20 [some (jR x), l1, l2, l3, l4, l5, l6] st σ Q ↔ mw_WP d 209 21 [some (jR x), l1, l2, l3, l4, l5, l6] (jR x :: st) σ Q := WP_aload_n mq209 dd209_20 rfl
theorem dd209_21 : decode cX12_holds 21 = .ok (.getfield 13, 3) := by decide +kernel
theorem ww209_21 {d : Nat} {l0 l1 l2 l3 l4 l5 l6 : Option mw_V} {st : List mw_V} {σ : mw_S} {Q : Option mw_V → mw_S → Prop} : mw_WP d 209 21 [l0, l1, l2, l3, l4, l5, l6] (jR 100 :: st) σ Q ↔ mw_WP d 209 24 [l0, l1, l2, l3, l4, l5, l6] (jR 101 :: st) σ Q := WP_getR (ci := 11) (k := 1) mq209 dd209_21 (by decide) rfl
theorem dd209_24 : decode cX12_holds 24 = .ok (.sipush 560, 3) := by decide +kernel
theorem ww209_24 {d : Nat} {l0 l1 l2 l3 l4 l5 l6 : Option mw_V} {st : List mw_V} {σ : mw_S} {Q : Option mw_V → mw_S → Prop} : mw_WP d 209 24 [l0, l1, l2, l3, l4, l5, l6] st σ Q ↔ mw_WP d 209 27 [l0, l1, l2, l3, l4, l5, l6] (jI (560) :: st) σ Q := WP_sipush mq209 dd209_24 (by decide)
theorem dd209_27 : decode cX12_holds 27 = .ok (.aload_n 0, 1) := by decide +kernel
theorem ww209_27 {d : Nat} {l1 l2 l3 l4 l5 l6 : Option mw_V} {x : Nat} {st : List mw_V} {σ : mw_S} {Q : Option mw_V → mw_S → Prop} : mw_WP d 209 27 [some (jR x), l1, l2, l3, l4, l5, l6] st σ Q ↔ mw_WP d 209 28 [some (jR x), l1, l2, l3, l4, l5, l6] (jR x :: st) σ Q := WP_aload_n mq209 dd209_27 rfl
theorem dd209_28 : decode cX12_holds 28 = .ok (.getfield 13, 3) := by decide +kernel
theorem ww209_28 {d : Nat} {l0 l1 l2 l3 l4 l5 l6 : Option mw_V} {st : List mw_V} {σ : mw_S} {Q : Option mw_V → mw_S → Prop} : mw_WP d 209 28 [l0, l1, l2, l3, l4, l5, l6] (jR 100 :: st) σ Q ↔ mw_WP d 209 31 [l0, l1, l2, l3, l4, l5, l6] (jR 101 :: st) σ Q := WP_getR (ci := 11) (k := 1) mq209 dd209_28 (by decide) rfl
theorem dd209_31 : decode cX12_holds 31 = .ok (.bipush 25, 2) := by decide +kernel
theorem ww209_31 {d : Nat} {l0 l1 l2 l3 l4 l5 l6 : Option mw_V} {st : List mw_V} {σ : mw_S} {Q : Option mw_V → mw_S → Prop} : mw_WP d 209 31 [l0, l1, l2, l3, l4, l5, l6] st σ Q ↔ mw_WP d 209 33 [l0, l1, l2, l3, l4, l5, l6] (jI (25) :: st) σ Q := WP_bipush mq209 dd209_31 (by decide)
theorem dd209_33 : decode cX12_holds 33 = .ok (.iload_n 1, 1) := by decide +kernel
theorem ww209_33 {d : Nat} {l0 l2 l3 l4 l5 l6 : Option mw_V} {x : Int} {st : List mw_V} {σ : mw_S} {Q : Option mw_V → mw_S → Prop} : mw_WP d 209 33 [l0, some (jI x), l2, l3, l4, l5, l6] st σ Q ↔ mw_WP d 209 34 [l0, some (jI x), l2, l3, l4, l5, l6] (jI x :: st) σ Q := WP_iload_n mq209 dd209_33 rfl
theorem dd209_34 : decode cX12_holds 34 = .ok (.iadd, 1) := by decide +kernel
theorem ww209_34 {d : Nat} {l0 l1 l2 l3 l4 l5 l6 : Option mw_V} {x y : Int} {st : List mw_V} {σ : mw_S} {Q : Option mw_V → mw_S → Prop} : mw_WP d 209 34 [l0, l1, l2, l3, l4, l5, l6] (jI y :: jI x :: st) σ Q ↔ mw_WP d 209 35 [l0, l1, l2, l3, l4, l5, l6] (jI (w32 (x + y)) :: st) σ Q := WP_iadd mq209 dd209_34
theorem dd209_35 : decode cX12_holds 35 = .ok (.iaload, 1) := by decide +kernel
theorem ww209_35 {d : Nat} {l0 l1 l2 l3 l4 l5 l6 : Option mw_V} {z : Int} {a : Nat} {st : List mw_V} {σ : mw_S} {Q : Option mw_V → mw_S → Prop} : mw_WP d 209 35 [l0, l1, l2, l3, l4, l5, l6] (jI z :: jR a :: st) σ Q ↔ ((0 ≤ z ∧ z < mw_lenI a) ∧ mw_WP d 209 36 [l0, l1, l2, l3, l4, l5, l6] (jI (mw_rdI σ a z.toNat) :: st) σ Q) := WP_iaload mq209 dd209_35
theorem dd209_36 : decode cX12_holds 36 = .ok (.iadd, 1) := by decide +kernel
theorem ww209_36 {d : Nat} {l0 l1 l2 l3 l4 l5 l6 : Option mw_V} {x y : Int} {st : List mw_V} {σ : mw_S} {Q : Option mw_V → mw_S → Prop} : mw_WP d 209 36 [l0, l1, l2, l3, l4, l5, l6] (jI y :: jI x :: st) σ Q ↔ mw_WP d 209 37 [l0, l1, l2, l3, l4, l5, l6] (jI (w32 (x + y)) :: st) σ Q := WP_iadd mq209 dd209_36
theorem dd209_37 : decode cX12_holds 37 = .ok (.iload 5, 2) := by decide +kernel
theorem ww209_37 {d : Nat} {l0 l1 l2 l3 l4 l6 : Option mw_V} {x : Int} {st : List mw_V} {σ : mw_S} {Q : Option mw_V → mw_S → Prop} : mw_WP d 209 37 [l0, l1, l2, l3, l4, some (jI x), l6] st σ Q ↔ mw_WP d 209 39 [l0, l1, l2, l3, l4, some (jI x), l6] (jI x :: st) σ Q := WP_iload mq209 dd209_37 rfl
theorem dd209_39 : decode cX12_holds 39 = .ok (.iadd, 1) := by decide +kernel
theorem ww209_39 {d : Nat} {l0 l1 l2 l3 l4 l5 l6 : Option mw_V} {x y : Int} {st : List mw_V} {σ : mw_S} {Q : Option mw_V → mw_S → Prop} : mw_WP d 209 39 [l0, l1, l2, l3, l4, l5, l6] (jI y :: jI x :: st) σ Q ↔ mw_WP d 209 40 [l0, l1, l2, l3, l4, l5, l6] (jI (w32 (x + y)) :: st) σ Q := WP_iadd mq209 dd209_39
theorem dd209_40 : decode cX12_holds 40 = .ok (.iaload, 1) := by decide +kernel
theorem ww209_40 {d : Nat} {l0 l1 l2 l3 l4 l5 l6 : Option mw_V} {z : Int} {a : Nat} {st : List mw_V} {σ : mw_S} {Q : Option mw_V → mw_S → Prop} : mw_WP d 209 40 [l0, l1, l2, l3, l4, l5, l6] (jI z :: jR a :: st) σ Q ↔ ((0 ≤ z ∧ z < mw_lenI a) ∧ mw_WP d 209 41 [l0, l1, l2, l3, l4, l5, l6] (jI (mw_rdI σ a z.toNat) :: st) σ Q) := WP_iaload mq209 dd209_40
theorem dd209_41 : decode cX12_holds 41 = .ok (.istore 6, 2) := by decide +kernel
theorem ww209_41 {d : Nat} {l0 l1 l2 l3 l4 l5 l6 : Option mw_V} {x : Int} {st : List mw_V} {σ : mw_S} {Q : Option mw_V → mw_S → Prop} (h : mw_nlo l5 = true) : mw_WP d 209 41 [l0, l1, l2, l3, l4, l5, l6] (jI x :: st) σ Q ↔ mw_WP d 209 43 [l0, l1, l2, l3, l4, l5, some (jI x)] st σ Q := WP_istore mq209 dd209_41 (Nat.le_of_ble_eq_true rfl) (mw_nl_of (i := 5) rfl h) rfl
theorem dd209_43 : decode cX12_holds 43 = .ok (.iload 6, 2) := by decide +kernel
theorem ww209_43 {d : Nat} {l0 l1 l2 l3 l4 l5 : Option mw_V} {x : Int} {st : List mw_V} {σ : mw_S} {Q : Option mw_V → mw_S → Prop} : mw_WP d 209 43 [l0, l1, l2, l3, l4, l5, some (jI x)] st σ Q ↔ mw_WP d 209 45 [l0, l1, l2, l3, l4, l5, some (jI x)] (jI x :: st) σ Q := WP_iload mq209 dd209_43 rfl
theorem dd209_45 : decode cX12_holds 45 = .ok (.sipush 3000, 3) := by decide +kernel
theorem ww209_45 {d : Nat} {l0 l1 l2 l3 l4 l5 l6 : Option mw_V} {st : List mw_V} {σ : mw_S} {Q : Option mw_V → mw_S → Prop} : mw_WP d 209 45 [l0, l1, l2, l3, l4, l5, l6] st σ Q ↔ mw_WP d 209 48 [l0, l1, l2, l3, l4, l5, l6] (jI (3000) :: st) σ Q := WP_sipush mq209 dd209_45 (by decide)
theorem dd209_48 : decode cX12_holds 48 = .ok (.if_icmp .ge 24, 3) := by decide +kernel
theorem ww209_48 {d : Nat} {l0 l1 l2 l3 l4 l5 l6 : Option mw_V} {x y : Int} {st : List mw_V} {σ : mw_S} {Q : Option mw_V → mw_S → Prop} : mw_WP d 209 48 [l0, l1, l2, l3, l4, l5, l6] (jI y :: jI x :: st) σ Q ↔ (if y ≤ x then mw_WP d 209 72 [l0, l1, l2, l3, l4, l5, l6] st σ Q else mw_WP d 209 51 [l0, l1, l2, l3, l4, l5, l6] st σ Q) := WP_icmp_ge mq209 dd209_48 (by decide)
theorem dd209_51 : decode cX12_holds 51 = .ok (.aload_n 0, 1) := by decide +kernel
theorem ww209_51 {d : Nat} {l1 l2 l3 l4 l5 l6 : Option mw_V} {x : Nat} {st : List mw_V} {σ : mw_S} {Q : Option mw_V → mw_S → Prop} : mw_WP d 209 51 [some (jR x), l1, l2, l3, l4, l5, l6] st σ Q ↔ mw_WP d 209 52 [some (jR x), l1, l2, l3, l4, l5, l6] (jR x :: st) σ Q := WP_aload_n mq209 dd209_51 rfl
theorem dd209_52 : decode cX12_holds 52 = .ok (.getfield 30, 3) := by decide +kernel
theorem ww209_52 {d : Nat} {l0 l1 l2 l3 l4 l5 l6 : Option mw_V} {st : List mw_V} {σ : mw_S} {Q : Option mw_V → mw_S → Prop} : mw_WP d 209 52 [l0, l1, l2, l3, l4, l5, l6] (jR 100 :: st) σ Q ↔ mw_WP d 209 55 [l0, l1, l2, l3, l4, l5, l6] (jR 105 :: st) σ Q := WP_getR (ci := 11) (k := 16) mq209 dd209_52 (by decide) rfl
theorem dd209_55 : decode cX12_holds 55 = .ok (.iload 4, 2) := by decide +kernel
theorem ww209_55 {d : Nat} {l0 l1 l2 l3 l5 l6 : Option mw_V} {x : Int} {st : List mw_V} {σ : mw_S} {Q : Option mw_V → mw_S → Prop} : mw_WP d 209 55 [l0, l1, l2, l3, some (jI x), l5, l6] st σ Q ↔ mw_WP d 209 57 [l0, l1, l2, l3, some (jI x), l5, l6] (jI x :: st) σ Q := WP_iload mq209 dd209_55 rfl
theorem dd209_57 : decode cX12_holds 57 = .ok (.aload_n 0, 1) := by decide +kernel
theorem ww209_57 {d : Nat} {l1 l2 l3 l4 l5 l6 : Option mw_V} {x : Nat} {st : List mw_V} {σ : mw_S} {Q : Option mw_V → mw_S → Prop} : mw_WP d 209 57 [some (jR x), l1, l2, l3, l4, l5, l6] st σ Q ↔ mw_WP d 209 58 [some (jR x), l1, l2, l3, l4, l5, l6] (jR x :: st) σ Q := WP_aload_n mq209 dd209_57 rfl
theorem dd209_58 : decode cX12_holds 58 = .ok (.iload 6, 2) := by decide +kernel
theorem ww209_58 {d : Nat} {l0 l1 l2 l3 l4 l5 : Option mw_V} {x : Int} {st : List mw_V} {σ : mw_S} {Q : Option mw_V → mw_S → Prop} : mw_WP d 209 58 [l0, l1, l2, l3, l4, l5, some (jI x)] st σ Q ↔ mw_WP d 209 60 [l0, l1, l2, l3, l4, l5, some (jI x)] (jI x :: st) σ Q := WP_iload mq209 dd209_58 rfl
theorem dd209_60 : decode cX12_holds 60 = .ok (.iload_n 2, 1) := by decide +kernel
theorem ww209_60 {d : Nat} {l0 l1 l3 l4 l5 l6 : Option mw_V} {x : Int} {st : List mw_V} {σ : mw_S} {Q : Option mw_V → mw_S → Prop} : mw_WP d 209 60 [l0, l1, some (jI x), l3, l4, l5, l6] st σ Q ↔ mw_WP d 209 61 [l0, l1, some (jI x), l3, l4, l5, l6] (jI x :: st) σ Q := WP_iload_n mq209 dd209_60 rfl
theorem dd209_61 : decode cX12_holds 61 = .ok (.iload_n 3, 1) := by decide +kernel
theorem ww209_61 {d : Nat} {l0 l1 l2 l4 l5 l6 : Option mw_V} {x : Int} {st : List mw_V} {σ : mw_S} {Q : Option mw_V → mw_S → Prop} : mw_WP d 209 61 [l0, l1, l2, some (jI x), l4, l5, l6] st σ Q ↔ mw_WP d 209 62 [l0, l1, l2, some (jI x), l4, l5, l6] (jI x :: st) σ Q := WP_iload_n mq209 dd209_61 rfl
theorem dd209_62 : decode cX12_holds 62 = .ok (.invokevirtual 239, 3) := by decide +kernel
theorem ww209_62 {d : Nat} {l0 l1 l2 l3 l4 l5 l6 : Option mw_V} {v0 v1 v2 : mw_V} {a : Nat} {st : List mw_V} {σ : mw_S} {Q : Option mw_V → mw_S → Prop} (hr : mw_rc a = 12) (h8 : (st.map mw_cat).sum ≤ 8) : mw_WP d 209 62 [l0, l1, l2, l3, l4, l5, l6] (v2 :: v1 :: v0 :: jR a :: st) σ Q ↔ mw_Call d 208 [jR a, v0, v1, v2] σ (fun r1 s1 => mw_WP d 209 65 [l0, l1, l2, l3, l4, l5, l6] (r1.toList ++ st) s1 Q) := WP_inv (as := [v2, v1, v0]) mq209 dd209_62 (by decide) mq208 rfl hr h8
theorem dd209_65 : decode cX12_holds 65 = .ok (.iastore, 1) := by decide +kernel
theorem ww209_65 {d : Nat} {l0 l1 l2 l3 l4 l5 l6 : Option mw_V} {x z : Int} {a : Nat} {st : List mw_V} {σ : mw_S} {Q : Option mw_V → mw_S → Prop} : mw_WP d 209 65 [l0, l1, l2, l3, l4, l5, l6] (jI x :: jI z :: jR a :: st) σ Q ↔ ((0 ≤ z ∧ z < mw_lenW 0 a) ∧ mw_WP d 209 66 [l0, l1, l2, l3, l4, l5, l6] st (upS σ a z.toNat x) Q) := WP_iastore mq209 dd209_65
theorem dd209_66 : decode cX12_holds 66 = .ok (.iinc 4 1, 3) := by decide +kernel
theorem ww209_66 {d : Nat} {l0 l1 l2 l3 l5 l6 : Option mw_V} {x : Int} {st : List mw_V} {σ : mw_S} {Q : Option mw_V → mw_S → Prop} (h : mw_nlo l3 = true) : mw_WP d 209 66 [l0, l1, l2, l3, some (jI x), l5, l6] st σ Q ↔ mw_WP d 209 69 [l0, l1, l2, l3, some (jI (w32 (x + (1)))), l5, l6] st σ Q := WP_iinc mq209 dd209_66 rfl (Nat.le_of_ble_eq_true rfl) (mw_nl_of (i := 3) rfl h) rfl
theorem dd209_69 : decode cX12_holds 69 = .ok (.goto 67, 3) := by decide +kernel
theorem ww209_69 {d : Nat} {l0 l1 l2 l3 l4 l5 l6 : Option mw_V} {st : List mw_V} {σ : mw_S} {Q : Option mw_V → mw_S → Prop} : mw_WP d 209 69 [l0, l1, l2, l3, l4, l5, l6] st σ Q ↔ mw_WP d 209 136 [l0, l1, l2, l3, l4, l5, l6] st σ Q := WP_goto mq209 dd209_69 (by decide)
theorem dd209_72 : decode cX12_holds 72 = .ok (.iload 6, 2) := by decide +kernel
theorem ww209_72 {d : Nat} {l0 l1 l2 l3 l4 l5 : Option mw_V} {x : Int} {st : List mw_V} {σ : mw_S} {Q : Option mw_V → mw_S → Prop} : mw_WP d 209 72 [l0, l1, l2, l3, l4, l5, some (jI x)] st σ Q ↔ mw_WP d 209 74 [l0, l1, l2, l3, l4, l5, some (jI x)] (jI x :: st) σ Q := WP_iload mq209 dd209_72 rfl
theorem dd209_74 : decode cX12_holds 74 = .ok (.sipush 3008, 3) := by decide +kernel
theorem ww209_74 {d : Nat} {l0 l1 l2 l3 l4 l5 l6 : Option mw_V} {st : List mw_V} {σ : mw_S} {Q : Option mw_V → mw_S → Prop} : mw_WP d 209 74 [l0, l1, l2, l3, l4, l5, l6] st σ Q ↔ mw_WP d 209 77 [l0, l1, l2, l3, l4, l5, l6] (jI (3008) :: st) σ Q := WP_sipush mq209 dd209_74 (by decide)
theorem dd209_77 : decode cX12_holds 77 = .ok (.if_icmp .ne 26, 3) := by decide +kernel
theorem ww209_77 {d : Nat} {l0 l1 l2 l3 l4 l5 l6 : Option mw_V} {x y : Int} {st : List mw_V} {σ : mw_S} {Q : Option mw_V → mw_S → Prop} : mw_WP d 209 77 [l0, l1, l2, l3, l4, l5, l6] (jI y :: jI x :: st) σ Q ↔ (if ¬ x = y then mw_WP d 209 103 [l0, l1, l2, l3, l4, l5, l6] st σ Q else mw_WP d 209 80 [l0, l1, l2, l3, l4, l5, l6] st σ Q) := WP_icmp_ne mq209 dd209_77 (by decide)
theorem dd209_80 : decode cX12_holds 80 = .ok (.aload_n 0, 1) := by decide +kernel
theorem ww209_80 {d : Nat} {l1 l2 l3 l4 l5 l6 : Option mw_V} {x : Nat} {st : List mw_V} {σ : mw_S} {Q : Option mw_V → mw_S → Prop} : mw_WP d 209 80 [some (jR x), l1, l2, l3, l4, l5, l6] st σ Q ↔ mw_WP d 209 81 [some (jR x), l1, l2, l3, l4, l5, l6] (jR x :: st) σ Q := WP_aload_n mq209 dd209_80 rfl
theorem dd209_81 : decode cX12_holds 81 = .ok (.getfield 30, 3) := by decide +kernel
theorem ww209_81 {d : Nat} {l0 l1 l2 l3 l4 l5 l6 : Option mw_V} {st : List mw_V} {σ : mw_S} {Q : Option mw_V → mw_S → Prop} : mw_WP d 209 81 [l0, l1, l2, l3, l4, l5, l6] (jR 100 :: st) σ Q ↔ mw_WP d 209 84 [l0, l1, l2, l3, l4, l5, l6] (jR 105 :: st) σ Q := WP_getR (ci := 11) (k := 16) mq209 dd209_81 (by decide) rfl
theorem dd209_84 : decode cX12_holds 84 = .ok (.iload 4, 2) := by decide +kernel
theorem ww209_84 {d : Nat} {l0 l1 l2 l3 l5 l6 : Option mw_V} {x : Int} {st : List mw_V} {σ : mw_S} {Q : Option mw_V → mw_S → Prop} : mw_WP d 209 84 [l0, l1, l2, l3, some (jI x), l5, l6] st σ Q ↔ mw_WP d 209 86 [l0, l1, l2, l3, some (jI x), l5, l6] (jI x :: st) σ Q := WP_iload mq209 dd209_84 rfl
theorem dd209_86 : decode cX12_holds 86 = .ok (.iconst 1, 1) := by decide +kernel
theorem ww209_86 {d : Nat} {l0 l1 l2 l3 l4 l5 l6 : Option mw_V} {st : List mw_V} {σ : mw_S} {Q : Option mw_V → mw_S → Prop} : mw_WP d 209 86 [l0, l1, l2, l3, l4, l5, l6] st σ Q ↔ mw_WP d 209 87 [l0, l1, l2, l3, l4, l5, l6] (jI (1) :: st) σ Q := WP_iconst mq209 dd209_86 (by decide)
theorem dd209_87 : decode cX12_holds 87 = .ok (.isub, 1) := by decide +kernel
theorem ww209_87 {d : Nat} {l0 l1 l2 l3 l4 l5 l6 : Option mw_V} {x y : Int} {st : List mw_V} {σ : mw_S} {Q : Option mw_V → mw_S → Prop} : mw_WP d 209 87 [l0, l1, l2, l3, l4, l5, l6] (jI y :: jI x :: st) σ Q ↔ mw_WP d 209 88 [l0, l1, l2, l3, l4, l5, l6] (jI (w32 (x - y)) :: st) σ Q := WP_isub mq209 dd209_87
theorem dd209_88 : decode cX12_holds 88 = .ok (.iconst 1, 1) := by decide +kernel
theorem ww209_88 {d : Nat} {l0 l1 l2 l3 l4 l5 l6 : Option mw_V} {st : List mw_V} {σ : mw_S} {Q : Option mw_V → mw_S → Prop} : mw_WP d 209 88 [l0, l1, l2, l3, l4, l5, l6] st σ Q ↔ mw_WP d 209 89 [l0, l1, l2, l3, l4, l5, l6] (jI (1) :: st) σ Q := WP_iconst mq209 dd209_88 (by decide)
theorem dd209_89 : decode cX12_holds 89 = .ok (.aload_n 0, 1) := by decide +kernel
theorem ww209_89 {d : Nat} {l1 l2 l3 l4 l5 l6 : Option mw_V} {x : Nat} {st : List mw_V} {σ : mw_S} {Q : Option mw_V → mw_S → Prop} : mw_WP d 209 89 [some (jR x), l1, l2, l3, l4, l5, l6] st σ Q ↔ mw_WP d 209 90 [some (jR x), l1, l2, l3, l4, l5, l6] (jR x :: st) σ Q := WP_aload_n mq209 dd209_89 rfl
theorem dd209_90 : decode cX12_holds 90 = .ok (.getfield 30, 3) := by decide +kernel
theorem ww209_90 {d : Nat} {l0 l1 l2 l3 l4 l5 l6 : Option mw_V} {st : List mw_V} {σ : mw_S} {Q : Option mw_V → mw_S → Prop} : mw_WP d 209 90 [l0, l1, l2, l3, l4, l5, l6] (jR 100 :: st) σ Q ↔ mw_WP d 209 93 [l0, l1, l2, l3, l4, l5, l6] (jR 105 :: st) σ Q := WP_getR (ci := 11) (k := 16) mq209 dd209_90 (by decide) rfl
theorem dd209_93 : decode cX12_holds 93 = .ok (.iload 4, 2) := by decide +kernel
theorem ww209_93 {d : Nat} {l0 l1 l2 l3 l5 l6 : Option mw_V} {x : Int} {st : List mw_V} {σ : mw_S} {Q : Option mw_V → mw_S → Prop} : mw_WP d 209 93 [l0, l1, l2, l3, some (jI x), l5, l6] st σ Q ↔ mw_WP d 209 95 [l0, l1, l2, l3, some (jI x), l5, l6] (jI x :: st) σ Q := WP_iload mq209 dd209_93 rfl
theorem dd209_95 : decode cX12_holds 95 = .ok (.iconst 1, 1) := by decide +kernel
theorem ww209_95 {d : Nat} {l0 l1 l2 l3 l4 l5 l6 : Option mw_V} {st : List mw_V} {σ : mw_S} {Q : Option mw_V → mw_S → Prop} : mw_WP d 209 95 [l0, l1, l2, l3, l4, l5, l6] st σ Q ↔ mw_WP d 209 96 [l0, l1, l2, l3, l4, l5, l6] (jI (1) :: st) σ Q := WP_iconst mq209 dd209_95 (by decide)
theorem dd209_96 : decode cX12_holds 96 = .ok (.isub, 1) := by decide +kernel
theorem ww209_96 {d : Nat} {l0 l1 l2 l3 l4 l5 l6 : Option mw_V} {x y : Int} {st : List mw_V} {σ : mw_S} {Q : Option mw_V → mw_S → Prop} : mw_WP d 209 96 [l0, l1, l2, l3, l4, l5, l6] (jI y :: jI x :: st) σ Q ↔ mw_WP d 209 97 [l0, l1, l2, l3, l4, l5, l6] (jI (w32 (x - y)) :: st) σ Q := WP_isub mq209 dd209_96
theorem dd209_97 : decode cX12_holds 97 = .ok (.iaload, 1) := by decide +kernel
theorem ww209_97 {d : Nat} {l0 l1 l2 l3 l4 l5 l6 : Option mw_V} {z : Int} {a : Nat} {st : List mw_V} {σ : mw_S} {Q : Option mw_V → mw_S → Prop} : mw_WP d 209 97 [l0, l1, l2, l3, l4, l5, l6] (jI z :: jR a :: st) σ Q ↔ ((0 ≤ z ∧ z < mw_lenI a) ∧ mw_WP d 209 98 [l0, l1, l2, l3, l4, l5, l6] (jI (mw_rdI σ a z.toNat) :: st) σ Q) := WP_iaload mq209 dd209_97
theorem dd209_98 : decode cX12_holds 98 = .ok (.isub, 1) := by decide +kernel
theorem ww209_98 {d : Nat} {l0 l1 l2 l3 l4 l5 l6 : Option mw_V} {x y : Int} {st : List mw_V} {σ : mw_S} {Q : Option mw_V → mw_S → Prop} : mw_WP d 209 98 [l0, l1, l2, l3, l4, l5, l6] (jI y :: jI x :: st) σ Q ↔ mw_WP d 209 99 [l0, l1, l2, l3, l4, l5, l6] (jI (w32 (x - y)) :: st) σ Q := WP_isub mq209 dd209_98
theorem dd209_99 : decode cX12_holds 99 = .ok (.iastore, 1) := by decide +kernel
theorem ww209_99 {d : Nat} {l0 l1 l2 l3 l4 l5 l6 : Option mw_V} {x z : Int} {a : Nat} {st : List mw_V} {σ : mw_S} {Q : Option mw_V → mw_S → Prop} : mw_WP d 209 99 [l0, l1, l2, l3, l4, l5, l6] (jI x :: jI z :: jR a :: st) σ Q ↔ ((0 ≤ z ∧ z < mw_lenW 0 a) ∧ mw_WP d 209 100 [l0, l1, l2, l3, l4, l5, l6] st (upS σ a z.toNat x) Q) := WP_iastore mq209 dd209_99
theorem dd209_100 : decode cX12_holds 100 = .ok (.goto 36, 3) := by decide +kernel
theorem ww209_100 {d : Nat} {l0 l1 l2 l3 l4 l5 l6 : Option mw_V} {st : List mw_V} {σ : mw_S} {Q : Option mw_V → mw_S → Prop} : mw_WP d 209 100 [l0, l1, l2, l3, l4, l5, l6] st σ Q ↔ mw_WP d 209 136 [l0, l1, l2, l3, l4, l5, l6] st σ Q := WP_goto mq209 dd209_100 (by decide)
theorem dd209_103 : decode cX12_holds 103 = .ok (.iinc 4 (-1), 3) := by decide +kernel
theorem ww209_103 {d : Nat} {l0 l1 l2 l3 l5 l6 : Option mw_V} {x : Int} {st : List mw_V} {σ : mw_S} {Q : Option mw_V → mw_S → Prop} (h : mw_nlo l3 = true) : mw_WP d 209 103 [l0, l1, l2, l3, some (jI x), l5, l6] st σ Q ↔ mw_WP d 209 106 [l0, l1, l2, l3, some (jI (w32 (x + (-1)))), l5, l6] st σ Q := WP_iinc mq209 dd209_103 rfl (Nat.le_of_ble_eq_true rfl) (mw_nl_of (i := 3) rfl h) rfl
theorem dd209_106 : decode cX12_holds 106 = .ok (.aload_n 0, 1) := by decide +kernel
theorem ww209_106 {d : Nat} {l1 l2 l3 l4 l5 l6 : Option mw_V} {x : Nat} {st : List mw_V} {σ : mw_S} {Q : Option mw_V → mw_S → Prop} : mw_WP d 209 106 [some (jR x), l1, l2, l3, l4, l5, l6] st σ Q ↔ mw_WP d 209 107 [some (jR x), l1, l2, l3, l4, l5, l6] (jR x :: st) σ Q := WP_aload_n mq209 dd209_106 rfl
theorem dd209_107 : decode cX12_holds 107 = .ok (.getfield 30, 3) := by decide +kernel
theorem ww209_107 {d : Nat} {l0 l1 l2 l3 l4 l5 l6 : Option mw_V} {st : List mw_V} {σ : mw_S} {Q : Option mw_V → mw_S → Prop} : mw_WP d 209 107 [l0, l1, l2, l3, l4, l5, l6] (jR 100 :: st) σ Q ↔ mw_WP d 209 110 [l0, l1, l2, l3, l4, l5, l6] (jR 105 :: st) σ Q := WP_getR (ci := 11) (k := 16) mq209 dd209_107 (by decide) rfl
theorem dd209_110 : decode cX12_holds 110 = .ok (.iload 4, 2) := by decide +kernel
theorem ww209_110 {d : Nat} {l0 l1 l2 l3 l5 l6 : Option mw_V} {x : Int} {st : List mw_V} {σ : mw_S} {Q : Option mw_V → mw_S → Prop} : mw_WP d 209 110 [l0, l1, l2, l3, some (jI x), l5, l6] st σ Q ↔ mw_WP d 209 112 [l0, l1, l2, l3, some (jI x), l5, l6] (jI x :: st) σ Q := WP_iload mq209 dd209_110 rfl
theorem dd209_112 : decode cX12_holds 112 = .ok (.iconst 1, 1) := by decide +kernel
theorem ww209_112 {d : Nat} {l0 l1 l2 l3 l4 l5 l6 : Option mw_V} {st : List mw_V} {σ : mw_S} {Q : Option mw_V → mw_S → Prop} : mw_WP d 209 112 [l0, l1, l2, l3, l4, l5, l6] st σ Q ↔ mw_WP d 209 113 [l0, l1, l2, l3, l4, l5, l6] (jI (1) :: st) σ Q := WP_iconst mq209 dd209_112 (by decide)
theorem dd209_113 : decode cX12_holds 113 = .ok (.isub, 1) := by decide +kernel
theorem ww209_113 {d : Nat} {l0 l1 l2 l3 l4 l5 l6 : Option mw_V} {x y : Int} {st : List mw_V} {σ : mw_S} {Q : Option mw_V → mw_S → Prop} : mw_WP d 209 113 [l0, l1, l2, l3, l4, l5, l6] (jI y :: jI x :: st) σ Q ↔ mw_WP d 209 114 [l0, l1, l2, l3, l4, l5, l6] (jI (w32 (x - y)) :: st) σ Q := WP_isub mq209 dd209_113
theorem dd209_114 : decode cX12_holds 114 = .ok (.iload 6, 2) := by decide +kernel
theorem ww209_114 {d : Nat} {l0 l1 l2 l3 l4 l5 : Option mw_V} {x : Int} {st : List mw_V} {σ : mw_S} {Q : Option mw_V → mw_S → Prop} : mw_WP d 209 114 [l0, l1, l2, l3, l4, l5, some (jI x)] st σ Q ↔ mw_WP d 209 116 [l0, l1, l2, l3, l4, l5, some (jI x)] (jI x :: st) σ Q := WP_iload mq209 dd209_114 rfl
theorem dd209_116 : decode cX12_holds 116 = .ok (.aload_n 0, 1) := by decide +kernel
theorem ww209_116 {d : Nat} {l1 l2 l3 l4 l5 l6 : Option mw_V} {x : Nat} {st : List mw_V} {σ : mw_S} {Q : Option mw_V → mw_S → Prop} : mw_WP d 209 116 [some (jR x), l1, l2, l3, l4, l5, l6] st σ Q ↔ mw_WP d 209 117 [some (jR x), l1, l2, l3, l4, l5, l6] (jR x :: st) σ Q := WP_aload_n mq209 dd209_116 rfl
theorem dd209_117 : decode cX12_holds 117 = .ok (.getfield 30, 3) := by decide +kernel
theorem ww209_117 {d : Nat} {l0 l1 l2 l3 l4 l5 l6 : Option mw_V} {st : List mw_V} {σ : mw_S} {Q : Option mw_V → mw_S → Prop} : mw_WP d 209 117 [l0, l1, l2, l3, l4, l5, l6] (jR 100 :: st) σ Q ↔ mw_WP d 209 120 [l0, l1, l2, l3, l4, l5, l6] (jR 105 :: st) σ Q := WP_getR (ci := 11) (k := 16) mq209 dd209_117 (by decide) rfl
theorem dd209_120 : decode cX12_holds 120 = .ok (.iload 4, 2) := by decide +kernel
theorem ww209_120 {d : Nat} {l0 l1 l2 l3 l5 l6 : Option mw_V} {x : Int} {st : List mw_V} {σ : mw_S} {Q : Option mw_V → mw_S → Prop} : mw_WP d 209 120 [l0, l1, l2, l3, some (jI x), l5, l6] st σ Q ↔ mw_WP d 209 122 [l0, l1, l2, l3, some (jI x), l5, l6] (jI x :: st) σ Q := WP_iload mq209 dd209_120 rfl
theorem dd209_122 : decode cX12_holds 122 = .ok (.iconst 1, 1) := by decide +kernel
theorem ww209_122 {d : Nat} {l0 l1 l2 l3 l4 l5 l6 : Option mw_V} {st : List mw_V} {σ : mw_S} {Q : Option mw_V → mw_S → Prop} : mw_WP d 209 122 [l0, l1, l2, l3, l4, l5, l6] st σ Q ↔ mw_WP d 209 123 [l0, l1, l2, l3, l4, l5, l6] (jI (1) :: st) σ Q := WP_iconst mq209 dd209_122 (by decide)
theorem dd209_123 : decode cX12_holds 123 = .ok (.isub, 1) := by decide +kernel
theorem ww209_123 {d : Nat} {l0 l1 l2 l3 l4 l5 l6 : Option mw_V} {x y : Int} {st : List mw_V} {σ : mw_S} {Q : Option mw_V → mw_S → Prop} : mw_WP d 209 123 [l0, l1, l2, l3, l4, l5, l6] (jI y :: jI x :: st) σ Q ↔ mw_WP d 209 124 [l0, l1, l2, l3, l4, l5, l6] (jI (w32 (x - y)) :: st) σ Q := WP_isub mq209 dd209_123
theorem dd209_124 : decode cX12_holds 124 = .ok (.iaload, 1) := by decide +kernel
theorem ww209_124 {d : Nat} {l0 l1 l2 l3 l4 l5 l6 : Option mw_V} {z : Int} {a : Nat} {st : List mw_V} {σ : mw_S} {Q : Option mw_V → mw_S → Prop} : mw_WP d 209 124 [l0, l1, l2, l3, l4, l5, l6] (jI z :: jR a :: st) σ Q ↔ ((0 ≤ z ∧ z < mw_lenI a) ∧ mw_WP d 209 125 [l0, l1, l2, l3, l4, l5, l6] (jI (mw_rdI σ a z.toNat) :: st) σ Q) := WP_iaload mq209 dd209_124
theorem dd209_125 : decode cX12_holds 125 = .ok (.aload_n 0, 1) := by decide +kernel
theorem ww209_125 {d : Nat} {l1 l2 l3 l4 l5 l6 : Option mw_V} {x : Nat} {st : List mw_V} {σ : mw_S} {Q : Option mw_V → mw_S → Prop} : mw_WP d 209 125 [some (jR x), l1, l2, l3, l4, l5, l6] st σ Q ↔ mw_WP d 209 126 [some (jR x), l1, l2, l3, l4, l5, l6] (jR x :: st) σ Q := WP_aload_n mq209 dd209_125 rfl
theorem dd209_126 : decode cX12_holds 126 = .ok (.getfield 30, 3) := by decide +kernel
theorem ww209_126 {d : Nat} {l0 l1 l2 l3 l4 l5 l6 : Option mw_V} {st : List mw_V} {σ : mw_S} {Q : Option mw_V → mw_S → Prop} : mw_WP d 209 126 [l0, l1, l2, l3, l4, l5, l6] (jR 100 :: st) σ Q ↔ mw_WP d 209 129 [l0, l1, l2, l3, l4, l5, l6] (jR 105 :: st) σ Q := WP_getR (ci := 11) (k := 16) mq209 dd209_126 (by decide) rfl
theorem dd209_129 : decode cX12_holds 129 = .ok (.iload 4, 2) := by decide +kernel
theorem ww209_129 {d : Nat} {l0 l1 l2 l3 l5 l6 : Option mw_V} {x : Int} {st : List mw_V} {σ : mw_S} {Q : Option mw_V → mw_S → Prop} : mw_WP d 209 129 [l0, l1, l2, l3, some (jI x), l5, l6] st σ Q ↔ mw_WP d 209 131 [l0, l1, l2, l3, some (jI x), l5, l6] (jI x :: st) σ Q := WP_iload mq209 dd209_129 rfl
theorem dd209_131 : decode cX12_holds 131 = .ok (.iaload, 1) := by decide +kernel
theorem ww209_131 {d : Nat} {l0 l1 l2 l3 l4 l5 l6 : Option mw_V} {z : Int} {a : Nat} {st : List mw_V} {σ : mw_S} {Q : Option mw_V → mw_S → Prop} : mw_WP d 209 131 [l0, l1, l2, l3, l4, l5, l6] (jI z :: jR a :: st) σ Q ↔ ((0 ≤ z ∧ z < mw_lenI a) ∧ mw_WP d 209 132 [l0, l1, l2, l3, l4, l5, l6] (jI (mw_rdI σ a z.toNat) :: st) σ Q) := WP_iaload mq209 dd209_131
theorem dd209_132 : decode cX12_holds 132 = .ok (.invokestatic 243, 3) := by decide +kernel
theorem ww209_132 {d : Nat} {l0 l1 l2 l3 l4 l5 l6 : Option mw_V} {v0 v1 v2 : mw_V} {st : List mw_V} {σ : mw_S} {Q : Option mw_V → mw_S → Prop} (h8 : (st.map mw_cat).sum ≤ 8) : mw_WP d 209 132 [l0, l1, l2, l3, l4, l5, l6] (v2 :: v1 :: v0 :: st) σ Q ↔ mw_Call d 207 [v0, v1, v2] σ (fun r1 s1 => mw_WP d 209 135 [l0, l1, l2, l3, l4, l5, l6] (r1.toList ++ st) s1 Q) := WP_invs (as := [v2, v1, v0]) mq209 dd209_132 (by decide) mq207 rfl rfl h8
theorem dd209_135 : decode cX12_holds 135 = .ok (.iastore, 1) := by decide +kernel
theorem ww209_135 {d : Nat} {l0 l1 l2 l3 l4 l5 l6 : Option mw_V} {x z : Int} {a : Nat} {st : List mw_V} {σ : mw_S} {Q : Option mw_V → mw_S → Prop} : mw_WP d 209 135 [l0, l1, l2, l3, l4, l5, l6] (jI x :: jI z :: jR a :: st) σ Q ↔ ((0 ≤ z ∧ z < mw_lenW 0 a) ∧ mw_WP d 209 136 [l0, l1, l2, l3, l4, l5, l6] st (upS σ a z.toNat x) Q) := WP_iastore mq209 dd209_135
theorem dd209_136 : decode cX12_holds 136 = .ok (.iinc 5 1, 3) := by decide +kernel
theorem ww209_136 {d : Nat} {l0 l1 l2 l3 l4 l6 : Option mw_V} {x : Int} {st : List mw_V} {σ : mw_S} {Q : Option mw_V → mw_S → Prop} (h : mw_nlo l4 = true) : mw_WP d 209 136 [l0, l1, l2, l3, l4, some (jI x), l6] st σ Q ↔ mw_WP d 209 139 [l0, l1, l2, l3, l4, some (jI (w32 (x + (1)))), l6] st σ Q := WP_iinc mq209 dd209_136 rfl (Nat.le_of_ble_eq_true rfl) (mw_nl_of (i := 4) rfl h) rfl
theorem dd209_139 : decode cX12_holds 139 = .ok (.goto (-133), 3) := by decide +kernel
theorem ww209_139 {d : Nat} {l0 l1 l2 l3 l4 l5 l6 : Option mw_V} {st : List mw_V} {σ : mw_S} {Q : Option mw_V → mw_S → Prop} : mw_WP d 209 139 [l0, l1, l2, l3, l4, l5, l6] st σ Q ↔ mw_WP d 209 6 [l0, l1, l2, l3, l4, l5, l6] st σ Q := WP_goto mq209 dd209_139 (by decide)
theorem dd209_142 : decode cX12_holds 142 = .ok (.aload_n 0, 1) := by decide +kernel
theorem ww209_142 {d : Nat} {l1 l2 l3 l4 l5 l6 : Option mw_V} {x : Nat} {st : List mw_V} {σ : mw_S} {Q : Option mw_V → mw_S → Prop} : mw_WP d 209 142 [some (jR x), l1, l2, l3, l4, l5, l6] st σ Q ↔ mw_WP d 209 143 [some (jR x), l1, l2, l3, l4, l5, l6] (jR x :: st) σ Q := WP_aload_n mq209 dd209_142 rfl
theorem dd209_143 : decode cX12_holds 143 = .ok (.getfield 30, 3) := by decide +kernel
theorem ww209_143 {d : Nat} {l0 l1 l2 l3 l4 l5 l6 : Option mw_V} {st : List mw_V} {σ : mw_S} {Q : Option mw_V → mw_S → Prop} : mw_WP d 209 143 [l0, l1, l2, l3, l4, l5, l6] (jR 100 :: st) σ Q ↔ mw_WP d 209 146 [l0, l1, l2, l3, l4, l5, l6] (jR 105 :: st) σ Q := WP_getR (ci := 11) (k := 16) mq209 dd209_143 (by decide) rfl
theorem dd209_146 : decode cX12_holds 146 = .ok (.iconst 0, 1) := by decide +kernel
theorem ww209_146 {d : Nat} {l0 l1 l2 l3 l4 l5 l6 : Option mw_V} {st : List mw_V} {σ : mw_S} {Q : Option mw_V → mw_S → Prop} : mw_WP d 209 146 [l0, l1, l2, l3, l4, l5, l6] st σ Q ↔ mw_WP d 209 147 [l0, l1, l2, l3, l4, l5, l6] (jI (0) :: st) σ Q := WP_iconst mq209 dd209_146 (by decide)
theorem dd209_147 : decode cX12_holds 147 = .ok (.iaload, 1) := by decide +kernel
theorem ww209_147 {d : Nat} {l0 l1 l2 l3 l4 l5 l6 : Option mw_V} {z : Int} {a : Nat} {st : List mw_V} {σ : mw_S} {Q : Option mw_V → mw_S → Prop} : mw_WP d 209 147 [l0, l1, l2, l3, l4, l5, l6] (jI z :: jR a :: st) σ Q ↔ ((0 ≤ z ∧ z < mw_lenI a) ∧ mw_WP d 209 148 [l0, l1, l2, l3, l4, l5, l6] (jI (mw_rdI σ a z.toNat) :: st) σ Q) := WP_iaload mq209 dd209_147
theorem dd209_148 : decode cX12_holds 148 = .ok (.iconst 1, 1) := by decide +kernel
theorem ww209_148 {d : Nat} {l0 l1 l2 l3 l4 l5 l6 : Option mw_V} {st : List mw_V} {σ : mw_S} {Q : Option mw_V → mw_S → Prop} : mw_WP d 209 148 [l0, l1, l2, l3, l4, l5, l6] st σ Q ↔ mw_WP d 209 149 [l0, l1, l2, l3, l4, l5, l6] (jI (1) :: st) σ Q := WP_iconst mq209 dd209_148 (by decide)
theorem dd209_149 : decode cX12_holds 149 = .ok (.if_icmp .ne 7, 3) := by decide +kernel
theorem ww209_149 {d : Nat} {l0 l1 l2 l3 l4 l5 l6 : Option mw_V} {x y : Int} {st : List mw_V} {σ : mw_S} {Q : Option mw_V → mw_S → Prop} : mw_WP d 209 149 [l0, l1, l2, l3, l4, l5, l6] (jI y :: jI x :: st) σ Q ↔ (if ¬ x = y then mw_WP d 209 156 [l0, l1, l2, l3, l4, l5, l6] st σ Q else mw_WP d 209 152 [l0, l1, l2, l3, l4, l5, l6] st σ Q) := WP_icmp_ne mq209 dd209_149 (by decide)
theorem dd209_152 : decode cX12_holds 152 = .ok (.iconst 1, 1) := by decide +kernel
theorem ww209_152 {d : Nat} {l0 l1 l2 l3 l4 l5 l6 : Option mw_V} {st : List mw_V} {σ : mw_S} {Q : Option mw_V → mw_S → Prop} : mw_WP d 209 152 [l0, l1, l2, l3, l4, l5, l6] st σ Q ↔ mw_WP d 209 153 [l0, l1, l2, l3, l4, l5, l6] (jI (1) :: st) σ Q := WP_iconst mq209 dd209_152 (by decide)
theorem dd209_153 : decode cX12_holds 153 = .ok (.goto 4, 3) := by decide +kernel
theorem ww209_153 {d : Nat} {l0 l1 l2 l3 l4 l5 l6 : Option mw_V} {st : List mw_V} {σ : mw_S} {Q : Option mw_V → mw_S → Prop} : mw_WP d 209 153 [l0, l1, l2, l3, l4, l5, l6] st σ Q ↔ mw_WP d 209 157 [l0, l1, l2, l3, l4, l5, l6] st σ Q := WP_goto mq209 dd209_153 (by decide)
theorem dd209_156 : decode cX12_holds 156 = .ok (.iconst 0, 1) := by decide +kernel
theorem ww209_156 {d : Nat} {l0 l1 l2 l3 l4 l5 l6 : Option mw_V} {st : List mw_V} {σ : mw_S} {Q : Option mw_V → mw_S → Prop} : mw_WP d 209 156 [l0, l1, l2, l3, l4, l5, l6] st σ Q ↔ mw_WP d 209 157 [l0, l1, l2, l3, l4, l5, l6] (jI (0) :: st) σ Q := WP_iconst mq209 dd209_156 (by decide)
theorem dd209_157 : decode cX12_holds 157 = .ok (.ireturn, 1) := by decide +kernel
theorem ww209_157 {d : Nat} {l0 l1 l2 l3 l4 l5 l6 : Option mw_V} {z : Int} {σ : mw_S} {Q : Option mw_V → mw_S → Prop} (h : z = 0 ∨ z = 1) : mw_WP d 209 157 [l0, l1, l2, l3, l4, l5, l6] [jI z] σ Q ↔ Q (some (jI z)) σ := WP_ireturn (ty := .boolean) mq209 dd209_157 rfl (by rcases h with rfl | rfl <;> decide)
theorem ee210 {d : Nat} {z0 : Int} {σ : mw_S} {Q : Option mw_V → mw_S → Prop} : mw_Call (d + 1) 210 [jI z0] σ Q ↔ mw_WP d 210 0 [some (jI z0)] [] σ Q := CL_u mq210 (Nat.le_of_ble_eq_true rfl) rfl
theorem dd210_0 : decode cX12_turned 0 = .ok (.iload_n 0, 1) := by decide +kernel
theorem ww210_0 {d : Nat} {x : Int} {st : List mw_V} {σ : mw_S} {Q : Option mw_V → mw_S → Prop} : mw_WP d 210 0 [some (jI x)] st σ Q ↔ mw_WP d 210 1 [some (jI x)] (jI x :: st) σ Q := WP_iload_n mq210 dd210_0 rfl
theorem dd210_1 : decode cX12_turned 1 = .ok (.iconst 3, 1) := by decide +kernel
theorem ww210_1 {d : Nat} {l0 : Option mw_V} {st : List mw_V} {σ : mw_S} {Q : Option mw_V → mw_S → Prop} : mw_WP d 210 1 [l0] st σ Q ↔ mw_WP d 210 2 [l0] (jI (3) :: st) σ Q := WP_iconst mq210 dd210_1 (by decide)
theorem dd210_2 : decode cX12_turned 2 = .ok (.if_icmp .ge 7, 3) := by decide +kernel
theorem ww210_2 {d : Nat} {l0 : Option mw_V} {x y : Int} {st : List mw_V} {σ : mw_S} {Q : Option mw_V → mw_S → Prop} : mw_WP d 210 2 [l0] (jI y :: jI x :: st) σ Q ↔ (if y ≤ x then mw_WP d 210 9 [l0] st σ Q else mw_WP d 210 5 [l0] st σ Q) := WP_icmp_ge mq210 dd210_2 (by decide)
theorem dd210_5 : decode cX12_turned 5 = .ok (.iload_n 0, 1) := by decide +kernel
theorem ww210_5 {d : Nat} {x : Int} {st : List mw_V} {σ : mw_S} {Q : Option mw_V → mw_S → Prop} : mw_WP d 210 5 [some (jI x)] st σ Q ↔ mw_WP d 210 6 [some (jI x)] (jI x :: st) σ Q := WP_iload_n mq210 dd210_5 rfl
theorem dd210_6 : decode cX12_turned 6 = .ok (.goto 19, 3) := by decide +kernel
theorem ww210_6 {d : Nat} {l0 : Option mw_V} {st : List mw_V} {σ : mw_S} {Q : Option mw_V → mw_S → Prop} : mw_WP d 210 6 [l0] st σ Q ↔ mw_WP d 210 25 [l0] st σ Q := WP_goto mq210 dd210_6 (by decide)
theorem dd210_9 : decode cX12_turned 9 = .ok (.iload_n 0, 1) := by decide +kernel
theorem ww210_9 {d : Nat} {x : Int} {st : List mw_V} {σ : mw_S} {Q : Option mw_V → mw_S → Prop} : mw_WP d 210 9 [some (jI x)] st σ Q ↔ mw_WP d 210 10 [some (jI x)] (jI x :: st) σ Q := WP_iload_n mq210 dd210_9 rfl
theorem dd210_10 : decode cX12_turned 10 = .ok (.iconst 2, 1) := by decide +kernel
theorem ww210_10 {d : Nat} {l0 : Option mw_V} {st : List mw_V} {σ : mw_S} {Q : Option mw_V → mw_S → Prop} : mw_WP d 210 10 [l0] st σ Q ↔ mw_WP d 210 11 [l0] (jI (2) :: st) σ Q := WP_iconst mq210 dd210_10 (by decide)
theorem dd210_11 : decode cX12_turned 11 = .ok (.irem, 1) := by decide +kernel
theorem ww210_11 {d : Nat} {l0 : Option mw_V} {x y : Int} {st : List mw_V} {σ : mw_S} {Q : Option mw_V → mw_S → Prop} : mw_WP d 210 11 [l0] (jI y :: jI x :: st) σ Q ↔ (¬ i32 y = 0 ∧ mw_WP d 210 12 [l0] (jI (zRem x y) :: st) σ Q) := WP_irem mq210 dd210_11
theorem dd210_12 : decode cX12_turned 12 = .ok (.iconst 1, 1) := by decide +kernel
theorem ww210_12 {d : Nat} {l0 : Option mw_V} {st : List mw_V} {σ : mw_S} {Q : Option mw_V → mw_S → Prop} : mw_WP d 210 12 [l0] st σ Q ↔ mw_WP d 210 13 [l0] (jI (1) :: st) σ Q := WP_iconst mq210 dd210_12 (by decide)
theorem dd210_13 : decode cX12_turned 13 = .ok (.if_icmp .ne 9, 3) := by decide +kernel
theorem ww210_13 {d : Nat} {l0 : Option mw_V} {x y : Int} {st : List mw_V} {σ : mw_S} {Q : Option mw_V → mw_S → Prop} : mw_WP d 210 13 [l0] (jI y :: jI x :: st) σ Q ↔ (if ¬ x = y then mw_WP d 210 22 [l0] st σ Q else mw_WP d 210 16 [l0] st σ Q) := WP_icmp_ne mq210 dd210_13 (by decide)
theorem dd210_16 : decode cX12_turned 16 = .ok (.iload_n 0, 1) := by decide +kernel
theorem ww210_16 {d : Nat} {x : Int} {st : List mw_V} {σ : mw_S} {Q : Option mw_V → mw_S → Prop} : mw_WP d 210 16 [some (jI x)] st σ Q ↔ mw_WP d 210 17 [some (jI x)] (jI x :: st) σ Q := WP_iload_n mq210 dd210_16 rfl
theorem dd210_17 : decode cX12_turned 17 = .ok (.iconst 1, 1) := by decide +kernel
theorem ww210_17 {d : Nat} {l0 : Option mw_V} {st : List mw_V} {σ : mw_S} {Q : Option mw_V → mw_S → Prop} : mw_WP d 210 17 [l0] st σ Q ↔ mw_WP d 210 18 [l0] (jI (1) :: st) σ Q := WP_iconst mq210 dd210_17 (by decide)
theorem dd210_18 : decode cX12_turned 18 = .ok (.iadd, 1) := by decide +kernel
theorem ww210_18 {d : Nat} {l0 : Option mw_V} {x y : Int} {st : List mw_V} {σ : mw_S} {Q : Option mw_V → mw_S → Prop} : mw_WP d 210 18 [l0] (jI y :: jI x :: st) σ Q ↔ mw_WP d 210 19 [l0] (jI (w32 (x + y)) :: st) σ Q := WP_iadd mq210 dd210_18
theorem dd210_19 : decode cX12_turned 19 = .ok (.goto 6, 3) := by decide +kernel
theorem ww210_19 {d : Nat} {l0 : Option mw_V} {st : List mw_V} {σ : mw_S} {Q : Option mw_V → mw_S → Prop} : mw_WP d 210 19 [l0] st σ Q ↔ mw_WP d 210 25 [l0] st σ Q := WP_goto mq210 dd210_19 (by decide)
theorem dd210_22 : decode cX12_turned 22 = .ok (.iload_n 0, 1) := by decide +kernel
theorem ww210_22 {d : Nat} {x : Int} {st : List mw_V} {σ : mw_S} {Q : Option mw_V → mw_S → Prop} : mw_WP d 210 22 [some (jI x)] st σ Q ↔ mw_WP d 210 23 [some (jI x)] (jI x :: st) σ Q := WP_iload_n mq210 dd210_22 rfl
theorem dd210_23 : decode cX12_turned 23 = .ok (.iconst 1, 1) := by decide +kernel
theorem ww210_23 {d : Nat} {l0 : Option mw_V} {st : List mw_V} {σ : mw_S} {Q : Option mw_V → mw_S → Prop} : mw_WP d 210 23 [l0] st σ Q ↔ mw_WP d 210 24 [l0] (jI (1) :: st) σ Q := WP_iconst mq210 dd210_23 (by decide)
theorem dd210_24 : decode cX12_turned 24 = .ok (.isub, 1) := by decide +kernel
theorem ww210_24 {d : Nat} {l0 : Option mw_V} {x y : Int} {st : List mw_V} {σ : mw_S} {Q : Option mw_V → mw_S → Prop} : mw_WP d 210 24 [l0] (jI y :: jI x :: st) σ Q ↔ mw_WP d 210 25 [l0] (jI (w32 (x - y)) :: st) σ Q := WP_isub mq210 dd210_24
theorem dd210_25 : decode cX12_turned 25 = .ok (.ireturn, 1) := by decide +kernel
theorem ww210_25 {d : Nat} {l0 : Option mw_V} {z : Int} {σ : mw_S} {Q : Option mw_V → mw_S → Prop} : mw_WP d 210 25 [l0] [jI z] σ Q ↔ Q (some (jI z)) σ := WP_ireturn (ty := .int) mq210 dd210_25 rfl rfl
theorem ee211 {d : Nat} {a : Nat} {z0 : Int} {z1 : Int} {σ : mw_S} {Q : Option mw_V → mw_S → Prop} : mw_Call (d + 1) 211 [jR a, jI z0, jI z1] σ Q ↔ mw_WP d 211 0 [some (jR a), some (jI z0), some (jI z1), none] [] σ Q := CL_u mq211 (Nat.le_of_ble_eq_true rfl) rfl
theorem dd211_0 : decode cX12_copyDoes 0 = .ok (.iconst 0, 1) := by decide +kernel
theorem ww211_0 {d : Nat} {l0 l1 l2 l3 : Option mw_V} {st : List mw_V} {σ : mw_S} {Q : Option mw_V → mw_S → Prop} : mw_WP d 211 0 [l0, l1, l2, l3] st σ Q ↔ mw_WP d 211 1 [l0, l1, l2, l3] (jI (0) :: st) σ Q := WP_iconst mq211 dd211_0 (by decide)
theorem dd211_1 : decode cX12_copyDoes 1 = .ok (.istore_n 3, 1) := by decide +kernel
theorem ww211_1 {d : Nat} {l0 l1 l2 l3 : Option mw_V} {x : Int} {st : List mw_V} {σ : mw_S} {Q : Option mw_V → mw_S → Prop} (h : mw_nlo l2 = true) : mw_WP d 211 1 [l0, l1, l2, l3] (jI x :: st) σ Q ↔ mw_WP d 211 2 [l0, l1, l2, some (jI x)] st σ Q := WP_istore_n mq211 dd211_1 (Nat.le_of_ble_eq_true rfl) (mw_nl_of (i := 2) rfl h) rfl
theorem dd211_2 : decode cX12_copyDoes 2 = .ok (.iload_n 3, 1) := by decide +kernel
theorem ww211_2 {d : Nat} {l0 l1 l2 : Option mw_V} {x : Int} {st : List mw_V} {σ : mw_S} {Q : Option mw_V → mw_S → Prop} : mw_WP d 211 2 [l0, l1, l2, some (jI x)] st σ Q ↔ mw_WP d 211 3 [l0, l1, l2, some (jI x)] (jI x :: st) σ Q := WP_iload_n mq211 dd211_2 rfl
theorem dd211_3 : decode cX12_copyDoes 3 = .ok (.aload_n 0, 1) := by decide +kernel
theorem ww211_3 {d : Nat} {l1 l2 l3 : Option mw_V} {x : Nat} {st : List mw_V} {σ : mw_S} {Q : Option mw_V → mw_S → Prop} : mw_WP d 211 3 [some (jR x), l1, l2, l3] st σ Q ↔ mw_WP d 211 4 [some (jR x), l1, l2, l3] (jR x :: st) σ Q := WP_aload_n mq211 dd211_3 rfl
theorem dd211_4 : decode cX12_copyDoes 4 = .ok (.getfield 13, 3) := by decide +kernel
theorem ww211_4 {d : Nat} {l0 l1 l2 l3 : Option mw_V} {st : List mw_V} {σ : mw_S} {Q : Option mw_V → mw_S → Prop} : mw_WP d 211 4 [l0, l1, l2, l3] (jR 100 :: st) σ Q ↔ mw_WP d 211 7 [l0, l1, l2, l3] (jR 101 :: st) σ Q := WP_getR (ci := 11) (k := 1) mq211 dd211_4 (by decide) rfl
theorem dd211_7 : decode cX12_copyDoes 7 = .ok (.iconst 4, 1) := by decide +kernel
theorem ww211_7 {d : Nat} {l0 l1 l2 l3 : Option mw_V} {st : List mw_V} {σ : mw_S} {Q : Option mw_V → mw_S → Prop} : mw_WP d 211 7 [l0, l1, l2, l3] st σ Q ↔ mw_WP d 211 8 [l0, l1, l2, l3] (jI (4) :: st) σ Q := WP_iconst mq211 dd211_7 (by decide)
theorem dd211_8 : decode cX12_copyDoes 8 = .ok (.iaload, 1) := by decide +kernel
theorem ww211_8 {d : Nat} {l0 l1 l2 l3 : Option mw_V} {z : Int} {a : Nat} {st : List mw_V} {σ : mw_S} {Q : Option mw_V → mw_S → Prop} : mw_WP d 211 8 [l0, l1, l2, l3] (jI z :: jR a :: st) σ Q ↔ ((0 ≤ z ∧ z < mw_lenI a) ∧ mw_WP d 211 9 [l0, l1, l2, l3] (jI (mw_rdI σ a z.toNat) :: st) σ Q) := WP_iaload mq211 dd211_8
theorem dd211_9 : decode cX12_copyDoes 9 = .ok (.if_icmp .ge 55, 3) := by decide +kernel
theorem ww211_9 {d : Nat} {l0 l1 l2 l3 : Option mw_V} {x y : Int} {st : List mw_V} {σ : mw_S} {Q : Option mw_V → mw_S → Prop} : mw_WP d 211 9 [l0, l1, l2, l3] (jI y :: jI x :: st) σ Q ↔ (if y ≤ x then mw_WP d 211 64 [l0, l1, l2, l3] st σ Q else mw_WP d 211 12 [l0, l1, l2, l3] st σ Q) := WP_icmp_ge mq211 dd211_9 (by decide)
theorem dd211_12 : decode cX12_copyDoes 12 = .ok (.aload_n 0, 1) := by decide +kernel
theorem ww211_12 {d : Nat} {l1 l2 l3 : Option mw_V} {x : Nat} {st : List mw_V} {σ : mw_S} {Q : Option mw_V → mw_S → Prop} : mw_WP d 211 12 [some (jR x), l1, l2, l3] st σ Q ↔ mw_WP d 211 13 [some (jR x), l1, l2, l3] (jR x :: st) σ Q := WP_aload_n mq211 dd211_12 rfl
theorem dd211_13 : decode cX12_copyDoes 13 = .ok (.getfield 13, 3) := by decide +kernel
theorem ww211_13 {d : Nat} {l0 l1 l2 l3 : Option mw_V} {st : List mw_V} {σ : mw_S} {Q : Option mw_V → mw_S → Prop} : mw_WP d 211 13 [l0, l1, l2, l3] (jR 100 :: st) σ Q ↔ mw_WP d 211 16 [l0, l1, l2, l3] (jR 101 :: st) σ Q := WP_getR (ci := 11) (k := 1) mq211 dd211_13 (by decide) rfl
theorem dd211_16 : decode cX12_copyDoes 16 = .ok (.bipush 9, 2) := by decide +kernel
theorem ww211_16 {d : Nat} {l0 l1 l2 l3 : Option mw_V} {st : List mw_V} {σ : mw_S} {Q : Option mw_V → mw_S → Prop} : mw_WP d 211 16 [l0, l1, l2, l3] st σ Q ↔ mw_WP d 211 18 [l0, l1, l2, l3] (jI (9) :: st) σ Q := WP_bipush mq211 dd211_16 (by decide)
theorem dd211_18 : decode cX12_copyDoes 18 = .ok (.iload_n 3, 1) := by decide +kernel
theorem ww211_18 {d : Nat} {l0 l1 l2 : Option mw_V} {x : Int} {st : List mw_V} {σ : mw_S} {Q : Option mw_V → mw_S → Prop} : mw_WP d 211 18 [l0, l1, l2, some (jI x)] st σ Q ↔ mw_WP d 211 19 [l0, l1, l2, some (jI x)] (jI x :: st) σ Q := WP_iload_n mq211 dd211_18 rfl
theorem dd211_19 : decode cX12_copyDoes 19 = .ok (.iadd, 1) := by decide +kernel
theorem ww211_19 {d : Nat} {l0 l1 l2 l3 : Option mw_V} {x y : Int} {st : List mw_V} {σ : mw_S} {Q : Option mw_V → mw_S → Prop} : mw_WP d 211 19 [l0, l1, l2, l3] (jI y :: jI x :: st) σ Q ↔ mw_WP d 211 20 [l0, l1, l2, l3] (jI (w32 (x + y)) :: st) σ Q := WP_iadd mq211 dd211_19
theorem dd211_20 : decode cX12_copyDoes 20 = .ok (.iaload, 1) := by decide +kernel
theorem ww211_20 {d : Nat} {l0 l1 l2 l3 : Option mw_V} {z : Int} {a : Nat} {st : List mw_V} {σ : mw_S} {Q : Option mw_V → mw_S → Prop} : mw_WP d 211 20 [l0, l1, l2, l3] (jI z :: jR a :: st) σ Q ↔ ((0 ≤ z ∧ z < mw_lenI a) ∧ mw_WP d 211 21 [l0, l1, l2, l3] (jI (mw_rdI σ a z.toNat) :: st) σ Q) := WP_iaload mq211 dd211_20
theorem dd211_21 : decode cX12_copyDoes 21 = .ok (.iconst (-1), 1) := by decide +kernel
theorem ww211_21 {d : Nat} {l0 l1 l2 l3 : Option mw_V} {st : List mw_V} {σ : mw_S} {Q : Option mw_V → mw_S → Prop} : mw_WP d 211 21 [l0, l1, l2, l3] st σ Q ↔ mw_WP d 211 22 [l0, l1, l2, l3] (jI (-1) :: st) σ Q := WP_iconst mq211 dd211_21 (by decide)
theorem dd211_22 : decode cX12_copyDoes 22 = .ok (.if_icmp .eq 16, 3) := by decide +kernel
theorem ww211_22 {d : Nat} {l0 l1 l2 l3 : Option mw_V} {x y : Int} {st : List mw_V} {σ : mw_S} {Q : Option mw_V → mw_S → Prop} : mw_WP d 211 22 [l0, l1, l2, l3] (jI y :: jI x :: st) σ Q ↔ (if x = y then mw_WP d 211 38 [l0, l1, l2, l3] st σ Q else mw_WP d 211 25 [l0, l1, l2, l3] st σ Q) := WP_icmp_eq mq211 dd211_22 (by decide)
theorem dd211_25 : decode cX12_copyDoes 25 = .ok (.aload_n 0, 1) := by decide +kernel
theorem ww211_25 {d : Nat} {l1 l2 l3 : Option mw_V} {x : Nat} {st : List mw_V} {σ : mw_S} {Q : Option mw_V → mw_S → Prop} : mw_WP d 211 25 [some (jR x), l1, l2, l3] st σ Q ↔ mw_WP d 211 26 [some (jR x), l1, l2, l3] (jR x :: st) σ Q := WP_aload_n mq211 dd211_25 rfl
theorem dd211_26 : decode cX12_copyDoes 26 = .ok (.getfield 13, 3) := by decide +kernel
theorem ww211_26 {d : Nat} {l0 l1 l2 l3 : Option mw_V} {st : List mw_V} {σ : mw_S} {Q : Option mw_V → mw_S → Prop} : mw_WP d 211 26 [l0, l1, l2, l3] (jR 100 :: st) σ Q ↔ mw_WP d 211 29 [l0, l1, l2, l3] (jR 101 :: st) σ Q := WP_getR (ci := 11) (k := 1) mq211 dd211_26 (by decide) rfl
theorem dd211_29 : decode cX12_copyDoes 29 = .ok (.bipush 9, 2) := by decide +kernel
theorem ww211_29 {d : Nat} {l0 l1 l2 l3 : Option mw_V} {st : List mw_V} {σ : mw_S} {Q : Option mw_V → mw_S → Prop} : mw_WP d 211 29 [l0, l1, l2, l3] st σ Q ↔ mw_WP d 211 31 [l0, l1, l2, l3] (jI (9) :: st) σ Q := WP_bipush mq211 dd211_29 (by decide)
theorem dd211_31 : decode cX12_copyDoes 31 = .ok (.iload_n 3, 1) := by decide +kernel
theorem ww211_31 {d : Nat} {l0 l1 l2 : Option mw_V} {x : Int} {st : List mw_V} {σ : mw_S} {Q : Option mw_V → mw_S → Prop} : mw_WP d 211 31 [l0, l1, l2, some (jI x)] st σ Q ↔ mw_WP d 211 32 [l0, l1, l2, some (jI x)] (jI x :: st) σ Q := WP_iload_n mq211 dd211_31 rfl
theorem dd211_32 : decode cX12_copyDoes 32 = .ok (.iadd, 1) := by decide +kernel
theorem ww211_32 {d : Nat} {l0 l1 l2 l3 : Option mw_V} {x y : Int} {st : List mw_V} {σ : mw_S} {Q : Option mw_V → mw_S → Prop} : mw_WP d 211 32 [l0, l1, l2, l3] (jI y :: jI x :: st) σ Q ↔ mw_WP d 211 33 [l0, l1, l2, l3] (jI (w32 (x + y)) :: st) σ Q := WP_iadd mq211 dd211_32
theorem dd211_33 : decode cX12_copyDoes 33 = .ok (.iaload, 1) := by decide +kernel
theorem ww211_33 {d : Nat} {l0 l1 l2 l3 : Option mw_V} {z : Int} {a : Nat} {st : List mw_V} {σ : mw_S} {Q : Option mw_V → mw_S → Prop} : mw_WP d 211 33 [l0, l1, l2, l3] (jI z :: jR a :: st) σ Q ↔ ((0 ≤ z ∧ z < mw_lenI a) ∧ mw_WP d 211 34 [l0, l1, l2, l3] (jI (mw_rdI σ a z.toNat) :: st) σ Q) := WP_iaload mq211 dd211_33
theorem dd211_34 : decode cX12_copyDoes 34 = .ok (.iload_n 1, 1) := by decide +kernel
theorem ww211_34 {d : Nat} {l0 l2 l3 : Option mw_V} {x : Int} {st : List mw_V} {σ : mw_S} {Q : Option mw_V → mw_S → Prop} : mw_WP d 211 34 [l0, some (jI x), l2, l3] st σ Q ↔ mw_WP d 211 35 [l0, some (jI x), l2, l3] (jI x :: st) σ Q := WP_iload_n mq211 dd211_34 rfl
theorem dd211_35 : decode cX12_copyDoes 35 = .ok (.if_icmp .ne 23, 3) := by decide +kernel
theorem ww211_35 {d : Nat} {l0 l1 l2 l3 : Option mw_V} {x y : Int} {st : List mw_V} {σ : mw_S} {Q : Option mw_V → mw_S → Prop} : mw_WP d 211 35 [l0, l1, l2, l3] (jI y :: jI x :: st) σ Q ↔ (if ¬ x = y then mw_WP d 211 58 [l0, l1, l2, l3] st σ Q else mw_WP d 211 38 [l0, l1, l2, l3] st σ Q) := WP_icmp_ne mq211 dd211_35 (by decide)
theorem dd211_38 : decode cX12_copyDoes 38 = .ok (.aload_n 0, 1) := by decide +kernel
theorem ww211_38 {d : Nat} {l1 l2 l3 : Option mw_V} {x : Nat} {st : List mw_V} {σ : mw_S} {Q : Option mw_V → mw_S → Prop} : mw_WP d 211 38 [some (jR x), l1, l2, l3] st σ Q ↔ mw_WP d 211 39 [some (jR x), l1, l2, l3] (jR x :: st) σ Q := WP_aload_n mq211 dd211_38 rfl
theorem dd211_39 : decode cX12_copyDoes 39 = .ok (.iload_n 3, 1) := by decide +kernel
theorem ww211_39 {d : Nat} {l0 l1 l2 : Option mw_V} {x : Int} {st : List mw_V} {σ : mw_S} {Q : Option mw_V → mw_S → Prop} : mw_WP d 211 39 [l0, l1, l2, some (jI x)] st σ Q ↔ mw_WP d 211 40 [l0, l1, l2, some (jI x)] (jI x :: st) σ Q := WP_iload_n mq211 dd211_39 rfl
theorem dd211_40 : decode cX12_copyDoes 40 = .ok (.iload_n 1, 1) := by decide +kernel
theorem ww211_40 {d : Nat} {l0 l2 l3 : Option mw_V} {x : Int} {st : List mw_V} {σ : mw_S} {Q : Option mw_V → mw_S → Prop} : mw_WP d 211 40 [l0, some (jI x), l2, l3] st σ Q ↔ mw_WP d 211 41 [l0, some (jI x), l2, l3] (jI x :: st) σ Q := WP_iload_n mq211 dd211_40 rfl
theorem dd211_41 : decode cX12_copyDoes 41 = .ok (.iload_n 2, 1) := by decide +kernel
theorem ww211_41 {d : Nat} {l0 l1 l3 : Option mw_V} {x : Int} {st : List mw_V} {σ : mw_S} {Q : Option mw_V → mw_S → Prop} : mw_WP d 211 41 [l0, l1, some (jI x), l3] st σ Q ↔ mw_WP d 211 42 [l0, l1, some (jI x), l3] (jI x :: st) σ Q := WP_iload_n mq211 dd211_41 rfl
theorem dd211_42 : decode cX12_copyDoes 42 = .ok (.invokevirtual 246, 3) := by decide +kernel
theorem ww211_42 {d : Nat} {l0 l1 l2 l3 : Option mw_V} {v0 v1 v2 : mw_V} {a : Nat} {st : List mw_V} {σ : mw_S} {Q : Option mw_V → mw_S → Prop} (hr : mw_rc a = 12) (h8 : (st.map mw_cat).sum ≤ 8) : mw_WP d 211 42 [l0, l1, l2, l3] (v2 :: v1 :: v0 :: jR a :: st) σ Q ↔ mw_Call d 209 [jR a, v0, v1, v2] σ (fun r1 s1 => mw_WP d 211 45 [l0, l1, l2, l3] (r1.toList ++ st) s1 Q) := WP_inv (as := [v2, v1, v0]) mq211 dd211_42 (by decide) mq209 rfl hr h8
theorem dd211_45 : decode cX12_copyDoes 45 = .ok (.ifCond .eq 13, 3) := by decide +kernel
theorem ww211_45 {d : Nat} {l0 l1 l2 l3 : Option mw_V} {x : Int} {st : List mw_V} {σ : mw_S} {Q : Option mw_V → mw_S → Prop} : mw_WP d 211 45 [l0, l1, l2, l3] (jI x :: st) σ Q ↔ (if x = 0 then mw_WP d 211 58 [l0, l1, l2, l3] st σ Q else mw_WP d 211 48 [l0, l1, l2, l3] st σ Q) := WP_if_eq mq211 dd211_45 (by decide)
theorem dd211_48 : decode cX12_copyDoes 48 = .ok (.aload_n 0, 1) := by decide +kernel
theorem ww211_48 {d : Nat} {l1 l2 l3 : Option mw_V} {x : Nat} {st : List mw_V} {σ : mw_S} {Q : Option mw_V → mw_S → Prop} : mw_WP d 211 48 [some (jR x), l1, l2, l3] st σ Q ↔ mw_WP d 211 49 [some (jR x), l1, l2, l3] (jR x :: st) σ Q := WP_aload_n mq211 dd211_48 rfl
theorem dd211_49 : decode cX12_copyDoes 49 = .ok (.getfield 13, 3) := by decide +kernel
theorem ww211_49 {d : Nat} {l0 l1 l2 l3 : Option mw_V} {st : List mw_V} {σ : mw_S} {Q : Option mw_V → mw_S → Prop} : mw_WP d 211 49 [l0, l1, l2, l3] (jR 100 :: st) σ Q ↔ mw_WP d 211 52 [l0, l1, l2, l3] (jR 101 :: st) σ Q := WP_getR (ci := 11) (k := 1) mq211 dd211_49 (by decide) rfl
theorem dd211_52 : decode cX12_copyDoes 52 = .ok (.bipush 17, 2) := by decide +kernel
theorem ww211_52 {d : Nat} {l0 l1 l2 l3 : Option mw_V} {st : List mw_V} {σ : mw_S} {Q : Option mw_V → mw_S → Prop} : mw_WP d 211 52 [l0, l1, l2, l3] st σ Q ↔ mw_WP d 211 54 [l0, l1, l2, l3] (jI (17) :: st) σ Q := WP_bipush mq211 dd211_52 (by decide)
theorem dd211_54 : decode cX12_copyDoes 54 = .ok (.iload_n 3, 1) := by decide +kernel
theorem ww211_54 {d : Nat} {l0 l1 l2 : Option mw_V} {x : Int} {st : List mw_V} {σ : mw_S} {Q : Option mw_V → mw_S → Prop} : mw_WP d 211 54 [l0, l1, l2, some (jI x)] st σ Q ↔ mw_WP d 211 55 [l0, l1, l2, some (jI x)] (jI x :: st) σ Q := WP_iload_n mq211 dd211_54 rfl
theorem dd211_55 : decode cX12_copyDoes 55 = .ok (.iadd, 1) := by decide +kernel
theorem ww211_55 {d : Nat} {l0 l1 l2 l3 : Option mw_V} {x y : Int} {st : List mw_V} {σ : mw_S} {Q : Option mw_V → mw_S → Prop} : mw_WP d 211 55 [l0, l1, l2, l3] (jI y :: jI x :: st) σ Q ↔ mw_WP d 211 56 [l0, l1, l2, l3] (jI (w32 (x + y)) :: st) σ Q := WP_iadd mq211 dd211_55
theorem dd211_56 : decode cX12_copyDoes 56 = .ok (.iaload, 1) := by decide +kernel
theorem ww211_56 {d : Nat} {l0 l1 l2 l3 : Option mw_V} {z : Int} {a : Nat} {st : List mw_V} {σ : mw_S} {Q : Option mw_V → mw_S → Prop} : mw_WP d 211 56 [l0, l1, l2, l3] (jI z :: jR a :: st) σ Q ↔ ((0 ≤ z ∧ z < mw_lenI a) ∧ mw_WP d 211 57 [l0, l1, l2, l3] (jI (mw_rdI σ a z.toNat) :: st) σ Q) := WP_iaload mq211 dd211_56
theorem dd211_57 : decode cX12_copyDoes 57 = .ok (.ireturn, 1) := by decide +kernel
theorem ww211_57 {d : Nat} {l0 l1 l2 l3 : Option mw_V} {z : Int} {σ : mw_S} {Q : Option mw_V → mw_S → Prop} : mw_WP d 211 57 [l0, l1, l2, l3] [jI z] σ Q ↔ Q (some (jI z)) σ := WP_ireturn (ty := .int) mq211 dd211_57 rfl rfl
theorem dd211_58 : decode cX12_copyDoes 58 = .ok (.iinc 3 1, 3) := by decide +kernel
theorem ww211_58 {d : Nat} {l0 l1 l2 : Option mw_V} {x : Int} {st : List mw_V} {σ : mw_S} {Q : Option mw_V → mw_S → Prop} (h : mw_nlo l2 = true) : mw_WP d 211 58 [l0, l1, l2, some (jI x)] st σ Q ↔ mw_WP d 211 61 [l0, l1, l2, some (jI (w32 (x + (1))))] st σ Q := WP_iinc mq211 dd211_58 rfl (Nat.le_of_ble_eq_true rfl) (mw_nl_of (i := 2) rfl h) rfl
theorem dd211_61 : decode cX12_copyDoes 61 = .ok (.goto (-59), 3) := by decide +kernel
theorem ww211_61 {d : Nat} {l0 l1 l2 l3 : Option mw_V} {st : List mw_V} {σ : mw_S} {Q : Option mw_V → mw_S → Prop} : mw_WP d 211 61 [l0, l1, l2, l3] st σ Q ↔ mw_WP d 211 2 [l0, l1, l2, l3] st σ Q := WP_goto mq211 dd211_61 (by decide)
theorem dd211_64 : decode cX12_copyDoes 64 = .ok (.iload_n 2, 1) := by decide +kernel
theorem ww211_64 {d : Nat} {l0 l1 l3 : Option mw_V} {x : Int} {st : List mw_V} {σ : mw_S} {Q : Option mw_V → mw_S → Prop} : mw_WP d 211 64 [l0, l1, some (jI x), l3] st σ Q ↔ mw_WP d 211 65 [l0, l1, some (jI x), l3] (jI x :: st) σ Q := WP_iload_n mq211 dd211_64 rfl
theorem dd211_65 : decode cX12_copyDoes 65 = .ok (.ireturn, 1) := by decide +kernel
theorem ww211_65 {d : Nat} {l0 l1 l2 l3 : Option mw_V} {z : Int} {σ : mw_S} {Q : Option mw_V → mw_S → Prop} : mw_WP d 211 65 [l0, l1, l2, l3] [jI z] σ Q ↔ Q (some (jI z)) σ := WP_ireturn (ty := .int) mq211 dd211_65 rfl rfl
theorem ee212 {d : Nat} {a : Nat} {σ : mw_S} {Q : Option mw_V → mw_S → Prop} : mw_Call (d + 1) 212 [jR a] σ Q ↔ mw_WP d 212 0 [some (jR a), none, none, none, none, none, none] [] σ Q := CL_u mq212 (Nat.le_of_ble_eq_true rfl) rfl
theorem dd212_0 : decode cX12_passes 0 = .ok (.aload_n 0, 1) := by decide +kernel
theorem ww212_0 {d : Nat} {l1 l2 l3 l4 l5 l6 : Option mw_V} {x : Nat} {st : List mw_V} {σ : mw_S} {Q : Option mw_V → mw_S → Prop} : mw_WP d 212 0 [some (jR x), l1, l2, l3, l4, l5, l6] st σ Q ↔ mw_WP d 212 1 [some (jR x), l1, l2, l3, l4, l5, l6] (jR x :: st) σ Q := WP_aload_n mq212 dd212_0 rfl
theorem dd212_1 : decode cX12_passes 1 = .ok (.iconst 0, 1) := by decide +kernel
theorem ww212_1 {d : Nat} {l0 l1 l2 l3 l4 l5 l6 : Option mw_V} {st : List mw_V} {σ : mw_S} {Q : Option mw_V → mw_S → Prop} : mw_WP d 212 1 [l0, l1, l2, l3, l4, l5, l6] st σ Q ↔ mw_WP d 212 2 [l0, l1, l2, l3, l4, l5, l6] (jI (0) :: st) σ Q := WP_iconst mq212 dd212_1 (by decide)
theorem dd212_2 : decode cX12_passes 2 = .ok (.putfield 250, 3) := by decide +kernel
theorem ww212_2 {d : Nat} {l0 l1 l2 l3 l4 l5 l6 : Option mw_V} {v : Int} {st : List mw_V} {σ : mw_S} {Q : Option mw_V → mw_S → Prop} : mw_WP d 212 2 [l0, l1, l2, l3, l4, l5, l6] (jI v :: jR 100 :: st) σ Q ↔ mw_WP d 212 5 [l0, l1, l2, l3, l4, l5, l6] st (upS σ 100 19 v) Q := WP_putI (ci := 11) (k := 19) mq212 dd212_2 (by decide) rfl
theorem dd212_5 : decode cX12_passes 5 = .ok (.iconst 0, 1) := by decide +kernel
theorem ww212_5 {d : Nat} {l0 l1 l2 l3 l4 l5 l6 : Option mw_V} {st : List mw_V} {σ : mw_S} {Q : Option mw_V → mw_S → Prop} : mw_WP d 212 5 [l0, l1, l2, l3, l4, l5, l6] st σ Q ↔ mw_WP d 212 6 [l0, l1, l2, l3, l4, l5, l6] (jI (0) :: st) σ Q := WP_iconst mq212 dd212_5 (by decide)
theorem dd212_6 : decode cX12_passes 6 = .ok (.istore_n 1, 1) := by decide +kernel
theorem ww212_6 {d : Nat} {l0 l1 l2 l3 l4 l5 l6 : Option mw_V} {x : Int} {st : List mw_V} {σ : mw_S} {Q : Option mw_V → mw_S → Prop} (h : mw_nlo l0 = true) : mw_WP d 212 6 [l0, l1, l2, l3, l4, l5, l6] (jI x :: st) σ Q ↔ mw_WP d 212 7 [l0, some (jI x), l2, l3, l4, l5, l6] st σ Q := WP_istore_n mq212 dd212_6 (Nat.le_of_ble_eq_true rfl) (mw_nl_of (i := 0) rfl h) rfl
theorem dd212_7 : decode cX12_passes 7 = .ok (.iconst 0, 1) := by decide +kernel
theorem ww212_7 {d : Nat} {l0 l1 l2 l3 l4 l5 l6 : Option mw_V} {st : List mw_V} {σ : mw_S} {Q : Option mw_V → mw_S → Prop} : mw_WP d 212 7 [l0, l1, l2, l3, l4, l5, l6] st σ Q ↔ mw_WP d 212 8 [l0, l1, l2, l3, l4, l5, l6] (jI (0) :: st) σ Q := WP_iconst mq212 dd212_7 (by decide)
theorem dd212_8 : decode cX12_passes 8 = .ok (.istore_n 2, 1) := by decide +kernel
theorem ww212_8 {d : Nat} {l0 l1 l2 l3 l4 l5 l6 : Option mw_V} {x : Int} {st : List mw_V} {σ : mw_S} {Q : Option mw_V → mw_S → Prop} (h : mw_nlo l1 = true) : mw_WP d 212 8 [l0, l1, l2, l3, l4, l5, l6] (jI x :: st) σ Q ↔ mw_WP d 212 9 [l0, l1, some (jI x), l3, l4, l5, l6] st σ Q := WP_istore_n mq212 dd212_8 (Nat.le_of_ble_eq_true rfl) (mw_nl_of (i := 1) rfl h) rfl
theorem dd212_9 : decode cX12_passes 9 = .ok (.iload_n 2, 1) := by decide +kernel
theorem ww212_9 {d : Nat} {l0 l1 l3 l4 l5 l6 : Option mw_V} {x : Int} {st : List mw_V} {σ : mw_S} {Q : Option mw_V → mw_S → Prop} : mw_WP d 212 9 [l0, l1, some (jI x), l3, l4, l5, l6] st σ Q ↔ mw_WP d 212 10 [l0, l1, some (jI x), l3, l4, l5, l6] (jI x :: st) σ Q := WP_iload_n mq212 dd212_9 rfl
theorem dd212_10 : decode cX12_passes 10 = .ok (.aload_n 0, 1) := by decide +kernel
theorem ww212_10 {d : Nat} {l1 l2 l3 l4 l5 l6 : Option mw_V} {x : Nat} {st : List mw_V} {σ : mw_S} {Q : Option mw_V → mw_S → Prop} : mw_WP d 212 10 [some (jR x), l1, l2, l3, l4, l5, l6] st σ Q ↔ mw_WP d 212 11 [some (jR x), l1, l2, l3, l4, l5, l6] (jR x :: st) σ Q := WP_aload_n mq212 dd212_10 rfl
theorem dd212_11 : decode cX12_passes 11 = .ok (.getfield 13, 3) := by decide +kernel
theorem ww212_11 {d : Nat} {l0 l1 l2 l3 l4 l5 l6 : Option mw_V} {st : List mw_V} {σ : mw_S} {Q : Option mw_V → mw_S → Prop} : mw_WP d 212 11 [l0, l1, l2, l3, l4, l5, l6] (jR 100 :: st) σ Q ↔ mw_WP d 212 14 [l0, l1, l2, l3, l4, l5, l6] (jR 101 :: st) σ Q := WP_getR (ci := 11) (k := 1) mq212 dd212_11 (by decide) rfl
theorem dd212_14 : decode cX12_passes 14 = .ok (.iconst 2, 1) := by decide +kernel
theorem ww212_14 {d : Nat} {l0 l1 l2 l3 l4 l5 l6 : Option mw_V} {st : List mw_V} {σ : mw_S} {Q : Option mw_V → mw_S → Prop} : mw_WP d 212 14 [l0, l1, l2, l3, l4, l5, l6] st σ Q ↔ mw_WP d 212 15 [l0, l1, l2, l3, l4, l5, l6] (jI (2) :: st) σ Q := WP_iconst mq212 dd212_14 (by decide)
theorem dd212_15 : decode cX12_passes 15 = .ok (.iaload, 1) := by decide +kernel
theorem ww212_15 {d : Nat} {l0 l1 l2 l3 l4 l5 l6 : Option mw_V} {z : Int} {a : Nat} {st : List mw_V} {σ : mw_S} {Q : Option mw_V → mw_S → Prop} : mw_WP d 212 15 [l0, l1, l2, l3, l4, l5, l6] (jI z :: jR a :: st) σ Q ↔ ((0 ≤ z ∧ z < mw_lenI a) ∧ mw_WP d 212 16 [l0, l1, l2, l3, l4, l5, l6] (jI (mw_rdI σ a z.toNat) :: st) σ Q) := WP_iaload mq212 dd212_15
theorem dd212_16 : decode cX12_passes 16 = .ok (.if_icmp .ge 238, 3) := by decide +kernel
theorem ww212_16 {d : Nat} {l0 l1 l2 l3 l4 l5 l6 : Option mw_V} {x y : Int} {st : List mw_V} {σ : mw_S} {Q : Option mw_V → mw_S → Prop} : mw_WP d 212 16 [l0, l1, l2, l3, l4, l5, l6] (jI y :: jI x :: st) σ Q ↔ (if y ≤ x then mw_WP d 212 254 [l0, l1, l2, l3, l4, l5, l6] st σ Q else mw_WP d 212 19 [l0, l1, l2, l3, l4, l5, l6] st σ Q) := WP_icmp_ge mq212 dd212_16 (by decide)
theorem dd212_19 : decode cX12_passes 19 = .ok (.aload_n 0, 1) := by decide +kernel
theorem ww212_19 {d : Nat} {l1 l2 l3 l4 l5 l6 : Option mw_V} {x : Nat} {st : List mw_V} {σ : mw_S} {Q : Option mw_V → mw_S → Prop} : mw_WP d 212 19 [some (jR x), l1, l2, l3, l4, l5, l6] st σ Q ↔ mw_WP d 212 20 [some (jR x), l1, l2, l3, l4, l5, l6] (jR x :: st) σ Q := WP_aload_n mq212 dd212_19 rfl
theorem dd212_20 : decode cX12_passes 20 = .ok (.getfield 13, 3) := by decide +kernel
theorem ww212_20 {d : Nat} {l0 l1 l2 l3 l4 l5 l6 : Option mw_V} {st : List mw_V} {σ : mw_S} {Q : Option mw_V → mw_S → Prop} : mw_WP d 212 20 [l0, l1, l2, l3, l4, l5, l6] (jR 100 :: st) σ Q ↔ mw_WP d 212 23 [l0, l1, l2, l3, l4, l5, l6] (jR 101 :: st) σ Q := WP_getR (ci := 11) (k := 1) mq212 dd212_20 (by decide) rfl
theorem dd212_23 : decode cX12_passes 23 = .ok (.bipush 76, 2) := by decide +kernel
theorem ww212_23 {d : Nat} {l0 l1 l2 l3 l4 l5 l6 : Option mw_V} {st : List mw_V} {σ : mw_S} {Q : Option mw_V → mw_S → Prop} : mw_WP d 212 23 [l0, l1, l2, l3, l4, l5, l6] st σ Q ↔ mw_WP d 212 25 [l0, l1, l2, l3, l4, l5, l6] (jI (76) :: st) σ Q := WP_bipush mq212 dd212_23 (by decide)
theorem dd212_25 : decode cX12_passes 25 = .ok (.iload_n 2, 1) := by decide +kernel
theorem ww212_25 {d : Nat} {l0 l1 l3 l4 l5 l6 : Option mw_V} {x : Int} {st : List mw_V} {σ : mw_S} {Q : Option mw_V → mw_S → Prop} : mw_WP d 212 25 [l0, l1, some (jI x), l3, l4, l5, l6] st σ Q ↔ mw_WP d 212 26 [l0, l1, some (jI x), l3, l4, l5, l6] (jI x :: st) σ Q := WP_iload_n mq212 dd212_25 rfl
theorem dd212_26 : decode cX12_passes 26 = .ok (.iadd, 1) := by decide +kernel
theorem ww212_26 {d : Nat} {l0 l1 l2 l3 l4 l5 l6 : Option mw_V} {x y : Int} {st : List mw_V} {σ : mw_S} {Q : Option mw_V → mw_S → Prop} : mw_WP d 212 26 [l0, l1, l2, l3, l4, l5, l6] (jI y :: jI x :: st) σ Q ↔ mw_WP d 212 27 [l0, l1, l2, l3, l4, l5, l6] (jI (w32 (x + y)) :: st) σ Q := WP_iadd mq212 dd212_26
theorem dd212_27 : decode cX12_passes 27 = .ok (.iaload, 1) := by decide +kernel
theorem ww212_27 {d : Nat} {l0 l1 l2 l3 l4 l5 l6 : Option mw_V} {z : Int} {a : Nat} {st : List mw_V} {σ : mw_S} {Q : Option mw_V → mw_S → Prop} : mw_WP d 212 27 [l0, l1, l2, l3, l4, l5, l6] (jI z :: jR a :: st) σ Q ↔ ((0 ≤ z ∧ z < mw_lenI a) ∧ mw_WP d 212 28 [l0, l1, l2, l3, l4, l5, l6] (jI (mw_rdI σ a z.toNat) :: st) σ Q) := WP_iaload mq212 dd212_27
theorem dd212_28 : decode cX12_passes 28 = .ok (.bipush 7, 2) := by decide +kernel
theorem ww212_28 {d : Nat} {l0 l1 l2 l3 l4 l5 l6 : Option mw_V} {st : List mw_V} {σ : mw_S} {Q : Option mw_V → mw_S → Prop} : mw_WP d 212 28 [l0, l1, l2, l3, l4, l5, l6] st σ Q ↔ mw_WP d 212 30 [l0, l1, l2, l3, l4, l5, l6] (jI (7) :: st) σ Q := WP_bipush mq212 dd212_28 (by decide)
theorem dd212_30 : decode cX12_passes 30 = .ok (.if_icmp .lt 218, 3) := by decide +kernel
theorem ww212_30 {d : Nat} {l0 l1 l2 l3 l4 l5 l6 : Option mw_V} {x y : Int} {st : List mw_V} {σ : mw_S} {Q : Option mw_V → mw_S → Prop} : mw_WP d 212 30 [l0, l1, l2, l3, l4, l5, l6] (jI y :: jI x :: st) σ Q ↔ (if x < y then mw_WP d 212 248 [l0, l1, l2, l3, l4, l5, l6] st σ Q else mw_WP d 212 33 [l0, l1, l2, l3, l4, l5, l6] st σ Q) := WP_icmp_lt mq212 dd212_30 (by decide)
theorem dd212_33 : decode cX12_passes 33 = .ok (.aload_n 0, 1) := by decide +kernel
theorem ww212_33 {d : Nat} {l1 l2 l3 l4 l5 l6 : Option mw_V} {x : Nat} {st : List mw_V} {σ : mw_S} {Q : Option mw_V → mw_S → Prop} : mw_WP d 212 33 [some (jR x), l1, l2, l3, l4, l5, l6] st σ Q ↔ mw_WP d 212 34 [some (jR x), l1, l2, l3, l4, l5, l6] (jR x :: st) σ Q := WP_aload_n mq212 dd212_33 rfl
theorem dd212_34 : decode cX12_passes 34 = .ok (.getfield 13, 3) := by decide +kernel
theorem ww212_34 {d : Nat} {l0 l1 l2 l3 l4 l5 l6 : Option mw_V} {st : List mw_V} {σ : mw_S} {Q : Option mw_V → mw_S → Prop} : mw_WP d 212 34 [l0, l1, l2, l3, l4, l5, l6] (jR 100 :: st) σ Q ↔ mw_WP d 212 37 [l0, l1, l2, l3, l4, l5, l6] (jR 101 :: st) σ Q := WP_getR (ci := 11) (k := 1) mq212 dd212_34 (by decide) rfl
theorem dd212_37 : decode cX12_passes 37 = .ok (.bipush 79, 2) := by decide +kernel
theorem ww212_37 {d : Nat} {l0 l1 l2 l3 l4 l5 l6 : Option mw_V} {st : List mw_V} {σ : mw_S} {Q : Option mw_V → mw_S → Prop} : mw_WP d 212 37 [l0, l1, l2, l3, l4, l5, l6] st σ Q ↔ mw_WP d 212 39 [l0, l1, l2, l3, l4, l5, l6] (jI (79) :: st) σ Q := WP_bipush mq212 dd212_37 (by decide)
theorem dd212_39 : decode cX12_passes 39 = .ok (.iload_n 2, 1) := by decide +kernel
theorem ww212_39 {d : Nat} {l0 l1 l3 l4 l5 l6 : Option mw_V} {x : Int} {st : List mw_V} {σ : mw_S} {Q : Option mw_V → mw_S → Prop} : mw_WP d 212 39 [l0, l1, some (jI x), l3, l4, l5, l6] st σ Q ↔ mw_WP d 212 40 [l0, l1, some (jI x), l3, l4, l5, l6] (jI x :: st) σ Q := WP_iload_n mq212 dd212_39 rfl
theorem dd212_40 : decode cX12_passes 40 = .ok (.iadd, 1) := by decide +kernel
theorem ww212_40 {d : Nat} {l0 l1 l2 l3 l4 l5 l6 : Option mw_V} {x y : Int} {st : List mw_V} {σ : mw_S} {Q : Option mw_V → mw_S → Prop} : mw_WP d 212 40 [l0, l1, l2, l3, l4, l5, l6] (jI y :: jI x :: st) σ Q ↔ mw_WP d 212 41 [l0, l1, l2, l3, l4, l5, l6] (jI (w32 (x + y)) :: st) σ Q := WP_iadd mq212 dd212_40
theorem dd212_41 : decode cX12_passes 41 = .ok (.iaload, 1) := by decide +kernel
theorem ww212_41 {d : Nat} {l0 l1 l2 l3 l4 l5 l6 : Option mw_V} {z : Int} {a : Nat} {st : List mw_V} {σ : mw_S} {Q : Option mw_V → mw_S → Prop} : mw_WP d 212 41 [l0, l1, l2, l3, l4, l5, l6] (jI z :: jR a :: st) σ Q ↔ ((0 ≤ z ∧ z < mw_lenI a) ∧ mw_WP d 212 42 [l0, l1, l2, l3, l4, l5, l6] (jI (mw_rdI σ a z.toNat) :: st) σ Q) := WP_iaload mq212 dd212_41
theorem dd212_42 : decode cX12_passes 42 = .ok (.ifCond .ne 6, 3) := by decide +kernel
theorem ww212_42 {d : Nat} {l0 l1 l2 l3 l4 l5 l6 : Option mw_V} {x : Int} {st : List mw_V} {σ : mw_S} {Q : Option mw_V → mw_S → Prop} : mw_WP d 212 42 [l0, l1, l2, l3, l4, l5, l6] (jI x :: st) σ Q ↔ (if ¬ x = 0 then mw_WP d 212 48 [l0, l1, l2, l3, l4, l5, l6] st σ Q else mw_WP d 212 45 [l0, l1, l2, l3, l4, l5, l6] st σ Q) := WP_if_ne mq212 dd212_42 (by decide)
theorem dd212_45 : decode cX12_passes 45 = .ok (.goto 203, 3) := by decide +kernel
theorem ww212_45 {d : Nat} {l0 l1 l2 l3 l4 l5 l6 : Option mw_V} {st : List mw_V} {σ : mw_S} {Q : Option mw_V → mw_S → Prop} : mw_WP d 212 45 [l0, l1, l2, l3, l4, l5, l6] st σ Q ↔ mw_WP d 212 248 [l0, l1, l2, l3, l4, l5, l6] st σ Q := WP_goto mq212 dd212_45 (by decide)
theorem dd212_48 : decode cX12_passes 48 = .ok (.aload_n 0, 1) := by decide +kernel
theorem ww212_48 {d : Nat} {l1 l2 l3 l4 l5 l6 : Option mw_V} {x : Nat} {st : List mw_V} {σ : mw_S} {Q : Option mw_V → mw_S → Prop} : mw_WP d 212 48 [some (jR x), l1, l2, l3, l4, l5, l6] st σ Q ↔ mw_WP d 212 49 [some (jR x), l1, l2, l3, l4, l5, l6] (jR x :: st) σ Q := WP_aload_n mq212 dd212_48 rfl
theorem dd212_49 : decode cX12_passes 49 = .ok (.getfield 13, 3) := by decide +kernel
theorem ww212_49 {d : Nat} {l0 l1 l2 l3 l4 l5 l6 : Option mw_V} {st : List mw_V} {σ : mw_S} {Q : Option mw_V → mw_S → Prop} : mw_WP d 212 49 [l0, l1, l2, l3, l4, l5, l6] (jR 100 :: st) σ Q ↔ mw_WP d 212 52 [l0, l1, l2, l3, l4, l5, l6] (jR 101 :: st) σ Q := WP_getR (ci := 11) (k := 1) mq212 dd212_49 (by decide) rfl
theorem dd212_52 : decode cX12_passes 52 = .ok (.bipush 76, 2) := by decide +kernel
theorem ww212_52 {d : Nat} {l0 l1 l2 l3 l4 l5 l6 : Option mw_V} {st : List mw_V} {σ : mw_S} {Q : Option mw_V → mw_S → Prop} : mw_WP d 212 52 [l0, l1, l2, l3, l4, l5, l6] st σ Q ↔ mw_WP d 212 54 [l0, l1, l2, l3, l4, l5, l6] (jI (76) :: st) σ Q := WP_bipush mq212 dd212_52 (by decide)
theorem dd212_54 : decode cX12_passes 54 = .ok (.iload_n 2, 1) := by decide +kernel
theorem ww212_54 {d : Nat} {l0 l1 l3 l4 l5 l6 : Option mw_V} {x : Int} {st : List mw_V} {σ : mw_S} {Q : Option mw_V → mw_S → Prop} : mw_WP d 212 54 [l0, l1, some (jI x), l3, l4, l5, l6] st σ Q ↔ mw_WP d 212 55 [l0, l1, some (jI x), l3, l4, l5, l6] (jI x :: st) σ Q := WP_iload_n mq212 dd212_54 rfl
theorem dd212_55 : decode cX12_passes 55 = .ok (.iadd, 1) := by decide +kernel
theorem ww212_55 {d : Nat} {l0 l1 l2 l3 l4 l5 l6 : Option mw_V} {x y : Int} {st : List mw_V} {σ : mw_S} {Q : Option mw_V → mw_S → Prop} : mw_WP d 212 55 [l0, l1, l2, l3, l4, l5, l6] (jI y :: jI x :: st) σ Q ↔ mw_WP d 212 56 [l0, l1, l2, l3, l4, l5, l6] (jI (w32 (x + y)) :: st) σ Q := WP_iadd mq212 dd212_55
theorem dd212_56 : decode cX12_passes 56 = .ok (.iaload, 1) := by decide +kernel
theorem ww212_56 {d : Nat} {l0 l1 l2 l3 l4 l5 l6 : Option mw_V} {z : Int} {a : Nat} {st : List mw_V} {σ : mw_S} {Q : Option mw_V → mw_S → Prop} : mw_WP d 212 56 [l0, l1, l2, l3, l4, l5, l6] (jI z :: jR a :: st) σ Q ↔ ((0 ≤ z ∧ z < mw_lenI a) ∧ mw_WP d 212 57 [l0, l1, l2, l3, l4, l5, l6] (jI (mw_rdI σ a z.toNat) :: st) σ Q) := WP_iaload mq212 dd212_56
theorem dd212_57 : decode cX12_passes 57 = .ok (.bipush 7, 2) := by decide +kernel
theorem ww212_57 {d : Nat} {l0 l1 l2 l3 l4 l5 l6 : Option mw_V} {st : List mw_V} {σ : mw_S} {Q : Option mw_V → mw_S → Prop} : mw_WP d 212 57 [l0, l1, l2, l3, l4, l5, l6] st σ Q ↔ mw_WP d 212 59 [l0, l1, l2, l3, l4, l5, l6] (jI (7) :: st) σ Q := WP_bipush mq212 dd212_57 (by decide)
theorem dd212_59 : decode cX12_passes 59 = .ok (.isub, 1) := by decide +kernel
theorem ww212_59 {d : Nat} {l0 l1 l2 l3 l4 l5 l6 : Option mw_V} {x y : Int} {st : List mw_V} {σ : mw_S} {Q : Option mw_V → mw_S → Prop} : mw_WP d 212 59 [l0, l1, l2, l3, l4, l5, l6] (jI y :: jI x :: st) σ Q ↔ mw_WP d 212 60 [l0, l1, l2, l3, l4, l5, l6] (jI (w32 (x - y)) :: st) σ Q := WP_isub mq212 dd212_59
theorem dd212_60 : decode cX12_passes 60 = .ok (.istore_n 3, 1) := by decide +kernel
theorem ww212_60 {d : Nat} {l0 l1 l2 l3 l4 l5 l6 : Option mw_V} {x : Int} {st : List mw_V} {σ : mw_S} {Q : Option mw_V → mw_S → Prop} (h : mw_nlo l2 = true) : mw_WP d 212 60 [l0, l1, l2, l3, l4, l5, l6] (jI x :: st) σ Q ↔ mw_WP d 212 61 [l0, l1, l2, some (jI x), l4, l5, l6] st σ Q := WP_istore_n mq212 dd212_60 (Nat.le_of_ble_eq_true rfl) (mw_nl_of (i := 2) rfl h) rfl
theorem dd212_61 : decode cX12_passes 61 = .ok (.iconst 0, 1) := by decide +kernel
theorem ww212_61 {d : Nat} {l0 l1 l2 l3 l4 l5 l6 : Option mw_V} {st : List mw_V} {σ : mw_S} {Q : Option mw_V → mw_S → Prop} : mw_WP d 212 61 [l0, l1, l2, l3, l4, l5, l6] st σ Q ↔ mw_WP d 212 62 [l0, l1, l2, l3, l4, l5, l6] (jI (0) :: st) σ Q := WP_iconst mq212 dd212_61 (by decide)
theorem dd212_62 : decode cX12_passes 62 = .ok (.istore 4, 2) := by decide +kernel
theorem ww212_62 {d : Nat} {l0 l1 l2 l3 l4 l5 l6 : Option mw_V} {x : Int} {st : List mw_V} {σ : mw_S} {Q : Option mw_V → mw_S → Prop} (h : mw_nlo l3 = true) : mw_WP d 212 62 [l0, l1, l2, l3, l4, l5, l6] (jI x :: st) σ Q ↔ mw_WP d 212 64 [l0, l1, l2, l3, some (jI x), l5, l6] st σ Q := WP_istore mq212 dd212_62 (Nat.le_of_ble_eq_true rfl) (mw_nl_of (i := 3) rfl h) rfl
theorem dd212_64 : decode cX12_passes 64 = .ok (.iload 4, 2) := by decide +kernel
theorem ww212_64 {d : Nat} {l0 l1 l2 l3 l5 l6 : Option mw_V} {x : Int} {st : List mw_V} {σ : mw_S} {Q : Option mw_V → mw_S → Prop} : mw_WP d 212 64 [l0, l1, l2, l3, some (jI x), l5, l6] st σ Q ↔ mw_WP d 212 66 [l0, l1, l2, l3, some (jI x), l5, l6] (jI x :: st) σ Q := WP_iload mq212 dd212_64 rfl
theorem dd212_66 : decode cX12_passes 66 = .ok (.aload_n 0, 1) := by decide +kernel
theorem ww212_66 {d : Nat} {l1 l2 l3 l4 l5 l6 : Option mw_V} {x : Nat} {st : List mw_V} {σ : mw_S} {Q : Option mw_V → mw_S → Prop} : mw_WP d 212 66 [some (jR x), l1, l2, l3, l4, l5, l6] st σ Q ↔ mw_WP d 212 67 [some (jR x), l1, l2, l3, l4, l5, l6] (jR x :: st) σ Q := WP_aload_n mq212 dd212_66 rfl
theorem dd212_67 : decode cX12_passes 67 = .ok (.getfield 13, 3) := by decide +kernel
theorem ww212_67 {d : Nat} {l0 l1 l2 l3 l4 l5 l6 : Option mw_V} {st : List mw_V} {σ : mw_S} {Q : Option mw_V → mw_S → Prop} : mw_WP d 212 67 [l0, l1, l2, l3, l4, l5, l6] (jR 100 :: st) σ Q ↔ mw_WP d 212 70 [l0, l1, l2, l3, l4, l5, l6] (jR 101 :: st) σ Q := WP_getR (ci := 11) (k := 1) mq212 dd212_67 (by decide) rfl
theorem dd212_70 : decode cX12_passes 70 = .ok (.iconst 2, 1) := by decide +kernel
theorem ww212_70 {d : Nat} {l0 l1 l2 l3 l4 l5 l6 : Option mw_V} {st : List mw_V} {σ : mw_S} {Q : Option mw_V → mw_S → Prop} : mw_WP d 212 70 [l0, l1, l2, l3, l4, l5, l6] st σ Q ↔ mw_WP d 212 71 [l0, l1, l2, l3, l4, l5, l6] (jI (2) :: st) σ Q := WP_iconst mq212 dd212_70 (by decide)
theorem dd212_71 : decode cX12_passes 71 = .ok (.iaload, 1) := by decide +kernel
theorem ww212_71 {d : Nat} {l0 l1 l2 l3 l4 l5 l6 : Option mw_V} {z : Int} {a : Nat} {st : List mw_V} {σ : mw_S} {Q : Option mw_V → mw_S → Prop} : mw_WP d 212 71 [l0, l1, l2, l3, l4, l5, l6] (jI z :: jR a :: st) σ Q ↔ ((0 ≤ z ∧ z < mw_lenI a) ∧ mw_WP d 212 72 [l0, l1, l2, l3, l4, l5, l6] (jI (mw_rdI σ a z.toNat) :: st) σ Q) := WP_iaload mq212 dd212_71
theorem dd212_72 : decode cX12_passes 72 = .ok (.if_icmp .ge 176, 3) := by decide +kernel
theorem ww212_72 {d : Nat} {l0 l1 l2 l3 l4 l5 l6 : Option mw_V} {x y : Int} {st : List mw_V} {σ : mw_S} {Q : Option mw_V → mw_S → Prop} : mw_WP d 212 72 [l0, l1, l2, l3, l4, l5, l6] (jI y :: jI x :: st) σ Q ↔ (if y ≤ x then mw_WP d 212 248 [l0, l1, l2, l3, l4, l5, l6] st σ Q else mw_WP d 212 75 [l0, l1, l2, l3, l4, l5, l6] st σ Q) := WP_icmp_ge mq212 dd212_72 (by decide)
theorem dd212_75 : decode cX12_passes 75 = .ok (.iload_n 1, 1) := by decide +kernel
theorem ww212_75 {d : Nat} {l0 l2 l3 l4 l5 l6 : Option mw_V} {x : Int} {st : List mw_V} {σ : mw_S} {Q : Option mw_V → mw_S → Prop} : mw_WP d 212 75 [l0, some (jI x), l2, l3, l4, l5, l6] st σ Q ↔ mw_WP d 212 76 [l0, some (jI x), l2, l3, l4, l5, l6] (jI x :: st) σ Q := WP_iload_n mq212 dd212_75 rfl
theorem dd212_76 : decode cX12_passes 76 = .ok (.i2l, 1) := by decide +kernel
theorem ww212_76 {d : Nat} {l0 l1 l2 l3 l4 l5 l6 : Option mw_V} {x : Int} {st : List mw_V} {σ : mw_S} {Q : Option mw_V → mw_S → Prop} : mw_WP d 212 76 [l0, l1, l2, l3, l4, l5, l6] (jI x :: st) σ Q ↔ mw_WP d 212 77 [l0, l1, l2, l3, l4, l5, l6] (jL (yL x) :: st) σ Q := WP_i2l mq212 dd212_76
theorem dd212_77 : decode cX12_passes 77 = .ok (.iload 4, 2) := by decide +kernel
theorem ww212_77 {d : Nat} {l0 l1 l2 l3 l5 l6 : Option mw_V} {x : Int} {st : List mw_V} {σ : mw_S} {Q : Option mw_V → mw_S → Prop} : mw_WP d 212 77 [l0, l1, l2, l3, some (jI x), l5, l6] st σ Q ↔ mw_WP d 212 79 [l0, l1, l2, l3, some (jI x), l5, l6] (jI x :: st) σ Q := WP_iload mq212 dd212_77 rfl
theorem dd212_79 : decode cX12_passes 79 = .ok (.invokestatic 253, 3) := by decide +kernel
theorem ww212_79 {d : Nat} {l0 l1 l2 l3 l4 l5 l6 : Option mw_V} {v0 v1 : mw_V} {st : List mw_V} {σ : mw_S} {Q : Option mw_V → mw_S → Prop} (h8 : (st.map mw_cat).sum ≤ 8) : mw_WP d 212 79 [l0, l1, l2, l3, l4, l5, l6] (v1 :: v0 :: st) σ Q ↔ mw_Call d 182 [v0, v1] σ (fun r1 s1 => mw_WP d 212 82 [l0, l1, l2, l3, l4, l5, l6] (r1.toList ++ st) s1 Q) := WP_invs (as := [v1, v0]) mq212 dd212_79 (by decide) mq182 rfl rfl h8
theorem dd212_82 : decode cX12_passes 82 = .ok (.ifCond .ne 160, 3) := by decide +kernel
theorem ww212_82 {d : Nat} {l0 l1 l2 l3 l4 l5 l6 : Option mw_V} {x : Int} {st : List mw_V} {σ : mw_S} {Q : Option mw_V → mw_S → Prop} : mw_WP d 212 82 [l0, l1, l2, l3, l4, l5, l6] (jI x :: st) σ Q ↔ (if ¬ x = 0 then mw_WP d 212 242 [l0, l1, l2, l3, l4, l5, l6] st σ Q else mw_WP d 212 85 [l0, l1, l2, l3, l4, l5, l6] st σ Q) := WP_if_ne mq212 dd212_82 (by decide)
theorem dd212_85 : decode cX12_passes 85 = .ok (.aload_n 0, 1) := by decide +kernel
theorem ww212_85 {d : Nat} {l1 l2 l3 l4 l5 l6 : Option mw_V} {x : Nat} {st : List mw_V} {σ : mw_S} {Q : Option mw_V → mw_S → Prop} : mw_WP d 212 85 [some (jR x), l1, l2, l3, l4, l5, l6] st σ Q ↔ mw_WP d 212 86 [some (jR x), l1, l2, l3, l4, l5, l6] (jR x :: st) σ Q := WP_aload_n mq212 dd212_85 rfl
theorem dd212_86 : decode cX12_passes 86 = .ok (.getfield 13, 3) := by decide +kernel
theorem ww212_86 {d : Nat} {l0 l1 l2 l3 l4 l5 l6 : Option mw_V} {st : List mw_V} {σ : mw_S} {Q : Option mw_V → mw_S → Prop} : mw_WP d 212 86 [l0, l1, l2, l3, l4, l5, l6] (jR 100 :: st) σ Q ↔ mw_WP d 212 89 [l0, l1, l2, l3, l4, l5, l6] (jR 101 :: st) σ Q := WP_getR (ci := 11) (k := 1) mq212 dd212_86 (by decide) rfl
theorem dd212_89 : decode cX12_passes 89 = .ok (.bipush 82, 2) := by decide +kernel
theorem ww212_89 {d : Nat} {l0 l1 l2 l3 l4 l5 l6 : Option mw_V} {st : List mw_V} {σ : mw_S} {Q : Option mw_V → mw_S → Prop} : mw_WP d 212 89 [l0, l1, l2, l3, l4, l5, l6] st σ Q ↔ mw_WP d 212 91 [l0, l1, l2, l3, l4, l5, l6] (jI (82) :: st) σ Q := WP_bipush mq212 dd212_89 (by decide)
theorem dd212_91 : decode cX12_passes 91 = .ok (.iload 4, 2) := by decide +kernel
theorem ww212_91 {d : Nat} {l0 l1 l2 l3 l5 l6 : Option mw_V} {x : Int} {st : List mw_V} {σ : mw_S} {Q : Option mw_V → mw_S → Prop} : mw_WP d 212 91 [l0, l1, l2, l3, some (jI x), l5, l6] st σ Q ↔ mw_WP d 212 93 [l0, l1, l2, l3, some (jI x), l5, l6] (jI x :: st) σ Q := WP_iload mq212 dd212_91 rfl
theorem dd212_93 : decode cX12_passes 93 = .ok (.iadd, 1) := by decide +kernel
theorem ww212_93 {d : Nat} {l0 l1 l2 l3 l4 l5 l6 : Option mw_V} {x y : Int} {st : List mw_V} {σ : mw_S} {Q : Option mw_V → mw_S → Prop} : mw_WP d 212 93 [l0, l1, l2, l3, l4, l5, l6] (jI y :: jI x :: st) σ Q ↔ mw_WP d 212 94 [l0, l1, l2, l3, l4, l5, l6] (jI (w32 (x + y)) :: st) σ Q := WP_iadd mq212 dd212_93
theorem dd212_94 : decode cX12_passes 94 = .ok (.iaload, 1) := by decide +kernel
theorem ww212_94 {d : Nat} {l0 l1 l2 l3 l4 l5 l6 : Option mw_V} {z : Int} {a : Nat} {st : List mw_V} {σ : mw_S} {Q : Option mw_V → mw_S → Prop} : mw_WP d 212 94 [l0, l1, l2, l3, l4, l5, l6] (jI z :: jR a :: st) σ Q ↔ ((0 ≤ z ∧ z < mw_lenI a) ∧ mw_WP d 212 95 [l0, l1, l2, l3, l4, l5, l6] (jI (mw_rdI σ a z.toNat) :: st) σ Q) := WP_iaload mq212 dd212_94
theorem dd212_95 : decode cX12_passes 95 = .ok (.bipush 8, 2) := by decide +kernel
theorem ww212_95 {d : Nat} {l0 l1 l2 l3 l4 l5 l6 : Option mw_V} {st : List mw_V} {σ : mw_S} {Q : Option mw_V → mw_S → Prop} : mw_WP d 212 95 [l0, l1, l2, l3, l4, l5, l6] st σ Q ↔ mw_WP d 212 97 [l0, l1, l2, l3, l4, l5, l6] (jI (8) :: st) σ Q := WP_bipush mq212 dd212_95 (by decide)
theorem dd212_97 : decode cX12_passes 97 = .ok (.iload_n 3, 1) := by decide +kernel
theorem ww212_97 {d : Nat} {l0 l1 l2 l4 l5 l6 : Option mw_V} {x : Int} {st : List mw_V} {σ : mw_S} {Q : Option mw_V → mw_S → Prop} : mw_WP d 212 97 [l0, l1, l2, some (jI x), l4, l5, l6] st σ Q ↔ mw_WP d 212 98 [l0, l1, l2, some (jI x), l4, l5, l6] (jI x :: st) σ Q := WP_iload_n mq212 dd212_97 rfl
theorem dd212_98 : decode cX12_passes 98 = .ok (.isub, 1) := by decide +kernel
theorem ww212_98 {d : Nat} {l0 l1 l2 l3 l4 l5 l6 : Option mw_V} {x y : Int} {st : List mw_V} {σ : mw_S} {Q : Option mw_V → mw_S → Prop} : mw_WP d 212 98 [l0, l1, l2, l3, l4, l5, l6] (jI y :: jI x :: st) σ Q ↔ mw_WP d 212 99 [l0, l1, l2, l3, l4, l5, l6] (jI (w32 (x - y)) :: st) σ Q := WP_isub mq212 dd212_98
theorem dd212_99 : decode cX12_passes 99 = .ok (.if_icmp .ne 143, 3) := by decide +kernel
theorem ww212_99 {d : Nat} {l0 l1 l2 l3 l4 l5 l6 : Option mw_V} {x y : Int} {st : List mw_V} {σ : mw_S} {Q : Option mw_V → mw_S → Prop} : mw_WP d 212 99 [l0, l1, l2, l3, l4, l5, l6] (jI y :: jI x :: st) σ Q ↔ (if ¬ x = y then mw_WP d 212 242 [l0, l1, l2, l3, l4, l5, l6] st σ Q else mw_WP d 212 102 [l0, l1, l2, l3, l4, l5, l6] st σ Q) := WP_icmp_ne mq212 dd212_99 (by decide)
theorem dd212_102 : decode cX12_passes 102 = .ok (.aload_n 0, 1) := by decide +kernel
theorem ww212_102 {d : Nat} {l1 l2 l3 l4 l5 l6 : Option mw_V} {x : Nat} {st : List mw_V} {σ : mw_S} {Q : Option mw_V → mw_S → Prop} : mw_WP d 212 102 [some (jR x), l1, l2, l3, l4, l5, l6] st σ Q ↔ mw_WP d 212 103 [some (jR x), l1, l2, l3, l4, l5, l6] (jR x :: st) σ Q := WP_aload_n mq212 dd212_102 rfl
theorem dd212_103 : decode cX12_passes 103 = .ok (.getfield 13, 3) := by decide +kernel
theorem ww212_103 {d : Nat} {l0 l1 l2 l3 l4 l5 l6 : Option mw_V} {st : List mw_V} {σ : mw_S} {Q : Option mw_V → mw_S → Prop} : mw_WP d 212 103 [l0, l1, l2, l3, l4, l5, l6] (jR 100 :: st) σ Q ↔ mw_WP d 212 106 [l0, l1, l2, l3, l4, l5, l6] (jR 101 :: st) σ Q := WP_getR (ci := 11) (k := 1) mq212 dd212_103 (by decide) rfl
theorem dd212_106 : decode cX12_passes 106 = .ok (.bipush 85, 2) := by decide +kernel
theorem ww212_106 {d : Nat} {l0 l1 l2 l3 l4 l5 l6 : Option mw_V} {st : List mw_V} {σ : mw_S} {Q : Option mw_V → mw_S → Prop} : mw_WP d 212 106 [l0, l1, l2, l3, l4, l5, l6] st σ Q ↔ mw_WP d 212 108 [l0, l1, l2, l3, l4, l5, l6] (jI (85) :: st) σ Q := WP_bipush mq212 dd212_106 (by decide)
theorem dd212_108 : decode cX12_passes 108 = .ok (.iload 4, 2) := by decide +kernel
theorem ww212_108 {d : Nat} {l0 l1 l2 l3 l5 l6 : Option mw_V} {x : Int} {st : List mw_V} {σ : mw_S} {Q : Option mw_V → mw_S → Prop} : mw_WP d 212 108 [l0, l1, l2, l3, some (jI x), l5, l6] st σ Q ↔ mw_WP d 212 110 [l0, l1, l2, l3, some (jI x), l5, l6] (jI x :: st) σ Q := WP_iload mq212 dd212_108 rfl
theorem dd212_110 : decode cX12_passes 110 = .ok (.iadd, 1) := by decide +kernel
theorem ww212_110 {d : Nat} {l0 l1 l2 l3 l4 l5 l6 : Option mw_V} {x y : Int} {st : List mw_V} {σ : mw_S} {Q : Option mw_V → mw_S → Prop} : mw_WP d 212 110 [l0, l1, l2, l3, l4, l5, l6] (jI y :: jI x :: st) σ Q ↔ mw_WP d 212 111 [l0, l1, l2, l3, l4, l5, l6] (jI (w32 (x + y)) :: st) σ Q := WP_iadd mq212 dd212_110
theorem dd212_111 : decode cX12_passes 111 = .ok (.iaload, 1) := by decide +kernel
theorem ww212_111 {d : Nat} {l0 l1 l2 l3 l4 l5 l6 : Option mw_V} {z : Int} {a : Nat} {st : List mw_V} {σ : mw_S} {Q : Option mw_V → mw_S → Prop} : mw_WP d 212 111 [l0, l1, l2, l3, l4, l5, l6] (jI z :: jR a :: st) σ Q ↔ ((0 ≤ z ∧ z < mw_lenI a) ∧ mw_WP d 212 112 [l0, l1, l2, l3, l4, l5, l6] (jI (mw_rdI σ a z.toNat) :: st) σ Q) := WP_iaload mq212 dd212_111
theorem dd212_112 : decode cX12_passes 112 = .ok (.ifCond .ne 6, 3) := by decide +kernel
theorem ww212_112 {d : Nat} {l0 l1 l2 l3 l4 l5 l6 : Option mw_V} {x : Int} {st : List mw_V} {σ : mw_S} {Q : Option mw_V → mw_S → Prop} : mw_WP d 212 112 [l0, l1, l2, l3, l4, l5, l6] (jI x :: st) σ Q ↔ (if ¬ x = 0 then mw_WP d 212 118 [l0, l1, l2, l3, l4, l5, l6] st σ Q else mw_WP d 212 115 [l0, l1, l2, l3, l4, l5, l6] st σ Q) := WP_if_ne mq212 dd212_112 (by decide)
theorem dd212_115 : decode cX12_passes 115 = .ok (.goto 127, 3) := by decide +kernel
theorem ww212_115 {d : Nat} {l0 l1 l2 l3 l4 l5 l6 : Option mw_V} {st : List mw_V} {σ : mw_S} {Q : Option mw_V → mw_S → Prop} : mw_WP d 212 115 [l0, l1, l2, l3, l4, l5, l6] st σ Q ↔ mw_WP d 212 242 [l0, l1, l2, l3, l4, l5, l6] st σ Q := WP_goto mq212 dd212_115 (by decide)
theorem dd212_118 : decode cX12_passes 118 = .ok (.aload_n 0, 1) := by decide +kernel
theorem ww212_118 {d : Nat} {l1 l2 l3 l4 l5 l6 : Option mw_V} {x : Nat} {st : List mw_V} {σ : mw_S} {Q : Option mw_V → mw_S → Prop} : mw_WP d 212 118 [some (jR x), l1, l2, l3, l4, l5, l6] st σ Q ↔ mw_WP d 212 119 [some (jR x), l1, l2, l3, l4, l5, l6] (jR x :: st) σ Q := WP_aload_n mq212 dd212_118 rfl
theorem dd212_119 : decode cX12_passes 119 = .ok (.iload_n 2, 1) := by decide +kernel
theorem ww212_119 {d : Nat} {l0 l1 l3 l4 l5 l6 : Option mw_V} {x : Int} {st : List mw_V} {σ : mw_S} {Q : Option mw_V → mw_S → Prop} : mw_WP d 212 119 [l0, l1, some (jI x), l3, l4, l5, l6] st σ Q ↔ mw_WP d 212 120 [l0, l1, some (jI x), l3, l4, l5, l6] (jI x :: st) σ Q := WP_iload_n mq212 dd212_119 rfl
theorem dd212_120 : decode cX12_passes 120 = .ok (.iload_n 3, 1) := by decide +kernel
theorem ww212_120 {d : Nat} {l0 l1 l2 l4 l5 l6 : Option mw_V} {x : Int} {st : List mw_V} {σ : mw_S} {Q : Option mw_V → mw_S → Prop} : mw_WP d 212 120 [l0, l1, l2, some (jI x), l4, l5, l6] st σ Q ↔ mw_WP d 212 121 [l0, l1, l2, some (jI x), l4, l5, l6] (jI x :: st) σ Q := WP_iload_n mq212 dd212_120 rfl
theorem dd212_121 : decode cX12_passes 121 = .ok (.invokestatic 225, 3) := by decide +kernel
theorem ww212_121 {d : Nat} {l0 l1 l2 l3 l4 l5 l6 : Option mw_V} {v0 v1 : mw_V} {st : List mw_V} {σ : mw_S} {Q : Option mw_V → mw_S → Prop} (h8 : (st.map mw_cat).sum ≤ 8) : mw_WP d 212 121 [l0, l1, l2, l3, l4, l5, l6] (v1 :: v0 :: st) σ Q ↔ mw_Call d 198 [v0, v1] σ (fun r1 s1 => mw_WP d 212 124 [l0, l1, l2, l3, l4, l5, l6] (r1.toList ++ st) s1 Q) := WP_invs (as := [v1, v0]) mq212 dd212_121 (by decide) mq198 rfl rfl h8
theorem dd212_124 : decode cX12_passes 124 = .ok (.invokevirtual 219, 3) := by decide +kernel
theorem ww212_124 {d : Nat} {l0 l1 l2 l3 l4 l5 l6 : Option mw_V} {v0 : mw_V} {a : Nat} {st : List mw_V} {σ : mw_S} {Q : Option mw_V → mw_S → Prop} (hr : mw_rc a = 12) (h8 : (st.map mw_cat).sum ≤ 8) : mw_WP d 212 124 [l0, l1, l2, l3, l4, l5, l6] (v0 :: jR a :: st) σ Q ↔ mw_Call d 199 [jR a, v0] σ (fun r1 s1 => mw_WP d 212 127 [l0, l1, l2, l3, l4, l5, l6] (r1.toList ++ st) s1 Q) := WP_inv (as := [v0]) mq212 dd212_124 (by decide) mq199 rfl hr h8
theorem dd212_127 : decode cX12_passes 127 = .ok (.istore 5, 2) := by decide +kernel
theorem ww212_127 {d : Nat} {l0 l1 l2 l3 l4 l5 l6 : Option mw_V} {x : Int} {st : List mw_V} {σ : mw_S} {Q : Option mw_V → mw_S → Prop} (h : mw_nlo l4 = true) : mw_WP d 212 127 [l0, l1, l2, l3, l4, l5, l6] (jI x :: st) σ Q ↔ mw_WP d 212 129 [l0, l1, l2, l3, l4, some (jI x), l6] st σ Q := WP_istore mq212 dd212_127 (Nat.le_of_ble_eq_true rfl) (mw_nl_of (i := 4) rfl h) rfl
theorem dd212_129 : decode cX12_passes 129 = .ok (.aload_n 0, 1) := by decide +kernel
theorem ww212_129 {d : Nat} {l1 l2 l3 l4 l5 l6 : Option mw_V} {x : Nat} {st : List mw_V} {σ : mw_S} {Q : Option mw_V → mw_S → Prop} : mw_WP d 212 129 [some (jR x), l1, l2, l3, l4, l5, l6] st σ Q ↔ mw_WP d 212 130 [some (jR x), l1, l2, l3, l4, l5, l6] (jR x :: st) σ Q := WP_aload_n mq212 dd212_129 rfl
theorem dd212_130 : decode cX12_passes 130 = .ok (.iload 4, 2) := by decide +kernel
theorem ww212_130 {d : Nat} {l0 l1 l2 l3 l5 l6 : Option mw_V} {x : Int} {st : List mw_V} {σ : mw_S} {Q : Option mw_V → mw_S → Prop} : mw_WP d 212 130 [l0, l1, l2, l3, some (jI x), l5, l6] st σ Q ↔ mw_WP d 212 132 [l0, l1, l2, l3, some (jI x), l5, l6] (jI x :: st) σ Q := WP_iload mq212 dd212_130 rfl
theorem dd212_132 : decode cX12_passes 132 = .ok (.iconst 3, 1) := by decide +kernel
theorem ww212_132 {d : Nat} {l0 l1 l2 l3 l4 l5 l6 : Option mw_V} {st : List mw_V} {σ : mw_S} {Q : Option mw_V → mw_S → Prop} : mw_WP d 212 132 [l0, l1, l2, l3, l4, l5, l6] st σ Q ↔ mw_WP d 212 133 [l0, l1, l2, l3, l4, l5, l6] (jI (3) :: st) σ Q := WP_iconst mq212 dd212_132 (by decide)
theorem dd212_133 : decode cX12_passes 133 = .ok (.iadd, 1) := by decide +kernel
theorem ww212_133 {d : Nat} {l0 l1 l2 l3 l4 l5 l6 : Option mw_V} {x y : Int} {st : List mw_V} {σ : mw_S} {Q : Option mw_V → mw_S → Prop} : mw_WP d 212 133 [l0, l1, l2, l3, l4, l5, l6] (jI y :: jI x :: st) σ Q ↔ mw_WP d 212 134 [l0, l1, l2, l3, l4, l5, l6] (jI (w32 (x + y)) :: st) σ Q := WP_iadd mq212 dd212_133
theorem dd212_134 : decode cX12_passes 134 = .ok (.iconst 1, 1) := by decide +kernel
theorem ww212_134 {d : Nat} {l0 l1 l2 l3 l4 l5 l6 : Option mw_V} {st : List mw_V} {σ : mw_S} {Q : Option mw_V → mw_S → Prop} : mw_WP d 212 134 [l0, l1, l2, l3, l4, l5, l6] st σ Q ↔ mw_WP d 212 135 [l0, l1, l2, l3, l4, l5, l6] (jI (1) :: st) σ Q := WP_iconst mq212 dd212_134 (by decide)
theorem dd212_135 : decode cX12_passes 135 = .ok (.iload_n 3, 1) := by decide +kernel
theorem ww212_135 {d : Nat} {l0 l1 l2 l4 l5 l6 : Option mw_V} {x : Int} {st : List mw_V} {σ : mw_S} {Q : Option mw_V → mw_S → Prop} : mw_WP d 212 135 [l0, l1, l2, some (jI x), l4, l5, l6] st σ Q ↔ mw_WP d 212 136 [l0, l1, l2, some (jI x), l4, l5, l6] (jI x :: st) σ Q := WP_iload_n mq212 dd212_135 rfl
theorem dd212_136 : decode cX12_passes 136 = .ok (.isub, 1) := by decide +kernel
theorem ww212_136 {d : Nat} {l0 l1 l2 l3 l4 l5 l6 : Option mw_V} {x y : Int} {st : List mw_V} {σ : mw_S} {Q : Option mw_V → mw_S → Prop} : mw_WP d 212 136 [l0, l1, l2, l3, l4, l5, l6] (jI y :: jI x :: st) σ Q ↔ mw_WP d 212 137 [l0, l1, l2, l3, l4, l5, l6] (jI (w32 (x - y)) :: st) σ Q := WP_isub mq212 dd212_136
theorem dd212_137 : decode cX12_passes 137 = .ok (.invokestatic 225, 3) := by decide +kernel
theorem ww212_137 {d : Nat} {l0 l1 l2 l3 l4 l5 l6 : Option mw_V} {v0 v1 : mw_V} {st : List mw_V} {σ : mw_S} {Q : Option mw_V → mw_S → Prop} (h8 : (st.map mw_cat).sum ≤ 8) : mw_WP d 212 137 [l0, l1, l2, l3, l4, l5, l6] (v1 :: v0 :: st) σ Q ↔ mw_Call d 198 [v0, v1] σ (fun r1 s1 => mw_WP d 212 140 [l0, l1, l2, l3, l4, l5, l6] (r1.toList ++ st) s1 Q) := WP_invs (as := [v1, v0]) mq212 dd212_137 (by decide) mq198 rfl rfl h8
theorem dd212_140 : decode cX12_passes 140 = .ok (.invokevirtual 219, 3) := by decide +kernel
theorem ww212_140 {d : Nat} {l0 l1 l2 l3 l4 l5 l6 : Option mw_V} {v0 : mw_V} {a : Nat} {st : List mw_V} {σ : mw_S} {Q : Option mw_V → mw_S → Prop} (hr : mw_rc a = 12) (h8 : (st.map mw_cat).sum ≤ 8) : mw_WP d 212 140 [l0, l1, l2, l3, l4, l5, l6] (v0 :: jR a :: st) σ Q ↔ mw_Call d 199 [jR a, v0] σ (fun r1 s1 => mw_WP d 212 143 [l0, l1, l2, l3, l4, l5, l6] (r1.toList ++ st) s1 Q) := WP_inv (as := [v0]) mq212 dd212_140 (by decide) mq199 rfl hr h8
theorem dd212_143 : decode cX12_passes 143 = .ok (.istore 6, 2) := by decide +kernel
theorem ww212_143 {d : Nat} {l0 l1 l2 l3 l4 l5 l6 : Option mw_V} {x : Int} {st : List mw_V} {σ : mw_S} {Q : Option mw_V → mw_S → Prop} (h : mw_nlo l5 = true) : mw_WP d 212 143 [l0, l1, l2, l3, l4, l5, l6] (jI x :: st) σ Q ↔ mw_WP d 212 145 [l0, l1, l2, l3, l4, l5, some (jI x)] st σ Q := WP_istore mq212 dd212_143 (Nat.le_of_ble_eq_true rfl) (mw_nl_of (i := 5) rfl h) rfl
theorem dd212_145 : decode cX12_passes 145 = .ok (.iload 5, 2) := by decide +kernel
theorem ww212_145 {d : Nat} {l0 l1 l2 l3 l4 l6 : Option mw_V} {x : Int} {st : List mw_V} {σ : mw_S} {Q : Option mw_V → mw_S → Prop} : mw_WP d 212 145 [l0, l1, l2, l3, l4, some (jI x), l6] st σ Q ↔ mw_WP d 212 147 [l0, l1, l2, l3, l4, some (jI x), l6] (jI x :: st) σ Q := WP_iload mq212 dd212_145 rfl
theorem dd212_147 : decode cX12_passes 147 = .ok (.iconst (-1), 1) := by decide +kernel
theorem ww212_147 {d : Nat} {l0 l1 l2 l3 l4 l5 l6 : Option mw_V} {st : List mw_V} {σ : mw_S} {Q : Option mw_V → mw_S → Prop} : mw_WP d 212 147 [l0, l1, l2, l3, l4, l5, l6] st σ Q ↔ mw_WP d 212 148 [l0, l1, l2, l3, l4, l5, l6] (jI (-1) :: st) σ Q := WP_iconst mq212 dd212_147 (by decide)
theorem dd212_148 : decode cX12_passes 148 = .ok (.if_icmp .ne 7, 3) := by decide +kernel
theorem ww212_148 {d : Nat} {l0 l1 l2 l3 l4 l5 l6 : Option mw_V} {x y : Int} {st : List mw_V} {σ : mw_S} {Q : Option mw_V → mw_S → Prop} : mw_WP d 212 148 [l0, l1, l2, l3, l4, l5, l6] (jI y :: jI x :: st) σ Q ↔ (if ¬ x = y then mw_WP d 212 155 [l0, l1, l2, l3, l4, l5, l6] st σ Q else mw_WP d 212 151 [l0, l1, l2, l3, l4, l5, l6] st σ Q) := WP_icmp_ne mq212 dd212_148 (by decide)
theorem dd212_151 : decode cX12_passes 151 = .ok (.iconst 1, 1) := by decide +kernel
theorem ww212_151 {d : Nat} {l0 l1 l2 l3 l4 l5 l6 : Option mw_V} {st : List mw_V} {σ : mw_S} {Q : Option mw_V → mw_S → Prop} : mw_WP d 212 151 [l0, l1, l2, l3, l4, l5, l6] st σ Q ↔ mw_WP d 212 152 [l0, l1, l2, l3, l4, l5, l6] (jI (1) :: st) σ Q := WP_iconst mq212 dd212_151 (by decide)
theorem dd212_152 : decode cX12_passes 152 = .ok (.goto 4, 3) := by decide +kernel
theorem ww212_152 {d : Nat} {l0 l1 l2 l3 l4 l5 l6 : Option mw_V} {st : List mw_V} {σ : mw_S} {Q : Option mw_V → mw_S → Prop} : mw_WP d 212 152 [l0, l1, l2, l3, l4, l5, l6] st σ Q ↔ mw_WP d 212 156 [l0, l1, l2, l3, l4, l5, l6] st σ Q := WP_goto mq212 dd212_152 (by decide)
theorem dd212_155 : decode cX12_passes 155 = .ok (.iconst 0, 1) := by decide +kernel
theorem ww212_155 {d : Nat} {l0 l1 l2 l3 l4 l5 l6 : Option mw_V} {st : List mw_V} {σ : mw_S} {Q : Option mw_V → mw_S → Prop} : mw_WP d 212 155 [l0, l1, l2, l3, l4, l5, l6] st σ Q ↔ mw_WP d 212 156 [l0, l1, l2, l3, l4, l5, l6] (jI (0) :: st) σ Q := WP_iconst mq212 dd212_155 (by decide)
theorem dd212_156 : decode cX12_passes 156 = .ok (.iload 6, 2) := by decide +kernel
theorem ww212_156 {d : Nat} {l0 l1 l2 l3 l4 l5 : Option mw_V} {x : Int} {st : List mw_V} {σ : mw_S} {Q : Option mw_V → mw_S → Prop} : mw_WP d 212 156 [l0, l1, l2, l3, l4, l5, some (jI x)] st σ Q ↔ mw_WP d 212 158 [l0, l1, l2, l3, l4, l5, some (jI x)] (jI x :: st) σ Q := WP_iload mq212 dd212_156 rfl
theorem dd212_158 : decode cX12_passes 158 = .ok (.iconst (-1), 1) := by decide +kernel
theorem ww212_158 {d : Nat} {l0 l1 l2 l3 l4 l5 l6 : Option mw_V} {st : List mw_V} {σ : mw_S} {Q : Option mw_V → mw_S → Prop} : mw_WP d 212 158 [l0, l1, l2, l3, l4, l5, l6] st σ Q ↔ mw_WP d 212 159 [l0, l1, l2, l3, l4, l5, l6] (jI (-1) :: st) σ Q := WP_iconst mq212 dd212_158 (by decide)
theorem dd212_159 : decode cX12_passes 159 = .ok (.if_icmp .ne 7, 3) := by decide +kernel
theorem ww212_159 {d : Nat} {l0 l1 l2 l3 l4 l5 l6 : Option mw_V} {x y : Int} {st : List mw_V} {σ : mw_S} {Q : Option mw_V → mw_S → Prop} : mw_WP d 212 159 [l0, l1, l2, l3, l4, l5, l6] (jI y :: jI x :: st) σ Q ↔ (if ¬ x = y then mw_WP d 212 166 [l0, l1, l2, l3, l4, l5, l6] st σ Q else mw_WP d 212 162 [l0, l1, l2, l3, l4, l5, l6] st σ Q) := WP_icmp_ne mq212 dd212_159 (by decide)
theorem dd212_162 : decode cX12_passes 162 = .ok (.iconst 1, 1) := by decide +kernel
theorem ww212_162 {d : Nat} {l0 l1 l2 l3 l4 l5 l6 : Option mw_V} {st : List mw_V} {σ : mw_S} {Q : Option mw_V → mw_S → Prop} : mw_WP d 212 162 [l0, l1, l2, l3, l4, l5, l6] st σ Q ↔ mw_WP d 212 163 [l0, l1, l2, l3, l4, l5, l6] (jI (1) :: st) σ Q := WP_iconst mq212 dd212_162 (by decide)
theorem dd212_163 : decode cX12_passes 163 = .ok (.goto 4, 3) := by decide +kernel
theorem ww212_163 {d : Nat} {l0 l1 l2 l3 l4 l5 l6 : Option mw_V} {st : List mw_V} {σ : mw_S} {Q : Option mw_V → mw_S → Prop} : mw_WP d 212 163 [l0, l1, l2, l3, l4, l5, l6] st σ Q ↔ mw_WP d 212 167 [l0, l1, l2, l3, l4, l5, l6] st σ Q := WP_goto mq212 dd212_163 (by decide)
theorem dd212_166 : decode cX12_passes 166 = .ok (.iconst 0, 1) := by decide +kernel
theorem ww212_166 {d : Nat} {l0 l1 l2 l3 l4 l5 l6 : Option mw_V} {st : List mw_V} {σ : mw_S} {Q : Option mw_V → mw_S → Prop} : mw_WP d 212 166 [l0, l1, l2, l3, l4, l5, l6] st σ Q ↔ mw_WP d 212 167 [l0, l1, l2, l3, l4, l5, l6] (jI (0) :: st) σ Q := WP_iconst mq212 dd212_166 (by decide)
theorem dd212_167 : decode cX12_passes 167 = .ok (.if_icmp .ne 6, 3) := by decide +kernel
theorem ww212_167 {d : Nat} {l0 l1 l2 l3 l4 l5 l6 : Option mw_V} {x y : Int} {st : List mw_V} {σ : mw_S} {Q : Option mw_V → mw_S → Prop} : mw_WP d 212 167 [l0, l1, l2, l3, l4, l5, l6] (jI y :: jI x :: st) σ Q ↔ (if ¬ x = y then mw_WP d 212 173 [l0, l1, l2, l3, l4, l5, l6] st σ Q else mw_WP d 212 170 [l0, l1, l2, l3, l4, l5, l6] st σ Q) := WP_icmp_ne mq212 dd212_167 (by decide)
theorem dd212_170 : decode cX12_passes 170 = .ok (.goto 72, 3) := by decide +kernel
theorem ww212_170 {d : Nat} {l0 l1 l2 l3 l4 l5 l6 : Option mw_V} {st : List mw_V} {σ : mw_S} {Q : Option mw_V → mw_S → Prop} : mw_WP d 212 170 [l0, l1, l2, l3, l4, l5, l6] st σ Q ↔ mw_WP d 212 242 [l0, l1, l2, l3, l4, l5, l6] st σ Q := WP_goto mq212 dd212_170 (by decide)
theorem dd212_173 : decode cX12_passes 173 = .ok (.iload 5, 2) := by decide +kernel
theorem ww212_173 {d : Nat} {l0 l1 l2 l3 l4 l6 : Option mw_V} {x : Int} {st : List mw_V} {σ : mw_S} {Q : Option mw_V → mw_S → Prop} : mw_WP d 212 173 [l0, l1, l2, l3, l4, some (jI x), l6] st σ Q ↔ mw_WP d 212 175 [l0, l1, l2, l3, l4, some (jI x), l6] (jI x :: st) σ Q := WP_iload mq212 dd212_173 rfl
theorem dd212_175 : decode cX12_passes 175 = .ok (.iconst (-1), 1) := by decide +kernel
theorem ww212_175 {d : Nat} {l0 l1 l2 l3 l4 l5 l6 : Option mw_V} {st : List mw_V} {σ : mw_S} {Q : Option mw_V → mw_S → Prop} : mw_WP d 212 175 [l0, l1, l2, l3, l4, l5, l6] st σ Q ↔ mw_WP d 212 176 [l0, l1, l2, l3, l4, l5, l6] (jI (-1) :: st) σ Q := WP_iconst mq212 dd212_175 (by decide)
theorem dd212_176 : decode cX12_passes 176 = .ok (.if_icmp .eq 26, 3) := by decide +kernel
theorem ww212_176 {d : Nat} {l0 l1 l2 l3 l4 l5 l6 : Option mw_V} {x y : Int} {st : List mw_V} {σ : mw_S} {Q : Option mw_V → mw_S → Prop} : mw_WP d 212 176 [l0, l1, l2, l3, l4, l5, l6] (jI y :: jI x :: st) σ Q ↔ (if x = y then mw_WP d 212 202 [l0, l1, l2, l3, l4, l5, l6] st σ Q else mw_WP d 212 179 [l0, l1, l2, l3, l4, l5, l6] st σ Q) := WP_icmp_eq mq212 dd212_176 (by decide)
theorem dd212_179 : decode cX12_passes 179 = .ok (.aload_n 0, 1) := by decide +kernel
theorem ww212_179 {d : Nat} {l1 l2 l3 l4 l5 l6 : Option mw_V} {x : Nat} {st : List mw_V} {σ : mw_S} {Q : Option mw_V → mw_S → Prop} : mw_WP d 212 179 [some (jR x), l1, l2, l3, l4, l5, l6] st σ Q ↔ mw_WP d 212 180 [some (jR x), l1, l2, l3, l4, l5, l6] (jR x :: st) σ Q := WP_aload_n mq212 dd212_179 rfl
theorem dd212_180 : decode cX12_passes 180 = .ok (.getfield 13, 3) := by decide +kernel
theorem ww212_180 {d : Nat} {l0 l1 l2 l3 l4 l5 l6 : Option mw_V} {st : List mw_V} {σ : mw_S} {Q : Option mw_V → mw_S → Prop} : mw_WP d 212 180 [l0, l1, l2, l3, l4, l5, l6] (jR 100 :: st) σ Q ↔ mw_WP d 212 183 [l0, l1, l2, l3, l4, l5, l6] (jR 101 :: st) σ Q := WP_getR (ci := 11) (k := 1) mq212 dd212_180 (by decide) rfl
theorem dd212_183 : decode cX12_passes 183 = .ok (.bipush 50, 2) := by decide +kernel
theorem ww212_183 {d : Nat} {l0 l1 l2 l3 l4 l5 l6 : Option mw_V} {st : List mw_V} {σ : mw_S} {Q : Option mw_V → mw_S → Prop} : mw_WP d 212 183 [l0, l1, l2, l3, l4, l5, l6] st σ Q ↔ mw_WP d 212 185 [l0, l1, l2, l3, l4, l5, l6] (jI (50) :: st) σ Q := WP_bipush mq212 dd212_183 (by decide)
theorem dd212_185 : decode cX12_passes 185 = .ok (.iload 5, 2) := by decide +kernel
theorem ww212_185 {d : Nat} {l0 l1 l2 l3 l4 l6 : Option mw_V} {x : Int} {st : List mw_V} {σ : mw_S} {Q : Option mw_V → mw_S → Prop} : mw_WP d 212 185 [l0, l1, l2, l3, l4, some (jI x), l6] st σ Q ↔ mw_WP d 212 187 [l0, l1, l2, l3, l4, some (jI x), l6] (jI x :: st) σ Q := WP_iload mq212 dd212_185 rfl
theorem dd212_187 : decode cX12_passes 187 = .ok (.iadd, 1) := by decide +kernel
theorem ww212_187 {d : Nat} {l0 l1 l2 l3 l4 l5 l6 : Option mw_V} {x y : Int} {st : List mw_V} {σ : mw_S} {Q : Option mw_V → mw_S → Prop} : mw_WP d 212 187 [l0, l1, l2, l3, l4, l5, l6] (jI y :: jI x :: st) σ Q ↔ mw_WP d 212 188 [l0, l1, l2, l3, l4, l5, l6] (jI (w32 (x + y)) :: st) σ Q := WP_iadd mq212 dd212_187
theorem dd212_188 : decode cX12_passes 188 = .ok (.iload 4, 2) := by decide +kernel
theorem ww212_188 {d : Nat} {l0 l1 l2 l3 l5 l6 : Option mw_V} {x : Int} {st : List mw_V} {σ : mw_S} {Q : Option mw_V → mw_S → Prop} : mw_WP d 212 188 [l0, l1, l2, l3, some (jI x), l5, l6] st σ Q ↔ mw_WP d 212 190 [l0, l1, l2, l3, some (jI x), l5, l6] (jI x :: st) σ Q := WP_iload mq212 dd212_188 rfl
theorem dd212_190 : decode cX12_passes 190 = .ok (.iconst 3, 1) := by decide +kernel
theorem ww212_190 {d : Nat} {l0 l1 l2 l3 l4 l5 l6 : Option mw_V} {st : List mw_V} {σ : mw_S} {Q : Option mw_V → mw_S → Prop} : mw_WP d 212 190 [l0, l1, l2, l3, l4, l5, l6] st σ Q ↔ mw_WP d 212 191 [l0, l1, l2, l3, l4, l5, l6] (jI (3) :: st) σ Q := WP_iconst mq212 dd212_190 (by decide)
theorem dd212_191 : decode cX12_passes 191 = .ok (.iadd, 1) := by decide +kernel
theorem ww212_191 {d : Nat} {l0 l1 l2 l3 l4 l5 l6 : Option mw_V} {x y : Int} {st : List mw_V} {σ : mw_S} {Q : Option mw_V → mw_S → Prop} : mw_WP d 212 191 [l0, l1, l2, l3, l4, l5, l6] (jI y :: jI x :: st) σ Q ↔ mw_WP d 212 192 [l0, l1, l2, l3, l4, l5, l6] (jI (w32 (x + y)) :: st) σ Q := WP_iadd mq212 dd212_191
theorem dd212_192 : decode cX12_passes 192 = .ok (.iconst 1, 1) := by decide +kernel
theorem ww212_192 {d : Nat} {l0 l1 l2 l3 l4 l5 l6 : Option mw_V} {st : List mw_V} {σ : mw_S} {Q : Option mw_V → mw_S → Prop} : mw_WP d 212 192 [l0, l1, l2, l3, l4, l5, l6] st σ Q ↔ mw_WP d 212 193 [l0, l1, l2, l3, l4, l5, l6] (jI (1) :: st) σ Q := WP_iconst mq212 dd212_192 (by decide)
theorem dd212_193 : decode cX12_passes 193 = .ok (.iload_n 3, 1) := by decide +kernel
theorem ww212_193 {d : Nat} {l0 l1 l2 l4 l5 l6 : Option mw_V} {x : Int} {st : List mw_V} {σ : mw_S} {Q : Option mw_V → mw_S → Prop} : mw_WP d 212 193 [l0, l1, l2, some (jI x), l4, l5, l6] st σ Q ↔ mw_WP d 212 194 [l0, l1, l2, some (jI x), l4, l5, l6] (jI x :: st) σ Q := WP_iload_n mq212 dd212_193 rfl
theorem dd212_194 : decode cX12_passes 194 = .ok (.isub, 1) := by decide +kernel
theorem ww212_194 {d : Nat} {l0 l1 l2 l3 l4 l5 l6 : Option mw_V} {x y : Int} {st : List mw_V} {σ : mw_S} {Q : Option mw_V → mw_S → Prop} : mw_WP d 212 194 [l0, l1, l2, l3, l4, l5, l6] (jI y :: jI x :: st) σ Q ↔ mw_WP d 212 195 [l0, l1, l2, l3, l4, l5, l6] (jI (w32 (x - y)) :: st) σ Q := WP_isub mq212 dd212_194
theorem dd212_195 : decode cX12_passes 195 = .ok (.invokestatic 225, 3) := by decide +kernel
theorem ww212_195 {d : Nat} {l0 l1 l2 l3 l4 l5 l6 : Option mw_V} {v0 v1 : mw_V} {st : List mw_V} {σ : mw_S} {Q : Option mw_V → mw_S → Prop} (h8 : (st.map mw_cat).sum ≤ 8) : mw_WP d 212 195 [l0, l1, l2, l3, l4, l5, l6] (v1 :: v0 :: st) σ Q ↔ mw_Call d 198 [v0, v1] σ (fun r1 s1 => mw_WP d 212 198 [l0, l1, l2, l3, l4, l5, l6] (r1.toList ++ st) s1 Q) := WP_invs (as := [v1, v0]) mq212 dd212_195 (by decide) mq198 rfl rfl h8
theorem dd212_198 : decode cX12_passes 198 = .ok (.iastore, 1) := by decide +kernel
theorem ww212_198 {d : Nat} {l0 l1 l2 l3 l4 l5 l6 : Option mw_V} {x z : Int} {a : Nat} {st : List mw_V} {σ : mw_S} {Q : Option mw_V → mw_S → Prop} : mw_WP d 212 198 [l0, l1, l2, l3, l4, l5, l6] (jI x :: jI z :: jR a :: st) σ Q ↔ ((0 ≤ z ∧ z < mw_lenW 0 a) ∧ mw_WP d 212 199 [l0, l1, l2, l3, l4, l5, l6] st (upS σ a z.toNat x) Q) := WP_iastore mq212 dd212_198
theorem dd212_199 : decode cX12_passes 199 = .ok (.goto 18, 3) := by decide +kernel
theorem ww212_199 {d : Nat} {l0 l1 l2 l3 l4 l5 l6 : Option mw_V} {st : List mw_V} {σ : mw_S} {Q : Option mw_V → mw_S → Prop} : mw_WP d 212 199 [l0, l1, l2, l3, l4, l5, l6] st σ Q ↔ mw_WP d 212 217 [l0, l1, l2, l3, l4, l5, l6] st σ Q := WP_goto mq212 dd212_199 (by decide)
theorem dd212_202 : decode cX12_passes 202 = .ok (.aload_n 0, 1) := by decide +kernel
theorem ww212_202 {d : Nat} {l1 l2 l3 l4 l5 l6 : Option mw_V} {x : Nat} {st : List mw_V} {σ : mw_S} {Q : Option mw_V → mw_S → Prop} : mw_WP d 212 202 [some (jR x), l1, l2, l3, l4, l5, l6] st σ Q ↔ mw_WP d 212 203 [some (jR x), l1, l2, l3, l4, l5, l6] (jR x :: st) σ Q := WP_aload_n mq212 dd212_202 rfl
theorem dd212_203 : decode cX12_passes 203 = .ok (.getfield 13, 3) := by decide +kernel
theorem ww212_203 {d : Nat} {l0 l1 l2 l3 l4 l5 l6 : Option mw_V} {st : List mw_V} {σ : mw_S} {Q : Option mw_V → mw_S → Prop} : mw_WP d 212 203 [l0, l1, l2, l3, l4, l5, l6] (jR 100 :: st) σ Q ↔ mw_WP d 212 206 [l0, l1, l2, l3, l4, l5, l6] (jR 101 :: st) σ Q := WP_getR (ci := 11) (k := 1) mq212 dd212_203 (by decide) rfl
theorem dd212_206 : decode cX12_passes 206 = .ok (.bipush 50, 2) := by decide +kernel
theorem ww212_206 {d : Nat} {l0 l1 l2 l3 l4 l5 l6 : Option mw_V} {st : List mw_V} {σ : mw_S} {Q : Option mw_V → mw_S → Prop} : mw_WP d 212 206 [l0, l1, l2, l3, l4, l5, l6] st σ Q ↔ mw_WP d 212 208 [l0, l1, l2, l3, l4, l5, l6] (jI (50) :: st) σ Q := WP_bipush mq212 dd212_206 (by decide)
theorem dd212_208 : decode cX12_passes 208 = .ok (.iload 6, 2) := by decide +kernel
theorem ww212_208 {d : Nat} {l0 l1 l2 l3 l4 l5 : Option mw_V} {x : Int} {st : List mw_V} {σ : mw_S} {Q : Option mw_V → mw_S → Prop} : mw_WP d 212 208 [l0, l1, l2, l3, l4, l5, some (jI x)] st σ Q ↔ mw_WP d 212 210 [l0, l1, l2, l3, l4, l5, some (jI x)] (jI x :: st) σ Q := WP_iload mq212 dd212_208 rfl
theorem dd212_210 : decode cX12_passes 210 = .ok (.iadd, 1) := by decide +kernel
theorem ww212_210 {d : Nat} {l0 l1 l2 l3 l4 l5 l6 : Option mw_V} {x y : Int} {st : List mw_V} {σ : mw_S} {Q : Option mw_V → mw_S → Prop} : mw_WP d 212 210 [l0, l1, l2, l3, l4, l5, l6] (jI y :: jI x :: st) σ Q ↔ mw_WP d 212 211 [l0, l1, l2, l3, l4, l5, l6] (jI (w32 (x + y)) :: st) σ Q := WP_iadd mq212 dd212_210
theorem dd212_211 : decode cX12_passes 211 = .ok (.iload_n 2, 1) := by decide +kernel
theorem ww212_211 {d : Nat} {l0 l1 l3 l4 l5 l6 : Option mw_V} {x : Int} {st : List mw_V} {σ : mw_S} {Q : Option mw_V → mw_S → Prop} : mw_WP d 212 211 [l0, l1, some (jI x), l3, l4, l5, l6] st σ Q ↔ mw_WP d 212 212 [l0, l1, some (jI x), l3, l4, l5, l6] (jI x :: st) σ Q := WP_iload_n mq212 dd212_211 rfl
theorem dd212_212 : decode cX12_passes 212 = .ok (.iload_n 3, 1) := by decide +kernel
theorem ww212_212 {d : Nat} {l0 l1 l2 l4 l5 l6 : Option mw_V} {x : Int} {st : List mw_V} {σ : mw_S} {Q : Option mw_V → mw_S → Prop} : mw_WP d 212 212 [l0, l1, l2, some (jI x), l4, l5, l6] st σ Q ↔ mw_WP d 212 213 [l0, l1, l2, some (jI x), l4, l5, l6] (jI x :: st) σ Q := WP_iload_n mq212 dd212_212 rfl
theorem dd212_213 : decode cX12_passes 213 = .ok (.invokestatic 225, 3) := by decide +kernel
theorem ww212_213 {d : Nat} {l0 l1 l2 l3 l4 l5 l6 : Option mw_V} {v0 v1 : mw_V} {st : List mw_V} {σ : mw_S} {Q : Option mw_V → mw_S → Prop} (h8 : (st.map mw_cat).sum ≤ 8) : mw_WP d 212 213 [l0, l1, l2, l3, l4, l5, l6] (v1 :: v0 :: st) σ Q ↔ mw_Call d 198 [v0, v1] σ (fun r1 s1 => mw_WP d 212 216 [l0, l1, l2, l3, l4, l5, l6] (r1.toList ++ st) s1 Q) := WP_invs (as := [v1, v0]) mq212 dd212_213 (by decide) mq198 rfl rfl h8
theorem dd212_216 : decode cX12_passes 216 = .ok (.iastore, 1) := by decide +kernel
theorem ww212_216 {d : Nat} {l0 l1 l2 l3 l4 l5 l6 : Option mw_V} {x z : Int} {a : Nat} {st : List mw_V} {σ : mw_S} {Q : Option mw_V → mw_S → Prop} : mw_WP d 212 216 [l0, l1, l2, l3, l4, l5, l6] (jI x :: jI z :: jR a :: st) σ Q ↔ ((0 ≤ z ∧ z < mw_lenW 0 a) ∧ mw_WP d 212 217 [l0, l1, l2, l3, l4, l5, l6] st (upS σ a z.toNat x) Q) := WP_iastore mq212 dd212_216
theorem dd212_217 : decode cX12_passes 217 = .ok (.iload_n 1, 1) := by decide +kernel
theorem ww212_217 {d : Nat} {l0 l2 l3 l4 l5 l6 : Option mw_V} {x : Int} {st : List mw_V} {σ : mw_S} {Q : Option mw_V → mw_S → Prop} : mw_WP d 212 217 [l0, some (jI x), l2, l3, l4, l5, l6] st σ Q ↔ mw_WP d 212 218 [l0, some (jI x), l2, l3, l4, l5, l6] (jI x :: st) σ Q := WP_iload_n mq212 dd212_217 rfl
theorem dd212_218 : decode cX12_passes 218 = .ok (.iconst 1, 1) := by decide +kernel
theorem ww212_218 {d : Nat} {l0 l1 l2 l3 l4 l5 l6 : Option mw_V} {st : List mw_V} {σ : mw_S} {Q : Option mw_V → mw_S → Prop} : mw_WP d 212 218 [l0, l1, l2, l3, l4, l5, l6] st σ Q ↔ mw_WP d 212 219 [l0, l1, l2, l3, l4, l5, l6] (jI (1) :: st) σ Q := WP_iconst mq212 dd212_218 (by decide)
theorem dd212_219 : decode cX12_passes 219 = .ok (.iload 4, 2) := by decide +kernel
theorem ww212_219 {d : Nat} {l0 l1 l2 l3 l5 l6 : Option mw_V} {x : Int} {st : List mw_V} {σ : mw_S} {Q : Option mw_V → mw_S → Prop} : mw_WP d 212 219 [l0, l1, l2, l3, some (jI x), l5, l6] st σ Q ↔ mw_WP d 212 221 [l0, l1, l2, l3, some (jI x), l5, l6] (jI x :: st) σ Q := WP_iload mq212 dd212_219 rfl
theorem dd212_221 : decode cX12_passes 221 = .ok (.ishl, 1) := by decide +kernel
theorem ww212_221 {d : Nat} {l0 l1 l2 l3 l4 l5 l6 : Option mw_V} {x y : Int} {st : List mw_V} {σ : mw_S} {Q : Option mw_V → mw_S → Prop} : mw_WP d 212 221 [l0, l1, l2, l3, l4, l5, l6] (jI y :: jI x :: st) σ Q ↔ mw_WP d 212 222 [l0, l1, l2, l3, l4, l5, l6] (jI (zShl x y) :: st) σ Q := WP_ishl mq212 dd212_221
theorem dd212_222 : decode cX12_passes 222 = .ok (.ior, 1) := by decide +kernel
theorem ww212_222 {d : Nat} {l0 l1 l2 l3 l4 l5 l6 : Option mw_V} {x y : Int} {st : List mw_V} {σ : mw_S} {Q : Option mw_V → mw_S → Prop} : mw_WP d 212 222 [l0, l1, l2, l3, l4, l5, l6] (jI y :: jI x :: st) σ Q ↔ mw_WP d 212 223 [l0, l1, l2, l3, l4, l5, l6] (jI (zOr x y) :: st) σ Q := WP_ior mq212 dd212_222
theorem dd212_223 : decode cX12_passes 223 = .ok (.istore_n 1, 1) := by decide +kernel
theorem ww212_223 {d : Nat} {l0 l1 l2 l3 l4 l5 l6 : Option mw_V} {x : Int} {st : List mw_V} {σ : mw_S} {Q : Option mw_V → mw_S → Prop} (h : mw_nlo l0 = true) : mw_WP d 212 223 [l0, l1, l2, l3, l4, l5, l6] (jI x :: st) σ Q ↔ mw_WP d 212 224 [l0, some (jI x), l2, l3, l4, l5, l6] st σ Q := WP_istore_n mq212 dd212_223 (Nat.le_of_ble_eq_true rfl) (mw_nl_of (i := 0) rfl h) rfl
theorem dd212_224 : decode cX12_passes 224 = .ok (.aload_n 0, 1) := by decide +kernel
theorem ww212_224 {d : Nat} {l1 l2 l3 l4 l5 l6 : Option mw_V} {x : Nat} {st : List mw_V} {σ : mw_S} {Q : Option mw_V → mw_S → Prop} : mw_WP d 212 224 [some (jR x), l1, l2, l3, l4, l5, l6] st σ Q ↔ mw_WP d 212 225 [some (jR x), l1, l2, l3, l4, l5, l6] (jR x :: st) σ Q := WP_aload_n mq212 dd212_224 rfl
theorem dd212_225 : decode cX12_passes 225 = .ok (.dup, 1) := by decide +kernel
theorem ww212_225 {d : Nat} {l0 l1 l2 l3 l4 l5 l6 : Option mw_V} {v : mw_V} {st : List mw_V} {σ : mw_S} {Q : Option mw_V → mw_S → Prop} (h : mw_cat v = 1) : mw_WP d 212 225 [l0, l1, l2, l3, l4, l5, l6] (v :: st) σ Q ↔ mw_WP d 212 226 [l0, l1, l2, l3, l4, l5, l6] (v :: v :: st) σ Q := WP_dup mq212 dd212_225 h
theorem dd212_226 : decode cX12_passes 226 = .ok (.getfield 250, 3) := by decide +kernel
theorem ww212_226 {d : Nat} {l0 l1 l2 l3 l4 l5 l6 : Option mw_V} {st : List mw_V} {σ : mw_S} {Q : Option mw_V → mw_S → Prop} : mw_WP d 212 226 [l0, l1, l2, l3, l4, l5, l6] (jR 100 :: st) σ Q ↔ mw_WP d 212 229 [l0, l1, l2, l3, l4, l5, l6] (jI (σ 100 19) :: st) σ Q := WP_getI (ci := 11) (k := 19) mq212 dd212_226 (by decide) (Or.inl rfl)
theorem dd212_229 : decode cX12_passes 229 = .ok (.iconst 1, 1) := by decide +kernel
theorem ww212_229 {d : Nat} {l0 l1 l2 l3 l4 l5 l6 : Option mw_V} {st : List mw_V} {σ : mw_S} {Q : Option mw_V → mw_S → Prop} : mw_WP d 212 229 [l0, l1, l2, l3, l4, l5, l6] st σ Q ↔ mw_WP d 212 230 [l0, l1, l2, l3, l4, l5, l6] (jI (1) :: st) σ Q := WP_iconst mq212 dd212_229 (by decide)
theorem dd212_230 : decode cX12_passes 230 = .ok (.iadd, 1) := by decide +kernel
theorem ww212_230 {d : Nat} {l0 l1 l2 l3 l4 l5 l6 : Option mw_V} {x y : Int} {st : List mw_V} {σ : mw_S} {Q : Option mw_V → mw_S → Prop} : mw_WP d 212 230 [l0, l1, l2, l3, l4, l5, l6] (jI y :: jI x :: st) σ Q ↔ mw_WP d 212 231 [l0, l1, l2, l3, l4, l5, l6] (jI (w32 (x + y)) :: st) σ Q := WP_iadd mq212 dd212_230
theorem dd212_231 : decode cX12_passes 231 = .ok (.putfield 250, 3) := by decide +kernel
theorem ww212_231 {d : Nat} {l0 l1 l2 l3 l4 l5 l6 : Option mw_V} {v : Int} {st : List mw_V} {σ : mw_S} {Q : Option mw_V → mw_S → Prop} : mw_WP d 212 231 [l0, l1, l2, l3, l4, l5, l6] (jI v :: jR 100 :: st) σ Q ↔ mw_WP d 212 234 [l0, l1, l2, l3, l4, l5, l6] st (upS σ 100 19 v) Q := WP_putI (ci := 11) (k := 19) mq212 dd212_231 (by decide) rfl
theorem dd212_234 : decode cX12_passes 234 = .ok (.aload_n 0, 1) := by decide +kernel
theorem ww212_234 {d : Nat} {l1 l2 l3 l4 l5 l6 : Option mw_V} {x : Nat} {st : List mw_V} {σ : mw_S} {Q : Option mw_V → mw_S → Prop} : mw_WP d 212 234 [some (jR x), l1, l2, l3, l4, l5, l6] st σ Q ↔ mw_WP d 212 235 [some (jR x), l1, l2, l3, l4, l5, l6] (jR x :: st) σ Q := WP_aload_n mq212 dd212_234 rfl
theorem dd212_235 : decode cX12_passes 235 = .ok (.getfield 13, 3) := by decide +kernel
theorem ww212_235 {d : Nat} {l0 l1 l2 l3 l4 l5 l6 : Option mw_V} {st : List mw_V} {σ : mw_S} {Q : Option mw_V → mw_S → Prop} : mw_WP d 212 235 [l0, l1, l2, l3, l4, l5, l6] (jR 100 :: st) σ Q ↔ mw_WP d 212 238 [l0, l1, l2, l3, l4, l5, l6] (jR 101 :: st) σ Q := WP_getR (ci := 11) (k := 1) mq212 dd212_235 (by decide) rfl
theorem dd212_238 : decode cX12_passes 238 = .ok (.iconst 2, 1) := by decide +kernel
theorem ww212_238 {d : Nat} {l0 l1 l2 l3 l4 l5 l6 : Option mw_V} {st : List mw_V} {σ : mw_S} {Q : Option mw_V → mw_S → Prop} : mw_WP d 212 238 [l0, l1, l2, l3, l4, l5, l6] st σ Q ↔ mw_WP d 212 239 [l0, l1, l2, l3, l4, l5, l6] (jI (2) :: st) σ Q := WP_iconst mq212 dd212_238 (by decide)
theorem dd212_239 : decode cX12_passes 239 = .ok (.iaload, 1) := by decide +kernel
theorem ww212_239 {d : Nat} {l0 l1 l2 l3 l4 l5 l6 : Option mw_V} {z : Int} {a : Nat} {st : List mw_V} {σ : mw_S} {Q : Option mw_V → mw_S → Prop} : mw_WP d 212 239 [l0, l1, l2, l3, l4, l5, l6] (jI z :: jR a :: st) σ Q ↔ ((0 ≤ z ∧ z < mw_lenI a) ∧ mw_WP d 212 240 [l0, l1, l2, l3, l4, l5, l6] (jI (mw_rdI σ a z.toNat) :: st) σ Q) := WP_iaload mq212 dd212_239
theorem dd212_240 : decode cX12_passes 240 = .ok (.istore 4, 2) := by decide +kernel
theorem ww212_240 {d : Nat} {l0 l1 l2 l3 l4 l5 l6 : Option mw_V} {x : Int} {st : List mw_V} {σ : mw_S} {Q : Option mw_V → mw_S → Prop} (h : mw_nlo l3 = true) : mw_WP d 212 240 [l0, l1, l2, l3, l4, l5, l6] (jI x :: st) σ Q ↔ mw_WP d 212 242 [l0, l1, l2, l3, some (jI x), l5, l6] st σ Q := WP_istore mq212 dd212_240 (Nat.le_of_ble_eq_true rfl) (mw_nl_of (i := 3) rfl h) rfl
theorem dd212_242 : decode cX12_passes 242 = .ok (.iinc 4 1, 3) := by decide +kernel
theorem ww212_242 {d : Nat} {l0 l1 l2 l3 l5 l6 : Option mw_V} {x : Int} {st : List mw_V} {σ : mw_S} {Q : Option mw_V → mw_S → Prop} (h : mw_nlo l3 = true) : mw_WP d 212 242 [l0, l1, l2, l3, some (jI x), l5, l6] st σ Q ↔ mw_WP d 212 245 [l0, l1, l2, l3, some (jI (w32 (x + (1)))), l5, l6] st σ Q := WP_iinc mq212 dd212_242 rfl (Nat.le_of_ble_eq_true rfl) (mw_nl_of (i := 3) rfl h) rfl
theorem dd212_245 : decode cX12_passes 245 = .ok (.goto (-181), 3) := by decide +kernel
theorem ww212_245 {d : Nat} {l0 l1 l2 l3 l4 l5 l6 : Option mw_V} {st : List mw_V} {σ : mw_S} {Q : Option mw_V → mw_S → Prop} : mw_WP d 212 245 [l0, l1, l2, l3, l4, l5, l6] st σ Q ↔ mw_WP d 212 64 [l0, l1, l2, l3, l4, l5, l6] st σ Q := WP_goto mq212 dd212_245 (by decide)
theorem dd212_248 : decode cX12_passes 248 = .ok (.iinc 2 1, 3) := by decide +kernel
theorem ww212_248 {d : Nat} {l0 l1 l3 l4 l5 l6 : Option mw_V} {x : Int} {st : List mw_V} {σ : mw_S} {Q : Option mw_V → mw_S → Prop} (h : mw_nlo l1 = true) : mw_WP d 212 248 [l0, l1, some (jI x), l3, l4, l5, l6] st σ Q ↔ mw_WP d 212 251 [l0, l1, some (jI (w32 (x + (1)))), l3, l4, l5, l6] st σ Q := WP_iinc mq212 dd212_248 rfl (Nat.le_of_ble_eq_true rfl) (mw_nl_of (i := 1) rfl h) rfl
theorem dd212_251 : decode cX12_passes 251 = .ok (.goto (-242), 3) := by decide +kernel
theorem ww212_251 {d : Nat} {l0 l1 l2 l3 l4 l5 l6 : Option mw_V} {st : List mw_V} {σ : mw_S} {Q : Option mw_V → mw_S → Prop} : mw_WP d 212 251 [l0, l1, l2, l3, l4, l5, l6] st σ Q ↔ mw_WP d 212 9 [l0, l1, l2, l3, l4, l5, l6] st σ Q := WP_goto mq212 dd212_251 (by decide)
theorem dd212_254 : decode cX12_passes 254 = .ok (.return_, 1) := by decide +kernel
theorem ww212_254 {d : Nat} {l0 l1 l2 l3 l4 l5 l6 : Option mw_V} {σ : mw_S} {Q : Option mw_V → mw_S → Prop} : mw_WP d 212 254 [l0, l1, l2, l3, l4, l5, l6] [] σ Q ↔ Q none σ := WP_return mq212 dd212_254 rfl
theorem ee213 {d : Nat} {a : Nat} {z0 : Int} {σ : mw_S} {Q : Option mw_V → mw_S → Prop} : mw_Call (d + 1) 213 [jR a, jI z0] σ Q ↔ mw_WP d 213 0 [some (jR a), some (jI z0), none, none, none, none] [] σ Q := CL_u mq213 (Nat.le_of_ble_eq_true rfl) rfl
theorem dd213_0 : decode cX12_steps 0 = .ok (.iload_n 1, 1) := by decide +kernel
theorem ww213_0 {d : Nat} {l0 l2 l3 l4 l5 : Option mw_V} {x : Int} {st : List mw_V} {σ : mw_S} {Q : Option mw_V → mw_S → Prop} : mw_WP d 213 0 [l0, some (jI x), l2, l3, l4, l5] st σ Q ↔ mw_WP d 213 1 [l0, some (jI x), l2, l3, l4, l5] (jI x :: st) σ Q := WP_iload_n mq213 dd213_0 rfl
theorem dd213_1 : decode cX12_steps 1 = .ok (.istore_n 2, 1) := by decide +kernel
theorem ww213_1 {d : Nat} {l0 l1 l2 l3 l4 l5 : Option mw_V} {x : Int} {st : List mw_V} {σ : mw_S} {Q : Option mw_V → mw_S → Prop} (h : mw_nlo l1 = true) : mw_WP d 213 1 [l0, l1, l2, l3, l4, l5] (jI x :: st) σ Q ↔ mw_WP d 213 2 [l0, l1, some (jI x), l3, l4, l5] st σ Q := WP_istore_n mq213 dd213_1 (Nat.le_of_ble_eq_true rfl) (mw_nl_of (i := 1) rfl h) rfl
theorem dd213_2 : decode cX12_steps 2 = .ok (.iconst 0, 1) := by decide +kernel
theorem ww213_2 {d : Nat} {l0 l1 l2 l3 l4 l5 : Option mw_V} {st : List mw_V} {σ : mw_S} {Q : Option mw_V → mw_S → Prop} : mw_WP d 213 2 [l0, l1, l2, l3, l4, l5] st σ Q ↔ mw_WP d 213 3 [l0, l1, l2, l3, l4, l5] (jI (0) :: st) σ Q := WP_iconst mq213 dd213_2 (by decide)
theorem dd213_3 : decode cX12_steps 3 = .ok (.istore_n 3, 1) := by decide +kernel
theorem ww213_3 {d : Nat} {l0 l1 l2 l3 l4 l5 : Option mw_V} {x : Int} {st : List mw_V} {σ : mw_S} {Q : Option mw_V → mw_S → Prop} (h : mw_nlo l2 = true) : mw_WP d 213 3 [l0, l1, l2, l3, l4, l5] (jI x :: st) σ Q ↔ mw_WP d 213 4 [l0, l1, l2, some (jI x), l4, l5] st σ Q := WP_istore_n mq213 dd213_3 (Nat.le_of_ble_eq_true rfl) (mw_nl_of (i := 2) rfl h) rfl
theorem dd213_4 : decode cX12_steps 4 = .ok (.iload_n 3, 1) := by decide +kernel
theorem ww213_4 {d : Nat} {l0 l1 l2 l4 l5 : Option mw_V} {x : Int} {st : List mw_V} {σ : mw_S} {Q : Option mw_V → mw_S → Prop} : mw_WP d 213 4 [l0, l1, l2, some (jI x), l4, l5] st σ Q ↔ mw_WP d 213 5 [l0, l1, l2, some (jI x), l4, l5] (jI x :: st) σ Q := WP_iload_n mq213 dd213_4 rfl
theorem dd213_5 : decode cX12_steps 5 = .ok (.aload_n 0, 1) := by decide +kernel
theorem ww213_5 {d : Nat} {l1 l2 l3 l4 l5 : Option mw_V} {x : Nat} {st : List mw_V} {σ : mw_S} {Q : Option mw_V → mw_S → Prop} : mw_WP d 213 5 [some (jR x), l1, l2, l3, l4, l5] st σ Q ↔ mw_WP d 213 6 [some (jR x), l1, l2, l3, l4, l5] (jR x :: st) σ Q := WP_aload_n mq213 dd213_5 rfl
theorem dd213_6 : decode cX12_steps 6 = .ok (.getfield 13, 3) := by decide +kernel
theorem ww213_6 {d : Nat} {l0 l1 l2 l3 l4 l5 : Option mw_V} {st : List mw_V} {σ : mw_S} {Q : Option mw_V → mw_S → Prop} : mw_WP d 213 6 [l0, l1, l2, l3, l4, l5] (jR 100 :: st) σ Q ↔ mw_WP d 213 9 [l0, l1, l2, l3, l4, l5] (jR 101 :: st) σ Q := WP_getR (ci := 11) (k := 1) mq213 dd213_6 (by decide) rfl
theorem dd213_9 : decode cX12_steps 9 = .ok (.iconst 2, 1) := by decide +kernel
theorem ww213_9 {d : Nat} {l0 l1 l2 l3 l4 l5 : Option mw_V} {st : List mw_V} {σ : mw_S} {Q : Option mw_V → mw_S → Prop} : mw_WP d 213 9 [l0, l1, l2, l3, l4, l5] st σ Q ↔ mw_WP d 213 10 [l0, l1, l2, l3, l4, l5] (jI (2) :: st) σ Q := WP_iconst mq213 dd213_9 (by decide)
theorem dd213_10 : decode cX12_steps 10 = .ok (.iaload, 1) := by decide +kernel
theorem ww213_10 {d : Nat} {l0 l1 l2 l3 l4 l5 : Option mw_V} {z : Int} {a : Nat} {st : List mw_V} {σ : mw_S} {Q : Option mw_V → mw_S → Prop} : mw_WP d 213 10 [l0, l1, l2, l3, l4, l5] (jI z :: jR a :: st) σ Q ↔ ((0 ≤ z ∧ z < mw_lenI a) ∧ mw_WP d 213 11 [l0, l1, l2, l3, l4, l5] (jI (mw_rdI σ a z.toNat) :: st) σ Q) := WP_iaload mq213 dd213_10
theorem dd213_11 : decode cX12_steps 11 = .ok (.if_icmp .ge 161, 3) := by decide +kernel
theorem ww213_11 {d : Nat} {l0 l1 l2 l3 l4 l5 : Option mw_V} {x y : Int} {st : List mw_V} {σ : mw_S} {Q : Option mw_V → mw_S → Prop} : mw_WP d 213 11 [l0, l1, l2, l3, l4, l5] (jI y :: jI x :: st) σ Q ↔ (if y ≤ x then mw_WP d 213 172 [l0, l1, l2, l3, l4, l5] st σ Q else mw_WP d 213 14 [l0, l1, l2, l3, l4, l5] st σ Q) := WP_icmp_ge mq213 dd213_11 (by decide)
theorem dd213_14 : decode cX12_steps 14 = .ok (.iload_n 2, 1) := by decide +kernel
theorem ww213_14 {d : Nat} {l0 l1 l3 l4 l5 : Option mw_V} {x : Int} {st : List mw_V} {σ : mw_S} {Q : Option mw_V → mw_S → Prop} : mw_WP d 213 14 [l0, l1, some (jI x), l3, l4, l5] st σ Q ↔ mw_WP d 213 15 [l0, l1, some (jI x), l3, l4, l5] (jI x :: st) σ Q := WP_iload_n mq213 dd213_14 rfl
theorem dd213_15 : decode cX12_steps 15 = .ok (.bipush 9, 2) := by decide +kernel
theorem ww213_15 {d : Nat} {l0 l1 l2 l3 l4 l5 : Option mw_V} {st : List mw_V} {σ : mw_S} {Q : Option mw_V → mw_S → Prop} : mw_WP d 213 15 [l0, l1, l2, l3, l4, l5] st σ Q ↔ mw_WP d 213 17 [l0, l1, l2, l3, l4, l5] (jI (9) :: st) σ Q := WP_bipush mq213 dd213_15 (by decide)
theorem dd213_17 : decode cX12_steps 17 = .ok (.irem, 1) := by decide +kernel
theorem ww213_17 {d : Nat} {l0 l1 l2 l3 l4 l5 : Option mw_V} {x y : Int} {st : List mw_V} {σ : mw_S} {Q : Option mw_V → mw_S → Prop} : mw_WP d 213 17 [l0, l1, l2, l3, l4, l5] (jI y :: jI x :: st) σ Q ↔ (¬ i32 y = 0 ∧ mw_WP d 213 18 [l0, l1, l2, l3, l4, l5] (jI (zRem x y) :: st) σ Q) := WP_irem mq213 dd213_17
theorem dd213_18 : decode cX12_steps 18 = .ok (.istore 4, 2) := by decide +kernel
theorem ww213_18 {d : Nat} {l0 l1 l2 l3 l4 l5 : Option mw_V} {x : Int} {st : List mw_V} {σ : mw_S} {Q : Option mw_V → mw_S → Prop} (h : mw_nlo l3 = true) : mw_WP d 213 18 [l0, l1, l2, l3, l4, l5] (jI x :: st) σ Q ↔ mw_WP d 213 20 [l0, l1, l2, l3, some (jI x), l5] st σ Q := WP_istore mq213 dd213_18 (Nat.le_of_ble_eq_true rfl) (mw_nl_of (i := 3) rfl h) rfl
theorem dd213_20 : decode cX12_steps 20 = .ok (.iload_n 2, 1) := by decide +kernel
theorem ww213_20 {d : Nat} {l0 l1 l3 l4 l5 : Option mw_V} {x : Int} {st : List mw_V} {σ : mw_S} {Q : Option mw_V → mw_S → Prop} : mw_WP d 213 20 [l0, l1, some (jI x), l3, l4, l5] st σ Q ↔ mw_WP d 213 21 [l0, l1, some (jI x), l3, l4, l5] (jI x :: st) σ Q := WP_iload_n mq213 dd213_20 rfl
theorem dd213_21 : decode cX12_steps 21 = .ok (.bipush 9, 2) := by decide +kernel
theorem ww213_21 {d : Nat} {l0 l1 l2 l3 l4 l5 : Option mw_V} {st : List mw_V} {σ : mw_S} {Q : Option mw_V → mw_S → Prop} : mw_WP d 213 21 [l0, l1, l2, l3, l4, l5] st σ Q ↔ mw_WP d 213 23 [l0, l1, l2, l3, l4, l5] (jI (9) :: st) σ Q := WP_bipush mq213 dd213_21 (by decide)
theorem dd213_23 : decode cX12_steps 23 = .ok (.idiv, 1) := by decide +kernel
theorem ww213_23 {d : Nat} {l0 l1 l2 l3 l4 l5 : Option mw_V} {x y : Int} {st : List mw_V} {σ : mw_S} {Q : Option mw_V → mw_S → Prop} : mw_WP d 213 23 [l0, l1, l2, l3, l4, l5] (jI y :: jI x :: st) σ Q ↔ (¬ i32 y = 0 ∧ mw_WP d 213 24 [l0, l1, l2, l3, l4, l5] (jI (zDiv x y) :: st) σ Q) := WP_idiv mq213 dd213_23
theorem dd213_24 : decode cX12_steps 24 = .ok (.istore_n 2, 1) := by decide +kernel
theorem ww213_24 {d : Nat} {l0 l1 l2 l3 l4 l5 : Option mw_V} {x : Int} {st : List mw_V} {σ : mw_S} {Q : Option mw_V → mw_S → Prop} (h : mw_nlo l1 = true) : mw_WP d 213 24 [l0, l1, l2, l3, l4, l5] (jI x :: st) σ Q ↔ mw_WP d 213 25 [l0, l1, some (jI x), l3, l4, l5] st σ Q := WP_istore_n mq213 dd213_24 (Nat.le_of_ble_eq_true rfl) (mw_nl_of (i := 1) rfl h) rfl
theorem dd213_25 : decode cX12_steps 25 = .ok (.aload_n 0, 1) := by decide +kernel
theorem ww213_25 {d : Nat} {l1 l2 l3 l4 l5 : Option mw_V} {x : Nat} {st : List mw_V} {σ : mw_S} {Q : Option mw_V → mw_S → Prop} : mw_WP d 213 25 [some (jR x), l1, l2, l3, l4, l5] st σ Q ↔ mw_WP d 213 26 [some (jR x), l1, l2, l3, l4, l5] (jR x :: st) σ Q := WP_aload_n mq213 dd213_25 rfl
theorem dd213_26 : decode cX12_steps 26 = .ok (.getfield 33, 3) := by decide +kernel
theorem ww213_26 {d : Nat} {l0 l1 l2 l3 l4 l5 : Option mw_V} {st : List mw_V} {σ : mw_S} {Q : Option mw_V → mw_S → Prop} : mw_WP d 213 26 [l0, l1, l2, l3, l4, l5] (jR 100 :: st) σ Q ↔ mw_WP d 213 29 [l0, l1, l2, l3, l4, l5] (jR 106 :: st) σ Q := WP_getR (ci := 11) (k := 17) mq213 dd213_26 (by decide) rfl
theorem dd213_29 : decode cX12_steps 29 = .ok (.iload_n 3, 1) := by decide +kernel
theorem ww213_29 {d : Nat} {l0 l1 l2 l4 l5 : Option mw_V} {x : Int} {st : List mw_V} {σ : mw_S} {Q : Option mw_V → mw_S → Prop} : mw_WP d 213 29 [l0, l1, l2, some (jI x), l4, l5] st σ Q ↔ mw_WP d 213 30 [l0, l1, l2, some (jI x), l4, l5] (jI x :: st) σ Q := WP_iload_n mq213 dd213_29 rfl
theorem dd213_30 : decode cX12_steps 30 = .ok (.aload_n 0, 1) := by decide +kernel
theorem ww213_30 {d : Nat} {l1 l2 l3 l4 l5 : Option mw_V} {x : Nat} {st : List mw_V} {σ : mw_S} {Q : Option mw_V → mw_S → Prop} : mw_WP d 213 30 [some (jR x), l1, l2, l3, l4, l5] st σ Q ↔ mw_WP d 213 31 [some (jR x), l1, l2, l3, l4, l5] (jR x :: st) σ Q := WP_aload_n mq213 dd213_30 rfl
theorem dd213_31 : decode cX12_steps 31 = .ok (.getfield 13, 3) := by decide +kernel
theorem ww213_31 {d : Nat} {l0 l1 l2 l3 l4 l5 : Option mw_V} {st : List mw_V} {σ : mw_S} {Q : Option mw_V → mw_S → Prop} : mw_WP d 213 31 [l0, l1, l2, l3, l4, l5] (jR 100 :: st) σ Q ↔ mw_WP d 213 34 [l0, l1, l2, l3, l4, l5] (jR 101 :: st) σ Q := WP_getR (ci := 11) (k := 1) mq213 dd213_31 (by decide) rfl
theorem dd213_34 : decode cX12_steps 34 = .ok (.bipush 6, 2) := by decide +kernel
theorem ww213_34 {d : Nat} {l0 l1 l2 l3 l4 l5 : Option mw_V} {st : List mw_V} {σ : mw_S} {Q : Option mw_V → mw_S → Prop} : mw_WP d 213 34 [l0, l1, l2, l3, l4, l5] st σ Q ↔ mw_WP d 213 36 [l0, l1, l2, l3, l4, l5] (jI (6) :: st) σ Q := WP_bipush mq213 dd213_34 (by decide)
theorem dd213_36 : decode cX12_steps 36 = .ok (.iload_n 3, 1) := by decide +kernel
theorem ww213_36 {d : Nat} {l0 l1 l2 l4 l5 : Option mw_V} {x : Int} {st : List mw_V} {σ : mw_S} {Q : Option mw_V → mw_S → Prop} : mw_WP d 213 36 [l0, l1, l2, some (jI x), l4, l5] st σ Q ↔ mw_WP d 213 37 [l0, l1, l2, some (jI x), l4, l5] (jI x :: st) σ Q := WP_iload_n mq213 dd213_36 rfl
theorem dd213_37 : decode cX12_steps 37 = .ok (.iadd, 1) := by decide +kernel
theorem ww213_37 {d : Nat} {l0 l1 l2 l3 l4 l5 : Option mw_V} {x y : Int} {st : List mw_V} {σ : mw_S} {Q : Option mw_V → mw_S → Prop} : mw_WP d 213 37 [l0, l1, l2, l3, l4, l5] (jI y :: jI x :: st) σ Q ↔ mw_WP d 213 38 [l0, l1, l2, l3, l4, l5] (jI (w32 (x + y)) :: st) σ Q := WP_iadd mq213 dd213_37
theorem dd213_38 : decode cX12_steps 38 = .ok (.iaload, 1) := by decide +kernel
theorem ww213_38 {d : Nat} {l0 l1 l2 l3 l4 l5 : Option mw_V} {z : Int} {a : Nat} {st : List mw_V} {σ : mw_S} {Q : Option mw_V → mw_S → Prop} : mw_WP d 213 38 [l0, l1, l2, l3, l4, l5] (jI z :: jR a :: st) σ Q ↔ ((0 ≤ z ∧ z < mw_lenI a) ∧ mw_WP d 213 39 [l0, l1, l2, l3, l4, l5] (jI (mw_rdI σ a z.toNat) :: st) σ Q) := WP_iaload mq213 dd213_38
theorem dd213_39 : decode cX12_steps 39 = .ok (.ifCond .ne 8, 3) := by decide +kernel
theorem ww213_39 {d : Nat} {l0 l1 l2 l3 l4 l5 : Option mw_V} {x : Int} {st : List mw_V} {σ : mw_S} {Q : Option mw_V → mw_S → Prop} : mw_WP d 213 39 [l0, l1, l2, l3, l4, l5] (jI x :: st) σ Q ↔ (if ¬ x = 0 then mw_WP d 213 47 [l0, l1, l2, l3, l4, l5] st σ Q else mw_WP d 213 42 [l0, l1, l2, l3, l4, l5] st σ Q) := WP_if_ne mq213 dd213_39 (by decide)
theorem dd213_42 : decode cX12_steps 42 = .ok (.iload 4, 2) := by decide +kernel
theorem ww213_42 {d : Nat} {l0 l1 l2 l3 l5 : Option mw_V} {x : Int} {st : List mw_V} {σ : mw_S} {Q : Option mw_V → mw_S → Prop} : mw_WP d 213 42 [l0, l1, l2, l3, some (jI x), l5] st σ Q ↔ mw_WP d 213 44 [l0, l1, l2, l3, some (jI x), l5] (jI x :: st) σ Q := WP_iload mq213 dd213_42 rfl
theorem dd213_44 : decode cX12_steps 44 = .ok (.goto 26, 3) := by decide +kernel
theorem ww213_44 {d : Nat} {l0 l1 l2 l3 l4 l5 : Option mw_V} {st : List mw_V} {σ : mw_S} {Q : Option mw_V → mw_S → Prop} : mw_WP d 213 44 [l0, l1, l2, l3, l4, l5] st σ Q ↔ mw_WP d 213 70 [l0, l1, l2, l3, l4, l5] st σ Q := WP_goto mq213 dd213_44 (by decide)
theorem dd213_47 : decode cX12_steps 47 = .ok (.aload_n 0, 1) := by decide +kernel
theorem ww213_47 {d : Nat} {l1 l2 l3 l4 l5 : Option mw_V} {x : Nat} {st : List mw_V} {σ : mw_S} {Q : Option mw_V → mw_S → Prop} : mw_WP d 213 47 [some (jR x), l1, l2, l3, l4, l5] st σ Q ↔ mw_WP d 213 48 [some (jR x), l1, l2, l3, l4, l5] (jR x :: st) σ Q := WP_aload_n mq213 dd213_47 rfl
theorem dd213_48 : decode cX12_steps 48 = .ok (.getfield 13, 3) := by decide +kernel
theorem ww213_48 {d : Nat} {l0 l1 l2 l3 l4 l5 : Option mw_V} {st : List mw_V} {σ : mw_S} {Q : Option mw_V → mw_S → Prop} : mw_WP d 213 48 [l0, l1, l2, l3, l4, l5] (jR 100 :: st) σ Q ↔ mw_WP d 213 51 [l0, l1, l2, l3, l4, l5] (jR 101 :: st) σ Q := WP_getR (ci := 11) (k := 1) mq213 dd213_48 (by decide) rfl
theorem dd213_51 : decode cX12_steps 51 = .ok (.bipush 54, 2) := by decide +kernel
theorem ww213_51 {d : Nat} {l0 l1 l2 l3 l4 l5 : Option mw_V} {st : List mw_V} {σ : mw_S} {Q : Option mw_V → mw_S → Prop} : mw_WP d 213 51 [l0, l1, l2, l3, l4, l5] st σ Q ↔ mw_WP d 213 53 [l0, l1, l2, l3, l4, l5] (jI (54) :: st) σ Q := WP_bipush mq213 dd213_51 (by decide)
theorem dd213_53 : decode cX12_steps 53 = .ok (.iconst 4, 1) := by decide +kernel
theorem ww213_53 {d : Nat} {l0 l1 l2 l3 l4 l5 : Option mw_V} {st : List mw_V} {σ : mw_S} {Q : Option mw_V → mw_S → Prop} : mw_WP d 213 53 [l0, l1, l2, l3, l4, l5] st σ Q ↔ mw_WP d 213 54 [l0, l1, l2, l3, l4, l5] (jI (4) :: st) σ Q := WP_iconst mq213 dd213_53 (by decide)
theorem dd213_54 : decode cX12_steps 54 = .ok (.iload_n 3, 1) := by decide +kernel
theorem ww213_54 {d : Nat} {l0 l1 l2 l4 l5 : Option mw_V} {x : Int} {st : List mw_V} {σ : mw_S} {Q : Option mw_V → mw_S → Prop} : mw_WP d 213 54 [l0, l1, l2, some (jI x), l4, l5] st σ Q ↔ mw_WP d 213 55 [l0, l1, l2, some (jI x), l4, l5] (jI x :: st) σ Q := WP_iload_n mq213 dd213_54 rfl
theorem dd213_55 : decode cX12_steps 55 = .ok (.imul, 1) := by decide +kernel
theorem ww213_55 {d : Nat} {l0 l1 l2 l3 l4 l5 : Option mw_V} {x y : Int} {st : List mw_V} {σ : mw_S} {Q : Option mw_V → mw_S → Prop} : mw_WP d 213 55 [l0, l1, l2, l3, l4, l5] (jI y :: jI x :: st) σ Q ↔ mw_WP d 213 56 [l0, l1, l2, l3, l4, l5] (jI (w32 (x * y)) :: st) σ Q := WP_imul mq213 dd213_55
theorem dd213_56 : decode cX12_steps 56 = .ok (.iadd, 1) := by decide +kernel
theorem ww213_56 {d : Nat} {l0 l1 l2 l3 l4 l5 : Option mw_V} {x y : Int} {st : List mw_V} {σ : mw_S} {Q : Option mw_V → mw_S → Prop} : mw_WP d 213 56 [l0, l1, l2, l3, l4, l5] (jI y :: jI x :: st) σ Q ↔ mw_WP d 213 57 [l0, l1, l2, l3, l4, l5] (jI (w32 (x + y)) :: st) σ Q := WP_iadd mq213 dd213_56
theorem dd213_57 : decode cX12_steps 57 = .ok (.aload_n 0, 1) := by decide +kernel
theorem ww213_57 {d : Nat} {l1 l2 l3 l4 l5 : Option mw_V} {x : Nat} {st : List mw_V} {σ : mw_S} {Q : Option mw_V → mw_S → Prop} : mw_WP d 213 57 [some (jR x), l1, l2, l3, l4, l5] st σ Q ↔ mw_WP d 213 58 [some (jR x), l1, l2, l3, l4, l5] (jR x :: st) σ Q := WP_aload_n mq213 dd213_57 rfl
theorem dd213_58 : decode cX12_steps 58 = .ok (.getfield 13, 3) := by decide +kernel
theorem ww213_58 {d : Nat} {l0 l1 l2 l3 l4 l5 : Option mw_V} {st : List mw_V} {σ : mw_S} {Q : Option mw_V → mw_S → Prop} : mw_WP d 213 58 [l0, l1, l2, l3, l4, l5] (jR 100 :: st) σ Q ↔ mw_WP d 213 61 [l0, l1, l2, l3, l4, l5] (jR 101 :: st) σ Q := WP_getR (ci := 11) (k := 1) mq213 dd213_58 (by decide) rfl
theorem dd213_61 : decode cX12_steps 61 = .ok (.bipush 6, 2) := by decide +kernel
theorem ww213_61 {d : Nat} {l0 l1 l2 l3 l4 l5 : Option mw_V} {st : List mw_V} {σ : mw_S} {Q : Option mw_V → mw_S → Prop} : mw_WP d 213 61 [l0, l1, l2, l3, l4, l5] st σ Q ↔ mw_WP d 213 63 [l0, l1, l2, l3, l4, l5] (jI (6) :: st) σ Q := WP_bipush mq213 dd213_61 (by decide)
theorem dd213_63 : decode cX12_steps 63 = .ok (.iload_n 3, 1) := by decide +kernel
theorem ww213_63 {d : Nat} {l0 l1 l2 l4 l5 : Option mw_V} {x : Int} {st : List mw_V} {σ : mw_S} {Q : Option mw_V → mw_S → Prop} : mw_WP d 213 63 [l0, l1, l2, some (jI x), l4, l5] st σ Q ↔ mw_WP d 213 64 [l0, l1, l2, some (jI x), l4, l5] (jI x :: st) σ Q := WP_iload_n mq213 dd213_63 rfl
theorem dd213_64 : decode cX12_steps 64 = .ok (.iadd, 1) := by decide +kernel
theorem ww213_64 {d : Nat} {l0 l1 l2 l3 l4 l5 : Option mw_V} {x y : Int} {st : List mw_V} {σ : mw_S} {Q : Option mw_V → mw_S → Prop} : mw_WP d 213 64 [l0, l1, l2, l3, l4, l5] (jI y :: jI x :: st) σ Q ↔ mw_WP d 213 65 [l0, l1, l2, l3, l4, l5] (jI (w32 (x + y)) :: st) σ Q := WP_iadd mq213 dd213_64
theorem dd213_65 : decode cX12_steps 65 = .ok (.iaload, 1) := by decide +kernel
theorem ww213_65 {d : Nat} {l0 l1 l2 l3 l4 l5 : Option mw_V} {z : Int} {a : Nat} {st : List mw_V} {σ : mw_S} {Q : Option mw_V → mw_S → Prop} : mw_WP d 213 65 [l0, l1, l2, l3, l4, l5] (jI z :: jR a :: st) σ Q ↔ ((0 ≤ z ∧ z < mw_lenI a) ∧ mw_WP d 213 66 [l0, l1, l2, l3, l4, l5] (jI (mw_rdI σ a z.toNat) :: st) σ Q) := WP_iaload mq213 dd213_65
theorem dd213_66 : decode cX12_steps 66 = .ok (.iadd, 1) := by decide +kernel
theorem ww213_66 {d : Nat} {l0 l1 l2 l3 l4 l5 : Option mw_V} {x y : Int} {st : List mw_V} {σ : mw_S} {Q : Option mw_V → mw_S → Prop} : mw_WP d 213 66 [l0, l1, l2, l3, l4, l5] (jI y :: jI x :: st) σ Q ↔ mw_WP d 213 67 [l0, l1, l2, l3, l4, l5] (jI (w32 (x + y)) :: st) σ Q := WP_iadd mq213 dd213_66
theorem dd213_67 : decode cX12_steps 67 = .ok (.iconst 1, 1) := by decide +kernel
theorem ww213_67 {d : Nat} {l0 l1 l2 l3 l4 l5 : Option mw_V} {st : List mw_V} {σ : mw_S} {Q : Option mw_V → mw_S → Prop} : mw_WP d 213 67 [l0, l1, l2, l3, l4, l5] st σ Q ↔ mw_WP d 213 68 [l0, l1, l2, l3, l4, l5] (jI (1) :: st) σ Q := WP_iconst mq213 dd213_67 (by decide)
theorem dd213_68 : decode cX12_steps 68 = .ok (.isub, 1) := by decide +kernel
theorem ww213_68 {d : Nat} {l0 l1 l2 l3 l4 l5 : Option mw_V} {x y : Int} {st : List mw_V} {σ : mw_S} {Q : Option mw_V → mw_S → Prop} : mw_WP d 213 68 [l0, l1, l2, l3, l4, l5] (jI y :: jI x :: st) σ Q ↔ mw_WP d 213 69 [l0, l1, l2, l3, l4, l5] (jI (w32 (x - y)) :: st) σ Q := WP_isub mq213 dd213_68
theorem dd213_69 : decode cX12_steps 69 = .ok (.iaload, 1) := by decide +kernel
theorem ww213_69 {d : Nat} {l0 l1 l2 l3 l4 l5 : Option mw_V} {z : Int} {a : Nat} {st : List mw_V} {σ : mw_S} {Q : Option mw_V → mw_S → Prop} : mw_WP d 213 69 [l0, l1, l2, l3, l4, l5] (jI z :: jR a :: st) σ Q ↔ ((0 ≤ z ∧ z < mw_lenI a) ∧ mw_WP d 213 70 [l0, l1, l2, l3, l4, l5] (jI (mw_rdI σ a z.toNat) :: st) σ Q) := WP_iaload mq213 dd213_69
theorem dd213_70 : decode cX12_steps 70 = .ok (.invokestatic 257, 3) := by decide +kernel
theorem ww213_70 {d : Nat} {l0 l1 l2 l3 l4 l5 : Option mw_V} {v0 : mw_V} {st : List mw_V} {σ : mw_S} {Q : Option mw_V → mw_S → Prop} (h8 : (st.map mw_cat).sum ≤ 8) : mw_WP d 213 70 [l0, l1, l2, l3, l4, l5] (v0 :: st) σ Q ↔ mw_Call d 210 [v0] σ (fun r1 s1 => mw_WP d 213 73 [l0, l1, l2, l3, l4, l5] (r1.toList ++ st) s1 Q) := WP_invs (as := [v0]) mq213 dd213_70 (by decide) mq210 rfl rfl h8
theorem dd213_73 : decode cX12_steps 73 = .ok (.iastore, 1) := by decide +kernel
theorem ww213_73 {d : Nat} {l0 l1 l2 l3 l4 l5 : Option mw_V} {x z : Int} {a : Nat} {st : List mw_V} {σ : mw_S} {Q : Option mw_V → mw_S → Prop} : mw_WP d 213 73 [l0, l1, l2, l3, l4, l5] (jI x :: jI z :: jR a :: st) σ Q ↔ ((0 ≤ z ∧ z < mw_lenW 0 a) ∧ mw_WP d 213 74 [l0, l1, l2, l3, l4, l5] st (upS σ a z.toNat x) Q) := WP_iastore mq213 dd213_73
theorem dd213_74 : decode cX12_steps 74 = .ok (.iconst 3, 1) := by decide +kernel
theorem ww213_74 {d : Nat} {l0 l1 l2 l3 l4 l5 : Option mw_V} {st : List mw_V} {σ : mw_S} {Q : Option mw_V → mw_S → Prop} : mw_WP d 213 74 [l0, l1, l2, l3, l4, l5] st σ Q ↔ mw_WP d 213 75 [l0, l1, l2, l3, l4, l5] (jI (3) :: st) σ Q := WP_iconst mq213 dd213_74 (by decide)
theorem dd213_75 : decode cX12_steps 75 = .ok (.istore 5, 2) := by decide +kernel
theorem ww213_75 {d : Nat} {l0 l1 l2 l3 l4 l5 : Option mw_V} {x : Int} {st : List mw_V} {σ : mw_S} {Q : Option mw_V → mw_S → Prop} (h : mw_nlo l4 = true) : mw_WP d 213 75 [l0, l1, l2, l3, l4, l5] (jI x :: st) σ Q ↔ mw_WP d 213 77 [l0, l1, l2, l3, l4, some (jI x)] st σ Q := WP_istore mq213 dd213_75 (Nat.le_of_ble_eq_true rfl) (mw_nl_of (i := 4) rfl h) rfl
theorem dd213_77 : decode cX12_steps 77 = .ok (.iload 5, 2) := by decide +kernel
theorem ww213_77 {d : Nat} {l0 l1 l2 l3 l4 : Option mw_V} {x : Int} {st : List mw_V} {σ : mw_S} {Q : Option mw_V → mw_S → Prop} : mw_WP d 213 77 [l0, l1, l2, l3, l4, some (jI x)] st σ Q ↔ mw_WP d 213 79 [l0, l1, l2, l3, l4, some (jI x)] (jI x :: st) σ Q := WP_iload mq213 dd213_77 rfl
theorem dd213_79 : decode cX12_steps 79 = .ok (.ifCond .le 39, 3) := by decide +kernel
theorem ww213_79 {d : Nat} {l0 l1 l2 l3 l4 l5 : Option mw_V} {x : Int} {st : List mw_V} {σ : mw_S} {Q : Option mw_V → mw_S → Prop} : mw_WP d 213 79 [l0, l1, l2, l3, l4, l5] (jI x :: st) σ Q ↔ (if x ≤ 0 then mw_WP d 213 118 [l0, l1, l2, l3, l4, l5] st σ Q else mw_WP d 213 82 [l0, l1, l2, l3, l4, l5] st σ Q) := WP_if_le mq213 dd213_79 (by decide)
theorem dd213_82 : decode cX12_steps 82 = .ok (.aload_n 0, 1) := by decide +kernel
theorem ww213_82 {d : Nat} {l1 l2 l3 l4 l5 : Option mw_V} {x : Nat} {st : List mw_V} {σ : mw_S} {Q : Option mw_V → mw_S → Prop} : mw_WP d 213 82 [some (jR x), l1, l2, l3, l4, l5] st σ Q ↔ mw_WP d 213 83 [some (jR x), l1, l2, l3, l4, l5] (jR x :: st) σ Q := WP_aload_n mq213 dd213_82 rfl
theorem dd213_83 : decode cX12_steps 83 = .ok (.getfield 13, 3) := by decide +kernel
theorem ww213_83 {d : Nat} {l0 l1 l2 l3 l4 l5 : Option mw_V} {st : List mw_V} {σ : mw_S} {Q : Option mw_V → mw_S → Prop} : mw_WP d 213 83 [l0, l1, l2, l3, l4, l5] (jR 100 :: st) σ Q ↔ mw_WP d 213 86 [l0, l1, l2, l3, l4, l5] (jR 101 :: st) σ Q := WP_getR (ci := 11) (k := 1) mq213 dd213_83 (by decide) rfl
theorem dd213_86 : decode cX12_steps 86 = .ok (.bipush 54, 2) := by decide +kernel
theorem ww213_86 {d : Nat} {l0 l1 l2 l3 l4 l5 : Option mw_V} {st : List mw_V} {σ : mw_S} {Q : Option mw_V → mw_S → Prop} : mw_WP d 213 86 [l0, l1, l2, l3, l4, l5] st σ Q ↔ mw_WP d 213 88 [l0, l1, l2, l3, l4, l5] (jI (54) :: st) σ Q := WP_bipush mq213 dd213_86 (by decide)
theorem dd213_88 : decode cX12_steps 88 = .ok (.iconst 4, 1) := by decide +kernel
theorem ww213_88 {d : Nat} {l0 l1 l2 l3 l4 l5 : Option mw_V} {st : List mw_V} {σ : mw_S} {Q : Option mw_V → mw_S → Prop} : mw_WP d 213 88 [l0, l1, l2, l3, l4, l5] st σ Q ↔ mw_WP d 213 89 [l0, l1, l2, l3, l4, l5] (jI (4) :: st) σ Q := WP_iconst mq213 dd213_88 (by decide)
theorem dd213_89 : decode cX12_steps 89 = .ok (.iload_n 3, 1) := by decide +kernel
theorem ww213_89 {d : Nat} {l0 l1 l2 l4 l5 : Option mw_V} {x : Int} {st : List mw_V} {σ : mw_S} {Q : Option mw_V → mw_S → Prop} : mw_WP d 213 89 [l0, l1, l2, some (jI x), l4, l5] st σ Q ↔ mw_WP d 213 90 [l0, l1, l2, some (jI x), l4, l5] (jI x :: st) σ Q := WP_iload_n mq213 dd213_89 rfl
theorem dd213_90 : decode cX12_steps 90 = .ok (.imul, 1) := by decide +kernel
theorem ww213_90 {d : Nat} {l0 l1 l2 l3 l4 l5 : Option mw_V} {x y : Int} {st : List mw_V} {σ : mw_S} {Q : Option mw_V → mw_S → Prop} : mw_WP d 213 90 [l0, l1, l2, l3, l4, l5] (jI y :: jI x :: st) σ Q ↔ mw_WP d 213 91 [l0, l1, l2, l3, l4, l5] (jI (w32 (x * y)) :: st) σ Q := WP_imul mq213 dd213_90
theorem dd213_91 : decode cX12_steps 91 = .ok (.iadd, 1) := by decide +kernel
theorem ww213_91 {d : Nat} {l0 l1 l2 l3 l4 l5 : Option mw_V} {x y : Int} {st : List mw_V} {σ : mw_S} {Q : Option mw_V → mw_S → Prop} : mw_WP d 213 91 [l0, l1, l2, l3, l4, l5] (jI y :: jI x :: st) σ Q ↔ mw_WP d 213 92 [l0, l1, l2, l3, l4, l5] (jI (w32 (x + y)) :: st) σ Q := WP_iadd mq213 dd213_91
theorem dd213_92 : decode cX12_steps 92 = .ok (.iload 5, 2) := by decide +kernel
theorem ww213_92 {d : Nat} {l0 l1 l2 l3 l4 : Option mw_V} {x : Int} {st : List mw_V} {σ : mw_S} {Q : Option mw_V → mw_S → Prop} : mw_WP d 213 92 [l0, l1, l2, l3, l4, some (jI x)] st σ Q ↔ mw_WP d 213 94 [l0, l1, l2, l3, l4, some (jI x)] (jI x :: st) σ Q := WP_iload mq213 dd213_92 rfl
theorem dd213_94 : decode cX12_steps 94 = .ok (.iadd, 1) := by decide +kernel
theorem ww213_94 {d : Nat} {l0 l1 l2 l3 l4 l5 : Option mw_V} {x y : Int} {st : List mw_V} {σ : mw_S} {Q : Option mw_V → mw_S → Prop} : mw_WP d 213 94 [l0, l1, l2, l3, l4, l5] (jI y :: jI x :: st) σ Q ↔ mw_WP d 213 95 [l0, l1, l2, l3, l4, l5] (jI (w32 (x + y)) :: st) σ Q := WP_iadd mq213 dd213_94
theorem dd213_95 : decode cX12_steps 95 = .ok (.aload_n 0, 1) := by decide +kernel
theorem ww213_95 {d : Nat} {l1 l2 l3 l4 l5 : Option mw_V} {x : Nat} {st : List mw_V} {σ : mw_S} {Q : Option mw_V → mw_S → Prop} : mw_WP d 213 95 [some (jR x), l1, l2, l3, l4, l5] st σ Q ↔ mw_WP d 213 96 [some (jR x), l1, l2, l3, l4, l5] (jR x :: st) σ Q := WP_aload_n mq213 dd213_95 rfl
theorem dd213_96 : decode cX12_steps 96 = .ok (.getfield 13, 3) := by decide +kernel
theorem ww213_96 {d : Nat} {l0 l1 l2 l3 l4 l5 : Option mw_V} {st : List mw_V} {σ : mw_S} {Q : Option mw_V → mw_S → Prop} : mw_WP d 213 96 [l0, l1, l2, l3, l4, l5] (jR 100 :: st) σ Q ↔ mw_WP d 213 99 [l0, l1, l2, l3, l4, l5] (jR 101 :: st) σ Q := WP_getR (ci := 11) (k := 1) mq213 dd213_96 (by decide) rfl
theorem dd213_99 : decode cX12_steps 99 = .ok (.bipush 54, 2) := by decide +kernel
theorem ww213_99 {d : Nat} {l0 l1 l2 l3 l4 l5 : Option mw_V} {st : List mw_V} {σ : mw_S} {Q : Option mw_V → mw_S → Prop} : mw_WP d 213 99 [l0, l1, l2, l3, l4, l5] st σ Q ↔ mw_WP d 213 101 [l0, l1, l2, l3, l4, l5] (jI (54) :: st) σ Q := WP_bipush mq213 dd213_99 (by decide)
theorem dd213_101 : decode cX12_steps 101 = .ok (.iconst 4, 1) := by decide +kernel
theorem ww213_101 {d : Nat} {l0 l1 l2 l3 l4 l5 : Option mw_V} {st : List mw_V} {σ : mw_S} {Q : Option mw_V → mw_S → Prop} : mw_WP d 213 101 [l0, l1, l2, l3, l4, l5] st σ Q ↔ mw_WP d 213 102 [l0, l1, l2, l3, l4, l5] (jI (4) :: st) σ Q := WP_iconst mq213 dd213_101 (by decide)
theorem dd213_102 : decode cX12_steps 102 = .ok (.iload_n 3, 1) := by decide +kernel
theorem ww213_102 {d : Nat} {l0 l1 l2 l4 l5 : Option mw_V} {x : Int} {st : List mw_V} {σ : mw_S} {Q : Option mw_V → mw_S → Prop} : mw_WP d 213 102 [l0, l1, l2, some (jI x), l4, l5] st σ Q ↔ mw_WP d 213 103 [l0, l1, l2, some (jI x), l4, l5] (jI x :: st) σ Q := WP_iload_n mq213 dd213_102 rfl
theorem dd213_103 : decode cX12_steps 103 = .ok (.imul, 1) := by decide +kernel
theorem ww213_103 {d : Nat} {l0 l1 l2 l3 l4 l5 : Option mw_V} {x y : Int} {st : List mw_V} {σ : mw_S} {Q : Option mw_V → mw_S → Prop} : mw_WP d 213 103 [l0, l1, l2, l3, l4, l5] (jI y :: jI x :: st) σ Q ↔ mw_WP d 213 104 [l0, l1, l2, l3, l4, l5] (jI (w32 (x * y)) :: st) σ Q := WP_imul mq213 dd213_103
theorem dd213_104 : decode cX12_steps 104 = .ok (.iadd, 1) := by decide +kernel
theorem ww213_104 {d : Nat} {l0 l1 l2 l3 l4 l5 : Option mw_V} {x y : Int} {st : List mw_V} {σ : mw_S} {Q : Option mw_V → mw_S → Prop} : mw_WP d 213 104 [l0, l1, l2, l3, l4, l5] (jI y :: jI x :: st) σ Q ↔ mw_WP d 213 105 [l0, l1, l2, l3, l4, l5] (jI (w32 (x + y)) :: st) σ Q := WP_iadd mq213 dd213_104
theorem dd213_105 : decode cX12_steps 105 = .ok (.iload 5, 2) := by decide +kernel
theorem ww213_105 {d : Nat} {l0 l1 l2 l3 l4 : Option mw_V} {x : Int} {st : List mw_V} {σ : mw_S} {Q : Option mw_V → mw_S → Prop} : mw_WP d 213 105 [l0, l1, l2, l3, l4, some (jI x)] st σ Q ↔ mw_WP d 213 107 [l0, l1, l2, l3, l4, some (jI x)] (jI x :: st) σ Q := WP_iload mq213 dd213_105 rfl
theorem dd213_107 : decode cX12_steps 107 = .ok (.iadd, 1) := by decide +kernel
theorem ww213_107 {d : Nat} {l0 l1 l2 l3 l4 l5 : Option mw_V} {x y : Int} {st : List mw_V} {σ : mw_S} {Q : Option mw_V → mw_S → Prop} : mw_WP d 213 107 [l0, l1, l2, l3, l4, l5] (jI y :: jI x :: st) σ Q ↔ mw_WP d 213 108 [l0, l1, l2, l3, l4, l5] (jI (w32 (x + y)) :: st) σ Q := WP_iadd mq213 dd213_107
theorem dd213_108 : decode cX12_steps 108 = .ok (.iconst 1, 1) := by decide +kernel
theorem ww213_108 {d : Nat} {l0 l1 l2 l3 l4 l5 : Option mw_V} {st : List mw_V} {σ : mw_S} {Q : Option mw_V → mw_S → Prop} : mw_WP d 213 108 [l0, l1, l2, l3, l4, l5] st σ Q ↔ mw_WP d 213 109 [l0, l1, l2, l3, l4, l5] (jI (1) :: st) σ Q := WP_iconst mq213 dd213_108 (by decide)
theorem dd213_109 : decode cX12_steps 109 = .ok (.isub, 1) := by decide +kernel
theorem ww213_109 {d : Nat} {l0 l1 l2 l3 l4 l5 : Option mw_V} {x y : Int} {st : List mw_V} {σ : mw_S} {Q : Option mw_V → mw_S → Prop} : mw_WP d 213 109 [l0, l1, l2, l3, l4, l5] (jI y :: jI x :: st) σ Q ↔ mw_WP d 213 110 [l0, l1, l2, l3, l4, l5] (jI (w32 (x - y)) :: st) σ Q := WP_isub mq213 dd213_109
theorem dd213_110 : decode cX12_steps 110 = .ok (.iaload, 1) := by decide +kernel
theorem ww213_110 {d : Nat} {l0 l1 l2 l3 l4 l5 : Option mw_V} {z : Int} {a : Nat} {st : List mw_V} {σ : mw_S} {Q : Option mw_V → mw_S → Prop} : mw_WP d 213 110 [l0, l1, l2, l3, l4, l5] (jI z :: jR a :: st) σ Q ↔ ((0 ≤ z ∧ z < mw_lenI a) ∧ mw_WP d 213 111 [l0, l1, l2, l3, l4, l5] (jI (mw_rdI σ a z.toNat) :: st) σ Q) := WP_iaload mq213 dd213_110
theorem dd213_111 : decode cX12_steps 111 = .ok (.iastore, 1) := by decide +kernel
theorem ww213_111 {d : Nat} {l0 l1 l2 l3 l4 l5 : Option mw_V} {x z : Int} {a : Nat} {st : List mw_V} {σ : mw_S} {Q : Option mw_V → mw_S → Prop} : mw_WP d 213 111 [l0, l1, l2, l3, l4, l5] (jI x :: jI z :: jR a :: st) σ Q ↔ ((0 ≤ z ∧ z < mw_lenW 0 a) ∧ mw_WP d 213 112 [l0, l1, l2, l3, l4, l5] st (upS σ a z.toNat x) Q) := WP_iastore mq213 dd213_111
theorem dd213_112 : decode cX12_steps 112 = .ok (.iinc 5 (-1), 3) := by decide +kernel
theorem ww213_112 {d : Nat} {l0 l1 l2 l3 l4 : Option mw_V} {x : Int} {st : List mw_V} {σ : mw_S} {Q : Option mw_V → mw_S → Prop} (h : mw_nlo l4 = true) : mw_WP d 213 112 [l0, l1, l2, l3, l4, some (jI x)] st σ Q ↔ mw_WP d 213 115 [l0, l1, l2, l3, l4, some (jI (w32 (x + (-1))))] st σ Q := WP_iinc mq213 dd213_112 rfl (Nat.le_of_ble_eq_true rfl) (mw_nl_of (i := 4) rfl h) rfl
theorem dd213_115 : decode cX12_steps 115 = .ok (.goto (-38), 3) := by decide +kernel
theorem ww213_115 {d : Nat} {l0 l1 l2 l3 l4 l5 : Option mw_V} {st : List mw_V} {σ : mw_S} {Q : Option mw_V → mw_S → Prop} : mw_WP d 213 115 [l0, l1, l2, l3, l4, l5] st σ Q ↔ mw_WP d 213 77 [l0, l1, l2, l3, l4, l5] st σ Q := WP_goto mq213 dd213_115 (by decide)
theorem dd213_118 : decode cX12_steps 118 = .ok (.aload_n 0, 1) := by decide +kernel
theorem ww213_118 {d : Nat} {l1 l2 l3 l4 l5 : Option mw_V} {x : Nat} {st : List mw_V} {σ : mw_S} {Q : Option mw_V → mw_S → Prop} : mw_WP d 213 118 [some (jR x), l1, l2, l3, l4, l5] st σ Q ↔ mw_WP d 213 119 [some (jR x), l1, l2, l3, l4, l5] (jR x :: st) σ Q := WP_aload_n mq213 dd213_118 rfl
theorem dd213_119 : decode cX12_steps 119 = .ok (.getfield 13, 3) := by decide +kernel
theorem ww213_119 {d : Nat} {l0 l1 l2 l3 l4 l5 : Option mw_V} {st : List mw_V} {σ : mw_S} {Q : Option mw_V → mw_S → Prop} : mw_WP d 213 119 [l0, l1, l2, l3, l4, l5] (jR 100 :: st) σ Q ↔ mw_WP d 213 122 [l0, l1, l2, l3, l4, l5] (jR 101 :: st) σ Q := WP_getR (ci := 11) (k := 1) mq213 dd213_119 (by decide) rfl
theorem dd213_122 : decode cX12_steps 122 = .ok (.bipush 54, 2) := by decide +kernel
theorem ww213_122 {d : Nat} {l0 l1 l2 l3 l4 l5 : Option mw_V} {st : List mw_V} {σ : mw_S} {Q : Option mw_V → mw_S → Prop} : mw_WP d 213 122 [l0, l1, l2, l3, l4, l5] st σ Q ↔ mw_WP d 213 124 [l0, l1, l2, l3, l4, l5] (jI (54) :: st) σ Q := WP_bipush mq213 dd213_122 (by decide)
theorem dd213_124 : decode cX12_steps 124 = .ok (.iconst 4, 1) := by decide +kernel
theorem ww213_124 {d : Nat} {l0 l1 l2 l3 l4 l5 : Option mw_V} {st : List mw_V} {σ : mw_S} {Q : Option mw_V → mw_S → Prop} : mw_WP d 213 124 [l0, l1, l2, l3, l4, l5] st σ Q ↔ mw_WP d 213 125 [l0, l1, l2, l3, l4, l5] (jI (4) :: st) σ Q := WP_iconst mq213 dd213_124 (by decide)
theorem dd213_125 : decode cX12_steps 125 = .ok (.iload_n 3, 1) := by decide +kernel
theorem ww213_125 {d : Nat} {l0 l1 l2 l4 l5 : Option mw_V} {x : Int} {st : List mw_V} {σ : mw_S} {Q : Option mw_V → mw_S → Prop} : mw_WP d 213 125 [l0, l1, l2, some (jI x), l4, l5] st σ Q ↔ mw_WP d 213 126 [l0, l1, l2, some (jI x), l4, l5] (jI x :: st) σ Q := WP_iload_n mq213 dd213_125 rfl
theorem dd213_126 : decode cX12_steps 126 = .ok (.imul, 1) := by decide +kernel
theorem ww213_126 {d : Nat} {l0 l1 l2 l3 l4 l5 : Option mw_V} {x y : Int} {st : List mw_V} {σ : mw_S} {Q : Option mw_V → mw_S → Prop} : mw_WP d 213 126 [l0, l1, l2, l3, l4, l5] (jI y :: jI x :: st) σ Q ↔ mw_WP d 213 127 [l0, l1, l2, l3, l4, l5] (jI (w32 (x * y)) :: st) σ Q := WP_imul mq213 dd213_126
theorem dd213_127 : decode cX12_steps 127 = .ok (.iadd, 1) := by decide +kernel
theorem ww213_127 {d : Nat} {l0 l1 l2 l3 l4 l5 : Option mw_V} {x y : Int} {st : List mw_V} {σ : mw_S} {Q : Option mw_V → mw_S → Prop} : mw_WP d 213 127 [l0, l1, l2, l3, l4, l5] (jI y :: jI x :: st) σ Q ↔ mw_WP d 213 128 [l0, l1, l2, l3, l4, l5] (jI (w32 (x + y)) :: st) σ Q := WP_iadd mq213 dd213_127
theorem dd213_128 : decode cX12_steps 128 = .ok (.iload 4, 2) := by decide +kernel
theorem ww213_128 {d : Nat} {l0 l1 l2 l3 l5 : Option mw_V} {x : Int} {st : List mw_V} {σ : mw_S} {Q : Option mw_V → mw_S → Prop} : mw_WP d 213 128 [l0, l1, l2, l3, some (jI x), l5] st σ Q ↔ mw_WP d 213 130 [l0, l1, l2, l3, some (jI x), l5] (jI x :: st) σ Q := WP_iload mq213 dd213_128 rfl
theorem dd213_130 : decode cX12_steps 130 = .ok (.iastore, 1) := by decide +kernel
theorem ww213_130 {d : Nat} {l0 l1 l2 l3 l4 l5 : Option mw_V} {x z : Int} {a : Nat} {st : List mw_V} {σ : mw_S} {Q : Option mw_V → mw_S → Prop} : mw_WP d 213 130 [l0, l1, l2, l3, l4, l5] (jI x :: jI z :: jR a :: st) σ Q ↔ ((0 ≤ z ∧ z < mw_lenW 0 a) ∧ mw_WP d 213 131 [l0, l1, l2, l3, l4, l5] st (upS σ a z.toNat x) Q) := WP_iastore mq213 dd213_130
theorem dd213_131 : decode cX12_steps 131 = .ok (.aload_n 0, 1) := by decide +kernel
theorem ww213_131 {d : Nat} {l1 l2 l3 l4 l5 : Option mw_V} {x : Nat} {st : List mw_V} {σ : mw_S} {Q : Option mw_V → mw_S → Prop} : mw_WP d 213 131 [some (jR x), l1, l2, l3, l4, l5] st σ Q ↔ mw_WP d 213 132 [some (jR x), l1, l2, l3, l4, l5] (jR x :: st) σ Q := WP_aload_n mq213 dd213_131 rfl
theorem dd213_132 : decode cX12_steps 132 = .ok (.getfield 13, 3) := by decide +kernel
theorem ww213_132 {d : Nat} {l0 l1 l2 l3 l4 l5 : Option mw_V} {st : List mw_V} {σ : mw_S} {Q : Option mw_V → mw_S → Prop} : mw_WP d 213 132 [l0, l1, l2, l3, l4, l5] (jR 100 :: st) σ Q ↔ mw_WP d 213 135 [l0, l1, l2, l3, l4, l5] (jR 101 :: st) σ Q := WP_getR (ci := 11) (k := 1) mq213 dd213_132 (by decide) rfl
theorem dd213_135 : decode cX12_steps 135 = .ok (.bipush 76, 2) := by decide +kernel
theorem ww213_135 {d : Nat} {l0 l1 l2 l3 l4 l5 : Option mw_V} {st : List mw_V} {σ : mw_S} {Q : Option mw_V → mw_S → Prop} : mw_WP d 213 135 [l0, l1, l2, l3, l4, l5] st σ Q ↔ mw_WP d 213 137 [l0, l1, l2, l3, l4, l5] (jI (76) :: st) σ Q := WP_bipush mq213 dd213_135 (by decide)
theorem dd213_137 : decode cX12_steps 137 = .ok (.iload_n 3, 1) := by decide +kernel
theorem ww213_137 {d : Nat} {l0 l1 l2 l4 l5 : Option mw_V} {x : Int} {st : List mw_V} {σ : mw_S} {Q : Option mw_V → mw_S → Prop} : mw_WP d 213 137 [l0, l1, l2, some (jI x), l4, l5] st σ Q ↔ mw_WP d 213 138 [l0, l1, l2, some (jI x), l4, l5] (jI x :: st) σ Q := WP_iload_n mq213 dd213_137 rfl
theorem dd213_138 : decode cX12_steps 138 = .ok (.iadd, 1) := by decide +kernel
theorem ww213_138 {d : Nat} {l0 l1 l2 l3 l4 l5 : Option mw_V} {x y : Int} {st : List mw_V} {σ : mw_S} {Q : Option mw_V → mw_S → Prop} : mw_WP d 213 138 [l0, l1, l2, l3, l4, l5] (jI y :: jI x :: st) σ Q ↔ mw_WP d 213 139 [l0, l1, l2, l3, l4, l5] (jI (w32 (x + y)) :: st) σ Q := WP_iadd mq213 dd213_138
theorem dd213_139 : decode cX12_steps 139 = .ok (.iload 4, 2) := by decide +kernel
theorem ww213_139 {d : Nat} {l0 l1 l2 l3 l5 : Option mw_V} {x : Int} {st : List mw_V} {σ : mw_S} {Q : Option mw_V → mw_S → Prop} : mw_WP d 213 139 [l0, l1, l2, l3, some (jI x), l5] st σ Q ↔ mw_WP d 213 141 [l0, l1, l2, l3, some (jI x), l5] (jI x :: st) σ Q := WP_iload mq213 dd213_139 rfl
theorem dd213_141 : decode cX12_steps 141 = .ok (.iastore, 1) := by decide +kernel
theorem ww213_141 {d : Nat} {l0 l1 l2 l3 l4 l5 : Option mw_V} {x z : Int} {a : Nat} {st : List mw_V} {σ : mw_S} {Q : Option mw_V → mw_S → Prop} : mw_WP d 213 141 [l0, l1, l2, l3, l4, l5] (jI x :: jI z :: jR a :: st) σ Q ↔ ((0 ≤ z ∧ z < mw_lenW 0 a) ∧ mw_WP d 213 142 [l0, l1, l2, l3, l4, l5] st (upS σ a z.toNat x) Q) := WP_iastore mq213 dd213_141
theorem dd213_142 : decode cX12_steps 142 = .ok (.aload_n 0, 1) := by decide +kernel
theorem ww213_142 {d : Nat} {l1 l2 l3 l4 l5 : Option mw_V} {x : Nat} {st : List mw_V} {σ : mw_S} {Q : Option mw_V → mw_S → Prop} : mw_WP d 213 142 [some (jR x), l1, l2, l3, l4, l5] st σ Q ↔ mw_WP d 213 143 [some (jR x), l1, l2, l3, l4, l5] (jR x :: st) σ Q := WP_aload_n mq213 dd213_142 rfl
theorem dd213_143 : decode cX12_steps 143 = .ok (.getfield 13, 3) := by decide +kernel
theorem ww213_143 {d : Nat} {l0 l1 l2 l3 l4 l5 : Option mw_V} {st : List mw_V} {σ : mw_S} {Q : Option mw_V → mw_S → Prop} : mw_WP d 213 143 [l0, l1, l2, l3, l4, l5] (jR 100 :: st) σ Q ↔ mw_WP d 213 146 [l0, l1, l2, l3, l4, l5] (jR 101 :: st) σ Q := WP_getR (ci := 11) (k := 1) mq213 dd213_143 (by decide) rfl
theorem dd213_146 : decode cX12_steps 146 = .ok (.bipush 79, 2) := by decide +kernel
theorem ww213_146 {d : Nat} {l0 l1 l2 l3 l4 l5 : Option mw_V} {st : List mw_V} {σ : mw_S} {Q : Option mw_V → mw_S → Prop} : mw_WP d 213 146 [l0, l1, l2, l3, l4, l5] st σ Q ↔ mw_WP d 213 148 [l0, l1, l2, l3, l4, l5] (jI (79) :: st) σ Q := WP_bipush mq213 dd213_146 (by decide)
theorem dd213_148 : decode cX12_steps 148 = .ok (.iload_n 3, 1) := by decide +kernel
theorem ww213_148 {d : Nat} {l0 l1 l2 l4 l5 : Option mw_V} {x : Int} {st : List mw_V} {σ : mw_S} {Q : Option mw_V → mw_S → Prop} : mw_WP d 213 148 [l0, l1, l2, some (jI x), l4, l5] st σ Q ↔ mw_WP d 213 149 [l0, l1, l2, some (jI x), l4, l5] (jI x :: st) σ Q := WP_iload_n mq213 dd213_148 rfl
theorem dd213_149 : decode cX12_steps 149 = .ok (.iadd, 1) := by decide +kernel
theorem ww213_149 {d : Nat} {l0 l1 l2 l3 l4 l5 : Option mw_V} {x y : Int} {st : List mw_V} {σ : mw_S} {Q : Option mw_V → mw_S → Prop} : mw_WP d 213 149 [l0, l1, l2, l3, l4, l5] (jI y :: jI x :: st) σ Q ↔ mw_WP d 213 150 [l0, l1, l2, l3, l4, l5] (jI (w32 (x + y)) :: st) σ Q := WP_iadd mq213 dd213_149
theorem dd213_150 : decode cX12_steps 150 = .ok (.aload_n 0, 1) := by decide +kernel
theorem ww213_150 {d : Nat} {l1 l2 l3 l4 l5 : Option mw_V} {x : Nat} {st : List mw_V} {σ : mw_S} {Q : Option mw_V → mw_S → Prop} : mw_WP d 213 150 [some (jR x), l1, l2, l3, l4, l5] st σ Q ↔ mw_WP d 213 151 [some (jR x), l1, l2, l3, l4, l5] (jR x :: st) σ Q := WP_aload_n mq213 dd213_150 rfl
theorem dd213_151 : decode cX12_steps 151 = .ok (.iload_n 3, 1) := by decide +kernel
theorem ww213_151 {d : Nat} {l0 l1 l2 l4 l5 : Option mw_V} {x : Int} {st : List mw_V} {σ : mw_S} {Q : Option mw_V → mw_S → Prop} : mw_WP d 213 151 [l0, l1, l2, some (jI x), l4, l5] st σ Q ↔ mw_WP d 213 152 [l0, l1, l2, some (jI x), l4, l5] (jI x :: st) σ Q := WP_iload_n mq213 dd213_151 rfl
theorem dd213_152 : decode cX12_steps 152 = .ok (.iload 4, 2) := by decide +kernel
theorem ww213_152 {d : Nat} {l0 l1 l2 l3 l5 : Option mw_V} {x : Int} {st : List mw_V} {σ : mw_S} {Q : Option mw_V → mw_S → Prop} : mw_WP d 213 152 [l0, l1, l2, l3, some (jI x), l5] st σ Q ↔ mw_WP d 213 154 [l0, l1, l2, l3, some (jI x), l5] (jI x :: st) σ Q := WP_iload mq213 dd213_152 rfl
theorem dd213_154 : decode cX12_steps 154 = .ok (.invokevirtual 260, 3) := by decide +kernel
theorem ww213_154 {d : Nat} {l0 l1 l2 l3 l4 l5 : Option mw_V} {v0 v1 : mw_V} {a : Nat} {st : List mw_V} {σ : mw_S} {Q : Option mw_V → mw_S → Prop} (hr : mw_rc a = 12) (h8 : (st.map mw_cat).sum ≤ 8) : mw_WP d 213 154 [l0, l1, l2, l3, l4, l5] (v1 :: v0 :: jR a :: st) σ Q ↔ mw_Call d 205 [jR a, v0, v1] σ (fun r1 s1 => mw_WP d 213 157 [l0, l1, l2, l3, l4, l5] (r1.toList ++ st) s1 Q) := WP_inv (as := [v1, v0]) mq213 dd213_154 (by decide) mq205 rfl hr h8
theorem dd213_157 : decode cX12_steps 157 = .ok (.ifCond .eq 7, 3) := by decide +kernel
theorem ww213_157 {d : Nat} {l0 l1 l2 l3 l4 l5 : Option mw_V} {x : Int} {st : List mw_V} {σ : mw_S} {Q : Option mw_V → mw_S → Prop} : mw_WP d 213 157 [l0, l1, l2, l3, l4, l5] (jI x :: st) σ Q ↔ (if x = 0 then mw_WP d 213 164 [l0, l1, l2, l3, l4, l5] st σ Q else mw_WP d 213 160 [l0, l1, l2, l3, l4, l5] st σ Q) := WP_if_eq mq213 dd213_157 (by decide)
theorem dd213_160 : decode cX12_steps 160 = .ok (.iconst 1, 1) := by decide +kernel
theorem ww213_160 {d : Nat} {l0 l1 l2 l3 l4 l5 : Option mw_V} {st : List mw_V} {σ : mw_S} {Q : Option mw_V → mw_S → Prop} : mw_WP d 213 160 [l0, l1, l2, l3, l4, l5] st σ Q ↔ mw_WP d 213 161 [l0, l1, l2, l3, l4, l5] (jI (1) :: st) σ Q := WP_iconst mq213 dd213_160 (by decide)
theorem dd213_161 : decode cX12_steps 161 = .ok (.goto 4, 3) := by decide +kernel
theorem ww213_161 {d : Nat} {l0 l1 l2 l3 l4 l5 : Option mw_V} {st : List mw_V} {σ : mw_S} {Q : Option mw_V → mw_S → Prop} : mw_WP d 213 161 [l0, l1, l2, l3, l4, l5] st σ Q ↔ mw_WP d 213 165 [l0, l1, l2, l3, l4, l5] st σ Q := WP_goto mq213 dd213_161 (by decide)
theorem dd213_164 : decode cX12_steps 164 = .ok (.iconst 0, 1) := by decide +kernel
theorem ww213_164 {d : Nat} {l0 l1 l2 l3 l4 l5 : Option mw_V} {st : List mw_V} {σ : mw_S} {Q : Option mw_V → mw_S → Prop} : mw_WP d 213 164 [l0, l1, l2, l3, l4, l5] st σ Q ↔ mw_WP d 213 165 [l0, l1, l2, l3, l4, l5] (jI (0) :: st) σ Q := WP_iconst mq213 dd213_164 (by decide)
theorem dd213_165 : decode cX12_steps 165 = .ok (.iastore, 1) := by decide +kernel
theorem ww213_165 {d : Nat} {l0 l1 l2 l3 l4 l5 : Option mw_V} {x z : Int} {a : Nat} {st : List mw_V} {σ : mw_S} {Q : Option mw_V → mw_S → Prop} : mw_WP d 213 165 [l0, l1, l2, l3, l4, l5] (jI x :: jI z :: jR a :: st) σ Q ↔ ((0 ≤ z ∧ z < mw_lenW 0 a) ∧ mw_WP d 213 166 [l0, l1, l2, l3, l4, l5] st (upS σ a z.toNat x) Q) := WP_iastore mq213 dd213_165
theorem dd213_166 : decode cX12_steps 166 = .ok (.iinc 3 1, 3) := by decide +kernel
theorem ww213_166 {d : Nat} {l0 l1 l2 l4 l5 : Option mw_V} {x : Int} {st : List mw_V} {σ : mw_S} {Q : Option mw_V → mw_S → Prop} (h : mw_nlo l2 = true) : mw_WP d 213 166 [l0, l1, l2, some (jI x), l4, l5] st σ Q ↔ mw_WP d 213 169 [l0, l1, l2, some (jI (w32 (x + (1)))), l4, l5] st σ Q := WP_iinc mq213 dd213_166 rfl (Nat.le_of_ble_eq_true rfl) (mw_nl_of (i := 2) rfl h) rfl
theorem dd213_169 : decode cX12_steps 169 = .ok (.goto (-165), 3) := by decide +kernel
theorem ww213_169 {d : Nat} {l0 l1 l2 l3 l4 l5 : Option mw_V} {st : List mw_V} {σ : mw_S} {Q : Option mw_V → mw_S → Prop} : mw_WP d 213 169 [l0, l1, l2, l3, l4, l5] st σ Q ↔ mw_WP d 213 4 [l0, l1, l2, l3, l4, l5] st σ Q := WP_goto mq213 dd213_169 (by decide)
theorem dd213_172 : decode cX12_steps 172 = .ok (.aload_n 0, 1) := by decide +kernel
theorem ww213_172 {d : Nat} {l1 l2 l3 l4 l5 : Option mw_V} {x : Nat} {st : List mw_V} {σ : mw_S} {Q : Option mw_V → mw_S → Prop} : mw_WP d 213 172 [some (jR x), l1, l2, l3, l4, l5] st σ Q ↔ mw_WP d 213 173 [some (jR x), l1, l2, l3, l4, l5] (jR x :: st) σ Q := WP_aload_n mq213 dd213_172 rfl
theorem dd213_173 : decode cX12_steps 173 = .ok (.iconst 0, 1) := by decide +kernel
theorem ww213_173 {d : Nat} {l0 l1 l2 l3 l4 l5 : Option mw_V} {st : List mw_V} {σ : mw_S} {Q : Option mw_V → mw_S → Prop} : mw_WP d 213 173 [l0, l1, l2, l3, l4, l5] st σ Q ↔ mw_WP d 213 174 [l0, l1, l2, l3, l4, l5] (jI (0) :: st) σ Q := WP_iconst mq213 dd213_173 (by decide)
theorem dd213_174 : decode cX12_steps 174 = .ok (.putfield 263, 3) := by decide +kernel
theorem ww213_174 {d : Nat} {l0 l1 l2 l3 l4 l5 : Option mw_V} {v : Int} {st : List mw_V} {σ : mw_S} {Q : Option mw_V → mw_S → Prop} : mw_WP d 213 174 [l0, l1, l2, l3, l4, l5] (jI v :: jR 100 :: st) σ Q ↔ mw_WP d 213 177 [l0, l1, l2, l3, l4, l5] st (upS σ 100 18 v) Q := WP_putI (ci := 11) (k := 18) mq213 dd213_174 (by decide) rfl
theorem dd213_177 : decode cX12_steps 177 = .ok (.iconst 0, 1) := by decide +kernel
theorem ww213_177 {d : Nat} {l0 l1 l2 l3 l4 l5 : Option mw_V} {st : List mw_V} {σ : mw_S} {Q : Option mw_V → mw_S → Prop} : mw_WP d 213 177 [l0, l1, l2, l3, l4, l5] st σ Q ↔ mw_WP d 213 178 [l0, l1, l2, l3, l4, l5] (jI (0) :: st) σ Q := WP_iconst mq213 dd213_177 (by decide)
theorem dd213_178 : decode cX12_steps 178 = .ok (.istore_n 3, 1) := by decide +kernel
theorem ww213_178 {d : Nat} {l0 l1 l2 l3 l4 l5 : Option mw_V} {x : Int} {st : List mw_V} {σ : mw_S} {Q : Option mw_V → mw_S → Prop} (h : mw_nlo l2 = true) : mw_WP d 213 178 [l0, l1, l2, l3, l4, l5] (jI x :: st) σ Q ↔ mw_WP d 213 179 [l0, l1, l2, some (jI x), l4, l5] st σ Q := WP_istore_n mq213 dd213_178 (Nat.le_of_ble_eq_true rfl) (mw_nl_of (i := 2) rfl h) rfl
theorem dd213_179 : decode cX12_steps 179 = .ok (.iload_n 3, 1) := by decide +kernel
theorem ww213_179 {d : Nat} {l0 l1 l2 l4 l5 : Option mw_V} {x : Int} {st : List mw_V} {σ : mw_S} {Q : Option mw_V → mw_S → Prop} : mw_WP d 213 179 [l0, l1, l2, some (jI x), l4, l5] st σ Q ↔ mw_WP d 213 180 [l0, l1, l2, some (jI x), l4, l5] (jI x :: st) σ Q := WP_iload_n mq213 dd213_179 rfl
theorem dd213_180 : decode cX12_steps 180 = .ok (.aload_n 0, 1) := by decide +kernel
theorem ww213_180 {d : Nat} {l1 l2 l3 l4 l5 : Option mw_V} {x : Nat} {st : List mw_V} {σ : mw_S} {Q : Option mw_V → mw_S → Prop} : mw_WP d 213 180 [some (jR x), l1, l2, l3, l4, l5] st σ Q ↔ mw_WP d 213 181 [some (jR x), l1, l2, l3, l4, l5] (jR x :: st) σ Q := WP_aload_n mq213 dd213_180 rfl
theorem dd213_181 : decode cX12_steps 181 = .ok (.getfield 13, 3) := by decide +kernel
theorem ww213_181 {d : Nat} {l0 l1 l2 l3 l4 l5 : Option mw_V} {st : List mw_V} {σ : mw_S} {Q : Option mw_V → mw_S → Prop} : mw_WP d 213 181 [l0, l1, l2, l3, l4, l5] (jR 100 :: st) σ Q ↔ mw_WP d 213 184 [l0, l1, l2, l3, l4, l5] (jR 101 :: st) σ Q := WP_getR (ci := 11) (k := 1) mq213 dd213_181 (by decide) rfl
theorem dd213_184 : decode cX12_steps 184 = .ok (.iconst 2, 1) := by decide +kernel
theorem ww213_184 {d : Nat} {l0 l1 l2 l3 l4 l5 : Option mw_V} {st : List mw_V} {σ : mw_S} {Q : Option mw_V → mw_S → Prop} : mw_WP d 213 184 [l0, l1, l2, l3, l4, l5] st σ Q ↔ mw_WP d 213 185 [l0, l1, l2, l3, l4, l5] (jI (2) :: st) σ Q := WP_iconst mq213 dd213_184 (by decide)
theorem dd213_185 : decode cX12_steps 185 = .ok (.iaload, 1) := by decide +kernel
theorem ww213_185 {d : Nat} {l0 l1 l2 l3 l4 l5 : Option mw_V} {z : Int} {a : Nat} {st : List mw_V} {σ : mw_S} {Q : Option mw_V → mw_S → Prop} : mw_WP d 213 185 [l0, l1, l2, l3, l4, l5] (jI z :: jR a :: st) σ Q ↔ ((0 ≤ z ∧ z < mw_lenI a) ∧ mw_WP d 213 186 [l0, l1, l2, l3, l4, l5] (jI (mw_rdI σ a z.toNat) :: st) σ Q) := WP_iaload mq213 dd213_185
theorem dd213_186 : decode cX12_steps 186 = .ok (.if_icmp .ge 131, 3) := by decide +kernel
theorem ww213_186 {d : Nat} {l0 l1 l2 l3 l4 l5 : Option mw_V} {x y : Int} {st : List mw_V} {σ : mw_S} {Q : Option mw_V → mw_S → Prop} : mw_WP d 213 186 [l0, l1, l2, l3, l4, l5] (jI y :: jI x :: st) σ Q ↔ (if y ≤ x then mw_WP d 213 317 [l0, l1, l2, l3, l4, l5] st σ Q else mw_WP d 213 189 [l0, l1, l2, l3, l4, l5] st σ Q) := WP_icmp_ge mq213 dd213_186 (by decide)
theorem dd213_189 : decode cX12_steps 189 = .ok (.aload_n 0, 1) := by decide +kernel
theorem ww213_189 {d : Nat} {l1 l2 l3 l4 l5 : Option mw_V} {x : Nat} {st : List mw_V} {σ : mw_S} {Q : Option mw_V → mw_S → Prop} : mw_WP d 213 189 [some (jR x), l1, l2, l3, l4, l5] st σ Q ↔ mw_WP d 213 190 [some (jR x), l1, l2, l3, l4, l5] (jR x :: st) σ Q := WP_aload_n mq213 dd213_189 rfl
theorem dd213_190 : decode cX12_steps 190 = .ok (.getfield 13, 3) := by decide +kernel
theorem ww213_190 {d : Nat} {l0 l1 l2 l3 l4 l5 : Option mw_V} {st : List mw_V} {σ : mw_S} {Q : Option mw_V → mw_S → Prop} : mw_WP d 213 190 [l0, l1, l2, l3, l4, l5] (jR 100 :: st) σ Q ↔ mw_WP d 213 193 [l0, l1, l2, l3, l4, l5] (jR 101 :: st) σ Q := WP_getR (ci := 11) (k := 1) mq213 dd213_190 (by decide) rfl
theorem dd213_193 : decode cX12_steps 193 = .ok (.bipush 47, 2) := by decide +kernel
theorem ww213_193 {d : Nat} {l0 l1 l2 l3 l4 l5 : Option mw_V} {st : List mw_V} {σ : mw_S} {Q : Option mw_V → mw_S → Prop} : mw_WP d 213 193 [l0, l1, l2, l3, l4, l5] st σ Q ↔ mw_WP d 213 195 [l0, l1, l2, l3, l4, l5] (jI (47) :: st) σ Q := WP_bipush mq213 dd213_193 (by decide)
theorem dd213_195 : decode cX12_steps 195 = .ok (.iload_n 3, 1) := by decide +kernel
theorem ww213_195 {d : Nat} {l0 l1 l2 l4 l5 : Option mw_V} {x : Int} {st : List mw_V} {σ : mw_S} {Q : Option mw_V → mw_S → Prop} : mw_WP d 213 195 [l0, l1, l2, some (jI x), l4, l5] st σ Q ↔ mw_WP d 213 196 [l0, l1, l2, some (jI x), l4, l5] (jI x :: st) σ Q := WP_iload_n mq213 dd213_195 rfl
theorem dd213_196 : decode cX12_steps 196 = .ok (.iadd, 1) := by decide +kernel
theorem ww213_196 {d : Nat} {l0 l1 l2 l3 l4 l5 : Option mw_V} {x y : Int} {st : List mw_V} {σ : mw_S} {Q : Option mw_V → mw_S → Prop} : mw_WP d 213 196 [l0, l1, l2, l3, l4, l5] (jI y :: jI x :: st) σ Q ↔ mw_WP d 213 197 [l0, l1, l2, l3, l4, l5] (jI (w32 (x + y)) :: st) σ Q := WP_iadd mq213 dd213_196
theorem dd213_197 : decode cX12_steps 197 = .ok (.aload_n 0, 1) := by decide +kernel
theorem ww213_197 {d : Nat} {l1 l2 l3 l4 l5 : Option mw_V} {x : Nat} {st : List mw_V} {σ : mw_S} {Q : Option mw_V → mw_S → Prop} : mw_WP d 213 197 [some (jR x), l1, l2, l3, l4, l5] st σ Q ↔ mw_WP d 213 198 [some (jR x), l1, l2, l3, l4, l5] (jR x :: st) σ Q := WP_aload_n mq213 dd213_197 rfl
theorem dd213_198 : decode cX12_steps 198 = .ok (.getfield 33, 3) := by decide +kernel
theorem ww213_198 {d : Nat} {l0 l1 l2 l3 l4 l5 : Option mw_V} {st : List mw_V} {σ : mw_S} {Q : Option mw_V → mw_S → Prop} : mw_WP d 213 198 [l0, l1, l2, l3, l4, l5] (jR 100 :: st) σ Q ↔ mw_WP d 213 201 [l0, l1, l2, l3, l4, l5] (jR 106 :: st) σ Q := WP_getR (ci := 11) (k := 17) mq213 dd213_198 (by decide) rfl
theorem dd213_201 : decode cX12_steps 201 = .ok (.iload_n 3, 1) := by decide +kernel
theorem ww213_201 {d : Nat} {l0 l1 l2 l4 l5 : Option mw_V} {x : Int} {st : List mw_V} {σ : mw_S} {Q : Option mw_V → mw_S → Prop} : mw_WP d 213 201 [l0, l1, l2, some (jI x), l4, l5] st σ Q ↔ mw_WP d 213 202 [l0, l1, l2, some (jI x), l4, l5] (jI x :: st) σ Q := WP_iload_n mq213 dd213_201 rfl
theorem dd213_202 : decode cX12_steps 202 = .ok (.iaload, 1) := by decide +kernel
theorem ww213_202 {d : Nat} {l0 l1 l2 l3 l4 l5 : Option mw_V} {z : Int} {a : Nat} {st : List mw_V} {σ : mw_S} {Q : Option mw_V → mw_S → Prop} : mw_WP d 213 202 [l0, l1, l2, l3, l4, l5] (jI z :: jR a :: st) σ Q ↔ ((0 ≤ z ∧ z < mw_lenI a) ∧ mw_WP d 213 203 [l0, l1, l2, l3, l4, l5] (jI (mw_rdI σ a z.toNat) :: st) σ Q) := WP_iaload mq213 dd213_202
theorem dd213_203 : decode cX12_steps 203 = .ok (.ifCond .eq 7, 3) := by decide +kernel
theorem ww213_203 {d : Nat} {l0 l1 l2 l3 l4 l5 : Option mw_V} {x : Int} {st : List mw_V} {σ : mw_S} {Q : Option mw_V → mw_S → Prop} : mw_WP d 213 203 [l0, l1, l2, l3, l4, l5] (jI x :: st) σ Q ↔ (if x = 0 then mw_WP d 213 210 [l0, l1, l2, l3, l4, l5] st σ Q else mw_WP d 213 206 [l0, l1, l2, l3, l4, l5] st σ Q) := WP_if_eq mq213 dd213_203 (by decide)
theorem dd213_206 : decode cX12_steps 206 = .ok (.iconst 0, 1) := by decide +kernel
theorem ww213_206 {d : Nat} {l0 l1 l2 l3 l4 l5 : Option mw_V} {st : List mw_V} {σ : mw_S} {Q : Option mw_V → mw_S → Prop} : mw_WP d 213 206 [l0, l1, l2, l3, l4, l5] st σ Q ↔ mw_WP d 213 207 [l0, l1, l2, l3, l4, l5] (jI (0) :: st) σ Q := WP_iconst mq213 dd213_206 (by decide)
theorem dd213_207 : decode cX12_steps 207 = .ok (.goto 33, 3) := by decide +kernel
theorem ww213_207 {d : Nat} {l0 l1 l2 l3 l4 l5 : Option mw_V} {st : List mw_V} {σ : mw_S} {Q : Option mw_V → mw_S → Prop} : mw_WP d 213 207 [l0, l1, l2, l3, l4, l5] st σ Q ↔ mw_WP d 213 240 [l0, l1, l2, l3, l4, l5] st σ Q := WP_goto mq213 dd213_207 (by decide)
theorem dd213_210 : decode cX12_steps 210 = .ok (.aload_n 0, 1) := by decide +kernel
theorem ww213_210 {d : Nat} {l1 l2 l3 l4 l5 : Option mw_V} {x : Nat} {st : List mw_V} {σ : mw_S} {Q : Option mw_V → mw_S → Prop} : mw_WP d 213 210 [some (jR x), l1, l2, l3, l4, l5] st σ Q ↔ mw_WP d 213 211 [some (jR x), l1, l2, l3, l4, l5] (jR x :: st) σ Q := WP_aload_n mq213 dd213_210 rfl
theorem dd213_211 : decode cX12_steps 211 = .ok (.getfield 13, 3) := by decide +kernel
theorem ww213_211 {d : Nat} {l0 l1 l2 l3 l4 l5 : Option mw_V} {st : List mw_V} {σ : mw_S} {Q : Option mw_V → mw_S → Prop} : mw_WP d 213 211 [l0, l1, l2, l3, l4, l5] (jR 100 :: st) σ Q ↔ mw_WP d 213 214 [l0, l1, l2, l3, l4, l5] (jR 101 :: st) σ Q := WP_getR (ci := 11) (k := 1) mq213 dd213_211 (by decide) rfl
theorem dd213_214 : decode cX12_steps 214 = .ok (.bipush 47, 2) := by decide +kernel
theorem ww213_214 {d : Nat} {l0 l1 l2 l3 l4 l5 : Option mw_V} {st : List mw_V} {σ : mw_S} {Q : Option mw_V → mw_S → Prop} : mw_WP d 213 214 [l0, l1, l2, l3, l4, l5] st σ Q ↔ mw_WP d 213 216 [l0, l1, l2, l3, l4, l5] (jI (47) :: st) σ Q := WP_bipush mq213 dd213_214 (by decide)
theorem dd213_216 : decode cX12_steps 216 = .ok (.iload_n 3, 1) := by decide +kernel
theorem ww213_216 {d : Nat} {l0 l1 l2 l4 l5 : Option mw_V} {x : Int} {st : List mw_V} {σ : mw_S} {Q : Option mw_V → mw_S → Prop} : mw_WP d 213 216 [l0, l1, l2, some (jI x), l4, l5] st σ Q ↔ mw_WP d 213 217 [l0, l1, l2, some (jI x), l4, l5] (jI x :: st) σ Q := WP_iload_n mq213 dd213_216 rfl
theorem dd213_217 : decode cX12_steps 217 = .ok (.iadd, 1) := by decide +kernel
theorem ww213_217 {d : Nat} {l0 l1 l2 l3 l4 l5 : Option mw_V} {x y : Int} {st : List mw_V} {σ : mw_S} {Q : Option mw_V → mw_S → Prop} : mw_WP d 213 217 [l0, l1, l2, l3, l4, l5] (jI y :: jI x :: st) σ Q ↔ mw_WP d 213 218 [l0, l1, l2, l3, l4, l5] (jI (w32 (x + y)) :: st) σ Q := WP_iadd mq213 dd213_217
theorem dd213_218 : decode cX12_steps 218 = .ok (.iaload, 1) := by decide +kernel
theorem ww213_218 {d : Nat} {l0 l1 l2 l3 l4 l5 : Option mw_V} {z : Int} {a : Nat} {st : List mw_V} {σ : mw_S} {Q : Option mw_V → mw_S → Prop} : mw_WP d 213 218 [l0, l1, l2, l3, l4, l5] (jI z :: jR a :: st) σ Q ↔ ((0 ≤ z ∧ z < mw_lenI a) ∧ mw_WP d 213 219 [l0, l1, l2, l3, l4, l5] (jI (mw_rdI σ a z.toNat) :: st) σ Q) := WP_iaload mq213 dd213_218
theorem dd213_219 : decode cX12_steps 219 = .ok (.bipush 9, 2) := by decide +kernel
theorem ww213_219 {d : Nat} {l0 l1 l2 l3 l4 l5 : Option mw_V} {st : List mw_V} {σ : mw_S} {Q : Option mw_V → mw_S → Prop} : mw_WP d 213 219 [l0, l1, l2, l3, l4, l5] st σ Q ↔ mw_WP d 213 221 [l0, l1, l2, l3, l4, l5] (jI (9) :: st) σ Q := WP_bipush mq213 dd213_219 (by decide)
theorem dd213_221 : decode cX12_steps 221 = .ok (.if_icmp .ge 17, 3) := by decide +kernel
theorem ww213_221 {d : Nat} {l0 l1 l2 l3 l4 l5 : Option mw_V} {x y : Int} {st : List mw_V} {σ : mw_S} {Q : Option mw_V → mw_S → Prop} : mw_WP d 213 221 [l0, l1, l2, l3, l4, l5] (jI y :: jI x :: st) σ Q ↔ (if y ≤ x then mw_WP d 213 238 [l0, l1, l2, l3, l4, l5] st σ Q else mw_WP d 213 224 [l0, l1, l2, l3, l4, l5] st σ Q) := WP_icmp_ge mq213 dd213_221 (by decide)
theorem dd213_224 : decode cX12_steps 224 = .ok (.aload_n 0, 1) := by decide +kernel
theorem ww213_224 {d : Nat} {l1 l2 l3 l4 l5 : Option mw_V} {x : Nat} {st : List mw_V} {σ : mw_S} {Q : Option mw_V → mw_S → Prop} : mw_WP d 213 224 [some (jR x), l1, l2, l3, l4, l5] st σ Q ↔ mw_WP d 213 225 [some (jR x), l1, l2, l3, l4, l5] (jR x :: st) σ Q := WP_aload_n mq213 dd213_224 rfl
theorem dd213_225 : decode cX12_steps 225 = .ok (.getfield 13, 3) := by decide +kernel
theorem ww213_225 {d : Nat} {l0 l1 l2 l3 l4 l5 : Option mw_V} {st : List mw_V} {σ : mw_S} {Q : Option mw_V → mw_S → Prop} : mw_WP d 213 225 [l0, l1, l2, l3, l4, l5] (jR 100 :: st) σ Q ↔ mw_WP d 213 228 [l0, l1, l2, l3, l4, l5] (jR 101 :: st) σ Q := WP_getR (ci := 11) (k := 1) mq213 dd213_225 (by decide) rfl
theorem dd213_228 : decode cX12_steps 228 = .ok (.bipush 47, 2) := by decide +kernel
theorem ww213_228 {d : Nat} {l0 l1 l2 l3 l4 l5 : Option mw_V} {st : List mw_V} {σ : mw_S} {Q : Option mw_V → mw_S → Prop} : mw_WP d 213 228 [l0, l1, l2, l3, l4, l5] st σ Q ↔ mw_WP d 213 230 [l0, l1, l2, l3, l4, l5] (jI (47) :: st) σ Q := WP_bipush mq213 dd213_228 (by decide)
theorem dd213_230 : decode cX12_steps 230 = .ok (.iload_n 3, 1) := by decide +kernel
theorem ww213_230 {d : Nat} {l0 l1 l2 l4 l5 : Option mw_V} {x : Int} {st : List mw_V} {σ : mw_S} {Q : Option mw_V → mw_S → Prop} : mw_WP d 213 230 [l0, l1, l2, some (jI x), l4, l5] st σ Q ↔ mw_WP d 213 231 [l0, l1, l2, some (jI x), l4, l5] (jI x :: st) σ Q := WP_iload_n mq213 dd213_230 rfl
theorem dd213_231 : decode cX12_steps 231 = .ok (.iadd, 1) := by decide +kernel
theorem ww213_231 {d : Nat} {l0 l1 l2 l3 l4 l5 : Option mw_V} {x y : Int} {st : List mw_V} {σ : mw_S} {Q : Option mw_V → mw_S → Prop} : mw_WP d 213 231 [l0, l1, l2, l3, l4, l5] (jI y :: jI x :: st) σ Q ↔ mw_WP d 213 232 [l0, l1, l2, l3, l4, l5] (jI (w32 (x + y)) :: st) σ Q := WP_iadd mq213 dd213_231
theorem dd213_232 : decode cX12_steps 232 = .ok (.iaload, 1) := by decide +kernel
theorem ww213_232 {d : Nat} {l0 l1 l2 l3 l4 l5 : Option mw_V} {z : Int} {a : Nat} {st : List mw_V} {σ : mw_S} {Q : Option mw_V → mw_S → Prop} : mw_WP d 213 232 [l0, l1, l2, l3, l4, l5] (jI z :: jR a :: st) σ Q ↔ ((0 ≤ z ∧ z < mw_lenI a) ∧ mw_WP d 213 233 [l0, l1, l2, l3, l4, l5] (jI (mw_rdI σ a z.toNat) :: st) σ Q) := WP_iaload mq213 dd213_232
theorem dd213_233 : decode cX12_steps 233 = .ok (.iconst 1, 1) := by decide +kernel
theorem ww213_233 {d : Nat} {l0 l1 l2 l3 l4 l5 : Option mw_V} {st : List mw_V} {σ : mw_S} {Q : Option mw_V → mw_S → Prop} : mw_WP d 213 233 [l0, l1, l2, l3, l4, l5] st σ Q ↔ mw_WP d 213 234 [l0, l1, l2, l3, l4, l5] (jI (1) :: st) σ Q := WP_iconst mq213 dd213_233 (by decide)
theorem dd213_234 : decode cX12_steps 234 = .ok (.iadd, 1) := by decide +kernel
theorem ww213_234 {d : Nat} {l0 l1 l2 l3 l4 l5 : Option mw_V} {x y : Int} {st : List mw_V} {σ : mw_S} {Q : Option mw_V → mw_S → Prop} : mw_WP d 213 234 [l0, l1, l2, l3, l4, l5] (jI y :: jI x :: st) σ Q ↔ mw_WP d 213 235 [l0, l1, l2, l3, l4, l5] (jI (w32 (x + y)) :: st) σ Q := WP_iadd mq213 dd213_234
theorem dd213_235 : decode cX12_steps 235 = .ok (.goto 5, 3) := by decide +kernel
theorem ww213_235 {d : Nat} {l0 l1 l2 l3 l4 l5 : Option mw_V} {st : List mw_V} {σ : mw_S} {Q : Option mw_V → mw_S → Prop} : mw_WP d 213 235 [l0, l1, l2, l3, l4, l5] st σ Q ↔ mw_WP d 213 240 [l0, l1, l2, l3, l4, l5] st σ Q := WP_goto mq213 dd213_235 (by decide)
theorem dd213_238 : decode cX12_steps 238 = .ok (.bipush 9, 2) := by decide +kernel
theorem ww213_238 {d : Nat} {l0 l1 l2 l3 l4 l5 : Option mw_V} {st : List mw_V} {σ : mw_S} {Q : Option mw_V → mw_S → Prop} : mw_WP d 213 238 [l0, l1, l2, l3, l4, l5] st σ Q ↔ mw_WP d 213 240 [l0, l1, l2, l3, l4, l5] (jI (9) :: st) σ Q := WP_bipush mq213 dd213_238 (by decide)
theorem dd213_240 : decode cX12_steps 240 = .ok (.iastore, 1) := by decide +kernel
theorem ww213_240 {d : Nat} {l0 l1 l2 l3 l4 l5 : Option mw_V} {x z : Int} {a : Nat} {st : List mw_V} {σ : mw_S} {Q : Option mw_V → mw_S → Prop} : mw_WP d 213 240 [l0, l1, l2, l3, l4, l5] (jI x :: jI z :: jR a :: st) σ Q ↔ ((0 ≤ z ∧ z < mw_lenW 0 a) ∧ mw_WP d 213 241 [l0, l1, l2, l3, l4, l5] st (upS σ a z.toNat x) Q) := WP_iastore mq213 dd213_240
theorem dd213_241 : decode cX12_steps 241 = .ok (.aload_n 0, 1) := by decide +kernel
theorem ww213_241 {d : Nat} {l1 l2 l3 l4 l5 : Option mw_V} {x : Nat} {st : List mw_V} {σ : mw_S} {Q : Option mw_V → mw_S → Prop} : mw_WP d 213 241 [some (jR x), l1, l2, l3, l4, l5] st σ Q ↔ mw_WP d 213 242 [some (jR x), l1, l2, l3, l4, l5] (jR x :: st) σ Q := WP_aload_n mq213 dd213_241 rfl
theorem dd213_242 : decode cX12_steps 242 = .ok (.iload_n 3, 1) := by decide +kernel
theorem ww213_242 {d : Nat} {l0 l1 l2 l4 l5 : Option mw_V} {x : Int} {st : List mw_V} {σ : mw_S} {Q : Option mw_V → mw_S → Prop} : mw_WP d 213 242 [l0, l1, l2, some (jI x), l4, l5] st σ Q ↔ mw_WP d 213 243 [l0, l1, l2, some (jI x), l4, l5] (jI x :: st) σ Q := WP_iload_n mq213 dd213_242 rfl
theorem dd213_243 : decode cX12_steps 243 = .ok (.aload_n 0, 1) := by decide +kernel
theorem ww213_243 {d : Nat} {l1 l2 l3 l4 l5 : Option mw_V} {x : Nat} {st : List mw_V} {σ : mw_S} {Q : Option mw_V → mw_S → Prop} : mw_WP d 213 243 [some (jR x), l1, l2, l3, l4, l5] st σ Q ↔ mw_WP d 213 244 [some (jR x), l1, l2, l3, l4, l5] (jR x :: st) σ Q := WP_aload_n mq213 dd213_243 rfl
theorem dd213_244 : decode cX12_steps 244 = .ok (.getfield 33, 3) := by decide +kernel
theorem ww213_244 {d : Nat} {l0 l1 l2 l3 l4 l5 : Option mw_V} {st : List mw_V} {σ : mw_S} {Q : Option mw_V → mw_S → Prop} : mw_WP d 213 244 [l0, l1, l2, l3, l4, l5] (jR 100 :: st) σ Q ↔ mw_WP d 213 247 [l0, l1, l2, l3, l4, l5] (jR 106 :: st) σ Q := WP_getR (ci := 11) (k := 17) mq213 dd213_244 (by decide) rfl
theorem dd213_247 : decode cX12_steps 247 = .ok (.iload_n 3, 1) := by decide +kernel
theorem ww213_247 {d : Nat} {l0 l1 l2 l4 l5 : Option mw_V} {x : Int} {st : List mw_V} {σ : mw_S} {Q : Option mw_V → mw_S → Prop} : mw_WP d 213 247 [l0, l1, l2, some (jI x), l4, l5] st σ Q ↔ mw_WP d 213 248 [l0, l1, l2, some (jI x), l4, l5] (jI x :: st) σ Q := WP_iload_n mq213 dd213_247 rfl
theorem dd213_248 : decode cX12_steps 248 = .ok (.iaload, 1) := by decide +kernel
theorem ww213_248 {d : Nat} {l0 l1 l2 l3 l4 l5 : Option mw_V} {z : Int} {a : Nat} {st : List mw_V} {σ : mw_S} {Q : Option mw_V → mw_S → Prop} : mw_WP d 213 248 [l0, l1, l2, l3, l4, l5] (jI z :: jR a :: st) σ Q ↔ ((0 ≤ z ∧ z < mw_lenI a) ∧ mw_WP d 213 249 [l0, l1, l2, l3, l4, l5] (jI (mw_rdI σ a z.toNat) :: st) σ Q) := WP_iaload mq213 dd213_248
theorem dd213_249 : decode cX12_steps 249 = .ok (.invokevirtual 266, 3) := by decide +kernel
theorem ww213_249 {d : Nat} {l0 l1 l2 l3 l4 l5 : Option mw_V} {v0 v1 : mw_V} {a : Nat} {st : List mw_V} {σ : mw_S} {Q : Option mw_V → mw_S → Prop} (hr : mw_rc a = 12) (h8 : (st.map mw_cat).sum ≤ 8) : mw_WP d 213 249 [l0, l1, l2, l3, l4, l5] (v1 :: v0 :: jR a :: st) σ Q ↔ mw_Call d 211 [jR a, v0, v1] σ (fun r1 s1 => mw_WP d 213 252 [l0, l1, l2, l3, l4, l5] (r1.toList ++ st) s1 Q) := WP_inv (as := [v1, v0]) mq213 dd213_249 (by decide) mq211 rfl hr h8
theorem dd213_252 : decode cX12_steps 252 = .ok (.istore 4, 2) := by decide +kernel
theorem ww213_252 {d : Nat} {l0 l1 l2 l3 l4 l5 : Option mw_V} {x : Int} {st : List mw_V} {σ : mw_S} {Q : Option mw_V → mw_S → Prop} (h : mw_nlo l3 = true) : mw_WP d 213 252 [l0, l1, l2, l3, l4, l5] (jI x :: st) σ Q ↔ mw_WP d 213 254 [l0, l1, l2, l3, some (jI x), l5] st σ Q := WP_istore mq213 dd213_252 (Nat.le_of_ble_eq_true rfl) (mw_nl_of (i := 3) rfl h) rfl
theorem dd213_254 : decode cX12_steps 254 = .ok (.aload_n 0, 1) := by decide +kernel
theorem ww213_254 {d : Nat} {l1 l2 l3 l4 l5 : Option mw_V} {x : Nat} {st : List mw_V} {σ : mw_S} {Q : Option mw_V → mw_S → Prop} : mw_WP d 213 254 [some (jR x), l1, l2, l3, l4, l5] st σ Q ↔ mw_WP d 213 255 [some (jR x), l1, l2, l3, l4, l5] (jR x :: st) σ Q := WP_aload_n mq213 dd213_254 rfl
theorem dd213_255 : decode cX12_steps 255 = .ok (.getfield 13, 3) := by decide +kernel
theorem ww213_255 {d : Nat} {l0 l1 l2 l3 l4 l5 : Option mw_V} {st : List mw_V} {σ : mw_S} {Q : Option mw_V → mw_S → Prop} : mw_WP d 213 255 [l0, l1, l2, l3, l4, l5] (jR 100 :: st) σ Q ↔ mw_WP d 213 258 [l0, l1, l2, l3, l4, l5] (jR 101 :: st) σ Q := WP_getR (ci := 11) (k := 1) mq213 dd213_255 (by decide) rfl
theorem dd213_258 : decode cX12_steps 258 = .ok (.bipush 82, 2) := by decide +kernel
theorem ww213_258 {d : Nat} {l0 l1 l2 l3 l4 l5 : Option mw_V} {st : List mw_V} {σ : mw_S} {Q : Option mw_V → mw_S → Prop} : mw_WP d 213 258 [l0, l1, l2, l3, l4, l5] st σ Q ↔ mw_WP d 213 260 [l0, l1, l2, l3, l4, l5] (jI (82) :: st) σ Q := WP_bipush mq213 dd213_258 (by decide)
theorem dd213_260 : decode cX12_steps 260 = .ok (.iload_n 3, 1) := by decide +kernel
theorem ww213_260 {d : Nat} {l0 l1 l2 l4 l5 : Option mw_V} {x : Int} {st : List mw_V} {σ : mw_S} {Q : Option mw_V → mw_S → Prop} : mw_WP d 213 260 [l0, l1, l2, some (jI x), l4, l5] st σ Q ↔ mw_WP d 213 261 [l0, l1, l2, some (jI x), l4, l5] (jI x :: st) σ Q := WP_iload_n mq213 dd213_260 rfl
theorem dd213_261 : decode cX12_steps 261 = .ok (.iadd, 1) := by decide +kernel
theorem ww213_261 {d : Nat} {l0 l1 l2 l3 l4 l5 : Option mw_V} {x y : Int} {st : List mw_V} {σ : mw_S} {Q : Option mw_V → mw_S → Prop} : mw_WP d 213 261 [l0, l1, l2, l3, l4, l5] (jI y :: jI x :: st) σ Q ↔ mw_WP d 213 262 [l0, l1, l2, l3, l4, l5] (jI (w32 (x + y)) :: st) σ Q := WP_iadd mq213 dd213_261
theorem dd213_262 : decode cX12_steps 262 = .ok (.iload 4, 2) := by decide +kernel
theorem ww213_262 {d : Nat} {l0 l1 l2 l3 l5 : Option mw_V} {x : Int} {st : List mw_V} {σ : mw_S} {Q : Option mw_V → mw_S → Prop} : mw_WP d 213 262 [l0, l1, l2, l3, some (jI x), l5] st σ Q ↔ mw_WP d 213 264 [l0, l1, l2, l3, some (jI x), l5] (jI x :: st) σ Q := WP_iload mq213 dd213_262 rfl
theorem dd213_264 : decode cX12_steps 264 = .ok (.iastore, 1) := by decide +kernel
theorem ww213_264 {d : Nat} {l0 l1 l2 l3 l4 l5 : Option mw_V} {x z : Int} {a : Nat} {st : List mw_V} {σ : mw_S} {Q : Option mw_V → mw_S → Prop} : mw_WP d 213 264 [l0, l1, l2, l3, l4, l5] (jI x :: jI z :: jR a :: st) σ Q ↔ ((0 ≤ z ∧ z < mw_lenW 0 a) ∧ mw_WP d 213 265 [l0, l1, l2, l3, l4, l5] st (upS σ a z.toNat x) Q) := WP_iastore mq213 dd213_264
theorem dd213_265 : decode cX12_steps 265 = .ok (.aload_n 0, 1) := by decide +kernel
theorem ww213_265 {d : Nat} {l1 l2 l3 l4 l5 : Option mw_V} {x : Nat} {st : List mw_V} {σ : mw_S} {Q : Option mw_V → mw_S → Prop} : mw_WP d 213 265 [some (jR x), l1, l2, l3, l4, l5] st σ Q ↔ mw_WP d 213 266 [some (jR x), l1, l2, l3, l4, l5] (jR x :: st) σ Q := WP_aload_n mq213 dd213_265 rfl
theorem dd213_266 : decode cX12_steps 266 = .ok (.getfield 13, 3) := by decide +kernel
theorem ww213_266 {d : Nat} {l0 l1 l2 l3 l4 l5 : Option mw_V} {st : List mw_V} {σ : mw_S} {Q : Option mw_V → mw_S → Prop} : mw_WP d 213 266 [l0, l1, l2, l3, l4, l5] (jR 100 :: st) σ Q ↔ mw_WP d 213 269 [l0, l1, l2, l3, l4, l5] (jR 101 :: st) σ Q := WP_getR (ci := 11) (k := 1) mq213 dd213_266 (by decide) rfl
theorem dd213_269 : decode cX12_steps 269 = .ok (.bipush 85, 2) := by decide +kernel
theorem ww213_269 {d : Nat} {l0 l1 l2 l3 l4 l5 : Option mw_V} {st : List mw_V} {σ : mw_S} {Q : Option mw_V → mw_S → Prop} : mw_WP d 213 269 [l0, l1, l2, l3, l4, l5] st σ Q ↔ mw_WP d 213 271 [l0, l1, l2, l3, l4, l5] (jI (85) :: st) σ Q := WP_bipush mq213 dd213_269 (by decide)
theorem dd213_271 : decode cX12_steps 271 = .ok (.iload_n 3, 1) := by decide +kernel
theorem ww213_271 {d : Nat} {l0 l1 l2 l4 l5 : Option mw_V} {x : Int} {st : List mw_V} {σ : mw_S} {Q : Option mw_V → mw_S → Prop} : mw_WP d 213 271 [l0, l1, l2, some (jI x), l4, l5] st σ Q ↔ mw_WP d 213 272 [l0, l1, l2, some (jI x), l4, l5] (jI x :: st) σ Q := WP_iload_n mq213 dd213_271 rfl
theorem dd213_272 : decode cX12_steps 272 = .ok (.iadd, 1) := by decide +kernel
theorem ww213_272 {d : Nat} {l0 l1 l2 l3 l4 l5 : Option mw_V} {x y : Int} {st : List mw_V} {σ : mw_S} {Q : Option mw_V → mw_S → Prop} : mw_WP d 213 272 [l0, l1, l2, l3, l4, l5] (jI y :: jI x :: st) σ Q ↔ mw_WP d 213 273 [l0, l1, l2, l3, l4, l5] (jI (w32 (x + y)) :: st) σ Q := WP_iadd mq213 dd213_272
theorem dd213_273 : decode cX12_steps 273 = .ok (.aload_n 0, 1) := by decide +kernel
theorem ww213_273 {d : Nat} {l1 l2 l3 l4 l5 : Option mw_V} {x : Nat} {st : List mw_V} {σ : mw_S} {Q : Option mw_V → mw_S → Prop} : mw_WP d 213 273 [some (jR x), l1, l2, l3, l4, l5] st σ Q ↔ mw_WP d 213 274 [some (jR x), l1, l2, l3, l4, l5] (jR x :: st) σ Q := WP_aload_n mq213 dd213_273 rfl
theorem dd213_274 : decode cX12_steps 274 = .ok (.iload_n 3, 1) := by decide +kernel
theorem ww213_274 {d : Nat} {l0 l1 l2 l4 l5 : Option mw_V} {x : Int} {st : List mw_V} {σ : mw_S} {Q : Option mw_V → mw_S → Prop} : mw_WP d 213 274 [l0, l1, l2, some (jI x), l4, l5] st σ Q ↔ mw_WP d 213 275 [l0, l1, l2, some (jI x), l4, l5] (jI x :: st) σ Q := WP_iload_n mq213 dd213_274 rfl
theorem dd213_275 : decode cX12_steps 275 = .ok (.iconst 3, 1) := by decide +kernel
theorem ww213_275 {d : Nat} {l0 l1 l2 l3 l4 l5 : Option mw_V} {st : List mw_V} {σ : mw_S} {Q : Option mw_V → mw_S → Prop} : mw_WP d 213 275 [l0, l1, l2, l3, l4, l5] st σ Q ↔ mw_WP d 213 276 [l0, l1, l2, l3, l4, l5] (jI (3) :: st) σ Q := WP_iconst mq213 dd213_275 (by decide)
theorem dd213_276 : decode cX12_steps 276 = .ok (.iadd, 1) := by decide +kernel
theorem ww213_276 {d : Nat} {l0 l1 l2 l3 l4 l5 : Option mw_V} {x y : Int} {st : List mw_V} {σ : mw_S} {Q : Option mw_V → mw_S → Prop} : mw_WP d 213 276 [l0, l1, l2, l3, l4, l5] (jI y :: jI x :: st) σ Q ↔ mw_WP d 213 277 [l0, l1, l2, l3, l4, l5] (jI (w32 (x + y)) :: st) σ Q := WP_iadd mq213 dd213_276
theorem dd213_277 : decode cX12_steps 277 = .ok (.iload 4, 2) := by decide +kernel
theorem ww213_277 {d : Nat} {l0 l1 l2 l3 l5 : Option mw_V} {x : Int} {st : List mw_V} {σ : mw_S} {Q : Option mw_V → mw_S → Prop} : mw_WP d 213 277 [l0, l1, l2, l3, some (jI x), l5] st σ Q ↔ mw_WP d 213 279 [l0, l1, l2, l3, some (jI x), l5] (jI x :: st) σ Q := WP_iload mq213 dd213_277 rfl
theorem dd213_279 : decode cX12_steps 279 = .ok (.invokevirtual 260, 3) := by decide +kernel
theorem ww213_279 {d : Nat} {l0 l1 l2 l3 l4 l5 : Option mw_V} {v0 v1 : mw_V} {a : Nat} {st : List mw_V} {σ : mw_S} {Q : Option mw_V → mw_S → Prop} (hr : mw_rc a = 12) (h8 : (st.map mw_cat).sum ≤ 8) : mw_WP d 213 279 [l0, l1, l2, l3, l4, l5] (v1 :: v0 :: jR a :: st) σ Q ↔ mw_Call d 205 [jR a, v0, v1] σ (fun r1 s1 => mw_WP d 213 282 [l0, l1, l2, l3, l4, l5] (r1.toList ++ st) s1 Q) := WP_inv (as := [v1, v0]) mq213 dd213_279 (by decide) mq205 rfl hr h8
theorem dd213_282 : decode cX12_steps 282 = .ok (.ifCond .eq 7, 3) := by decide +kernel
theorem ww213_282 {d : Nat} {l0 l1 l2 l3 l4 l5 : Option mw_V} {x : Int} {st : List mw_V} {σ : mw_S} {Q : Option mw_V → mw_S → Prop} : mw_WP d 213 282 [l0, l1, l2, l3, l4, l5] (jI x :: st) σ Q ↔ (if x = 0 then mw_WP d 213 289 [l0, l1, l2, l3, l4, l5] st σ Q else mw_WP d 213 285 [l0, l1, l2, l3, l4, l5] st σ Q) := WP_if_eq mq213 dd213_282 (by decide)
theorem dd213_285 : decode cX12_steps 285 = .ok (.iconst 1, 1) := by decide +kernel
theorem ww213_285 {d : Nat} {l0 l1 l2 l3 l4 l5 : Option mw_V} {st : List mw_V} {σ : mw_S} {Q : Option mw_V → mw_S → Prop} : mw_WP d 213 285 [l0, l1, l2, l3, l4, l5] st σ Q ↔ mw_WP d 213 286 [l0, l1, l2, l3, l4, l5] (jI (1) :: st) σ Q := WP_iconst mq213 dd213_285 (by decide)
theorem dd213_286 : decode cX12_steps 286 = .ok (.goto 4, 3) := by decide +kernel
theorem ww213_286 {d : Nat} {l0 l1 l2 l3 l4 l5 : Option mw_V} {st : List mw_V} {σ : mw_S} {Q : Option mw_V → mw_S → Prop} : mw_WP d 213 286 [l0, l1, l2, l3, l4, l5] st σ Q ↔ mw_WP d 213 290 [l0, l1, l2, l3, l4, l5] st σ Q := WP_goto mq213 dd213_286 (by decide)
theorem dd213_289 : decode cX12_steps 289 = .ok (.iconst 0, 1) := by decide +kernel
theorem ww213_289 {d : Nat} {l0 l1 l2 l3 l4 l5 : Option mw_V} {st : List mw_V} {σ : mw_S} {Q : Option mw_V → mw_S → Prop} : mw_WP d 213 289 [l0, l1, l2, l3, l4, l5] st σ Q ↔ mw_WP d 213 290 [l0, l1, l2, l3, l4, l5] (jI (0) :: st) σ Q := WP_iconst mq213 dd213_289 (by decide)
theorem dd213_290 : decode cX12_steps 290 = .ok (.iastore, 1) := by decide +kernel
theorem ww213_290 {d : Nat} {l0 l1 l2 l3 l4 l5 : Option mw_V} {x z : Int} {a : Nat} {st : List mw_V} {σ : mw_S} {Q : Option mw_V → mw_S → Prop} : mw_WP d 213 290 [l0, l1, l2, l3, l4, l5] (jI x :: jI z :: jR a :: st) σ Q ↔ ((0 ≤ z ∧ z < mw_lenW 0 a) ∧ mw_WP d 213 291 [l0, l1, l2, l3, l4, l5] st (upS σ a z.toNat x) Q) := WP_iastore mq213 dd213_290
theorem dd213_291 : decode cX12_steps 291 = .ok (.aload_n 0, 1) := by decide +kernel
theorem ww213_291 {d : Nat} {l1 l2 l3 l4 l5 : Option mw_V} {x : Nat} {st : List mw_V} {σ : mw_S} {Q : Option mw_V → mw_S → Prop} : mw_WP d 213 291 [some (jR x), l1, l2, l3, l4, l5] st σ Q ↔ mw_WP d 213 292 [some (jR x), l1, l2, l3, l4, l5] (jR x :: st) σ Q := WP_aload_n mq213 dd213_291 rfl
theorem dd213_292 : decode cX12_steps 292 = .ok (.dup, 1) := by decide +kernel
theorem ww213_292 {d : Nat} {l0 l1 l2 l3 l4 l5 : Option mw_V} {v : mw_V} {st : List mw_V} {σ : mw_S} {Q : Option mw_V → mw_S → Prop} (h : mw_cat v = 1) : mw_WP d 213 292 [l0, l1, l2, l3, l4, l5] (v :: st) σ Q ↔ mw_WP d 213 293 [l0, l1, l2, l3, l4, l5] (v :: v :: st) σ Q := WP_dup mq213 dd213_292 h
theorem dd213_293 : decode cX12_steps 293 = .ok (.getfield 263, 3) := by decide +kernel
theorem ww213_293 {d : Nat} {l0 l1 l2 l3 l4 l5 : Option mw_V} {st : List mw_V} {σ : mw_S} {Q : Option mw_V → mw_S → Prop} : mw_WP d 213 293 [l0, l1, l2, l3, l4, l5] (jR 100 :: st) σ Q ↔ mw_WP d 213 296 [l0, l1, l2, l3, l4, l5] (jI (σ 100 18) :: st) σ Q := WP_getI (ci := 11) (k := 18) mq213 dd213_293 (by decide) (Or.inl rfl)
theorem dd213_296 : decode cX12_steps 296 = .ok (.iconst 1, 1) := by decide +kernel
theorem ww213_296 {d : Nat} {l0 l1 l2 l3 l4 l5 : Option mw_V} {st : List mw_V} {σ : mw_S} {Q : Option mw_V → mw_S → Prop} : mw_WP d 213 296 [l0, l1, l2, l3, l4, l5] st σ Q ↔ mw_WP d 213 297 [l0, l1, l2, l3, l4, l5] (jI (1) :: st) σ Q := WP_iconst mq213 dd213_296 (by decide)
theorem dd213_297 : decode cX12_steps 297 = .ok (.aload_n 0, 1) := by decide +kernel
theorem ww213_297 {d : Nat} {l1 l2 l3 l4 l5 : Option mw_V} {x : Nat} {st : List mw_V} {σ : mw_S} {Q : Option mw_V → mw_S → Prop} : mw_WP d 213 297 [some (jR x), l1, l2, l3, l4, l5] st σ Q ↔ mw_WP d 213 298 [some (jR x), l1, l2, l3, l4, l5] (jR x :: st) σ Q := WP_aload_n mq213 dd213_297 rfl
theorem dd213_298 : decode cX12_steps 298 = .ok (.getfield 13, 3) := by decide +kernel
theorem ww213_298 {d : Nat} {l0 l1 l2 l3 l4 l5 : Option mw_V} {st : List mw_V} {σ : mw_S} {Q : Option mw_V → mw_S → Prop} : mw_WP d 213 298 [l0, l1, l2, l3, l4, l5] (jR 100 :: st) σ Q ↔ mw_WP d 213 301 [l0, l1, l2, l3, l4, l5] (jR 101 :: st) σ Q := WP_getR (ci := 11) (k := 1) mq213 dd213_298 (by decide) rfl
theorem dd213_301 : decode cX12_steps 301 = .ok (.bipush 85, 2) := by decide +kernel
theorem ww213_301 {d : Nat} {l0 l1 l2 l3 l4 l5 : Option mw_V} {st : List mw_V} {σ : mw_S} {Q : Option mw_V → mw_S → Prop} : mw_WP d 213 301 [l0, l1, l2, l3, l4, l5] st σ Q ↔ mw_WP d 213 303 [l0, l1, l2, l3, l4, l5] (jI (85) :: st) σ Q := WP_bipush mq213 dd213_301 (by decide)
theorem dd213_303 : decode cX12_steps 303 = .ok (.iload_n 3, 1) := by decide +kernel
theorem ww213_303 {d : Nat} {l0 l1 l2 l4 l5 : Option mw_V} {x : Int} {st : List mw_V} {σ : mw_S} {Q : Option mw_V → mw_S → Prop} : mw_WP d 213 303 [l0, l1, l2, some (jI x), l4, l5] st σ Q ↔ mw_WP d 213 304 [l0, l1, l2, some (jI x), l4, l5] (jI x :: st) σ Q := WP_iload_n mq213 dd213_303 rfl
theorem dd213_304 : decode cX12_steps 304 = .ok (.iadd, 1) := by decide +kernel
theorem ww213_304 {d : Nat} {l0 l1 l2 l3 l4 l5 : Option mw_V} {x y : Int} {st : List mw_V} {σ : mw_S} {Q : Option mw_V → mw_S → Prop} : mw_WP d 213 304 [l0, l1, l2, l3, l4, l5] (jI y :: jI x :: st) σ Q ↔ mw_WP d 213 305 [l0, l1, l2, l3, l4, l5] (jI (w32 (x + y)) :: st) σ Q := WP_iadd mq213 dd213_304
theorem dd213_305 : decode cX12_steps 305 = .ok (.iaload, 1) := by decide +kernel
theorem ww213_305 {d : Nat} {l0 l1 l2 l3 l4 l5 : Option mw_V} {z : Int} {a : Nat} {st : List mw_V} {σ : mw_S} {Q : Option mw_V → mw_S → Prop} : mw_WP d 213 305 [l0, l1, l2, l3, l4, l5] (jI z :: jR a :: st) σ Q ↔ ((0 ≤ z ∧ z < mw_lenI a) ∧ mw_WP d 213 306 [l0, l1, l2, l3, l4, l5] (jI (mw_rdI σ a z.toNat) :: st) σ Q) := WP_iaload mq213 dd213_305
theorem dd213_306 : decode cX12_steps 306 = .ok (.isub, 1) := by decide +kernel
theorem ww213_306 {d : Nat} {l0 l1 l2 l3 l4 l5 : Option mw_V} {x y : Int} {st : List mw_V} {σ : mw_S} {Q : Option mw_V → mw_S → Prop} : mw_WP d 213 306 [l0, l1, l2, l3, l4, l5] (jI y :: jI x :: st) σ Q ↔ mw_WP d 213 307 [l0, l1, l2, l3, l4, l5] (jI (w32 (x - y)) :: st) σ Q := WP_isub mq213 dd213_306
theorem dd213_307 : decode cX12_steps 307 = .ok (.iadd, 1) := by decide +kernel
theorem ww213_307 {d : Nat} {l0 l1 l2 l3 l4 l5 : Option mw_V} {x y : Int} {st : List mw_V} {σ : mw_S} {Q : Option mw_V → mw_S → Prop} : mw_WP d 213 307 [l0, l1, l2, l3, l4, l5] (jI y :: jI x :: st) σ Q ↔ mw_WP d 213 308 [l0, l1, l2, l3, l4, l5] (jI (w32 (x + y)) :: st) σ Q := WP_iadd mq213 dd213_307
theorem dd213_308 : decode cX12_steps 308 = .ok (.putfield 263, 3) := by decide +kernel
theorem ww213_308 {d : Nat} {l0 l1 l2 l3 l4 l5 : Option mw_V} {v : Int} {st : List mw_V} {σ : mw_S} {Q : Option mw_V → mw_S → Prop} : mw_WP d 213 308 [l0, l1, l2, l3, l4, l5] (jI v :: jR 100 :: st) σ Q ↔ mw_WP d 213 311 [l0, l1, l2, l3, l4, l5] st (upS σ 100 18 v) Q := WP_putI (ci := 11) (k := 18) mq213 dd213_308 (by decide) rfl
theorem dd213_311 : decode cX12_steps 311 = .ok (.iinc 3 1, 3) := by decide +kernel
theorem ww213_311 {d : Nat} {l0 l1 l2 l4 l5 : Option mw_V} {x : Int} {st : List mw_V} {σ : mw_S} {Q : Option mw_V → mw_S → Prop} (h : mw_nlo l2 = true) : mw_WP d 213 311 [l0, l1, l2, some (jI x), l4, l5] st σ Q ↔ mw_WP d 213 314 [l0, l1, l2, some (jI (w32 (x + (1)))), l4, l5] st σ Q := WP_iinc mq213 dd213_311 rfl (Nat.le_of_ble_eq_true rfl) (mw_nl_of (i := 2) rfl h) rfl
theorem dd213_314 : decode cX12_steps 314 = .ok (.goto (-135), 3) := by decide +kernel
theorem ww213_314 {d : Nat} {l0 l1 l2 l3 l4 l5 : Option mw_V} {st : List mw_V} {σ : mw_S} {Q : Option mw_V → mw_S → Prop} : mw_WP d 213 314 [l0, l1, l2, l3, l4, l5] st σ Q ↔ mw_WP d 213 179 [l0, l1, l2, l3, l4, l5] st σ Q := WP_goto mq213 dd213_314 (by decide)
theorem dd213_317 : decode cX12_steps 317 = .ok (.aload_n 0, 1) := by decide +kernel
theorem ww213_317 {d : Nat} {l1 l2 l3 l4 l5 : Option mw_V} {x : Nat} {st : List mw_V} {σ : mw_S} {Q : Option mw_V → mw_S → Prop} : mw_WP d 213 317 [some (jR x), l1, l2, l3, l4, l5] st σ Q ↔ mw_WP d 213 318 [some (jR x), l1, l2, l3, l4, l5] (jR x :: st) σ Q := WP_aload_n mq213 dd213_317 rfl
theorem dd213_318 : decode cX12_steps 318 = .ok (.invokevirtual 269, 3) := by decide +kernel
theorem ww213_318 {d : Nat} {l0 l1 l2 l3 l4 l5 : Option mw_V} {a : Nat} {st : List mw_V} {σ : mw_S} {Q : Option mw_V → mw_S → Prop} (hr : mw_rc a = 12) (h8 : (st.map mw_cat).sum ≤ 8) : mw_WP d 213 318 [l0, l1, l2, l3, l4, l5] (jR a :: st) σ Q ↔ mw_Call d 212 [jR a] σ (fun r1 s1 => mw_WP d 213 321 [l0, l1, l2, l3, l4, l5] (r1.toList ++ st) s1 Q) := WP_inv (as := []) mq213 dd213_318 (by decide) mq212 rfl hr h8
theorem dd213_321 : decode cX12_steps 321 = .ok (.aload_n 0, 1) := by decide +kernel
theorem ww213_321 {d : Nat} {l1 l2 l3 l4 l5 : Option mw_V} {x : Nat} {st : List mw_V} {σ : mw_S} {Q : Option mw_V → mw_S → Prop} : mw_WP d 213 321 [some (jR x), l1, l2, l3, l4, l5] st σ Q ↔ mw_WP d 213 322 [some (jR x), l1, l2, l3, l4, l5] (jR x :: st) σ Q := WP_aload_n mq213 dd213_321 rfl
theorem dd213_322 : decode cX12_steps 322 = .ok (.getfield 13, 3) := by decide +kernel
theorem ww213_322 {d : Nat} {l0 l1 l2 l3 l4 l5 : Option mw_V} {st : List mw_V} {σ : mw_S} {Q : Option mw_V → mw_S → Prop} : mw_WP d 213 322 [l0, l1, l2, l3, l4, l5] (jR 100 :: st) σ Q ↔ mw_WP d 213 325 [l0, l1, l2, l3, l4, l5] (jR 101 :: st) σ Q := WP_getR (ci := 11) (k := 1) mq213 dd213_322 (by decide) rfl
theorem dd213_325 : decode cX12_steps 325 = .ok (.bipush 75, 2) := by decide +kernel
theorem ww213_325 {d : Nat} {l0 l1 l2 l3 l4 l5 : Option mw_V} {st : List mw_V} {σ : mw_S} {Q : Option mw_V → mw_S → Prop} : mw_WP d 213 325 [l0, l1, l2, l3, l4, l5] st σ Q ↔ mw_WP d 213 327 [l0, l1, l2, l3, l4, l5] (jI (75) :: st) σ Q := WP_bipush mq213 dd213_325 (by decide)
theorem dd213_327 : decode cX12_steps 327 = .ok (.dup2, 1) := by decide +kernel
theorem ww213_327 {d : Nat} {l0 l1 l2 l3 l4 l5 : Option mw_V} {v w : mw_V} {st : List mw_V} {σ : mw_S} {Q : Option mw_V → mw_S → Prop} (h : mw_cat v = 1) (h2 : mw_cat w = 1) : mw_WP d 213 327 [l0, l1, l2, l3, l4, l5] (v :: w :: st) σ Q ↔ mw_WP d 213 328 [l0, l1, l2, l3, l4, l5] (v :: w :: v :: w :: st) σ Q := WP_dup2 mq213 dd213_327 h h2
theorem dd213_328 : decode cX12_steps 328 = .ok (.iaload, 1) := by decide +kernel
theorem ww213_328 {d : Nat} {l0 l1 l2 l3 l4 l5 : Option mw_V} {z : Int} {a : Nat} {st : List mw_V} {σ : mw_S} {Q : Option mw_V → mw_S → Prop} : mw_WP d 213 328 [l0, l1, l2, l3, l4, l5] (jI z :: jR a :: st) σ Q ↔ ((0 ≤ z ∧ z < mw_lenI a) ∧ mw_WP d 213 329 [l0, l1, l2, l3, l4, l5] (jI (mw_rdI σ a z.toNat) :: st) σ Q) := WP_iaload mq213 dd213_328
theorem dd213_329 : decode cX12_steps 329 = .ok (.iconst 1, 1) := by decide +kernel
theorem ww213_329 {d : Nat} {l0 l1 l2 l3 l4 l5 : Option mw_V} {st : List mw_V} {σ : mw_S} {Q : Option mw_V → mw_S → Prop} : mw_WP d 213 329 [l0, l1, l2, l3, l4, l5] st σ Q ↔ mw_WP d 213 330 [l0, l1, l2, l3, l4, l5] (jI (1) :: st) σ Q := WP_iconst mq213 dd213_329 (by decide)
theorem dd213_330 : decode cX12_steps 330 = .ok (.iadd, 1) := by decide +kernel
theorem ww213_330 {d : Nat} {l0 l1 l2 l3 l4 l5 : Option mw_V} {x y : Int} {st : List mw_V} {σ : mw_S} {Q : Option mw_V → mw_S → Prop} : mw_WP d 213 330 [l0, l1, l2, l3, l4, l5] (jI y :: jI x :: st) σ Q ↔ mw_WP d 213 331 [l0, l1, l2, l3, l4, l5] (jI (w32 (x + y)) :: st) σ Q := WP_iadd mq213 dd213_330
theorem dd213_331 : decode cX12_steps 331 = .ok (.iastore, 1) := by decide +kernel
theorem ww213_331 {d : Nat} {l0 l1 l2 l3 l4 l5 : Option mw_V} {x z : Int} {a : Nat} {st : List mw_V} {σ : mw_S} {Q : Option mw_V → mw_S → Prop} : mw_WP d 213 331 [l0, l1, l2, l3, l4, l5] (jI x :: jI z :: jR a :: st) σ Q ↔ ((0 ≤ z ∧ z < mw_lenW 0 a) ∧ mw_WP d 213 332 [l0, l1, l2, l3, l4, l5] st (upS σ a z.toNat x) Q) := WP_iastore mq213 dd213_331
theorem dd213_332 : decode cX12_steps 332 = .ok (.return_, 1) := by decide +kernel
theorem ww213_332 {d : Nat} {l0 l1 l2 l3 l4 l5 : Option mw_V} {σ : mw_S} {Q : Option mw_V → mw_S → Prop} : mw_WP d 213 332 [l0, l1, l2, l3, l4, l5] [] σ Q ↔ Q none σ := WP_return mq213 dd213_332 rfl
theorem ee214 {d : Nat} {a : Nat} {σ : mw_S} {Q : Option mw_V → mw_S → Prop} : mw_Call (d + 1) 214 [jR a] σ Q ↔ mw_WP d 214 0 [some (jR a), none] [] σ Q := CL_u mq214 (Nat.le_of_ble_eq_true rfl) rfl
theorem dd214_0 : decode cX12_keeps 0 = .ok (.iconst 0, 1) := by decide +kernel
theorem ww214_0 {d : Nat} {l0 l1 : Option mw_V} {st : List mw_V} {σ : mw_S} {Q : Option mw_V → mw_S → Prop} : mw_WP d 214 0 [l0, l1] st σ Q ↔ mw_WP d 214 1 [l0, l1] (jI (0) :: st) σ Q := WP_iconst mq214 dd214_0 (by decide)
theorem dd214_1 : decode cX12_keeps 1 = .ok (.istore_n 1, 1) := by decide +kernel
theorem ww214_1 {d : Nat} {l0 l1 : Option mw_V} {x : Int} {st : List mw_V} {σ : mw_S} {Q : Option mw_V → mw_S → Prop} (h : mw_nlo l0 = true) : mw_WP d 214 1 [l0, l1] (jI x :: st) σ Q ↔ mw_WP d 214 2 [l0, some (jI x)] st σ Q := WP_istore_n mq214 dd214_1 (Nat.le_of_ble_eq_true rfl) (mw_nl_of (i := 0) rfl h) rfl
theorem dd214_2 : decode cX12_keeps 2 = .ok (.iload_n 1, 1) := by decide +kernel
theorem ww214_2 {d : Nat} {l0 : Option mw_V} {x : Int} {st : List mw_V} {σ : mw_S} {Q : Option mw_V → mw_S → Prop} : mw_WP d 214 2 [l0, some (jI x)] st σ Q ↔ mw_WP d 214 3 [l0, some (jI x)] (jI x :: st) σ Q := WP_iload_n mq214 dd214_2 rfl
theorem dd214_3 : decode cX12_keeps 3 = .ok (.bipush 47, 2) := by decide +kernel
theorem ww214_3 {d : Nat} {l0 l1 : Option mw_V} {st : List mw_V} {σ : mw_S} {Q : Option mw_V → mw_S → Prop} : mw_WP d 214 3 [l0, l1] st σ Q ↔ mw_WP d 214 5 [l0, l1] (jI (47) :: st) σ Q := WP_bipush mq214 dd214_3 (by decide)
theorem dd214_5 : decode cX12_keeps 5 = .ok (.if_icmp .ge 24, 3) := by decide +kernel
theorem ww214_5 {d : Nat} {l0 l1 : Option mw_V} {x y : Int} {st : List mw_V} {σ : mw_S} {Q : Option mw_V → mw_S → Prop} : mw_WP d 214 5 [l0, l1] (jI y :: jI x :: st) σ Q ↔ (if y ≤ x then mw_WP d 214 29 [l0, l1] st σ Q else mw_WP d 214 8 [l0, l1] st σ Q) := WP_icmp_ge mq214 dd214_5 (by decide)
theorem dd214_8 : decode cX12_keeps 8 = .ok (.aload_n 0, 1) := by decide +kernel
theorem ww214_8 {d : Nat} {l1 : Option mw_V} {x : Nat} {st : List mw_V} {σ : mw_S} {Q : Option mw_V → mw_S → Prop} : mw_WP d 214 8 [some (jR x), l1] st σ Q ↔ mw_WP d 214 9 [some (jR x), l1] (jR x :: st) σ Q := WP_aload_n mq214 dd214_8 rfl
theorem dd214_9 : decode cX12_keeps 9 = .ok (.getfield 36, 3) := by decide +kernel
theorem ww214_9 {d : Nat} {l0 l1 : Option mw_V} {st : List mw_V} {σ : mw_S} {Q : Option mw_V → mw_S → Prop} : mw_WP d 214 9 [l0, l1] (jR 100 :: st) σ Q ↔ mw_WP d 214 12 [l0, l1] (jR 107 :: st) σ Q := WP_getR (ci := 11) (k := 20) mq214 dd214_9 (by decide) rfl
theorem dd214_12 : decode cX12_keeps 12 = .ok (.iload_n 1, 1) := by decide +kernel
theorem ww214_12 {d : Nat} {l0 : Option mw_V} {x : Int} {st : List mw_V} {σ : mw_S} {Q : Option mw_V → mw_S → Prop} : mw_WP d 214 12 [l0, some (jI x)] st σ Q ↔ mw_WP d 214 13 [l0, some (jI x)] (jI x :: st) σ Q := WP_iload_n mq214 dd214_12 rfl
theorem dd214_13 : decode cX12_keeps 13 = .ok (.aload_n 0, 1) := by decide +kernel
theorem ww214_13 {d : Nat} {l1 : Option mw_V} {x : Nat} {st : List mw_V} {σ : mw_S} {Q : Option mw_V → mw_S → Prop} : mw_WP d 214 13 [some (jR x), l1] st σ Q ↔ mw_WP d 214 14 [some (jR x), l1] (jR x :: st) σ Q := WP_aload_n mq214 dd214_13 rfl
theorem dd214_14 : decode cX12_keeps 14 = .ok (.getfield 13, 3) := by decide +kernel
theorem ww214_14 {d : Nat} {l0 l1 : Option mw_V} {st : List mw_V} {σ : mw_S} {Q : Option mw_V → mw_S → Prop} : mw_WP d 214 14 [l0, l1] (jR 100 :: st) σ Q ↔ mw_WP d 214 17 [l0, l1] (jR 101 :: st) σ Q := WP_getR (ci := 11) (k := 1) mq214 dd214_14 (by decide) rfl
theorem dd214_17 : decode cX12_keeps 17 = .ok (.bipush 41, 2) := by decide +kernel
theorem ww214_17 {d : Nat} {l0 l1 : Option mw_V} {st : List mw_V} {σ : mw_S} {Q : Option mw_V → mw_S → Prop} : mw_WP d 214 17 [l0, l1] st σ Q ↔ mw_WP d 214 19 [l0, l1] (jI (41) :: st) σ Q := WP_bipush mq214 dd214_17 (by decide)
theorem dd214_19 : decode cX12_keeps 19 = .ok (.iload_n 1, 1) := by decide +kernel
theorem ww214_19 {d : Nat} {l0 : Option mw_V} {x : Int} {st : List mw_V} {σ : mw_S} {Q : Option mw_V → mw_S → Prop} : mw_WP d 214 19 [l0, some (jI x)] st σ Q ↔ mw_WP d 214 20 [l0, some (jI x)] (jI x :: st) σ Q := WP_iload_n mq214 dd214_19 rfl
theorem dd214_20 : decode cX12_keeps 20 = .ok (.iadd, 1) := by decide +kernel
theorem ww214_20 {d : Nat} {l0 l1 : Option mw_V} {x y : Int} {st : List mw_V} {σ : mw_S} {Q : Option mw_V → mw_S → Prop} : mw_WP d 214 20 [l0, l1] (jI y :: jI x :: st) σ Q ↔ mw_WP d 214 21 [l0, l1] (jI (w32 (x + y)) :: st) σ Q := WP_iadd mq214 dd214_20
theorem dd214_21 : decode cX12_keeps 21 = .ok (.iaload, 1) := by decide +kernel
theorem ww214_21 {d : Nat} {l0 l1 : Option mw_V} {z : Int} {a : Nat} {st : List mw_V} {σ : mw_S} {Q : Option mw_V → mw_S → Prop} : mw_WP d 214 21 [l0, l1] (jI z :: jR a :: st) σ Q ↔ ((0 ≤ z ∧ z < mw_lenI a) ∧ mw_WP d 214 22 [l0, l1] (jI (mw_rdI σ a z.toNat) :: st) σ Q) := WP_iaload mq214 dd214_21
theorem dd214_22 : decode cX12_keeps 22 = .ok (.iastore, 1) := by decide +kernel
theorem ww214_22 {d : Nat} {l0 l1 : Option mw_V} {x z : Int} {a : Nat} {st : List mw_V} {σ : mw_S} {Q : Option mw_V → mw_S → Prop} : mw_WP d 214 22 [l0, l1] (jI x :: jI z :: jR a :: st) σ Q ↔ ((0 ≤ z ∧ z < mw_lenW 0 a) ∧ mw_WP d 214 23 [l0, l1] st (upS σ a z.toNat x) Q) := WP_iastore mq214 dd214_22
theorem dd214_23 : decode cX12_keeps 23 = .ok (.iinc 1 1, 3) := by decide +kernel
theorem ww214_23 {d : Nat} {l0 : Option mw_V} {x : Int} {st : List mw_V} {σ : mw_S} {Q : Option mw_V → mw_S → Prop} (h : mw_nlo l0 = true) : mw_WP d 214 23 [l0, some (jI x)] st σ Q ↔ mw_WP d 214 26 [l0, some (jI (w32 (x + (1))))] st σ Q := WP_iinc mq214 dd214_23 rfl (Nat.le_of_ble_eq_true rfl) (mw_nl_of (i := 0) rfl h) rfl
theorem dd214_26 : decode cX12_keeps 26 = .ok (.goto (-24), 3) := by decide +kernel
theorem ww214_26 {d : Nat} {l0 l1 : Option mw_V} {st : List mw_V} {σ : mw_S} {Q : Option mw_V → mw_S → Prop} : mw_WP d 214 26 [l0, l1] st σ Q ↔ mw_WP d 214 2 [l0, l1] st σ Q := WP_goto mq214 dd214_26 (by decide)
theorem dd214_29 : decode cX12_keeps 29 = .ok (.return_, 1) := by decide +kernel
theorem ww214_29 {d : Nat} {l0 l1 : Option mw_V} {σ : mw_S} {Q : Option mw_V → mw_S → Prop} : mw_WP d 214 29 [l0, l1] [] σ Q ↔ Q none σ := WP_return mq214 dd214_29 rfl
theorem ee215 {d : Nat} {a : Nat} {σ : mw_S} {Q : Option mw_V → mw_S → Prop} : mw_Call (d + 1) 215 [jR a] σ Q ↔ mw_WP d 215 0 [some (jR a), none] [] σ Q := CL_u mq215 (Nat.le_of_ble_eq_true rfl) rfl
theorem dd215_0 : decode cX12_isAgain 0 = .ok (.iconst 0, 1) := by decide +kernel
theorem ww215_0 {d : Nat} {l0 l1 : Option mw_V} {st : List mw_V} {σ : mw_S} {Q : Option mw_V → mw_S → Prop} : mw_WP d 215 0 [l0, l1] st σ Q ↔ mw_WP d 215 1 [l0, l1] (jI (0) :: st) σ Q := WP_iconst mq215 dd215_0 (by decide)
theorem dd215_1 : decode cX12_isAgain 1 = .ok (.istore_n 1, 1) := by decide +kernel
theorem ww215_1 {d : Nat} {l0 l1 : Option mw_V} {x : Int} {st : List mw_V} {σ : mw_S} {Q : Option mw_V → mw_S → Prop} (h : mw_nlo l0 = true) : mw_WP d 215 1 [l0, l1] (jI x :: st) σ Q ↔ mw_WP d 215 2 [l0, some (jI x)] st σ Q := WP_istore_n mq215 dd215_1 (Nat.le_of_ble_eq_true rfl) (mw_nl_of (i := 0) rfl h) rfl
theorem dd215_2 : decode cX12_isAgain 2 = .ok (.iload_n 1, 1) := by decide +kernel
theorem ww215_2 {d : Nat} {l0 : Option mw_V} {x : Int} {st : List mw_V} {σ : mw_S} {Q : Option mw_V → mw_S → Prop} : mw_WP d 215 2 [l0, some (jI x)] st σ Q ↔ mw_WP d 215 3 [l0, some (jI x)] (jI x :: st) σ Q := WP_iload_n mq215 dd215_2 rfl
theorem dd215_3 : decode cX12_isAgain 3 = .ok (.bipush 47, 2) := by decide +kernel
theorem ww215_3 {d : Nat} {l0 l1 : Option mw_V} {st : List mw_V} {σ : mw_S} {Q : Option mw_V → mw_S → Prop} : mw_WP d 215 3 [l0, l1] st σ Q ↔ mw_WP d 215 5 [l0, l1] (jI (47) :: st) σ Q := WP_bipush mq215 dd215_3 (by decide)
theorem dd215_5 : decode cX12_isAgain 5 = .ok (.if_icmp .ge 24, 3) := by decide +kernel
theorem ww215_5 {d : Nat} {l0 l1 : Option mw_V} {x y : Int} {st : List mw_V} {σ : mw_S} {Q : Option mw_V → mw_S → Prop} : mw_WP d 215 5 [l0, l1] (jI y :: jI x :: st) σ Q ↔ (if y ≤ x then mw_WP d 215 29 [l0, l1] st σ Q else mw_WP d 215 8 [l0, l1] st σ Q) := WP_icmp_ge mq215 dd215_5 (by decide)
theorem dd215_8 : decode cX12_isAgain 8 = .ok (.aload_n 0, 1) := by decide +kernel
theorem ww215_8 {d : Nat} {l1 : Option mw_V} {x : Nat} {st : List mw_V} {σ : mw_S} {Q : Option mw_V → mw_S → Prop} : mw_WP d 215 8 [some (jR x), l1] st σ Q ↔ mw_WP d 215 9 [some (jR x), l1] (jR x :: st) σ Q := WP_aload_n mq215 dd215_8 rfl
theorem dd215_9 : decode cX12_isAgain 9 = .ok (.getfield 13, 3) := by decide +kernel
theorem ww215_9 {d : Nat} {l0 l1 : Option mw_V} {st : List mw_V} {σ : mw_S} {Q : Option mw_V → mw_S → Prop} : mw_WP d 215 9 [l0, l1] (jR 100 :: st) σ Q ↔ mw_WP d 215 12 [l0, l1] (jR 101 :: st) σ Q := WP_getR (ci := 11) (k := 1) mq215 dd215_9 (by decide) rfl
theorem dd215_12 : decode cX12_isAgain 12 = .ok (.bipush 41, 2) := by decide +kernel
theorem ww215_12 {d : Nat} {l0 l1 : Option mw_V} {st : List mw_V} {σ : mw_S} {Q : Option mw_V → mw_S → Prop} : mw_WP d 215 12 [l0, l1] st σ Q ↔ mw_WP d 215 14 [l0, l1] (jI (41) :: st) σ Q := WP_bipush mq215 dd215_12 (by decide)
theorem dd215_14 : decode cX12_isAgain 14 = .ok (.iload_n 1, 1) := by decide +kernel
theorem ww215_14 {d : Nat} {l0 : Option mw_V} {x : Int} {st : List mw_V} {σ : mw_S} {Q : Option mw_V → mw_S → Prop} : mw_WP d 215 14 [l0, some (jI x)] st σ Q ↔ mw_WP d 215 15 [l0, some (jI x)] (jI x :: st) σ Q := WP_iload_n mq215 dd215_14 rfl
theorem dd215_15 : decode cX12_isAgain 15 = .ok (.iadd, 1) := by decide +kernel
theorem ww215_15 {d : Nat} {l0 l1 : Option mw_V} {x y : Int} {st : List mw_V} {σ : mw_S} {Q : Option mw_V → mw_S → Prop} : mw_WP d 215 15 [l0, l1] (jI y :: jI x :: st) σ Q ↔ mw_WP d 215 16 [l0, l1] (jI (w32 (x + y)) :: st) σ Q := WP_iadd mq215 dd215_15
theorem dd215_16 : decode cX12_isAgain 16 = .ok (.aload_n 0, 1) := by decide +kernel
theorem ww215_16 {d : Nat} {l1 : Option mw_V} {x : Nat} {st : List mw_V} {σ : mw_S} {Q : Option mw_V → mw_S → Prop} : mw_WP d 215 16 [some (jR x), l1] st σ Q ↔ mw_WP d 215 17 [some (jR x), l1] (jR x :: st) σ Q := WP_aload_n mq215 dd215_16 rfl
theorem dd215_17 : decode cX12_isAgain 17 = .ok (.getfield 36, 3) := by decide +kernel
theorem ww215_17 {d : Nat} {l0 l1 : Option mw_V} {st : List mw_V} {σ : mw_S} {Q : Option mw_V → mw_S → Prop} : mw_WP d 215 17 [l0, l1] (jR 100 :: st) σ Q ↔ mw_WP d 215 20 [l0, l1] (jR 107 :: st) σ Q := WP_getR (ci := 11) (k := 20) mq215 dd215_17 (by decide) rfl
theorem dd215_20 : decode cX12_isAgain 20 = .ok (.iload_n 1, 1) := by decide +kernel
theorem ww215_20 {d : Nat} {l0 : Option mw_V} {x : Int} {st : List mw_V} {σ : mw_S} {Q : Option mw_V → mw_S → Prop} : mw_WP d 215 20 [l0, some (jI x)] st σ Q ↔ mw_WP d 215 21 [l0, some (jI x)] (jI x :: st) σ Q := WP_iload_n mq215 dd215_20 rfl
theorem dd215_21 : decode cX12_isAgain 21 = .ok (.iaload, 1) := by decide +kernel
theorem ww215_21 {d : Nat} {l0 l1 : Option mw_V} {z : Int} {a : Nat} {st : List mw_V} {σ : mw_S} {Q : Option mw_V → mw_S → Prop} : mw_WP d 215 21 [l0, l1] (jI z :: jR a :: st) σ Q ↔ ((0 ≤ z ∧ z < mw_lenI a) ∧ mw_WP d 215 22 [l0, l1] (jI (mw_rdI σ a z.toNat) :: st) σ Q) := WP_iaload mq215 dd215_21
theorem dd215_22 : decode cX12_isAgain 22 = .ok (.iastore, 1) := by decide +kernel
theorem ww215_22 {d : Nat} {l0 l1 : Option mw_V} {x z : Int} {a : Nat} {st : List mw_V} {σ : mw_S} {Q : Option mw_V → mw_S → Prop} : mw_WP d 215 22 [l0, l1] (jI x :: jI z :: jR a :: st) σ Q ↔ ((0 ≤ z ∧ z < mw_lenW 0 a) ∧ mw_WP d 215 23 [l0, l1] st (upS σ a z.toNat x) Q) := WP_iastore mq215 dd215_22
theorem dd215_23 : decode cX12_isAgain 23 = .ok (.iinc 1 1, 3) := by decide +kernel
theorem ww215_23 {d : Nat} {l0 : Option mw_V} {x : Int} {st : List mw_V} {σ : mw_S} {Q : Option mw_V → mw_S → Prop} (h : mw_nlo l0 = true) : mw_WP d 215 23 [l0, some (jI x)] st σ Q ↔ mw_WP d 215 26 [l0, some (jI (w32 (x + (1))))] st σ Q := WP_iinc mq215 dd215_23 rfl (Nat.le_of_ble_eq_true rfl) (mw_nl_of (i := 0) rfl h) rfl
theorem dd215_26 : decode cX12_isAgain 26 = .ok (.goto (-24), 3) := by decide +kernel
theorem ww215_26 {d : Nat} {l0 l1 : Option mw_V} {st : List mw_V} {σ : mw_S} {Q : Option mw_V → mw_S → Prop} : mw_WP d 215 26 [l0, l1] st σ Q ↔ mw_WP d 215 2 [l0, l1] st σ Q := WP_goto mq215 dd215_26 (by decide)
theorem dd215_29 : decode cX12_isAgain 29 = .ok (.return_, 1) := by decide +kernel
theorem ww215_29 {d : Nat} {l0 l1 : Option mw_V} {σ : mw_S} {Q : Option mw_V → mw_S → Prop} : mw_WP d 215 29 [l0, l1] [] σ Q ↔ Q none σ := WP_return mq215 dd215_29 rfl
theorem ee216 {d : Nat} {a : Nat} {σ : mw_S} {Q : Option mw_V → mw_S → Prop} : mw_Call (d + 1) 216 [jR a] σ Q ↔ mw_WP d 216 0 [some (jR a), none] [] σ Q := CL_u mq216 (Nat.le_of_ble_eq_true rfl) rfl
theorem dd216_0 : decode cX12_notes 0 = .ok (.aload_n 0, 1) := by decide +kernel
theorem ww216_0 {d : Nat} {l1 : Option mw_V} {x : Nat} {st : List mw_V} {σ : mw_S} {Q : Option mw_V → mw_S → Prop} : mw_WP d 216 0 [some (jR x), l1] st σ Q ↔ mw_WP d 216 1 [some (jR x), l1] (jR x :: st) σ Q := WP_aload_n mq216 dd216_0 rfl
theorem dd216_1 : decode cX12_notes 1 = .ok (.getfield 13, 3) := by decide +kernel
theorem ww216_1 {d : Nat} {l0 l1 : Option mw_V} {st : List mw_V} {σ : mw_S} {Q : Option mw_V → mw_S → Prop} : mw_WP d 216 1 [l0, l1] (jR 100 :: st) σ Q ↔ mw_WP d 216 4 [l0, l1] (jR 101 :: st) σ Q := WP_getR (ci := 11) (k := 1) mq216 dd216_1 (by decide) rfl
theorem dd216_4 : decode cX12_notes 4 = .ok (.bipush 88, 2) := by decide +kernel
theorem ww216_4 {d : Nat} {l0 l1 : Option mw_V} {st : List mw_V} {σ : mw_S} {Q : Option mw_V → mw_S → Prop} : mw_WP d 216 4 [l0, l1] st σ Q ↔ mw_WP d 216 6 [l0, l1] (jI (88) :: st) σ Q := WP_bipush mq216 dd216_4 (by decide)
theorem dd216_6 : decode cX12_notes 6 = .ok (.iaload, 1) := by decide +kernel
theorem ww216_6 {d : Nat} {l0 l1 : Option mw_V} {z : Int} {a : Nat} {st : List mw_V} {σ : mw_S} {Q : Option mw_V → mw_S → Prop} : mw_WP d 216 6 [l0, l1] (jI z :: jR a :: st) σ Q ↔ ((0 ≤ z ∧ z < mw_lenI a) ∧ mw_WP d 216 7 [l0, l1] (jI (mw_rdI σ a z.toNat) :: st) σ Q) := WP_iaload mq216 dd216_6
theorem dd216_7 : decode cX12_notes 7 = .ok (.bipush 10, 2) := by decide +kernel
theorem ww216_7 {d : Nat} {l0 l1 : Option mw_V} {st : List mw_V} {σ : mw_S} {Q : Option mw_V → mw_S → Prop} : mw_WP d 216 7 [l0, l1] st σ Q ↔ mw_WP d 216 9 [l0, l1] (jI (10) :: st) σ Q := WP_bipush mq216 dd216_7 (by decide)
theorem dd216_9 : decode cX12_notes 9 = .ok (.if_icmp .ne 48, 3) := by decide +kernel
theorem ww216_9 {d : Nat} {l0 l1 : Option mw_V} {x y : Int} {st : List mw_V} {σ : mw_S} {Q : Option mw_V → mw_S → Prop} : mw_WP d 216 9 [l0, l1] (jI y :: jI x :: st) σ Q ↔ (if ¬ x = y then mw_WP d 216 57 [l0, l1] st σ Q else mw_WP d 216 12 [l0, l1] st σ Q) := WP_icmp_ne mq216 dd216_9 (by decide)
theorem dd216_12 : decode cX12_notes 12 = .ok (.iconst 0, 1) := by decide +kernel
theorem ww216_12 {d : Nat} {l0 l1 : Option mw_V} {st : List mw_V} {σ : mw_S} {Q : Option mw_V → mw_S → Prop} : mw_WP d 216 12 [l0, l1] st σ Q ↔ mw_WP d 216 13 [l0, l1] (jI (0) :: st) σ Q := WP_iconst mq216 dd216_12 (by decide)
theorem dd216_13 : decode cX12_notes 13 = .ok (.istore_n 1, 1) := by decide +kernel
theorem ww216_13 {d : Nat} {l0 l1 : Option mw_V} {x : Int} {st : List mw_V} {σ : mw_S} {Q : Option mw_V → mw_S → Prop} (h : mw_nlo l0 = true) : mw_WP d 216 13 [l0, l1] (jI x :: st) σ Q ↔ mw_WP d 216 14 [l0, some (jI x)] st σ Q := WP_istore_n mq216 dd216_13 (Nat.le_of_ble_eq_true rfl) (mw_nl_of (i := 0) rfl h) rfl
theorem dd216_14 : decode cX12_notes 14 = .ok (.iload_n 1, 1) := by decide +kernel
theorem ww216_14 {d : Nat} {l0 : Option mw_V} {x : Int} {st : List mw_V} {σ : mw_S} {Q : Option mw_V → mw_S → Prop} : mw_WP d 216 14 [l0, some (jI x)] st σ Q ↔ mw_WP d 216 15 [l0, some (jI x)] (jI x :: st) σ Q := WP_iload_n mq216 dd216_14 rfl
theorem dd216_15 : decode cX12_notes 15 = .ok (.sipush 423, 3) := by decide +kernel
theorem ww216_15 {d : Nat} {l0 l1 : Option mw_V} {st : List mw_V} {σ : mw_S} {Q : Option mw_V → mw_S → Prop} : mw_WP d 216 15 [l0, l1] st σ Q ↔ mw_WP d 216 18 [l0, l1] (jI (423) :: st) σ Q := WP_sipush mq216 dd216_15 (by decide)
theorem dd216_18 : decode cX12_notes 18 = .ok (.if_icmp .ge 28, 3) := by decide +kernel
theorem ww216_18 {d : Nat} {l0 l1 : Option mw_V} {x y : Int} {st : List mw_V} {σ : mw_S} {Q : Option mw_V → mw_S → Prop} : mw_WP d 216 18 [l0, l1] (jI y :: jI x :: st) σ Q ↔ (if y ≤ x then mw_WP d 216 46 [l0, l1] st σ Q else mw_WP d 216 21 [l0, l1] st σ Q) := WP_icmp_ge mq216 dd216_18 (by decide)
theorem dd216_21 : decode cX12_notes 21 = .ok (.aload_n 0, 1) := by decide +kernel
theorem ww216_21 {d : Nat} {l1 : Option mw_V} {x : Nat} {st : List mw_V} {σ : mw_S} {Q : Option mw_V → mw_S → Prop} : mw_WP d 216 21 [some (jR x), l1] st σ Q ↔ mw_WP d 216 22 [some (jR x), l1] (jR x :: st) σ Q := WP_aload_n mq216 dd216_21 rfl
theorem dd216_22 : decode cX12_notes 22 = .ok (.getfield 13, 3) := by decide +kernel
theorem ww216_22 {d : Nat} {l0 l1 : Option mw_V} {st : List mw_V} {σ : mw_S} {Q : Option mw_V → mw_S → Prop} : mw_WP d 216 22 [l0, l1] (jR 100 :: st) σ Q ↔ mw_WP d 216 25 [l0, l1] (jR 101 :: st) σ Q := WP_getR (ci := 11) (k := 1) mq216 dd216_22 (by decide) rfl
theorem dd216_25 : decode cX12_notes 25 = .ok (.bipush 89, 2) := by decide +kernel
theorem ww216_25 {d : Nat} {l0 l1 : Option mw_V} {st : List mw_V} {σ : mw_S} {Q : Option mw_V → mw_S → Prop} : mw_WP d 216 25 [l0, l1] st σ Q ↔ mw_WP d 216 27 [l0, l1] (jI (89) :: st) σ Q := WP_bipush mq216 dd216_25 (by decide)
theorem dd216_27 : decode cX12_notes 27 = .ok (.iload_n 1, 1) := by decide +kernel
theorem ww216_27 {d : Nat} {l0 : Option mw_V} {x : Int} {st : List mw_V} {σ : mw_S} {Q : Option mw_V → mw_S → Prop} : mw_WP d 216 27 [l0, some (jI x)] st σ Q ↔ mw_WP d 216 28 [l0, some (jI x)] (jI x :: st) σ Q := WP_iload_n mq216 dd216_27 rfl
theorem dd216_28 : decode cX12_notes 28 = .ok (.iadd, 1) := by decide +kernel
theorem ww216_28 {d : Nat} {l0 l1 : Option mw_V} {x y : Int} {st : List mw_V} {σ : mw_S} {Q : Option mw_V → mw_S → Prop} : mw_WP d 216 28 [l0, l1] (jI y :: jI x :: st) σ Q ↔ mw_WP d 216 29 [l0, l1] (jI (w32 (x + y)) :: st) σ Q := WP_iadd mq216 dd216_28
theorem dd216_29 : decode cX12_notes 29 = .ok (.aload_n 0, 1) := by decide +kernel
theorem ww216_29 {d : Nat} {l1 : Option mw_V} {x : Nat} {st : List mw_V} {σ : mw_S} {Q : Option mw_V → mw_S → Prop} : mw_WP d 216 29 [some (jR x), l1] st σ Q ↔ mw_WP d 216 30 [some (jR x), l1] (jR x :: st) σ Q := WP_aload_n mq216 dd216_29 rfl
theorem dd216_30 : decode cX12_notes 30 = .ok (.getfield 13, 3) := by decide +kernel
theorem ww216_30 {d : Nat} {l0 l1 : Option mw_V} {st : List mw_V} {σ : mw_S} {Q : Option mw_V → mw_S → Prop} : mw_WP d 216 30 [l0, l1] (jR 100 :: st) σ Q ↔ mw_WP d 216 33 [l0, l1] (jR 101 :: st) σ Q := WP_getR (ci := 11) (k := 1) mq216 dd216_30 (by decide) rfl
theorem dd216_33 : decode cX12_notes 33 = .ok (.sipush 136, 3) := by decide +kernel
theorem ww216_33 {d : Nat} {l0 l1 : Option mw_V} {st : List mw_V} {σ : mw_S} {Q : Option mw_V → mw_S → Prop} : mw_WP d 216 33 [l0, l1] st σ Q ↔ mw_WP d 216 36 [l0, l1] (jI (136) :: st) σ Q := WP_sipush mq216 dd216_33 (by decide)
theorem dd216_36 : decode cX12_notes 36 = .ok (.iload_n 1, 1) := by decide +kernel
theorem ww216_36 {d : Nat} {l0 : Option mw_V} {x : Int} {st : List mw_V} {σ : mw_S} {Q : Option mw_V → mw_S → Prop} : mw_WP d 216 36 [l0, some (jI x)] st σ Q ↔ mw_WP d 216 37 [l0, some (jI x)] (jI x :: st) σ Q := WP_iload_n mq216 dd216_36 rfl
theorem dd216_37 : decode cX12_notes 37 = .ok (.iadd, 1) := by decide +kernel
theorem ww216_37 {d : Nat} {l0 l1 : Option mw_V} {x y : Int} {st : List mw_V} {σ : mw_S} {Q : Option mw_V → mw_S → Prop} : mw_WP d 216 37 [l0, l1] (jI y :: jI x :: st) σ Q ↔ mw_WP d 216 38 [l0, l1] (jI (w32 (x + y)) :: st) σ Q := WP_iadd mq216 dd216_37
theorem dd216_38 : decode cX12_notes 38 = .ok (.iaload, 1) := by decide +kernel
theorem ww216_38 {d : Nat} {l0 l1 : Option mw_V} {z : Int} {a : Nat} {st : List mw_V} {σ : mw_S} {Q : Option mw_V → mw_S → Prop} : mw_WP d 216 38 [l0, l1] (jI z :: jR a :: st) σ Q ↔ ((0 ≤ z ∧ z < mw_lenI a) ∧ mw_WP d 216 39 [l0, l1] (jI (mw_rdI σ a z.toNat) :: st) σ Q) := WP_iaload mq216 dd216_38
theorem dd216_39 : decode cX12_notes 39 = .ok (.iastore, 1) := by decide +kernel
theorem ww216_39 {d : Nat} {l0 l1 : Option mw_V} {x z : Int} {a : Nat} {st : List mw_V} {σ : mw_S} {Q : Option mw_V → mw_S → Prop} : mw_WP d 216 39 [l0, l1] (jI x :: jI z :: jR a :: st) σ Q ↔ ((0 ≤ z ∧ z < mw_lenW 0 a) ∧ mw_WP d 216 40 [l0, l1] st (upS σ a z.toNat x) Q) := WP_iastore mq216 dd216_39
theorem dd216_40 : decode cX12_notes 40 = .ok (.iinc 1 1, 3) := by decide +kernel
theorem ww216_40 {d : Nat} {l0 : Option mw_V} {x : Int} {st : List mw_V} {σ : mw_S} {Q : Option mw_V → mw_S → Prop} (h : mw_nlo l0 = true) : mw_WP d 216 40 [l0, some (jI x)] st σ Q ↔ mw_WP d 216 43 [l0, some (jI (w32 (x + (1))))] st σ Q := WP_iinc mq216 dd216_40 rfl (Nat.le_of_ble_eq_true rfl) (mw_nl_of (i := 0) rfl h) rfl
theorem dd216_43 : decode cX12_notes 43 = .ok (.goto (-29), 3) := by decide +kernel
theorem ww216_43 {d : Nat} {l0 l1 : Option mw_V} {st : List mw_V} {σ : mw_S} {Q : Option mw_V → mw_S → Prop} : mw_WP d 216 43 [l0, l1] st σ Q ↔ mw_WP d 216 14 [l0, l1] st σ Q := WP_goto mq216 dd216_43 (by decide)
theorem dd216_46 : decode cX12_notes 46 = .ok (.aload_n 0, 1) := by decide +kernel
theorem ww216_46 {d : Nat} {l1 : Option mw_V} {x : Nat} {st : List mw_V} {σ : mw_S} {Q : Option mw_V → mw_S → Prop} : mw_WP d 216 46 [some (jR x), l1] st σ Q ↔ mw_WP d 216 47 [some (jR x), l1] (jR x :: st) σ Q := WP_aload_n mq216 dd216_46 rfl
theorem dd216_47 : decode cX12_notes 47 = .ok (.getfield 13, 3) := by decide +kernel
theorem ww216_47 {d : Nat} {l0 l1 : Option mw_V} {st : List mw_V} {σ : mw_S} {Q : Option mw_V → mw_S → Prop} : mw_WP d 216 47 [l0, l1] (jR 100 :: st) σ Q ↔ mw_WP d 216 50 [l0, l1] (jR 101 :: st) σ Q := WP_getR (ci := 11) (k := 1) mq216 dd216_47 (by decide) rfl
theorem dd216_50 : decode cX12_notes 50 = .ok (.bipush 88, 2) := by decide +kernel
theorem ww216_50 {d : Nat} {l0 l1 : Option mw_V} {st : List mw_V} {σ : mw_S} {Q : Option mw_V → mw_S → Prop} : mw_WP d 216 50 [l0, l1] st σ Q ↔ mw_WP d 216 52 [l0, l1] (jI (88) :: st) σ Q := WP_bipush mq216 dd216_50 (by decide)
theorem dd216_52 : decode cX12_notes 52 = .ok (.dup2, 1) := by decide +kernel
theorem ww216_52 {d : Nat} {l0 l1 : Option mw_V} {v w : mw_V} {st : List mw_V} {σ : mw_S} {Q : Option mw_V → mw_S → Prop} (h : mw_cat v = 1) (h2 : mw_cat w = 1) : mw_WP d 216 52 [l0, l1] (v :: w :: st) σ Q ↔ mw_WP d 216 53 [l0, l1] (v :: w :: v :: w :: st) σ Q := WP_dup2 mq216 dd216_52 h h2
theorem dd216_53 : decode cX12_notes 53 = .ok (.iaload, 1) := by decide +kernel
theorem ww216_53 {d : Nat} {l0 l1 : Option mw_V} {z : Int} {a : Nat} {st : List mw_V} {σ : mw_S} {Q : Option mw_V → mw_S → Prop} : mw_WP d 216 53 [l0, l1] (jI z :: jR a :: st) σ Q ↔ ((0 ≤ z ∧ z < mw_lenI a) ∧ mw_WP d 216 54 [l0, l1] (jI (mw_rdI σ a z.toNat) :: st) σ Q) := WP_iaload mq216 dd216_53
theorem dd216_54 : decode cX12_notes 54 = .ok (.iconst 1, 1) := by decide +kernel
theorem ww216_54 {d : Nat} {l0 l1 : Option mw_V} {st : List mw_V} {σ : mw_S} {Q : Option mw_V → mw_S → Prop} : mw_WP d 216 54 [l0, l1] st σ Q ↔ mw_WP d 216 55 [l0, l1] (jI (1) :: st) σ Q := WP_iconst mq216 dd216_54 (by decide)
theorem dd216_55 : decode cX12_notes 55 = .ok (.isub, 1) := by decide +kernel
theorem ww216_55 {d : Nat} {l0 l1 : Option mw_V} {x y : Int} {st : List mw_V} {σ : mw_S} {Q : Option mw_V → mw_S → Prop} : mw_WP d 216 55 [l0, l1] (jI y :: jI x :: st) σ Q ↔ mw_WP d 216 56 [l0, l1] (jI (w32 (x - y)) :: st) σ Q := WP_isub mq216 dd216_55
theorem dd216_56 : decode cX12_notes 56 = .ok (.iastore, 1) := by decide +kernel
theorem ww216_56 {d : Nat} {l0 l1 : Option mw_V} {x z : Int} {a : Nat} {st : List mw_V} {σ : mw_S} {Q : Option mw_V → mw_S → Prop} : mw_WP d 216 56 [l0, l1] (jI x :: jI z :: jR a :: st) σ Q ↔ ((0 ≤ z ∧ z < mw_lenW 0 a) ∧ mw_WP d 216 57 [l0, l1] st (upS σ a z.toNat x) Q) := WP_iastore mq216 dd216_56
theorem dd216_57 : decode cX12_notes 57 = .ok (.iconst 0, 1) := by decide +kernel
theorem ww216_57 {d : Nat} {l0 l1 : Option mw_V} {st : List mw_V} {σ : mw_S} {Q : Option mw_V → mw_S → Prop} : mw_WP d 216 57 [l0, l1] st σ Q ↔ mw_WP d 216 58 [l0, l1] (jI (0) :: st) σ Q := WP_iconst mq216 dd216_57 (by decide)
theorem dd216_58 : decode cX12_notes 58 = .ok (.istore_n 1, 1) := by decide +kernel
theorem ww216_58 {d : Nat} {l0 l1 : Option mw_V} {x : Int} {st : List mw_V} {σ : mw_S} {Q : Option mw_V → mw_S → Prop} (h : mw_nlo l0 = true) : mw_WP d 216 58 [l0, l1] (jI x :: st) σ Q ↔ mw_WP d 216 59 [l0, some (jI x)] st σ Q := WP_istore_n mq216 dd216_58 (Nat.le_of_ble_eq_true rfl) (mw_nl_of (i := 0) rfl h) rfl
theorem dd216_59 : decode cX12_notes 59 = .ok (.iload_n 1, 1) := by decide +kernel
theorem ww216_59 {d : Nat} {l0 : Option mw_V} {x : Int} {st : List mw_V} {σ : mw_S} {Q : Option mw_V → mw_S → Prop} : mw_WP d 216 59 [l0, some (jI x)] st σ Q ↔ mw_WP d 216 60 [l0, some (jI x)] (jI x :: st) σ Q := WP_iload_n mq216 dd216_59 rfl
theorem dd216_60 : decode cX12_notes 60 = .ok (.bipush 47, 2) := by decide +kernel
theorem ww216_60 {d : Nat} {l0 l1 : Option mw_V} {st : List mw_V} {σ : mw_S} {Q : Option mw_V → mw_S → Prop} : mw_WP d 216 60 [l0, l1] st σ Q ↔ mw_WP d 216 62 [l0, l1] (jI (47) :: st) σ Q := WP_bipush mq216 dd216_60 (by decide)
theorem dd216_62 : decode cX12_notes 62 = .ok (.if_icmp .ge 35, 3) := by decide +kernel
theorem ww216_62 {d : Nat} {l0 l1 : Option mw_V} {x y : Int} {st : List mw_V} {σ : mw_S} {Q : Option mw_V → mw_S → Prop} : mw_WP d 216 62 [l0, l1] (jI y :: jI x :: st) σ Q ↔ (if y ≤ x then mw_WP d 216 97 [l0, l1] st σ Q else mw_WP d 216 65 [l0, l1] st σ Q) := WP_icmp_ge mq216 dd216_62 (by decide)
theorem dd216_65 : decode cX12_notes 65 = .ok (.aload_n 0, 1) := by decide +kernel
theorem ww216_65 {d : Nat} {l1 : Option mw_V} {x : Nat} {st : List mw_V} {σ : mw_S} {Q : Option mw_V → mw_S → Prop} : mw_WP d 216 65 [some (jR x), l1] st σ Q ↔ mw_WP d 216 66 [some (jR x), l1] (jR x :: st) σ Q := WP_aload_n mq216 dd216_65 rfl
theorem dd216_66 : decode cX12_notes 66 = .ok (.getfield 13, 3) := by decide +kernel
theorem ww216_66 {d : Nat} {l0 l1 : Option mw_V} {st : List mw_V} {σ : mw_S} {Q : Option mw_V → mw_S → Prop} : mw_WP d 216 66 [l0, l1] (jR 100 :: st) σ Q ↔ mw_WP d 216 69 [l0, l1] (jR 101 :: st) σ Q := WP_getR (ci := 11) (k := 1) mq216 dd216_66 (by decide) rfl
theorem dd216_69 : decode cX12_notes 69 = .ok (.bipush 89, 2) := by decide +kernel
theorem ww216_69 {d : Nat} {l0 l1 : Option mw_V} {st : List mw_V} {σ : mw_S} {Q : Option mw_V → mw_S → Prop} : mw_WP d 216 69 [l0, l1] st σ Q ↔ mw_WP d 216 71 [l0, l1] (jI (89) :: st) σ Q := WP_bipush mq216 dd216_69 (by decide)
theorem dd216_71 : decode cX12_notes 71 = .ok (.bipush 47, 2) := by decide +kernel
theorem ww216_71 {d : Nat} {l0 l1 : Option mw_V} {st : List mw_V} {σ : mw_S} {Q : Option mw_V → mw_S → Prop} : mw_WP d 216 71 [l0, l1] st σ Q ↔ mw_WP d 216 73 [l0, l1] (jI (47) :: st) σ Q := WP_bipush mq216 dd216_71 (by decide)
theorem dd216_73 : decode cX12_notes 73 = .ok (.aload_n 0, 1) := by decide +kernel
theorem ww216_73 {d : Nat} {l1 : Option mw_V} {x : Nat} {st : List mw_V} {σ : mw_S} {Q : Option mw_V → mw_S → Prop} : mw_WP d 216 73 [some (jR x), l1] st σ Q ↔ mw_WP d 216 74 [some (jR x), l1] (jR x :: st) σ Q := WP_aload_n mq216 dd216_73 rfl
theorem dd216_74 : decode cX12_notes 74 = .ok (.getfield 13, 3) := by decide +kernel
theorem ww216_74 {d : Nat} {l0 l1 : Option mw_V} {st : List mw_V} {σ : mw_S} {Q : Option mw_V → mw_S → Prop} : mw_WP d 216 74 [l0, l1] (jR 100 :: st) σ Q ↔ mw_WP d 216 77 [l0, l1] (jR 101 :: st) σ Q := WP_getR (ci := 11) (k := 1) mq216 dd216_74 (by decide) rfl
theorem dd216_77 : decode cX12_notes 77 = .ok (.bipush 88, 2) := by decide +kernel
theorem ww216_77 {d : Nat} {l0 l1 : Option mw_V} {st : List mw_V} {σ : mw_S} {Q : Option mw_V → mw_S → Prop} : mw_WP d 216 77 [l0, l1] st σ Q ↔ mw_WP d 216 79 [l0, l1] (jI (88) :: st) σ Q := WP_bipush mq216 dd216_77 (by decide)
theorem dd216_79 : decode cX12_notes 79 = .ok (.iaload, 1) := by decide +kernel
theorem ww216_79 {d : Nat} {l0 l1 : Option mw_V} {z : Int} {a : Nat} {st : List mw_V} {σ : mw_S} {Q : Option mw_V → mw_S → Prop} : mw_WP d 216 79 [l0, l1] (jI z :: jR a :: st) σ Q ↔ ((0 ≤ z ∧ z < mw_lenI a) ∧ mw_WP d 216 80 [l0, l1] (jI (mw_rdI σ a z.toNat) :: st) σ Q) := WP_iaload mq216 dd216_79
theorem dd216_80 : decode cX12_notes 80 = .ok (.imul, 1) := by decide +kernel
theorem ww216_80 {d : Nat} {l0 l1 : Option mw_V} {x y : Int} {st : List mw_V} {σ : mw_S} {Q : Option mw_V → mw_S → Prop} : mw_WP d 216 80 [l0, l1] (jI y :: jI x :: st) σ Q ↔ mw_WP d 216 81 [l0, l1] (jI (w32 (x * y)) :: st) σ Q := WP_imul mq216 dd216_80
theorem dd216_81 : decode cX12_notes 81 = .ok (.iadd, 1) := by decide +kernel
theorem ww216_81 {d : Nat} {l0 l1 : Option mw_V} {x y : Int} {st : List mw_V} {σ : mw_S} {Q : Option mw_V → mw_S → Prop} : mw_WP d 216 81 [l0, l1] (jI y :: jI x :: st) σ Q ↔ mw_WP d 216 82 [l0, l1] (jI (w32 (x + y)) :: st) σ Q := WP_iadd mq216 dd216_81
theorem dd216_82 : decode cX12_notes 82 = .ok (.iload_n 1, 1) := by decide +kernel
theorem ww216_82 {d : Nat} {l0 : Option mw_V} {x : Int} {st : List mw_V} {σ : mw_S} {Q : Option mw_V → mw_S → Prop} : mw_WP d 216 82 [l0, some (jI x)] st σ Q ↔ mw_WP d 216 83 [l0, some (jI x)] (jI x :: st) σ Q := WP_iload_n mq216 dd216_82 rfl
theorem dd216_83 : decode cX12_notes 83 = .ok (.iadd, 1) := by decide +kernel
theorem ww216_83 {d : Nat} {l0 l1 : Option mw_V} {x y : Int} {st : List mw_V} {σ : mw_S} {Q : Option mw_V → mw_S → Prop} : mw_WP d 216 83 [l0, l1] (jI y :: jI x :: st) σ Q ↔ mw_WP d 216 84 [l0, l1] (jI (w32 (x + y)) :: st) σ Q := WP_iadd mq216 dd216_83
theorem dd216_84 : decode cX12_notes 84 = .ok (.aload_n 0, 1) := by decide +kernel
theorem ww216_84 {d : Nat} {l1 : Option mw_V} {x : Nat} {st : List mw_V} {σ : mw_S} {Q : Option mw_V → mw_S → Prop} : mw_WP d 216 84 [some (jR x), l1] st σ Q ↔ mw_WP d 216 85 [some (jR x), l1] (jR x :: st) σ Q := WP_aload_n mq216 dd216_84 rfl
theorem dd216_85 : decode cX12_notes 85 = .ok (.getfield 36, 3) := by decide +kernel
theorem ww216_85 {d : Nat} {l0 l1 : Option mw_V} {st : List mw_V} {σ : mw_S} {Q : Option mw_V → mw_S → Prop} : mw_WP d 216 85 [l0, l1] (jR 100 :: st) σ Q ↔ mw_WP d 216 88 [l0, l1] (jR 107 :: st) σ Q := WP_getR (ci := 11) (k := 20) mq216 dd216_85 (by decide) rfl
theorem dd216_88 : decode cX12_notes 88 = .ok (.iload_n 1, 1) := by decide +kernel
theorem ww216_88 {d : Nat} {l0 : Option mw_V} {x : Int} {st : List mw_V} {σ : mw_S} {Q : Option mw_V → mw_S → Prop} : mw_WP d 216 88 [l0, some (jI x)] st σ Q ↔ mw_WP d 216 89 [l0, some (jI x)] (jI x :: st) σ Q := WP_iload_n mq216 dd216_88 rfl
theorem dd216_89 : decode cX12_notes 89 = .ok (.iaload, 1) := by decide +kernel
theorem ww216_89 {d : Nat} {l0 l1 : Option mw_V} {z : Int} {a : Nat} {st : List mw_V} {σ : mw_S} {Q : Option mw_V → mw_S → Prop} : mw_WP d 216 89 [l0, l1] (jI z :: jR a :: st) σ Q ↔ ((0 ≤ z ∧ z < mw_lenI a) ∧ mw_WP d 216 90 [l0, l1] (jI (mw_rdI σ a z.toNat) :: st) σ Q) := WP_iaload mq216 dd216_89
theorem dd216_90 : decode cX12_notes 90 = .ok (.iastore, 1) := by decide +kernel
theorem ww216_90 {d : Nat} {l0 l1 : Option mw_V} {x z : Int} {a : Nat} {st : List mw_V} {σ : mw_S} {Q : Option mw_V → mw_S → Prop} : mw_WP d 216 90 [l0, l1] (jI x :: jI z :: jR a :: st) σ Q ↔ ((0 ≤ z ∧ z < mw_lenW 0 a) ∧ mw_WP d 216 91 [l0, l1] st (upS σ a z.toNat x) Q) := WP_iastore mq216 dd216_90
theorem dd216_91 : decode cX12_notes 91 = .ok (.iinc 1 1, 3) := by decide +kernel
theorem ww216_91 {d : Nat} {l0 : Option mw_V} {x : Int} {st : List mw_V} {σ : mw_S} {Q : Option mw_V → mw_S → Prop} (h : mw_nlo l0 = true) : mw_WP d 216 91 [l0, some (jI x)] st σ Q ↔ mw_WP d 216 94 [l0, some (jI (w32 (x + (1))))] st σ Q := WP_iinc mq216 dd216_91 rfl (Nat.le_of_ble_eq_true rfl) (mw_nl_of (i := 0) rfl h) rfl
theorem dd216_94 : decode cX12_notes 94 = .ok (.goto (-35), 3) := by decide +kernel
theorem ww216_94 {d : Nat} {l0 l1 : Option mw_V} {st : List mw_V} {σ : mw_S} {Q : Option mw_V → mw_S → Prop} : mw_WP d 216 94 [l0, l1] st σ Q ↔ mw_WP d 216 59 [l0, l1] st σ Q := WP_goto mq216 dd216_94 (by decide)
theorem dd216_97 : decode cX12_notes 97 = .ok (.aload_n 0, 1) := by decide +kernel
theorem ww216_97 {d : Nat} {l1 : Option mw_V} {x : Nat} {st : List mw_V} {σ : mw_S} {Q : Option mw_V → mw_S → Prop} : mw_WP d 216 97 [some (jR x), l1] st σ Q ↔ mw_WP d 216 98 [some (jR x), l1] (jR x :: st) σ Q := WP_aload_n mq216 dd216_97 rfl
theorem dd216_98 : decode cX12_notes 98 = .ok (.getfield 13, 3) := by decide +kernel
theorem ww216_98 {d : Nat} {l0 l1 : Option mw_V} {st : List mw_V} {σ : mw_S} {Q : Option mw_V → mw_S → Prop} : mw_WP d 216 98 [l0, l1] (jR 100 :: st) σ Q ↔ mw_WP d 216 101 [l0, l1] (jR 101 :: st) σ Q := WP_getR (ci := 11) (k := 1) mq216 dd216_98 (by decide) rfl
theorem dd216_101 : decode cX12_notes 101 = .ok (.bipush 88, 2) := by decide +kernel
theorem ww216_101 {d : Nat} {l0 l1 : Option mw_V} {st : List mw_V} {σ : mw_S} {Q : Option mw_V → mw_S → Prop} : mw_WP d 216 101 [l0, l1] st σ Q ↔ mw_WP d 216 103 [l0, l1] (jI (88) :: st) σ Q := WP_bipush mq216 dd216_101 (by decide)
theorem dd216_103 : decode cX12_notes 103 = .ok (.dup2, 1) := by decide +kernel
theorem ww216_103 {d : Nat} {l0 l1 : Option mw_V} {v w : mw_V} {st : List mw_V} {σ : mw_S} {Q : Option mw_V → mw_S → Prop} (h : mw_cat v = 1) (h2 : mw_cat w = 1) : mw_WP d 216 103 [l0, l1] (v :: w :: st) σ Q ↔ mw_WP d 216 104 [l0, l1] (v :: w :: v :: w :: st) σ Q := WP_dup2 mq216 dd216_103 h h2
theorem dd216_104 : decode cX12_notes 104 = .ok (.iaload, 1) := by decide +kernel
theorem ww216_104 {d : Nat} {l0 l1 : Option mw_V} {z : Int} {a : Nat} {st : List mw_V} {σ : mw_S} {Q : Option mw_V → mw_S → Prop} : mw_WP d 216 104 [l0, l1] (jI z :: jR a :: st) σ Q ↔ ((0 ≤ z ∧ z < mw_lenI a) ∧ mw_WP d 216 105 [l0, l1] (jI (mw_rdI σ a z.toNat) :: st) σ Q) := WP_iaload mq216 dd216_104
theorem dd216_105 : decode cX12_notes 105 = .ok (.iconst 1, 1) := by decide +kernel
theorem ww216_105 {d : Nat} {l0 l1 : Option mw_V} {st : List mw_V} {σ : mw_S} {Q : Option mw_V → mw_S → Prop} : mw_WP d 216 105 [l0, l1] st σ Q ↔ mw_WP d 216 106 [l0, l1] (jI (1) :: st) σ Q := WP_iconst mq216 dd216_105 (by decide)
theorem dd216_106 : decode cX12_notes 106 = .ok (.iadd, 1) := by decide +kernel
theorem ww216_106 {d : Nat} {l0 l1 : Option mw_V} {x y : Int} {st : List mw_V} {σ : mw_S} {Q : Option mw_V → mw_S → Prop} : mw_WP d 216 106 [l0, l1] (jI y :: jI x :: st) σ Q ↔ mw_WP d 216 107 [l0, l1] (jI (w32 (x + y)) :: st) σ Q := WP_iadd mq216 dd216_106
theorem dd216_107 : decode cX12_notes 107 = .ok (.iastore, 1) := by decide +kernel
theorem ww216_107 {d : Nat} {l0 l1 : Option mw_V} {x z : Int} {a : Nat} {st : List mw_V} {σ : mw_S} {Q : Option mw_V → mw_S → Prop} : mw_WP d 216 107 [l0, l1] (jI x :: jI z :: jR a :: st) σ Q ↔ ((0 ≤ z ∧ z < mw_lenW 0 a) ∧ mw_WP d 216 108 [l0, l1] st (upS σ a z.toNat x) Q) := WP_iastore mq216 dd216_107
theorem dd216_108 : decode cX12_notes 108 = .ok (.return_, 1) := by decide +kernel
theorem ww216_108 {d : Nat} {l0 l1 : Option mw_V} {σ : mw_S} {Q : Option mw_V → mw_S → Prop} : mw_WP d 216 108 [l0, l1] [] σ Q ↔ Q none σ := WP_return mq216 dd216_108 rfl
theorem ee217 {d : Nat} {a : Nat} {σ : mw_S} {Q : Option mw_V → mw_S → Prop} : mw_Call (d + 1) 217 [jR a] σ Q ↔ mw_WP d 217 0 [some (jR a), none, none] [] σ Q := CL_u mq217 (Nat.le_of_ble_eq_true rfl) rfl
theorem dd217_0 : decode cX12_doings 0 = .ok (.iconst 1, 1) := by decide +kernel
theorem ww217_0 {d : Nat} {l0 l1 l2 : Option mw_V} {st : List mw_V} {σ : mw_S} {Q : Option mw_V → mw_S → Prop} : mw_WP d 217 0 [l0, l1, l2] st σ Q ↔ mw_WP d 217 1 [l0, l1, l2] (jI (1) :: st) σ Q := WP_iconst mq217 dd217_0 (by decide)
theorem dd217_1 : decode cX12_doings 1 = .ok (.istore_n 1, 1) := by decide +kernel
theorem ww217_1 {d : Nat} {l0 l1 l2 : Option mw_V} {x : Int} {st : List mw_V} {σ : mw_S} {Q : Option mw_V → mw_S → Prop} (h : mw_nlo l0 = true) : mw_WP d 217 1 [l0, l1, l2] (jI x :: st) σ Q ↔ mw_WP d 217 2 [l0, some (jI x), l2] st σ Q := WP_istore_n mq217 dd217_1 (Nat.le_of_ble_eq_true rfl) (mw_nl_of (i := 0) rfl h) rfl
theorem dd217_2 : decode cX12_doings 2 = .ok (.iconst 0, 1) := by decide +kernel
theorem ww217_2 {d : Nat} {l0 l1 l2 : Option mw_V} {st : List mw_V} {σ : mw_S} {Q : Option mw_V → mw_S → Prop} : mw_WP d 217 2 [l0, l1, l2] st σ Q ↔ mw_WP d 217 3 [l0, l1, l2] (jI (0) :: st) σ Q := WP_iconst mq217 dd217_2 (by decide)
theorem dd217_3 : decode cX12_doings 3 = .ok (.istore_n 2, 1) := by decide +kernel
theorem ww217_3 {d : Nat} {l0 l1 l2 : Option mw_V} {x : Int} {st : List mw_V} {σ : mw_S} {Q : Option mw_V → mw_S → Prop} (h : mw_nlo l1 = true) : mw_WP d 217 3 [l0, l1, l2] (jI x :: st) σ Q ↔ mw_WP d 217 4 [l0, l1, some (jI x)] st σ Q := WP_istore_n mq217 dd217_3 (Nat.le_of_ble_eq_true rfl) (mw_nl_of (i := 1) rfl h) rfl
theorem dd217_4 : decode cX12_doings 4 = .ok (.iload_n 2, 1) := by decide +kernel
theorem ww217_4 {d : Nat} {l0 l1 : Option mw_V} {x : Int} {st : List mw_V} {σ : mw_S} {Q : Option mw_V → mw_S → Prop} : mw_WP d 217 4 [l0, l1, some (jI x)] st σ Q ↔ mw_WP d 217 5 [l0, l1, some (jI x)] (jI x :: st) σ Q := WP_iload_n mq217 dd217_4 rfl
theorem dd217_5 : decode cX12_doings 5 = .ok (.aload_n 0, 1) := by decide +kernel
theorem ww217_5 {d : Nat} {l1 l2 : Option mw_V} {x : Nat} {st : List mw_V} {σ : mw_S} {Q : Option mw_V → mw_S → Prop} : mw_WP d 217 5 [some (jR x), l1, l2] st σ Q ↔ mw_WP d 217 6 [some (jR x), l1, l2] (jR x :: st) σ Q := WP_aload_n mq217 dd217_5 rfl
theorem dd217_6 : decode cX12_doings 6 = .ok (.getfield 13, 3) := by decide +kernel
theorem ww217_6 {d : Nat} {l0 l1 l2 : Option mw_V} {st : List mw_V} {σ : mw_S} {Q : Option mw_V → mw_S → Prop} : mw_WP d 217 6 [l0, l1, l2] (jR 100 :: st) σ Q ↔ mw_WP d 217 9 [l0, l1, l2] (jR 101 :: st) σ Q := WP_getR (ci := 11) (k := 1) mq217 dd217_6 (by decide) rfl
theorem dd217_9 : decode cX12_doings 9 = .ok (.iconst 2, 1) := by decide +kernel
theorem ww217_9 {d : Nat} {l0 l1 l2 : Option mw_V} {st : List mw_V} {σ : mw_S} {Q : Option mw_V → mw_S → Prop} : mw_WP d 217 9 [l0, l1, l2] st σ Q ↔ mw_WP d 217 10 [l0, l1, l2] (jI (2) :: st) σ Q := WP_iconst mq217 dd217_9 (by decide)
theorem dd217_10 : decode cX12_doings 10 = .ok (.iaload, 1) := by decide +kernel
theorem ww217_10 {d : Nat} {l0 l1 l2 : Option mw_V} {z : Int} {a : Nat} {st : List mw_V} {σ : mw_S} {Q : Option mw_V → mw_S → Prop} : mw_WP d 217 10 [l0, l1, l2] (jI z :: jR a :: st) σ Q ↔ ((0 ≤ z ∧ z < mw_lenI a) ∧ mw_WP d 217 11 [l0, l1, l2] (jI (mw_rdI σ a z.toNat) :: st) σ Q) := WP_iaload mq217 dd217_10
theorem dd217_11 : decode cX12_doings 11 = .ok (.if_icmp .ge 14, 3) := by decide +kernel
theorem ww217_11 {d : Nat} {l0 l1 l2 : Option mw_V} {x y : Int} {st : List mw_V} {σ : mw_S} {Q : Option mw_V → mw_S → Prop} : mw_WP d 217 11 [l0, l1, l2] (jI y :: jI x :: st) σ Q ↔ (if y ≤ x then mw_WP d 217 25 [l0, l1, l2] st σ Q else mw_WP d 217 14 [l0, l1, l2] st σ Q) := WP_icmp_ge mq217 dd217_11 (by decide)
theorem dd217_14 : decode cX12_doings 14 = .ok (.iload_n 1, 1) := by decide +kernel
theorem ww217_14 {d : Nat} {l0 l2 : Option mw_V} {x : Int} {st : List mw_V} {σ : mw_S} {Q : Option mw_V → mw_S → Prop} : mw_WP d 217 14 [l0, some (jI x), l2] st σ Q ↔ mw_WP d 217 15 [l0, some (jI x), l2] (jI x :: st) σ Q := WP_iload_n mq217 dd217_14 rfl
theorem dd217_15 : decode cX12_doings 15 = .ok (.bipush 9, 2) := by decide +kernel
theorem ww217_15 {d : Nat} {l0 l1 l2 : Option mw_V} {st : List mw_V} {σ : mw_S} {Q : Option mw_V → mw_S → Prop} : mw_WP d 217 15 [l0, l1, l2] st σ Q ↔ mw_WP d 217 17 [l0, l1, l2] (jI (9) :: st) σ Q := WP_bipush mq217 dd217_15 (by decide)
theorem dd217_17 : decode cX12_doings 17 = .ok (.imul, 1) := by decide +kernel
theorem ww217_17 {d : Nat} {l0 l1 l2 : Option mw_V} {x y : Int} {st : List mw_V} {σ : mw_S} {Q : Option mw_V → mw_S → Prop} : mw_WP d 217 17 [l0, l1, l2] (jI y :: jI x :: st) σ Q ↔ mw_WP d 217 18 [l0, l1, l2] (jI (w32 (x * y)) :: st) σ Q := WP_imul mq217 dd217_17
theorem dd217_18 : decode cX12_doings 18 = .ok (.istore_n 1, 1) := by decide +kernel
theorem ww217_18 {d : Nat} {l0 l1 l2 : Option mw_V} {x : Int} {st : List mw_V} {σ : mw_S} {Q : Option mw_V → mw_S → Prop} (h : mw_nlo l0 = true) : mw_WP d 217 18 [l0, l1, l2] (jI x :: st) σ Q ↔ mw_WP d 217 19 [l0, some (jI x), l2] st σ Q := WP_istore_n mq217 dd217_18 (Nat.le_of_ble_eq_true rfl) (mw_nl_of (i := 0) rfl h) rfl
theorem dd217_19 : decode cX12_doings 19 = .ok (.iinc 2 1, 3) := by decide +kernel
theorem ww217_19 {d : Nat} {l0 l1 : Option mw_V} {x : Int} {st : List mw_V} {σ : mw_S} {Q : Option mw_V → mw_S → Prop} (h : mw_nlo l1 = true) : mw_WP d 217 19 [l0, l1, some (jI x)] st σ Q ↔ mw_WP d 217 22 [l0, l1, some (jI (w32 (x + (1))))] st σ Q := WP_iinc mq217 dd217_19 rfl (Nat.le_of_ble_eq_true rfl) (mw_nl_of (i := 1) rfl h) rfl
theorem dd217_22 : decode cX12_doings 22 = .ok (.goto (-18), 3) := by decide +kernel
theorem ww217_22 {d : Nat} {l0 l1 l2 : Option mw_V} {st : List mw_V} {σ : mw_S} {Q : Option mw_V → mw_S → Prop} : mw_WP d 217 22 [l0, l1, l2] st σ Q ↔ mw_WP d 217 4 [l0, l1, l2] st σ Q := WP_goto mq217 dd217_22 (by decide)
theorem dd217_25 : decode cX12_doings 25 = .ok (.iload_n 1, 1) := by decide +kernel
theorem ww217_25 {d : Nat} {l0 l2 : Option mw_V} {x : Int} {st : List mw_V} {σ : mw_S} {Q : Option mw_V → mw_S → Prop} : mw_WP d 217 25 [l0, some (jI x), l2] st σ Q ↔ mw_WP d 217 26 [l0, some (jI x), l2] (jI x :: st) σ Q := WP_iload_n mq217 dd217_25 rfl
theorem dd217_26 : decode cX12_doings 26 = .ok (.ireturn, 1) := by decide +kernel
theorem ww217_26 {d : Nat} {l0 l1 l2 : Option mw_V} {z : Int} {σ : mw_S} {Q : Option mw_V → mw_S → Prop} : mw_WP d 217 26 [l0, l1, l2] [jI z] σ Q ↔ Q (some (jI z)) σ := WP_ireturn (ty := .int) mq217 dd217_26 rfl rfl
theorem ee218 {d : Nat} {a : Nat} {z0 : Int} {σ : mw_S} {Q : Option mw_V → mw_S → Prop} : mw_Call (d + 1) 218 [jR a, jI z0] σ Q ↔ mw_WP d 218 0 [some (jR a), some (jI z0), none, none] [] σ Q := CL_u mq218 (Nat.le_of_ble_eq_true rfl) rfl
theorem dd218_0 : decode cX12_nines 0 = .ok (.iconst 1, 1) := by decide +kernel
theorem ww218_0 {d : Nat} {l0 l1 l2 l3 : Option mw_V} {st : List mw_V} {σ : mw_S} {Q : Option mw_V → mw_S → Prop} : mw_WP d 218 0 [l0, l1, l2, l3] st σ Q ↔ mw_WP d 218 1 [l0, l1, l2, l3] (jI (1) :: st) σ Q := WP_iconst mq218 dd218_0 (by decide)
theorem dd218_1 : decode cX12_nines 1 = .ok (.istore_n 2, 1) := by decide +kernel
theorem ww218_1 {d : Nat} {l0 l1 l2 l3 : Option mw_V} {x : Int} {st : List mw_V} {σ : mw_S} {Q : Option mw_V → mw_S → Prop} (h : mw_nlo l1 = true) : mw_WP d 218 1 [l0, l1, l2, l3] (jI x :: st) σ Q ↔ mw_WP d 218 2 [l0, l1, some (jI x), l3] st σ Q := WP_istore_n mq218 dd218_1 (Nat.le_of_ble_eq_true rfl) (mw_nl_of (i := 1) rfl h) rfl
theorem dd218_2 : decode cX12_nines 2 = .ok (.iconst 0, 1) := by decide +kernel
theorem ww218_2 {d : Nat} {l0 l1 l2 l3 : Option mw_V} {st : List mw_V} {σ : mw_S} {Q : Option mw_V → mw_S → Prop} : mw_WP d 218 2 [l0, l1, l2, l3] st σ Q ↔ mw_WP d 218 3 [l0, l1, l2, l3] (jI (0) :: st) σ Q := WP_iconst mq218 dd218_2 (by decide)
theorem dd218_3 : decode cX12_nines 3 = .ok (.istore_n 3, 1) := by decide +kernel
theorem ww218_3 {d : Nat} {l0 l1 l2 l3 : Option mw_V} {x : Int} {st : List mw_V} {σ : mw_S} {Q : Option mw_V → mw_S → Prop} (h : mw_nlo l2 = true) : mw_WP d 218 3 [l0, l1, l2, l3] (jI x :: st) σ Q ↔ mw_WP d 218 4 [l0, l1, l2, some (jI x)] st σ Q := WP_istore_n mq218 dd218_3 (Nat.le_of_ble_eq_true rfl) (mw_nl_of (i := 2) rfl h) rfl
theorem dd218_4 : decode cX12_nines 4 = .ok (.iload_n 3, 1) := by decide +kernel
theorem ww218_4 {d : Nat} {l0 l1 l2 : Option mw_V} {x : Int} {st : List mw_V} {σ : mw_S} {Q : Option mw_V → mw_S → Prop} : mw_WP d 218 4 [l0, l1, l2, some (jI x)] st σ Q ↔ mw_WP d 218 5 [l0, l1, l2, some (jI x)] (jI x :: st) σ Q := WP_iload_n mq218 dd218_4 rfl
theorem dd218_5 : decode cX12_nines 5 = .ok (.iload_n 1, 1) := by decide +kernel
theorem ww218_5 {d : Nat} {l0 l2 l3 : Option mw_V} {x : Int} {st : List mw_V} {σ : mw_S} {Q : Option mw_V → mw_S → Prop} : mw_WP d 218 5 [l0, some (jI x), l2, l3] st σ Q ↔ mw_WP d 218 6 [l0, some (jI x), l2, l3] (jI x :: st) σ Q := WP_iload_n mq218 dd218_5 rfl
theorem dd218_6 : decode cX12_nines 6 = .ok (.if_icmp .ge 14, 3) := by decide +kernel
theorem ww218_6 {d : Nat} {l0 l1 l2 l3 : Option mw_V} {x y : Int} {st : List mw_V} {σ : mw_S} {Q : Option mw_V → mw_S → Prop} : mw_WP d 218 6 [l0, l1, l2, l3] (jI y :: jI x :: st) σ Q ↔ (if y ≤ x then mw_WP d 218 20 [l0, l1, l2, l3] st σ Q else mw_WP d 218 9 [l0, l1, l2, l3] st σ Q) := WP_icmp_ge mq218 dd218_6 (by decide)
theorem dd218_9 : decode cX12_nines 9 = .ok (.iload_n 2, 1) := by decide +kernel
theorem ww218_9 {d : Nat} {l0 l1 l3 : Option mw_V} {x : Int} {st : List mw_V} {σ : mw_S} {Q : Option mw_V → mw_S → Prop} : mw_WP d 218 9 [l0, l1, some (jI x), l3] st σ Q ↔ mw_WP d 218 10 [l0, l1, some (jI x), l3] (jI x :: st) σ Q := WP_iload_n mq218 dd218_9 rfl
theorem dd218_10 : decode cX12_nines 10 = .ok (.bipush 9, 2) := by decide +kernel
theorem ww218_10 {d : Nat} {l0 l1 l2 l3 : Option mw_V} {st : List mw_V} {σ : mw_S} {Q : Option mw_V → mw_S → Prop} : mw_WP d 218 10 [l0, l1, l2, l3] st σ Q ↔ mw_WP d 218 12 [l0, l1, l2, l3] (jI (9) :: st) σ Q := WP_bipush mq218 dd218_10 (by decide)
theorem dd218_12 : decode cX12_nines 12 = .ok (.imul, 1) := by decide +kernel
theorem ww218_12 {d : Nat} {l0 l1 l2 l3 : Option mw_V} {x y : Int} {st : List mw_V} {σ : mw_S} {Q : Option mw_V → mw_S → Prop} : mw_WP d 218 12 [l0, l1, l2, l3] (jI y :: jI x :: st) σ Q ↔ mw_WP d 218 13 [l0, l1, l2, l3] (jI (w32 (x * y)) :: st) σ Q := WP_imul mq218 dd218_12
theorem dd218_13 : decode cX12_nines 13 = .ok (.istore_n 2, 1) := by decide +kernel
theorem ww218_13 {d : Nat} {l0 l1 l2 l3 : Option mw_V} {x : Int} {st : List mw_V} {σ : mw_S} {Q : Option mw_V → mw_S → Prop} (h : mw_nlo l1 = true) : mw_WP d 218 13 [l0, l1, l2, l3] (jI x :: st) σ Q ↔ mw_WP d 218 14 [l0, l1, some (jI x), l3] st σ Q := WP_istore_n mq218 dd218_13 (Nat.le_of_ble_eq_true rfl) (mw_nl_of (i := 1) rfl h) rfl
theorem dd218_14 : decode cX12_nines 14 = .ok (.iinc 3 1, 3) := by decide +kernel
theorem ww218_14 {d : Nat} {l0 l1 l2 : Option mw_V} {x : Int} {st : List mw_V} {σ : mw_S} {Q : Option mw_V → mw_S → Prop} (h : mw_nlo l2 = true) : mw_WP d 218 14 [l0, l1, l2, some (jI x)] st σ Q ↔ mw_WP d 218 17 [l0, l1, l2, some (jI (w32 (x + (1))))] st σ Q := WP_iinc mq218 dd218_14 rfl (Nat.le_of_ble_eq_true rfl) (mw_nl_of (i := 2) rfl h) rfl
theorem dd218_17 : decode cX12_nines 17 = .ok (.goto (-13), 3) := by decide +kernel
theorem ww218_17 {d : Nat} {l0 l1 l2 l3 : Option mw_V} {st : List mw_V} {σ : mw_S} {Q : Option mw_V → mw_S → Prop} : mw_WP d 218 17 [l0, l1, l2, l3] st σ Q ↔ mw_WP d 218 4 [l0, l1, l2, l3] st σ Q := WP_goto mq218 dd218_17 (by decide)
theorem dd218_20 : decode cX12_nines 20 = .ok (.iload_n 2, 1) := by decide +kernel
theorem ww218_20 {d : Nat} {l0 l1 l3 : Option mw_V} {x : Int} {st : List mw_V} {σ : mw_S} {Q : Option mw_V → mw_S → Prop} : mw_WP d 218 20 [l0, l1, some (jI x), l3] st σ Q ↔ mw_WP d 218 21 [l0, l1, some (jI x), l3] (jI x :: st) σ Q := WP_iload_n mq218 dd218_20 rfl
theorem dd218_21 : decode cX12_nines 21 = .ok (.ireturn, 1) := by decide +kernel
theorem ww218_21 {d : Nat} {l0 l1 l2 l3 : Option mw_V} {z : Int} {σ : mw_S} {Q : Option mw_V → mw_S → Prop} : mw_WP d 218 21 [l0, l1, l2, l3] [jI z] σ Q ↔ Q (some (jI z)) σ := WP_ireturn (ty := .int) mq218 dd218_21 rfl rfl
theorem ee219 {d : Nat} {a : Nat} {z0 : Int} {σ : mw_S} {Q : Option mw_V → mw_S → Prop} : mw_Call (d + 1) 219 [jR a, jL z0] σ Q ↔ mw_WP d 219 0 [some (jR a), some (jL z0), none] [] σ Q := CL_u mq219 (Nat.le_of_ble_eq_true rfl) rfl
theorem dd219_0 : decode cX12_isDoings 0 = .ok (.lload_n 1, 1) := by decide +kernel
theorem ww219_0 {d : Nat} {l0 l2 : Option mw_V} {x : Int} {st : List mw_V} {σ : mw_S} {Q : Option mw_V → mw_S → Prop} : mw_WP d 219 0 [l0, some (jL x), l2] st σ Q ↔ mw_WP d 219 1 [l0, some (jL x), l2] (jL x :: st) σ Q := WP_lload_n mq219 dd219_0 rfl
theorem dd219_1 : decode cX12_isDoings 1 = .ok (.lconst 0, 1) := by decide +kernel
theorem ww219_1 {d : Nat} {l0 l1 l2 : Option mw_V} {st : List mw_V} {σ : mw_S} {Q : Option mw_V → mw_S → Prop} : mw_WP d 219 1 [l0, l1, l2] st σ Q ↔ mw_WP d 219 2 [l0, l1, l2] (jL (0) :: st) σ Q := WP_lconst mq219 dd219_1 (by decide)
theorem dd219_2 : decode cX12_isDoings 2 = .ok (.aload_n 0, 1) := by decide +kernel
theorem ww219_2 {d : Nat} {l1 l2 : Option mw_V} {x : Nat} {st : List mw_V} {σ : mw_S} {Q : Option mw_V → mw_S → Prop} : mw_WP d 219 2 [some (jR x), l1, l2] st σ Q ↔ mw_WP d 219 3 [some (jR x), l1, l2] (jR x :: st) σ Q := WP_aload_n mq219 dd219_2 rfl
theorem dd219_3 : decode cX12_isDoings 3 = .ok (.invokevirtual 272, 3) := by decide +kernel
theorem ww219_3 {d : Nat} {l0 l1 l2 : Option mw_V} {a : Nat} {st : List mw_V} {σ : mw_S} {Q : Option mw_V → mw_S → Prop} (hr : mw_rc a = 12) (h8 : (st.map mw_cat).sum ≤ 8) : mw_WP d 219 3 [l0, l1, l2] (jR a :: st) σ Q ↔ mw_Call d 217 [jR a] σ (fun r1 s1 => mw_WP d 219 6 [l0, l1, l2] (r1.toList ++ st) s1 Q) := WP_inv (as := []) mq219 dd219_3 (by decide) mq217 rfl hr h8
theorem dd219_6 : decode cX12_isDoings 6 = .ok (.iconst 1, 1) := by decide +kernel
theorem ww219_6 {d : Nat} {l0 l1 l2 : Option mw_V} {st : List mw_V} {σ : mw_S} {Q : Option mw_V → mw_S → Prop} : mw_WP d 219 6 [l0, l1, l2] st σ Q ↔ mw_WP d 219 7 [l0, l1, l2] (jI (1) :: st) σ Q := WP_iconst mq219 dd219_6 (by decide)
theorem dd219_7 : decode cX12_isDoings 7 = .ok (.isub, 1) := by decide +kernel
theorem ww219_7 {d : Nat} {l0 l1 l2 : Option mw_V} {x y : Int} {st : List mw_V} {σ : mw_S} {Q : Option mw_V → mw_S → Prop} : mw_WP d 219 7 [l0, l1, l2] (jI y :: jI x :: st) σ Q ↔ mw_WP d 219 8 [l0, l1, l2] (jI (w32 (x - y)) :: st) σ Q := WP_isub mq219 dd219_7
theorem dd219_8 : decode cX12_isDoings 8 = .ok (.i2l, 1) := by decide +kernel
theorem ww219_8 {d : Nat} {l0 l1 l2 : Option mw_V} {x : Int} {st : List mw_V} {σ : mw_S} {Q : Option mw_V → mw_S → Prop} : mw_WP d 219 8 [l0, l1, l2] (jI x :: st) σ Q ↔ mw_WP d 219 9 [l0, l1, l2] (jL (yL x) :: st) σ Q := WP_i2l mq219 dd219_8
theorem dd219_9 : decode cX12_isDoings 9 = .ok (.invokestatic 159, 3) := by decide +kernel
theorem ww219_9 {d : Nat} {l0 l1 l2 : Option mw_V} {v0 v1 v2 : mw_V} {st : List mw_V} {σ : mw_S} {Q : Option mw_V → mw_S → Prop} (h8 : (st.map mw_cat).sum ≤ 8) : mw_WP d 219 9 [l0, l1, l2] (v2 :: v1 :: v0 :: st) σ Q ↔ mw_Call d 170 [v0, v1, v2] σ (fun r1 s1 => mw_WP d 219 12 [l0, l1, l2] (r1.toList ++ st) s1 Q) := WP_invs (as := [v2, v1, v0]) mq219 dd219_9 (by decide) mq170 rfl rfl h8
theorem dd219_12 : decode cX12_isDoings 12 = .ok (.ireturn, 1) := by decide +kernel
theorem ww219_12 {d : Nat} {l0 l1 l2 : Option mw_V} {z : Int} {σ : mw_S} {Q : Option mw_V → mw_S → Prop} (h : z = 0 ∨ z = 1) : mw_WP d 219 12 [l0, l1, l2] [jI z] σ Q ↔ Q (some (jI z)) σ := WP_ireturn (ty := .boolean) mq219 dd219_12 rfl (by rcases h with rfl | rfl <;> decide)
theorem ee220 {d : Nat} {a : Nat} {z0 : Int} {z1 : Int} {σ : mw_S} {Q : Option mw_V → mw_S → Prop} : mw_Call (d + 1) 220 [jR a, jI z0, jI z1] σ Q ↔ mw_WP d 220 0 [some (jR a), some (jI z0), some (jI z1), none] [] σ Q := CL_u mq220 (Nat.le_of_ble_eq_true rfl) rfl
theorem dd220_0 : decode cX12_would 0 = .ok (.aload_n 0, 1) := by decide +kernel
theorem ww220_0 {d : Nat} {l1 l2 l3 : Option mw_V} {x : Nat} {st : List mw_V} {σ : mw_S} {Q : Option mw_V → mw_S → Prop} : mw_WP d 220 0 [some (jR x), l1, l2, l3] st σ Q ↔ mw_WP d 220 1 [some (jR x), l1, l2, l3] (jR x :: st) σ Q := WP_aload_n mq220 dd220_0 rfl
theorem dd220_1 : decode cX12_would 1 = .ok (.iconst 0, 1) := by decide +kernel
theorem ww220_1 {d : Nat} {l0 l1 l2 l3 : Option mw_V} {st : List mw_V} {σ : mw_S} {Q : Option mw_V → mw_S → Prop} : mw_WP d 220 1 [l0, l1, l2, l3] st σ Q ↔ mw_WP d 220 2 [l0, l1, l2, l3] (jI (0) :: st) σ Q := WP_iconst mq220 dd220_1 (by decide)
theorem dd220_2 : decode cX12_would 2 = .ok (.putfield 1, 3) := by decide +kernel
theorem ww220_2 {d : Nat} {l0 l1 l2 l3 : Option mw_V} {v : Int} {st : List mw_V} {σ : mw_S} {Q : Option mw_V → mw_S → Prop} : mw_WP d 220 2 [l0, l1, l2, l3] (jI v :: jR 100 :: st) σ Q ↔ mw_WP d 220 5 [l0, l1, l2, l3] st (upS σ 100 0 v) Q := WP_putI (ci := 11) (k := 0) mq220 dd220_2 (by decide) rfl
theorem dd220_5 : decode cX12_would 5 = .ok (.aload_n 0, 1) := by decide +kernel
theorem ww220_5 {d : Nat} {l1 l2 l3 : Option mw_V} {x : Nat} {st : List mw_V} {σ : mw_S} {Q : Option mw_V → mw_S → Prop} : mw_WP d 220 5 [some (jR x), l1, l2, l3] st σ Q ↔ mw_WP d 220 6 [some (jR x), l1, l2, l3] (jR x :: st) σ Q := WP_aload_n mq220 dd220_5 rfl
theorem dd220_6 : decode cX12_would 6 = .ok (.iload_n 1, 1) := by decide +kernel
theorem ww220_6 {d : Nat} {l0 l2 l3 : Option mw_V} {x : Int} {st : List mw_V} {σ : mw_S} {Q : Option mw_V → mw_S → Prop} : mw_WP d 220 6 [l0, some (jI x), l2, l3] st σ Q ↔ mw_WP d 220 7 [l0, some (jI x), l2, l3] (jI x :: st) σ Q := WP_iload_n mq220 dd220_6 rfl
theorem dd220_7 : decode cX12_would 7 = .ok (.invokevirtual 222, 3) := by decide +kernel
theorem ww220_7 {d : Nat} {l0 l1 l2 l3 : Option mw_V} {v0 : mw_V} {a : Nat} {st : List mw_V} {σ : mw_S} {Q : Option mw_V → mw_S → Prop} (hr : mw_rc a = 12) (h8 : (st.map mw_cat).sum ≤ 8) : mw_WP d 220 7 [l0, l1, l2, l3] (v0 :: jR a :: st) σ Q ↔ mw_Call d 196 [jR a, v0] σ (fun r1 s1 => mw_WP d 220 10 [l0, l1, l2, l3] (r1.toList ++ st) s1 Q) := WP_inv (as := [v0]) mq220 dd220_7 (by decide) mq196 rfl hr h8
theorem dd220_10 : decode cX12_would 10 = .ok (.ifCond .eq 15, 3) := by decide +kernel
theorem ww220_10 {d : Nat} {l0 l1 l2 l3 : Option mw_V} {x : Int} {st : List mw_V} {σ : mw_S} {Q : Option mw_V → mw_S → Prop} : mw_WP d 220 10 [l0, l1, l2, l3] (jI x :: st) σ Q ↔ (if x = 0 then mw_WP d 220 25 [l0, l1, l2, l3] st σ Q else mw_WP d 220 13 [l0, l1, l2, l3] st σ Q) := WP_if_eq mq220 dd220_10 (by decide)
theorem dd220_13 : decode cX12_would 13 = .ok (.iload_n 2, 1) := by decide +kernel
theorem ww220_13 {d : Nat} {l0 l1 l3 : Option mw_V} {x : Int} {st : List mw_V} {σ : mw_S} {Q : Option mw_V → mw_S → Prop} : mw_WP d 220 13 [l0, l1, some (jI x), l3] st σ Q ↔ mw_WP d 220 14 [l0, l1, some (jI x), l3] (jI x :: st) σ Q := WP_iload_n mq220 dd220_13 rfl
theorem dd220_14 : decode cX12_would 14 = .ok (.i2l, 1) := by decide +kernel
theorem ww220_14 {d : Nat} {l0 l1 l2 l3 : Option mw_V} {x : Int} {st : List mw_V} {σ : mw_S} {Q : Option mw_V → mw_S → Prop} : mw_WP d 220 14 [l0, l1, l2, l3] (jI x :: st) σ Q ↔ mw_WP d 220 15 [l0, l1, l2, l3] (jL (yL x) :: st) σ Q := WP_i2l mq220 dd220_14
theorem dd220_15 : decode cX12_would 15 = .ok (.lconst 0, 1) := by decide +kernel
theorem ww220_15 {d : Nat} {l0 l1 l2 l3 : Option mw_V} {st : List mw_V} {σ : mw_S} {Q : Option mw_V → mw_S → Prop} : mw_WP d 220 15 [l0, l1, l2, l3] st σ Q ↔ mw_WP d 220 16 [l0, l1, l2, l3] (jL (0) :: st) σ Q := WP_lconst mq220 dd220_15 (by decide)
theorem dd220_16 : decode cX12_would 16 = .ok (.ldc2_w 202, 3) := by decide +kernel
theorem ww220_16 {d : Nat} {l0 l1 l2 l3 : Option mw_V} {st : List mw_V} {σ : mw_S} {Q : Option mw_V → mw_S → Prop} : mw_WP d 220 16 [l0, l1, l2, l3] st σ Q ↔ mw_WP d 220 19 [l0, l1, l2, l3] (jL (8) :: st) σ Q := WP_ldc2_w (v := 8) mq220 dd220_16 (by decide) (by decide)
theorem dd220_19 : decode cX12_would 19 = .ok (.invokestatic 159, 3) := by decide +kernel
theorem ww220_19 {d : Nat} {l0 l1 l2 l3 : Option mw_V} {v0 v1 v2 : mw_V} {st : List mw_V} {σ : mw_S} {Q : Option mw_V → mw_S → Prop} (h8 : (st.map mw_cat).sum ≤ 8) : mw_WP d 220 19 [l0, l1, l2, l3] (v2 :: v1 :: v0 :: st) σ Q ↔ mw_Call d 170 [v0, v1, v2] σ (fun r1 s1 => mw_WP d 220 22 [l0, l1, l2, l3] (r1.toList ++ st) s1 Q) := WP_invs (as := [v2, v1, v0]) mq220 dd220_19 (by decide) mq170 rfl rfl h8
theorem dd220_22 : decode cX12_would 22 = .ok (.ifCond .ne 6, 3) := by decide +kernel
theorem ww220_22 {d : Nat} {l0 l1 l2 l3 : Option mw_V} {x : Int} {st : List mw_V} {σ : mw_S} {Q : Option mw_V → mw_S → Prop} : mw_WP d 220 22 [l0, l1, l2, l3] (jI x :: st) σ Q ↔ (if ¬ x = 0 then mw_WP d 220 28 [l0, l1, l2, l3] st σ Q else mw_WP d 220 25 [l0, l1, l2, l3] st σ Q) := WP_if_ne mq220 dd220_22 (by decide)
theorem dd220_25 : decode cX12_would 25 = .ok (.bipush (-2), 2) := by decide +kernel
theorem ww220_25 {d : Nat} {l0 l1 l2 l3 : Option mw_V} {st : List mw_V} {σ : mw_S} {Q : Option mw_V → mw_S → Prop} : mw_WP d 220 25 [l0, l1, l2, l3] st σ Q ↔ mw_WP d 220 27 [l0, l1, l2, l3] (jI (-2) :: st) σ Q := WP_bipush mq220 dd220_25 (by decide)
theorem dd220_27 : decode cX12_would 27 = .ok (.ireturn, 1) := by decide +kernel
theorem ww220_27 {d : Nat} {l0 l1 l2 l3 : Option mw_V} {z : Int} {σ : mw_S} {Q : Option mw_V → mw_S → Prop} : mw_WP d 220 27 [l0, l1, l2, l3] [jI z] σ Q ↔ Q (some (jI z)) σ := WP_ireturn (ty := .int) mq220 dd220_27 rfl rfl
theorem dd220_28 : decode cX12_would 28 = .ok (.aload_n 0, 1) := by decide +kernel
theorem ww220_28 {d : Nat} {l1 l2 l3 : Option mw_V} {x : Nat} {st : List mw_V} {σ : mw_S} {Q : Option mw_V → mw_S → Prop} : mw_WP d 220 28 [some (jR x), l1, l2, l3] st σ Q ↔ mw_WP d 220 29 [some (jR x), l1, l2, l3] (jR x :: st) σ Q := WP_aload_n mq220 dd220_28 rfl
theorem dd220_29 : decode cX12_would 29 = .ok (.invokevirtual 275, 3) := by decide +kernel
theorem ww220_29 {d : Nat} {l0 l1 l2 l3 : Option mw_V} {a : Nat} {st : List mw_V} {σ : mw_S} {Q : Option mw_V → mw_S → Prop} (hr : mw_rc a = 12) (h8 : (st.map mw_cat).sum ≤ 8) : mw_WP d 220 29 [l0, l1, l2, l3] (jR a :: st) σ Q ↔ mw_Call d 214 [jR a] σ (fun r1 s1 => mw_WP d 220 32 [l0, l1, l2, l3] (r1.toList ++ st) s1 Q) := WP_inv (as := []) mq220 dd220_29 (by decide) mq214 rfl hr h8
theorem dd220_32 : decode cX12_would 32 = .ok (.aload_n 0, 1) := by decide +kernel
theorem ww220_32 {d : Nat} {l1 l2 l3 : Option mw_V} {x : Nat} {st : List mw_V} {σ : mw_S} {Q : Option mw_V → mw_S → Prop} : mw_WP d 220 32 [some (jR x), l1, l2, l3] st σ Q ↔ mw_WP d 220 33 [some (jR x), l1, l2, l3] (jR x :: st) σ Q := WP_aload_n mq220 dd220_32 rfl
theorem dd220_33 : decode cX12_would 33 = .ok (.iload_n 2, 1) := by decide +kernel
theorem ww220_33 {d : Nat} {l0 l1 l3 : Option mw_V} {x : Int} {st : List mw_V} {σ : mw_S} {Q : Option mw_V → mw_S → Prop} : mw_WP d 220 33 [l0, l1, some (jI x), l3] st σ Q ↔ mw_WP d 220 34 [l0, l1, some (jI x), l3] (jI x :: st) σ Q := WP_iload_n mq220 dd220_33 rfl
theorem dd220_34 : decode cX12_would 34 = .ok (.aload_n 0, 1) := by decide +kernel
theorem ww220_34 {d : Nat} {l1 l2 l3 : Option mw_V} {x : Nat} {st : List mw_V} {σ : mw_S} {Q : Option mw_V → mw_S → Prop} : mw_WP d 220 34 [some (jR x), l1, l2, l3] st σ Q ↔ mw_WP d 220 35 [some (jR x), l1, l2, l3] (jR x :: st) σ Q := WP_aload_n mq220 dd220_34 rfl
theorem dd220_35 : decode cX12_would 35 = .ok (.iload_n 1, 1) := by decide +kernel
theorem ww220_35 {d : Nat} {l0 l2 l3 : Option mw_V} {x : Int} {st : List mw_V} {σ : mw_S} {Q : Option mw_V → mw_S → Prop} : mw_WP d 220 35 [l0, some (jI x), l2, l3] st σ Q ↔ mw_WP d 220 36 [l0, some (jI x), l2, l3] (jI x :: st) σ Q := WP_iload_n mq220 dd220_35 rfl
theorem dd220_36 : decode cX12_would 36 = .ok (.invokevirtual 278, 3) := by decide +kernel
theorem ww220_36 {d : Nat} {l0 l1 l2 l3 : Option mw_V} {v0 : mw_V} {a : Nat} {st : List mw_V} {σ : mw_S} {Q : Option mw_V → mw_S → Prop} (hr : mw_rc a = 12) (h8 : (st.map mw_cat).sum ≤ 8) : mw_WP d 220 36 [l0, l1, l2, l3] (v0 :: jR a :: st) σ Q ↔ mw_Call d 218 [jR a, v0] σ (fun r1 s1 => mw_WP d 220 39 [l0, l1, l2, l3] (r1.toList ++ st) s1 Q) := WP_inv (as := [v0]) mq220 dd220_36 (by decide) mq218 rfl hr h8
theorem dd220_39 : decode cX12_would 39 = .ok (.imul, 1) := by decide +kernel
theorem ww220_39 {d : Nat} {l0 l1 l2 l3 : Option mw_V} {x y : Int} {st : List mw_V} {σ : mw_S} {Q : Option mw_V → mw_S → Prop} : mw_WP d 220 39 [l0, l1, l2, l3] (jI y :: jI x :: st) σ Q ↔ mw_WP d 220 40 [l0, l1, l2, l3] (jI (w32 (x * y)) :: st) σ Q := WP_imul mq220 dd220_39
theorem dd220_40 : decode cX12_would 40 = .ok (.invokevirtual 281, 3) := by decide +kernel
theorem ww220_40 {d : Nat} {l0 l1 l2 l3 : Option mw_V} {v0 : mw_V} {a : Nat} {st : List mw_V} {σ : mw_S} {Q : Option mw_V → mw_S → Prop} (hr : mw_rc a = 12) (h8 : (st.map mw_cat).sum ≤ 8) : mw_WP d 220 40 [l0, l1, l2, l3] (v0 :: jR a :: st) σ Q ↔ mw_Call d 213 [jR a, v0] σ (fun r1 s1 => mw_WP d 220 43 [l0, l1, l2, l3] (r1.toList ++ st) s1 Q) := WP_inv (as := [v0]) mq220 dd220_40 (by decide) mq213 rfl hr h8
theorem dd220_43 : decode cX12_would 43 = .ok (.aload_n 0, 1) := by decide +kernel
theorem ww220_43 {d : Nat} {l1 l2 l3 : Option mw_V} {x : Nat} {st : List mw_V} {σ : mw_S} {Q : Option mw_V → mw_S → Prop} : mw_WP d 220 43 [some (jR x), l1, l2, l3] st σ Q ↔ mw_WP d 220 44 [some (jR x), l1, l2, l3] (jR x :: st) σ Q := WP_aload_n mq220 dd220_43 rfl
theorem dd220_44 : decode cX12_would 44 = .ok (.getfield 13, 3) := by decide +kernel
theorem ww220_44 {d : Nat} {l0 l1 l2 l3 : Option mw_V} {st : List mw_V} {σ : mw_S} {Q : Option mw_V → mw_S → Prop} : mw_WP d 220 44 [l0, l1, l2, l3] (jR 100 :: st) σ Q ↔ mw_WP d 220 47 [l0, l1, l2, l3] (jR 101 :: st) σ Q := WP_getR (ci := 11) (k := 1) mq220 dd220_44 (by decide) rfl
theorem dd220_47 : decode cX12_would 47 = .ok (.bipush 82, 2) := by decide +kernel
theorem ww220_47 {d : Nat} {l0 l1 l2 l3 : Option mw_V} {st : List mw_V} {σ : mw_S} {Q : Option mw_V → mw_S → Prop} : mw_WP d 220 47 [l0, l1, l2, l3] st σ Q ↔ mw_WP d 220 49 [l0, l1, l2, l3] (jI (82) :: st) σ Q := WP_bipush mq220 dd220_47 (by decide)
theorem dd220_49 : decode cX12_would 49 = .ok (.iload_n 1, 1) := by decide +kernel
theorem ww220_49 {d : Nat} {l0 l2 l3 : Option mw_V} {x : Int} {st : List mw_V} {σ : mw_S} {Q : Option mw_V → mw_S → Prop} : mw_WP d 220 49 [l0, some (jI x), l2, l3] st σ Q ↔ mw_WP d 220 50 [l0, some (jI x), l2, l3] (jI x :: st) σ Q := WP_iload_n mq220 dd220_49 rfl
theorem dd220_50 : decode cX12_would 50 = .ok (.iadd, 1) := by decide +kernel
theorem ww220_50 {d : Nat} {l0 l1 l2 l3 : Option mw_V} {x y : Int} {st : List mw_V} {σ : mw_S} {Q : Option mw_V → mw_S → Prop} : mw_WP d 220 50 [l0, l1, l2, l3] (jI y :: jI x :: st) σ Q ↔ mw_WP d 220 51 [l0, l1, l2, l3] (jI (w32 (x + y)) :: st) σ Q := WP_iadd mq220 dd220_50
theorem dd220_51 : decode cX12_would 51 = .ok (.iaload, 1) := by decide +kernel
theorem ww220_51 {d : Nat} {l0 l1 l2 l3 : Option mw_V} {z : Int} {a : Nat} {st : List mw_V} {σ : mw_S} {Q : Option mw_V → mw_S → Prop} : mw_WP d 220 51 [l0, l1, l2, l3] (jI z :: jR a :: st) σ Q ↔ ((0 ≤ z ∧ z < mw_lenI a) ∧ mw_WP d 220 52 [l0, l1, l2, l3] (jI (mw_rdI σ a z.toNat) :: st) σ Q) := WP_iaload mq220 dd220_51
theorem dd220_52 : decode cX12_would 52 = .ok (.istore_n 3, 1) := by decide +kernel
theorem ww220_52 {d : Nat} {l0 l1 l2 l3 : Option mw_V} {x : Int} {st : List mw_V} {σ : mw_S} {Q : Option mw_V → mw_S → Prop} (h : mw_nlo l2 = true) : mw_WP d 220 52 [l0, l1, l2, l3] (jI x :: st) σ Q ↔ mw_WP d 220 53 [l0, l1, l2, some (jI x)] st σ Q := WP_istore_n mq220 dd220_52 (Nat.le_of_ble_eq_true rfl) (mw_nl_of (i := 2) rfl h) rfl
theorem dd220_53 : decode cX12_would 53 = .ok (.aload_n 0, 1) := by decide +kernel
theorem ww220_53 {d : Nat} {l1 l2 l3 : Option mw_V} {x : Nat} {st : List mw_V} {σ : mw_S} {Q : Option mw_V → mw_S → Prop} : mw_WP d 220 53 [some (jR x), l1, l2, l3] st σ Q ↔ mw_WP d 220 54 [some (jR x), l1, l2, l3] (jR x :: st) σ Q := WP_aload_n mq220 dd220_53 rfl
theorem dd220_54 : decode cX12_would 54 = .ok (.invokevirtual 284, 3) := by decide +kernel
theorem ww220_54 {d : Nat} {l0 l1 l2 l3 : Option mw_V} {a : Nat} {st : List mw_V} {σ : mw_S} {Q : Option mw_V → mw_S → Prop} (hr : mw_rc a = 12) (h8 : (st.map mw_cat).sum ≤ 8) : mw_WP d 220 54 [l0, l1, l2, l3] (jR a :: st) σ Q ↔ mw_Call d 215 [jR a] σ (fun r1 s1 => mw_WP d 220 57 [l0, l1, l2, l3] (r1.toList ++ st) s1 Q) := WP_inv (as := []) mq220 dd220_54 (by decide) mq215 rfl hr h8
theorem dd220_57 : decode cX12_would 57 = .ok (.iload_n 3, 1) := by decide +kernel
theorem ww220_57 {d : Nat} {l0 l1 l2 : Option mw_V} {x : Int} {st : List mw_V} {σ : mw_S} {Q : Option mw_V → mw_S → Prop} : mw_WP d 220 57 [l0, l1, l2, some (jI x)] st σ Q ↔ mw_WP d 220 58 [l0, l1, l2, some (jI x)] (jI x :: st) σ Q := WP_iload_n mq220 dd220_57 rfl
theorem dd220_58 : decode cX12_would 58 = .ok (.ireturn, 1) := by decide +kernel
theorem ww220_58 {d : Nat} {l0 l1 l2 l3 : Option mw_V} {z : Int} {σ : mw_S} {Q : Option mw_V → mw_S → Prop} : mw_WP d 220 58 [l0, l1, l2, l3] [jI z] σ Q ↔ Q (some (jI z)) σ := WP_ireturn (ty := .int) mq220 dd220_58 rfl rfl
theorem ee221 {d : Nat} {a : Nat} {z0 : Int} {σ : mw_S} {Q : Option mw_V → mw_S → Prop} : mw_Call (d + 1) 221 [jR a, jI z0] σ Q ↔ mw_WP d 221 0 [some (jR a), some (jI z0)] [] σ Q := CL_u mq221 (Nat.le_of_ble_eq_true rfl) rfl
theorem dd221_0 : decode cX12_step 0 = .ok (.aload_n 0, 1) := by decide +kernel
theorem ww221_0 {d : Nat} {l1 : Option mw_V} {x : Nat} {st : List mw_V} {σ : mw_S} {Q : Option mw_V → mw_S → Prop} : mw_WP d 221 0 [some (jR x), l1] st σ Q ↔ mw_WP d 221 1 [some (jR x), l1] (jR x :: st) σ Q := WP_aload_n mq221 dd221_0 rfl
theorem dd221_1 : decode cX12_step 1 = .ok (.iconst 0, 1) := by decide +kernel
theorem ww221_1 {d : Nat} {l0 l1 : Option mw_V} {st : List mw_V} {σ : mw_S} {Q : Option mw_V → mw_S → Prop} : mw_WP d 221 1 [l0, l1] st σ Q ↔ mw_WP d 221 2 [l0, l1] (jI (0) :: st) σ Q := WP_iconst mq221 dd221_1 (by decide)
theorem dd221_2 : decode cX12_step 2 = .ok (.putfield 1, 3) := by decide +kernel
theorem ww221_2 {d : Nat} {l0 l1 : Option mw_V} {v : Int} {st : List mw_V} {σ : mw_S} {Q : Option mw_V → mw_S → Prop} : mw_WP d 221 2 [l0, l1] (jI v :: jR 100 :: st) σ Q ↔ mw_WP d 221 5 [l0, l1] st (upS σ 100 0 v) Q := WP_putI (ci := 11) (k := 0) mq221 dd221_2 (by decide) rfl
theorem dd221_5 : decode cX12_step 5 = .ok (.aload_n 0, 1) := by decide +kernel
theorem ww221_5 {d : Nat} {l1 : Option mw_V} {x : Nat} {st : List mw_V} {σ : mw_S} {Q : Option mw_V → mw_S → Prop} : mw_WP d 221 5 [some (jR x), l1] st σ Q ↔ mw_WP d 221 6 [some (jR x), l1] (jR x :: st) σ Q := WP_aload_n mq221 dd221_5 rfl
theorem dd221_6 : decode cX12_step 6 = .ok (.iload_n 1, 1) := by decide +kernel
theorem ww221_6 {d : Nat} {l0 : Option mw_V} {x : Int} {st : List mw_V} {σ : mw_S} {Q : Option mw_V → mw_S → Prop} : mw_WP d 221 6 [l0, some (jI x)] st σ Q ↔ mw_WP d 221 7 [l0, some (jI x)] (jI x :: st) σ Q := WP_iload_n mq221 dd221_6 rfl
theorem dd221_7 : decode cX12_step 7 = .ok (.i2l, 1) := by decide +kernel
theorem ww221_7 {d : Nat} {l0 l1 : Option mw_V} {x : Int} {st : List mw_V} {σ : mw_S} {Q : Option mw_V → mw_S → Prop} : mw_WP d 221 7 [l0, l1] (jI x :: st) σ Q ↔ mw_WP d 221 8 [l0, l1] (jL (yL x) :: st) σ Q := WP_i2l mq221 dd221_7
theorem dd221_8 : decode cX12_step 8 = .ok (.invokevirtual 287, 3) := by decide +kernel
theorem ww221_8 {d : Nat} {l0 l1 : Option mw_V} {v0 : mw_V} {a : Nat} {st : List mw_V} {σ : mw_S} {Q : Option mw_V → mw_S → Prop} (hr : mw_rc a = 12) (h8 : (st.map mw_cat).sum ≤ 8) : mw_WP d 221 8 [l0, l1] (v0 :: jR a :: st) σ Q ↔ mw_Call d 219 [jR a, v0] σ (fun r1 s1 => mw_WP d 221 11 [l0, l1] (r1.toList ++ st) s1 Q) := WP_inv (as := [v0]) mq221 dd221_8 (by decide) mq219 rfl hr h8
theorem dd221_11 : decode cX12_step 11 = .ok (.ifCond .ne 6, 3) := by decide +kernel
theorem ww221_11 {d : Nat} {l0 l1 : Option mw_V} {x : Int} {st : List mw_V} {σ : mw_S} {Q : Option mw_V → mw_S → Prop} : mw_WP d 221 11 [l0, l1] (jI x :: st) σ Q ↔ (if ¬ x = 0 then mw_WP d 221 17 [l0, l1] st σ Q else mw_WP d 221 14 [l0, l1] st σ Q) := WP_if_ne mq221 dd221_11 (by decide)
theorem dd221_14 : decode cX12_step 14 = .ok (.bipush (-3), 2) := by decide +kernel
theorem ww221_14 {d : Nat} {l0 l1 : Option mw_V} {st : List mw_V} {σ : mw_S} {Q : Option mw_V → mw_S → Prop} : mw_WP d 221 14 [l0, l1] st σ Q ↔ mw_WP d 221 16 [l0, l1] (jI (-3) :: st) σ Q := WP_bipush mq221 dd221_14 (by decide)
theorem dd221_16 : decode cX12_step 16 = .ok (.ireturn, 1) := by decide +kernel
theorem ww221_16 {d : Nat} {l0 l1 : Option mw_V} {z : Int} {σ : mw_S} {Q : Option mw_V → mw_S → Prop} : mw_WP d 221 16 [l0, l1] [jI z] σ Q ↔ Q (some (jI z)) σ := WP_ireturn (ty := .int) mq221 dd221_16 rfl rfl
theorem dd221_17 : decode cX12_step 17 = .ok (.aload_n 0, 1) := by decide +kernel
theorem ww221_17 {d : Nat} {l1 : Option mw_V} {x : Nat} {st : List mw_V} {σ : mw_S} {Q : Option mw_V → mw_S → Prop} : mw_WP d 221 17 [some (jR x), l1] st σ Q ↔ mw_WP d 221 18 [some (jR x), l1] (jR x :: st) σ Q := WP_aload_n mq221 dd221_17 rfl
theorem dd221_18 : decode cX12_step 18 = .ok (.invokevirtual 275, 3) := by decide +kernel
theorem ww221_18 {d : Nat} {l0 l1 : Option mw_V} {a : Nat} {st : List mw_V} {σ : mw_S} {Q : Option mw_V → mw_S → Prop} (hr : mw_rc a = 12) (h8 : (st.map mw_cat).sum ≤ 8) : mw_WP d 221 18 [l0, l1] (jR a :: st) σ Q ↔ mw_Call d 214 [jR a] σ (fun r1 s1 => mw_WP d 221 21 [l0, l1] (r1.toList ++ st) s1 Q) := WP_inv (as := []) mq221 dd221_18 (by decide) mq214 rfl hr h8
theorem dd221_21 : decode cX12_step 21 = .ok (.aload_n 0, 1) := by decide +kernel
theorem ww221_21 {d : Nat} {l1 : Option mw_V} {x : Nat} {st : List mw_V} {σ : mw_S} {Q : Option mw_V → mw_S → Prop} : mw_WP d 221 21 [some (jR x), l1] st σ Q ↔ mw_WP d 221 22 [some (jR x), l1] (jR x :: st) σ Q := WP_aload_n mq221 dd221_21 rfl
theorem dd221_22 : decode cX12_step 22 = .ok (.iload_n 1, 1) := by decide +kernel
theorem ww221_22 {d : Nat} {l0 : Option mw_V} {x : Int} {st : List mw_V} {σ : mw_S} {Q : Option mw_V → mw_S → Prop} : mw_WP d 221 22 [l0, some (jI x)] st σ Q ↔ mw_WP d 221 23 [l0, some (jI x)] (jI x :: st) σ Q := WP_iload_n mq221 dd221_22 rfl
theorem dd221_23 : decode cX12_step 23 = .ok (.invokevirtual 281, 3) := by decide +kernel
theorem ww221_23 {d : Nat} {l0 l1 : Option mw_V} {v0 : mw_V} {a : Nat} {st : List mw_V} {σ : mw_S} {Q : Option mw_V → mw_S → Prop} (hr : mw_rc a = 12) (h8 : (st.map mw_cat).sum ≤ 8) : mw_WP d 221 23 [l0, l1] (v0 :: jR a :: st) σ Q ↔ mw_Call d 213 [jR a, v0] σ (fun r1 s1 => mw_WP d 221 26 [l0, l1] (r1.toList ++ st) s1 Q) := WP_inv (as := [v0]) mq221 dd221_23 (by decide) mq213 rfl hr h8
theorem dd221_26 : decode cX12_step 26 = .ok (.aload_n 0, 1) := by decide +kernel
theorem ww221_26 {d : Nat} {l1 : Option mw_V} {x : Nat} {st : List mw_V} {σ : mw_S} {Q : Option mw_V → mw_S → Prop} : mw_WP d 221 26 [some (jR x), l1] st σ Q ↔ mw_WP d 221 27 [some (jR x), l1] (jR x :: st) σ Q := WP_aload_n mq221 dd221_26 rfl
theorem dd221_27 : decode cX12_step 27 = .ok (.invokevirtual 291, 3) := by decide +kernel
theorem ww221_27 {d : Nat} {l0 l1 : Option mw_V} {a : Nat} {st : List mw_V} {σ : mw_S} {Q : Option mw_V → mw_S → Prop} (hr : mw_rc a = 12) (h8 : (st.map mw_cat).sum ≤ 8) : mw_WP d 221 27 [l0, l1] (jR a :: st) σ Q ↔ mw_Call d 216 [jR a] σ (fun r1 s1 => mw_WP d 221 30 [l0, l1] (r1.toList ++ st) s1 Q) := WP_inv (as := []) mq221 dd221_27 (by decide) mq216 rfl hr h8
theorem dd221_30 : decode cX12_step 30 = .ok (.aload_n 0, 1) := by decide +kernel
theorem ww221_30 {d : Nat} {l1 : Option mw_V} {x : Nat} {st : List mw_V} {σ : mw_S} {Q : Option mw_V → mw_S → Prop} : mw_WP d 221 30 [some (jR x), l1] st σ Q ↔ mw_WP d 221 31 [some (jR x), l1] (jR x :: st) σ Q := WP_aload_n mq221 dd221_30 rfl
theorem dd221_31 : decode cX12_step 31 = .ok (.getfield 250, 3) := by decide +kernel
theorem ww221_31 {d : Nat} {l0 l1 : Option mw_V} {st : List mw_V} {σ : mw_S} {Q : Option mw_V → mw_S → Prop} : mw_WP d 221 31 [l0, l1] (jR 100 :: st) σ Q ↔ mw_WP d 221 34 [l0, l1] (jI (σ 100 19) :: st) σ Q := WP_getI (ci := 11) (k := 19) mq221 dd221_31 (by decide) (Or.inl rfl)
theorem dd221_34 : decode cX12_step 34 = .ok (.ireturn, 1) := by decide +kernel
theorem ww221_34 {d : Nat} {l0 l1 : Option mw_V} {z : Int} {σ : mw_S} {Q : Option mw_V → mw_S → Prop} : mw_WP d 221 34 [l0, l1] [jI z] σ Q ↔ Q (some (jI z)) σ := WP_ireturn (ty := .int) mq221 dd221_34 rfl rfl
theorem ee222 {d : Nat} {a : Nat} {z0 : Int} {σ : mw_S} {Q : Option mw_V → mw_S → Prop} : mw_Call (d + 1) 222 [jR a, jI z0] σ Q ↔ mw_WP d 222 0 [some (jR a), some (jI z0), none] [] σ Q := CL_u mq222 (Nat.le_of_ble_eq_true rfl) rfl
theorem dd222_0 : decode cX12_undo 0 = .ok (.aload_n 0, 1) := by decide +kernel
theorem ww222_0 {d : Nat} {l1 l2 : Option mw_V} {x : Nat} {st : List mw_V} {σ : mw_S} {Q : Option mw_V → mw_S → Prop} : mw_WP d 222 0 [some (jR x), l1, l2] st σ Q ↔ mw_WP d 222 1 [some (jR x), l1, l2] (jR x :: st) σ Q := WP_aload_n mq222 dd222_0 rfl
theorem dd222_1 : decode cX12_undo 1 = .ok (.iconst 0, 1) := by decide +kernel
theorem ww222_1 {d : Nat} {l0 l1 l2 : Option mw_V} {st : List mw_V} {σ : mw_S} {Q : Option mw_V → mw_S → Prop} : mw_WP d 222 1 [l0, l1, l2] st σ Q ↔ mw_WP d 222 2 [l0, l1, l2] (jI (0) :: st) σ Q := WP_iconst mq222 dd222_1 (by decide)
theorem dd222_2 : decode cX12_undo 2 = .ok (.putfield 1, 3) := by decide +kernel
theorem ww222_2 {d : Nat} {l0 l1 l2 : Option mw_V} {v : Int} {st : List mw_V} {σ : mw_S} {Q : Option mw_V → mw_S → Prop} : mw_WP d 222 2 [l0, l1, l2] (jI v :: jR 100 :: st) σ Q ↔ mw_WP d 222 5 [l0, l1, l2] st (upS σ 100 0 v) Q := WP_putI (ci := 11) (k := 0) mq222 dd222_2 (by decide) rfl
theorem dd222_5 : decode cX12_undo 5 = .ok (.iload_n 1, 1) := by decide +kernel
theorem ww222_5 {d : Nat} {l0 l2 : Option mw_V} {x : Int} {st : List mw_V} {σ : mw_S} {Q : Option mw_V → mw_S → Prop} : mw_WP d 222 5 [l0, some (jI x), l2] st σ Q ↔ mw_WP d 222 6 [l0, some (jI x), l2] (jI x :: st) σ Q := WP_iload_n mq222 dd222_5 rfl
theorem dd222_6 : decode cX12_undo 6 = .ok (.i2l, 1) := by decide +kernel
theorem ww222_6 {d : Nat} {l0 l1 l2 : Option mw_V} {x : Int} {st : List mw_V} {σ : mw_S} {Q : Option mw_V → mw_S → Prop} : mw_WP d 222 6 [l0, l1, l2] (jI x :: st) σ Q ↔ mw_WP d 222 7 [l0, l1, l2] (jL (yL x) :: st) σ Q := WP_i2l mq222 dd222_6
theorem dd222_7 : decode cX12_undo 7 = .ok (.lconst 1, 1) := by decide +kernel
theorem ww222_7 {d : Nat} {l0 l1 l2 : Option mw_V} {st : List mw_V} {σ : mw_S} {Q : Option mw_V → mw_S → Prop} : mw_WP d 222 7 [l0, l1, l2] st σ Q ↔ mw_WP d 222 8 [l0, l1, l2] (jL (1) :: st) σ Q := WP_lconst mq222 dd222_7 (by decide)
theorem dd222_8 : decode cX12_undo 8 = .ok (.ldc2_w 294, 3) := by decide +kernel
theorem ww222_8 {d : Nat} {l0 l1 l2 : Option mw_V} {st : List mw_V} {σ : mw_S} {Q : Option mw_V → mw_S → Prop} : mw_WP d 222 8 [l0, l1, l2] st σ Q ↔ mw_WP d 222 11 [l0, l1, l2] (jL (10) :: st) σ Q := WP_ldc2_w (v := 10) mq222 dd222_8 (by decide) (by decide)
theorem dd222_11 : decode cX12_undo 11 = .ok (.invokestatic 159, 3) := by decide +kernel
theorem ww222_11 {d : Nat} {l0 l1 l2 : Option mw_V} {v0 v1 v2 : mw_V} {st : List mw_V} {σ : mw_S} {Q : Option mw_V → mw_S → Prop} (h8 : (st.map mw_cat).sum ≤ 8) : mw_WP d 222 11 [l0, l1, l2] (v2 :: v1 :: v0 :: st) σ Q ↔ mw_Call d 170 [v0, v1, v2] σ (fun r1 s1 => mw_WP d 222 14 [l0, l1, l2] (r1.toList ++ st) s1 Q) := WP_invs (as := [v2, v1, v0]) mq222 dd222_11 (by decide) mq170 rfl rfl h8
theorem dd222_14 : decode cX12_undo 14 = .ok (.ifCond .eq 14, 3) := by decide +kernel
theorem ww222_14 {d : Nat} {l0 l1 l2 : Option mw_V} {x : Int} {st : List mw_V} {σ : mw_S} {Q : Option mw_V → mw_S → Prop} : mw_WP d 222 14 [l0, l1, l2] (jI x :: st) σ Q ↔ (if x = 0 then mw_WP d 222 28 [l0, l1, l2] st σ Q else mw_WP d 222 17 [l0, l1, l2] st σ Q) := WP_if_eq mq222 dd222_14 (by decide)
theorem dd222_17 : decode cX12_undo 17 = .ok (.iload_n 1, 1) := by decide +kernel
theorem ww222_17 {d : Nat} {l0 l2 : Option mw_V} {x : Int} {st : List mw_V} {σ : mw_S} {Q : Option mw_V → mw_S → Prop} : mw_WP d 222 17 [l0, some (jI x), l2] st σ Q ↔ mw_WP d 222 18 [l0, some (jI x), l2] (jI x :: st) σ Q := WP_iload_n mq222 dd222_17 rfl
theorem dd222_18 : decode cX12_undo 18 = .ok (.aload_n 0, 1) := by decide +kernel
theorem ww222_18 {d : Nat} {l1 l2 : Option mw_V} {x : Nat} {st : List mw_V} {σ : mw_S} {Q : Option mw_V → mw_S → Prop} : mw_WP d 222 18 [some (jR x), l1, l2] st σ Q ↔ mw_WP d 222 19 [some (jR x), l1, l2] (jR x :: st) σ Q := WP_aload_n mq222 dd222_18 rfl
theorem dd222_19 : decode cX12_undo 19 = .ok (.getfield 13, 3) := by decide +kernel
theorem ww222_19 {d : Nat} {l0 l1 l2 : Option mw_V} {st : List mw_V} {σ : mw_S} {Q : Option mw_V → mw_S → Prop} : mw_WP d 222 19 [l0, l1, l2] (jR 100 :: st) σ Q ↔ mw_WP d 222 22 [l0, l1, l2] (jR 101 :: st) σ Q := WP_getR (ci := 11) (k := 1) mq222 dd222_19 (by decide) rfl
theorem dd222_22 : decode cX12_undo 22 = .ok (.bipush 88, 2) := by decide +kernel
theorem ww222_22 {d : Nat} {l0 l1 l2 : Option mw_V} {st : List mw_V} {σ : mw_S} {Q : Option mw_V → mw_S → Prop} : mw_WP d 222 22 [l0, l1, l2] st σ Q ↔ mw_WP d 222 24 [l0, l1, l2] (jI (88) :: st) σ Q := WP_bipush mq222 dd222_22 (by decide)
theorem dd222_24 : decode cX12_undo 24 = .ok (.iaload, 1) := by decide +kernel
theorem ww222_24 {d : Nat} {l0 l1 l2 : Option mw_V} {z : Int} {a : Nat} {st : List mw_V} {σ : mw_S} {Q : Option mw_V → mw_S → Prop} : mw_WP d 222 24 [l0, l1, l2] (jI z :: jR a :: st) σ Q ↔ ((0 ≤ z ∧ z < mw_lenI a) ∧ mw_WP d 222 25 [l0, l1, l2] (jI (mw_rdI σ a z.toNat) :: st) σ Q) := WP_iaload mq222 dd222_24
theorem dd222_25 : decode cX12_undo 25 = .ok (.if_icmp .le 6, 3) := by decide +kernel
theorem ww222_25 {d : Nat} {l0 l1 l2 : Option mw_V} {x y : Int} {st : List mw_V} {σ : mw_S} {Q : Option mw_V → mw_S → Prop} : mw_WP d 222 25 [l0, l1, l2] (jI y :: jI x :: st) σ Q ↔ (if x ≤ y then mw_WP d 222 31 [l0, l1, l2] st σ Q else mw_WP d 222 28 [l0, l1, l2] st σ Q) := WP_icmp_le mq222 dd222_25 (by decide)
theorem dd222_28 : decode cX12_undo 28 = .ok (.bipush (-3), 2) := by decide +kernel
theorem ww222_28 {d : Nat} {l0 l1 l2 : Option mw_V} {st : List mw_V} {σ : mw_S} {Q : Option mw_V → mw_S → Prop} : mw_WP d 222 28 [l0, l1, l2] st σ Q ↔ mw_WP d 222 30 [l0, l1, l2] (jI (-3) :: st) σ Q := WP_bipush mq222 dd222_28 (by decide)
theorem dd222_30 : decode cX12_undo 30 = .ok (.ireturn, 1) := by decide +kernel
theorem ww222_30 {d : Nat} {l0 l1 l2 : Option mw_V} {z : Int} {σ : mw_S} {Q : Option mw_V → mw_S → Prop} : mw_WP d 222 30 [l0, l1, l2] [jI z] σ Q ↔ Q (some (jI z)) σ := WP_ireturn (ty := .int) mq222 dd222_30 rfl rfl
theorem dd222_31 : decode cX12_undo 31 = .ok (.aload_n 0, 1) := by decide +kernel
theorem ww222_31 {d : Nat} {l1 l2 : Option mw_V} {x : Nat} {st : List mw_V} {σ : mw_S} {Q : Option mw_V → mw_S → Prop} : mw_WP d 222 31 [some (jR x), l1, l2] st σ Q ↔ mw_WP d 222 32 [some (jR x), l1, l2] (jR x :: st) σ Q := WP_aload_n mq222 dd222_31 rfl
theorem dd222_32 : decode cX12_undo 32 = .ok (.getfield 13, 3) := by decide +kernel
theorem ww222_32 {d : Nat} {l0 l1 l2 : Option mw_V} {st : List mw_V} {σ : mw_S} {Q : Option mw_V → mw_S → Prop} : mw_WP d 222 32 [l0, l1, l2] (jR 100 :: st) σ Q ↔ mw_WP d 222 35 [l0, l1, l2] (jR 101 :: st) σ Q := WP_getR (ci := 11) (k := 1) mq222 dd222_32 (by decide) rfl
theorem dd222_35 : decode cX12_undo 35 = .ok (.bipush 88, 2) := by decide +kernel
theorem ww222_35 {d : Nat} {l0 l1 l2 : Option mw_V} {st : List mw_V} {σ : mw_S} {Q : Option mw_V → mw_S → Prop} : mw_WP d 222 35 [l0, l1, l2] st σ Q ↔ mw_WP d 222 37 [l0, l1, l2] (jI (88) :: st) σ Q := WP_bipush mq222 dd222_35 (by decide)
theorem dd222_37 : decode cX12_undo 37 = .ok (.dup2, 1) := by decide +kernel
theorem ww222_37 {d : Nat} {l0 l1 l2 : Option mw_V} {v w : mw_V} {st : List mw_V} {σ : mw_S} {Q : Option mw_V → mw_S → Prop} (h : mw_cat v = 1) (h2 : mw_cat w = 1) : mw_WP d 222 37 [l0, l1, l2] (v :: w :: st) σ Q ↔ mw_WP d 222 38 [l0, l1, l2] (v :: w :: v :: w :: st) σ Q := WP_dup2 mq222 dd222_37 h h2
theorem dd222_38 : decode cX12_undo 38 = .ok (.iaload, 1) := by decide +kernel
theorem ww222_38 {d : Nat} {l0 l1 l2 : Option mw_V} {z : Int} {a : Nat} {st : List mw_V} {σ : mw_S} {Q : Option mw_V → mw_S → Prop} : mw_WP d 222 38 [l0, l1, l2] (jI z :: jR a :: st) σ Q ↔ ((0 ≤ z ∧ z < mw_lenI a) ∧ mw_WP d 222 39 [l0, l1, l2] (jI (mw_rdI σ a z.toNat) :: st) σ Q) := WP_iaload mq222 dd222_38
theorem dd222_39 : decode cX12_undo 39 = .ok (.iload_n 1, 1) := by decide +kernel
theorem ww222_39 {d : Nat} {l0 l2 : Option mw_V} {x : Int} {st : List mw_V} {σ : mw_S} {Q : Option mw_V → mw_S → Prop} : mw_WP d 222 39 [l0, some (jI x), l2] st σ Q ↔ mw_WP d 222 40 [l0, some (jI x), l2] (jI x :: st) σ Q := WP_iload_n mq222 dd222_39 rfl
theorem dd222_40 : decode cX12_undo 40 = .ok (.isub, 1) := by decide +kernel
theorem ww222_40 {d : Nat} {l0 l1 l2 : Option mw_V} {x y : Int} {st : List mw_V} {σ : mw_S} {Q : Option mw_V → mw_S → Prop} : mw_WP d 222 40 [l0, l1, l2] (jI y :: jI x :: st) σ Q ↔ mw_WP d 222 41 [l0, l1, l2] (jI (w32 (x - y)) :: st) σ Q := WP_isub mq222 dd222_40
theorem dd222_41 : decode cX12_undo 41 = .ok (.iastore, 1) := by decide +kernel
theorem ww222_41 {d : Nat} {l0 l1 l2 : Option mw_V} {x z : Int} {a : Nat} {st : List mw_V} {σ : mw_S} {Q : Option mw_V → mw_S → Prop} : mw_WP d 222 41 [l0, l1, l2] (jI x :: jI z :: jR a :: st) σ Q ↔ ((0 ≤ z ∧ z < mw_lenW 0 a) ∧ mw_WP d 222 42 [l0, l1, l2] st (upS σ a z.toNat x) Q) := WP_iastore mq222 dd222_41
theorem dd222_42 : decode cX12_undo 42 = .ok (.iconst 0, 1) := by decide +kernel
theorem ww222_42 {d : Nat} {l0 l1 l2 : Option mw_V} {st : List mw_V} {σ : mw_S} {Q : Option mw_V → mw_S → Prop} : mw_WP d 222 42 [l0, l1, l2] st σ Q ↔ mw_WP d 222 43 [l0, l1, l2] (jI (0) :: st) σ Q := WP_iconst mq222 dd222_42 (by decide)
theorem dd222_43 : decode cX12_undo 43 = .ok (.istore_n 2, 1) := by decide +kernel
theorem ww222_43 {d : Nat} {l0 l1 l2 : Option mw_V} {x : Int} {st : List mw_V} {σ : mw_S} {Q : Option mw_V → mw_S → Prop} (h : mw_nlo l1 = true) : mw_WP d 222 43 [l0, l1, l2] (jI x :: st) σ Q ↔ mw_WP d 222 44 [l0, l1, some (jI x)] st σ Q := WP_istore_n mq222 dd222_43 (Nat.le_of_ble_eq_true rfl) (mw_nl_of (i := 1) rfl h) rfl
theorem dd222_44 : decode cX12_undo 44 = .ok (.iload_n 2, 1) := by decide +kernel
theorem ww222_44 {d : Nat} {l0 l1 : Option mw_V} {x : Int} {st : List mw_V} {σ : mw_S} {Q : Option mw_V → mw_S → Prop} : mw_WP d 222 44 [l0, l1, some (jI x)] st σ Q ↔ mw_WP d 222 45 [l0, l1, some (jI x)] (jI x :: st) σ Q := WP_iload_n mq222 dd222_44 rfl
theorem dd222_45 : decode cX12_undo 45 = .ok (.bipush 47, 2) := by decide +kernel
theorem ww222_45 {d : Nat} {l0 l1 l2 : Option mw_V} {st : List mw_V} {σ : mw_S} {Q : Option mw_V → mw_S → Prop} : mw_WP d 222 45 [l0, l1, l2] st σ Q ↔ mw_WP d 222 47 [l0, l1, l2] (jI (47) :: st) σ Q := WP_bipush mq222 dd222_45 (by decide)
theorem dd222_47 : decode cX12_undo 47 = .ok (.if_icmp .ge 38, 3) := by decide +kernel
theorem ww222_47 {d : Nat} {l0 l1 l2 : Option mw_V} {x y : Int} {st : List mw_V} {σ : mw_S} {Q : Option mw_V → mw_S → Prop} : mw_WP d 222 47 [l0, l1, l2] (jI y :: jI x :: st) σ Q ↔ (if y ≤ x then mw_WP d 222 85 [l0, l1, l2] st σ Q else mw_WP d 222 50 [l0, l1, l2] st σ Q) := WP_icmp_ge mq222 dd222_47 (by decide)
theorem dd222_50 : decode cX12_undo 50 = .ok (.aload_n 0, 1) := by decide +kernel
theorem ww222_50 {d : Nat} {l1 l2 : Option mw_V} {x : Nat} {st : List mw_V} {σ : mw_S} {Q : Option mw_V → mw_S → Prop} : mw_WP d 222 50 [some (jR x), l1, l2] st σ Q ↔ mw_WP d 222 51 [some (jR x), l1, l2] (jR x :: st) σ Q := WP_aload_n mq222 dd222_50 rfl
theorem dd222_51 : decode cX12_undo 51 = .ok (.getfield 13, 3) := by decide +kernel
theorem ww222_51 {d : Nat} {l0 l1 l2 : Option mw_V} {st : List mw_V} {σ : mw_S} {Q : Option mw_V → mw_S → Prop} : mw_WP d 222 51 [l0, l1, l2] (jR 100 :: st) σ Q ↔ mw_WP d 222 54 [l0, l1, l2] (jR 101 :: st) σ Q := WP_getR (ci := 11) (k := 1) mq222 dd222_51 (by decide) rfl
theorem dd222_54 : decode cX12_undo 54 = .ok (.bipush 41, 2) := by decide +kernel
theorem ww222_54 {d : Nat} {l0 l1 l2 : Option mw_V} {st : List mw_V} {σ : mw_S} {Q : Option mw_V → mw_S → Prop} : mw_WP d 222 54 [l0, l1, l2] st σ Q ↔ mw_WP d 222 56 [l0, l1, l2] (jI (41) :: st) σ Q := WP_bipush mq222 dd222_54 (by decide)
theorem dd222_56 : decode cX12_undo 56 = .ok (.iload_n 2, 1) := by decide +kernel
theorem ww222_56 {d : Nat} {l0 l1 : Option mw_V} {x : Int} {st : List mw_V} {σ : mw_S} {Q : Option mw_V → mw_S → Prop} : mw_WP d 222 56 [l0, l1, some (jI x)] st σ Q ↔ mw_WP d 222 57 [l0, l1, some (jI x)] (jI x :: st) σ Q := WP_iload_n mq222 dd222_56 rfl
theorem dd222_57 : decode cX12_undo 57 = .ok (.iadd, 1) := by decide +kernel
theorem ww222_57 {d : Nat} {l0 l1 l2 : Option mw_V} {x y : Int} {st : List mw_V} {σ : mw_S} {Q : Option mw_V → mw_S → Prop} : mw_WP d 222 57 [l0, l1, l2] (jI y :: jI x :: st) σ Q ↔ mw_WP d 222 58 [l0, l1, l2] (jI (w32 (x + y)) :: st) σ Q := WP_iadd mq222 dd222_57
theorem dd222_58 : decode cX12_undo 58 = .ok (.aload_n 0, 1) := by decide +kernel
theorem ww222_58 {d : Nat} {l1 l2 : Option mw_V} {x : Nat} {st : List mw_V} {σ : mw_S} {Q : Option mw_V → mw_S → Prop} : mw_WP d 222 58 [some (jR x), l1, l2] st σ Q ↔ mw_WP d 222 59 [some (jR x), l1, l2] (jR x :: st) σ Q := WP_aload_n mq222 dd222_58 rfl
theorem dd222_59 : decode cX12_undo 59 = .ok (.getfield 13, 3) := by decide +kernel
theorem ww222_59 {d : Nat} {l0 l1 l2 : Option mw_V} {st : List mw_V} {σ : mw_S} {Q : Option mw_V → mw_S → Prop} : mw_WP d 222 59 [l0, l1, l2] (jR 100 :: st) σ Q ↔ mw_WP d 222 62 [l0, l1, l2] (jR 101 :: st) σ Q := WP_getR (ci := 11) (k := 1) mq222 dd222_59 (by decide) rfl
theorem dd222_62 : decode cX12_undo 62 = .ok (.bipush 89, 2) := by decide +kernel
theorem ww222_62 {d : Nat} {l0 l1 l2 : Option mw_V} {st : List mw_V} {σ : mw_S} {Q : Option mw_V → mw_S → Prop} : mw_WP d 222 62 [l0, l1, l2] st σ Q ↔ mw_WP d 222 64 [l0, l1, l2] (jI (89) :: st) σ Q := WP_bipush mq222 dd222_62 (by decide)
theorem dd222_64 : decode cX12_undo 64 = .ok (.bipush 47, 2) := by decide +kernel
theorem ww222_64 {d : Nat} {l0 l1 l2 : Option mw_V} {st : List mw_V} {σ : mw_S} {Q : Option mw_V → mw_S → Prop} : mw_WP d 222 64 [l0, l1, l2] st σ Q ↔ mw_WP d 222 66 [l0, l1, l2] (jI (47) :: st) σ Q := WP_bipush mq222 dd222_64 (by decide)
theorem dd222_66 : decode cX12_undo 66 = .ok (.aload_n 0, 1) := by decide +kernel
theorem ww222_66 {d : Nat} {l1 l2 : Option mw_V} {x : Nat} {st : List mw_V} {σ : mw_S} {Q : Option mw_V → mw_S → Prop} : mw_WP d 222 66 [some (jR x), l1, l2] st σ Q ↔ mw_WP d 222 67 [some (jR x), l1, l2] (jR x :: st) σ Q := WP_aload_n mq222 dd222_66 rfl
theorem dd222_67 : decode cX12_undo 67 = .ok (.getfield 13, 3) := by decide +kernel
theorem ww222_67 {d : Nat} {l0 l1 l2 : Option mw_V} {st : List mw_V} {σ : mw_S} {Q : Option mw_V → mw_S → Prop} : mw_WP d 222 67 [l0, l1, l2] (jR 100 :: st) σ Q ↔ mw_WP d 222 70 [l0, l1, l2] (jR 101 :: st) σ Q := WP_getR (ci := 11) (k := 1) mq222 dd222_67 (by decide) rfl
theorem dd222_70 : decode cX12_undo 70 = .ok (.bipush 88, 2) := by decide +kernel
theorem ww222_70 {d : Nat} {l0 l1 l2 : Option mw_V} {st : List mw_V} {σ : mw_S} {Q : Option mw_V → mw_S → Prop} : mw_WP d 222 70 [l0, l1, l2] st σ Q ↔ mw_WP d 222 72 [l0, l1, l2] (jI (88) :: st) σ Q := WP_bipush mq222 dd222_70 (by decide)
theorem dd222_72 : decode cX12_undo 72 = .ok (.iaload, 1) := by decide +kernel
theorem ww222_72 {d : Nat} {l0 l1 l2 : Option mw_V} {z : Int} {a : Nat} {st : List mw_V} {σ : mw_S} {Q : Option mw_V → mw_S → Prop} : mw_WP d 222 72 [l0, l1, l2] (jI z :: jR a :: st) σ Q ↔ ((0 ≤ z ∧ z < mw_lenI a) ∧ mw_WP d 222 73 [l0, l1, l2] (jI (mw_rdI σ a z.toNat) :: st) σ Q) := WP_iaload mq222 dd222_72
theorem dd222_73 : decode cX12_undo 73 = .ok (.imul, 1) := by decide +kernel
theorem ww222_73 {d : Nat} {l0 l1 l2 : Option mw_V} {x y : Int} {st : List mw_V} {σ : mw_S} {Q : Option mw_V → mw_S → Prop} : mw_WP d 222 73 [l0, l1, l2] (jI y :: jI x :: st) σ Q ↔ mw_WP d 222 74 [l0, l1, l2] (jI (w32 (x * y)) :: st) σ Q := WP_imul mq222 dd222_73
theorem dd222_74 : decode cX12_undo 74 = .ok (.iadd, 1) := by decide +kernel
theorem ww222_74 {d : Nat} {l0 l1 l2 : Option mw_V} {x y : Int} {st : List mw_V} {σ : mw_S} {Q : Option mw_V → mw_S → Prop} : mw_WP d 222 74 [l0, l1, l2] (jI y :: jI x :: st) σ Q ↔ mw_WP d 222 75 [l0, l1, l2] (jI (w32 (x + y)) :: st) σ Q := WP_iadd mq222 dd222_74
theorem dd222_75 : decode cX12_undo 75 = .ok (.iload_n 2, 1) := by decide +kernel
theorem ww222_75 {d : Nat} {l0 l1 : Option mw_V} {x : Int} {st : List mw_V} {σ : mw_S} {Q : Option mw_V → mw_S → Prop} : mw_WP d 222 75 [l0, l1, some (jI x)] st σ Q ↔ mw_WP d 222 76 [l0, l1, some (jI x)] (jI x :: st) σ Q := WP_iload_n mq222 dd222_75 rfl
theorem dd222_76 : decode cX12_undo 76 = .ok (.iadd, 1) := by decide +kernel
theorem ww222_76 {d : Nat} {l0 l1 l2 : Option mw_V} {x y : Int} {st : List mw_V} {σ : mw_S} {Q : Option mw_V → mw_S → Prop} : mw_WP d 222 76 [l0, l1, l2] (jI y :: jI x :: st) σ Q ↔ mw_WP d 222 77 [l0, l1, l2] (jI (w32 (x + y)) :: st) σ Q := WP_iadd mq222 dd222_76
theorem dd222_77 : decode cX12_undo 77 = .ok (.iaload, 1) := by decide +kernel
theorem ww222_77 {d : Nat} {l0 l1 l2 : Option mw_V} {z : Int} {a : Nat} {st : List mw_V} {σ : mw_S} {Q : Option mw_V → mw_S → Prop} : mw_WP d 222 77 [l0, l1, l2] (jI z :: jR a :: st) σ Q ↔ ((0 ≤ z ∧ z < mw_lenI a) ∧ mw_WP d 222 78 [l0, l1, l2] (jI (mw_rdI σ a z.toNat) :: st) σ Q) := WP_iaload mq222 dd222_77
theorem dd222_78 : decode cX12_undo 78 = .ok (.iastore, 1) := by decide +kernel
theorem ww222_78 {d : Nat} {l0 l1 l2 : Option mw_V} {x z : Int} {a : Nat} {st : List mw_V} {σ : mw_S} {Q : Option mw_V → mw_S → Prop} : mw_WP d 222 78 [l0, l1, l2] (jI x :: jI z :: jR a :: st) σ Q ↔ ((0 ≤ z ∧ z < mw_lenW 0 a) ∧ mw_WP d 222 79 [l0, l1, l2] st (upS σ a z.toNat x) Q) := WP_iastore mq222 dd222_78
theorem dd222_79 : decode cX12_undo 79 = .ok (.iinc 2 1, 3) := by decide +kernel
theorem ww222_79 {d : Nat} {l0 l1 : Option mw_V} {x : Int} {st : List mw_V} {σ : mw_S} {Q : Option mw_V → mw_S → Prop} (h : mw_nlo l1 = true) : mw_WP d 222 79 [l0, l1, some (jI x)] st σ Q ↔ mw_WP d 222 82 [l0, l1, some (jI (w32 (x + (1))))] st σ Q := WP_iinc mq222 dd222_79 rfl (Nat.le_of_ble_eq_true rfl) (mw_nl_of (i := 1) rfl h) rfl
theorem dd222_82 : decode cX12_undo 82 = .ok (.goto (-38), 3) := by decide +kernel
theorem ww222_82 {d : Nat} {l0 l1 l2 : Option mw_V} {st : List mw_V} {σ : mw_S} {Q : Option mw_V → mw_S → Prop} : mw_WP d 222 82 [l0, l1, l2] st σ Q ↔ mw_WP d 222 44 [l0, l1, l2] st σ Q := WP_goto mq222 dd222_82 (by decide)
theorem dd222_85 : decode cX12_undo 85 = .ok (.aload_n 0, 1) := by decide +kernel
theorem ww222_85 {d : Nat} {l1 l2 : Option mw_V} {x : Nat} {st : List mw_V} {σ : mw_S} {Q : Option mw_V → mw_S → Prop} : mw_WP d 222 85 [some (jR x), l1, l2] st σ Q ↔ mw_WP d 222 86 [some (jR x), l1, l2] (jR x :: st) σ Q := WP_aload_n mq222 dd222_85 rfl
theorem dd222_86 : decode cX12_undo 86 = .ok (.getfield 13, 3) := by decide +kernel
theorem ww222_86 {d : Nat} {l0 l1 l2 : Option mw_V} {st : List mw_V} {σ : mw_S} {Q : Option mw_V → mw_S → Prop} : mw_WP d 222 86 [l0, l1, l2] (jR 100 :: st) σ Q ↔ mw_WP d 222 89 [l0, l1, l2] (jR 101 :: st) σ Q := WP_getR (ci := 11) (k := 1) mq222 dd222_86 (by decide) rfl
theorem dd222_89 : decode cX12_undo 89 = .ok (.bipush 88, 2) := by decide +kernel
theorem ww222_89 {d : Nat} {l0 l1 l2 : Option mw_V} {st : List mw_V} {σ : mw_S} {Q : Option mw_V → mw_S → Prop} : mw_WP d 222 89 [l0, l1, l2] st σ Q ↔ mw_WP d 222 91 [l0, l1, l2] (jI (88) :: st) σ Q := WP_bipush mq222 dd222_89 (by decide)
theorem dd222_91 : decode cX12_undo 91 = .ok (.iaload, 1) := by decide +kernel
theorem ww222_91 {d : Nat} {l0 l1 l2 : Option mw_V} {z : Int} {a : Nat} {st : List mw_V} {σ : mw_S} {Q : Option mw_V → mw_S → Prop} : mw_WP d 222 91 [l0, l1, l2] (jI z :: jR a :: st) σ Q ↔ ((0 ≤ z ∧ z < mw_lenI a) ∧ mw_WP d 222 92 [l0, l1, l2] (jI (mw_rdI σ a z.toNat) :: st) σ Q) := WP_iaload mq222 dd222_91
theorem dd222_92 : decode cX12_undo 92 = .ok (.ireturn, 1) := by decide +kernel
theorem ww222_92 {d : Nat} {l0 l1 l2 : Option mw_V} {z : Int} {σ : mw_S} {Q : Option mw_V → mw_S → Prop} : mw_WP d 222 92 [l0, l1, l2] [jI z] σ Q ↔ Q (some (jI z)) σ := WP_ireturn (ty := .int) mq222 dd222_92 rfl rfl
theorem ee223 {d : Nat} {a : Nat} {z0 : Int} {σ : mw_S} {Q : Option mw_V → mw_S → Prop} : mw_Call (d + 1) 223 [jR a, jI z0] σ Q ↔ mw_WP d 223 0 [some (jR a), some (jI z0), none, none, none, none] [] σ Q := CL_u mq223 (Nat.le_of_ble_eq_true rfl) rfl
theorem dd223_0 : decode cX12_hours 0 = .ok (.aload_n 0, 1) := by decide +kernel
theorem ww223_0 {d : Nat} {l1 l2 l3 l4 l5 : Option mw_V} {x : Nat} {st : List mw_V} {σ : mw_S} {Q : Option mw_V → mw_S → Prop} : mw_WP d 223 0 [some (jR x), l1, l2, l3, l4, l5] st σ Q ↔ mw_WP d 223 1 [some (jR x), l1, l2, l3, l4, l5] (jR x :: st) σ Q := WP_aload_n mq223 dd223_0 rfl
theorem dd223_1 : decode cX12_hours 1 = .ok (.iconst 0, 1) := by decide +kernel
theorem ww223_1 {d : Nat} {l0 l1 l2 l3 l4 l5 : Option mw_V} {st : List mw_V} {σ : mw_S} {Q : Option mw_V → mw_S → Prop} : mw_WP d 223 1 [l0, l1, l2, l3, l4, l5] st σ Q ↔ mw_WP d 223 2 [l0, l1, l2, l3, l4, l5] (jI (0) :: st) σ Q := WP_iconst mq223 dd223_1 (by decide)
theorem dd223_2 : decode cX12_hours 2 = .ok (.putfield 296, 3) := by decide +kernel
theorem ww223_2 {d : Nat} {l0 l1 l2 l3 l4 l5 : Option mw_V} {v : Int} {st : List mw_V} {σ : mw_S} {Q : Option mw_V → mw_S → Prop} : mw_WP d 223 2 [l0, l1, l2, l3, l4, l5] (jI v :: jR 100 :: st) σ Q ↔ mw_WP d 223 5 [l0, l1, l2, l3, l4, l5] st (upS σ 100 21 v) Q := WP_putI (ci := 11) (k := 21) mq223 dd223_2 (by decide) rfl
theorem dd223_5 : decode cX12_hours 5 = .ok (.aload_n 0, 1) := by decide +kernel
theorem ww223_5 {d : Nat} {l1 l2 l3 l4 l5 : Option mw_V} {x : Nat} {st : List mw_V} {σ : mw_S} {Q : Option mw_V → mw_S → Prop} : mw_WP d 223 5 [some (jR x), l1, l2, l3, l4, l5] st σ Q ↔ mw_WP d 223 6 [some (jR x), l1, l2, l3, l4, l5] (jR x :: st) σ Q := WP_aload_n mq223 dd223_5 rfl
theorem dd223_6 : decode cX12_hours 6 = .ok (.iconst 0, 1) := by decide +kernel
theorem ww223_6 {d : Nat} {l0 l1 l2 l3 l4 l5 : Option mw_V} {st : List mw_V} {σ : mw_S} {Q : Option mw_V → mw_S → Prop} : mw_WP d 223 6 [l0, l1, l2, l3, l4, l5] st σ Q ↔ mw_WP d 223 7 [l0, l1, l2, l3, l4, l5] (jI (0) :: st) σ Q := WP_iconst mq223 dd223_6 (by decide)
theorem dd223_7 : decode cX12_hours 7 = .ok (.putfield 299, 3) := by decide +kernel
theorem ww223_7 {d : Nat} {l0 l1 l2 l3 l4 l5 : Option mw_V} {v : Int} {st : List mw_V} {σ : mw_S} {Q : Option mw_V → mw_S → Prop} : mw_WP d 223 7 [l0, l1, l2, l3, l4, l5] (jI v :: jR 100 :: st) σ Q ↔ mw_WP d 223 10 [l0, l1, l2, l3, l4, l5] st (upS σ 100 22 v) Q := WP_putI (ci := 11) (k := 22) mq223 dd223_7 (by decide) rfl
theorem dd223_10 : decode cX12_hours 10 = .ok (.aload_n 0, 1) := by decide +kernel
theorem ww223_10 {d : Nat} {l1 l2 l3 l4 l5 : Option mw_V} {x : Nat} {st : List mw_V} {σ : mw_S} {Q : Option mw_V → mw_S → Prop} : mw_WP d 223 10 [some (jR x), l1, l2, l3, l4, l5] st σ Q ↔ mw_WP d 223 11 [some (jR x), l1, l2, l3, l4, l5] (jR x :: st) σ Q := WP_aload_n mq223 dd223_10 rfl
theorem dd223_11 : decode cX12_hours 11 = .ok (.iconst (-1), 1) := by decide +kernel
theorem ww223_11 {d : Nat} {l0 l1 l2 l3 l4 l5 : Option mw_V} {st : List mw_V} {σ : mw_S} {Q : Option mw_V → mw_S → Prop} : mw_WP d 223 11 [l0, l1, l2, l3, l4, l5] st σ Q ↔ mw_WP d 223 12 [l0, l1, l2, l3, l4, l5] (jI (-1) :: st) σ Q := WP_iconst mq223 dd223_11 (by decide)
theorem dd223_12 : decode cX12_hours 12 = .ok (.putfield 302, 3) := by decide +kernel
theorem ww223_12 {d : Nat} {l0 l1 l2 l3 l4 l5 : Option mw_V} {v : Int} {st : List mw_V} {σ : mw_S} {Q : Option mw_V → mw_S → Prop} : mw_WP d 223 12 [l0, l1, l2, l3, l4, l5] (jI v :: jR 100 :: st) σ Q ↔ mw_WP d 223 15 [l0, l1, l2, l3, l4, l5] st (upS σ 100 23 v) Q := WP_putI (ci := 11) (k := 23) mq223 dd223_12 (by decide) rfl
theorem dd223_15 : decode cX12_hours 15 = .ok (.aload_n 0, 1) := by decide +kernel
theorem ww223_15 {d : Nat} {l1 l2 l3 l4 l5 : Option mw_V} {x : Nat} {st : List mw_V} {σ : mw_S} {Q : Option mw_V → mw_S → Prop} : mw_WP d 223 15 [some (jR x), l1, l2, l3, l4, l5] st σ Q ↔ mw_WP d 223 16 [some (jR x), l1, l2, l3, l4, l5] (jR x :: st) σ Q := WP_aload_n mq223 dd223_15 rfl
theorem dd223_16 : decode cX12_hours 16 = .ok (.iconst (-1), 1) := by decide +kernel
theorem ww223_16 {d : Nat} {l0 l1 l2 l3 l4 l5 : Option mw_V} {st : List mw_V} {σ : mw_S} {Q : Option mw_V → mw_S → Prop} : mw_WP d 223 16 [l0, l1, l2, l3, l4, l5] st σ Q ↔ mw_WP d 223 17 [l0, l1, l2, l3, l4, l5] (jI (-1) :: st) σ Q := WP_iconst mq223 dd223_16 (by decide)
theorem dd223_17 : decode cX12_hours 17 = .ok (.putfield 305, 3) := by decide +kernel
theorem ww223_17 {d : Nat} {l0 l1 l2 l3 l4 l5 : Option mw_V} {v : Int} {st : List mw_V} {σ : mw_S} {Q : Option mw_V → mw_S → Prop} : mw_WP d 223 17 [l0, l1, l2, l3, l4, l5] (jI v :: jR 100 :: st) σ Q ↔ mw_WP d 223 20 [l0, l1, l2, l3, l4, l5] st (upS σ 100 24 v) Q := WP_putI (ci := 11) (k := 24) mq223 dd223_17 (by decide) rfl
theorem dd223_20 : decode cX12_hours 20 = .ok (.iconst 0, 1) := by decide +kernel
theorem ww223_20 {d : Nat} {l0 l1 l2 l3 l4 l5 : Option mw_V} {st : List mw_V} {σ : mw_S} {Q : Option mw_V → mw_S → Prop} : mw_WP d 223 20 [l0, l1, l2, l3, l4, l5] st σ Q ↔ mw_WP d 223 21 [l0, l1, l2, l3, l4, l5] (jI (0) :: st) σ Q := WP_iconst mq223 dd223_20 (by decide)
theorem dd223_21 : decode cX12_hours 21 = .ok (.istore_n 2, 1) := by decide +kernel
theorem ww223_21 {d : Nat} {l0 l1 l2 l3 l4 l5 : Option mw_V} {x : Int} {st : List mw_V} {σ : mw_S} {Q : Option mw_V → mw_S → Prop} (h : mw_nlo l1 = true) : mw_WP d 223 21 [l0, l1, l2, l3, l4, l5] (jI x :: st) σ Q ↔ mw_WP d 223 22 [l0, l1, some (jI x), l3, l4, l5] st σ Q := WP_istore_n mq223 dd223_21 (Nat.le_of_ble_eq_true rfl) (mw_nl_of (i := 1) rfl h) rfl
theorem dd223_22 : decode cX12_hours 22 = .ok (.iload_n 2, 1) := by decide +kernel
theorem ww223_22 {d : Nat} {l0 l1 l3 l4 l5 : Option mw_V} {x : Int} {st : List mw_V} {σ : mw_S} {Q : Option mw_V → mw_S → Prop} : mw_WP d 223 22 [l0, l1, some (jI x), l3, l4, l5] st σ Q ↔ mw_WP d 223 23 [l0, l1, some (jI x), l3, l4, l5] (jI x :: st) σ Q := WP_iload_n mq223 dd223_22 rfl
theorem dd223_23 : decode cX12_hours 23 = .ok (.aload_n 0, 1) := by decide +kernel
theorem ww223_23 {d : Nat} {l1 l2 l3 l4 l5 : Option mw_V} {x : Nat} {st : List mw_V} {σ : mw_S} {Q : Option mw_V → mw_S → Prop} : mw_WP d 223 23 [some (jR x), l1, l2, l3, l4, l5] st σ Q ↔ mw_WP d 223 24 [some (jR x), l1, l2, l3, l4, l5] (jR x :: st) σ Q := WP_aload_n mq223 dd223_23 rfl
theorem dd223_24 : decode cX12_hours 24 = .ok (.getfield 87, 3) := by decide +kernel
theorem ww223_24 {d : Nat} {l0 l1 l2 l3 l4 l5 : Option mw_V} {st : List mw_V} {σ : mw_S} {Q : Option mw_V → mw_S → Prop} : mw_WP d 223 24 [l0, l1, l2, l3, l4, l5] (jR 100 :: st) σ Q ↔ mw_WP d 223 27 [l0, l1, l2, l3, l4, l5] (jR 123 :: st) σ Q := WP_getR (ci := 11) (k := 49) mq223 dd223_24 (by decide) rfl
theorem dd223_27 : decode cX12_hours 27 = .ok (.iload_n 1, 1) := by decide +kernel
theorem ww223_27 {d : Nat} {l0 l2 l3 l4 l5 : Option mw_V} {x : Int} {st : List mw_V} {σ : mw_S} {Q : Option mw_V → mw_S → Prop} : mw_WP d 223 27 [l0, some (jI x), l2, l3, l4, l5] st σ Q ↔ mw_WP d 223 28 [l0, some (jI x), l2, l3, l4, l5] (jI x :: st) σ Q := WP_iload_n mq223 dd223_27 rfl
theorem dd223_28 : decode cX12_hours 28 = .ok (.iaload, 1) := by decide +kernel
theorem ww223_28 {d : Nat} {l0 l1 l2 l3 l4 l5 : Option mw_V} {z : Int} {a : Nat} {st : List mw_V} {σ : mw_S} {Q : Option mw_V → mw_S → Prop} : mw_WP d 223 28 [l0, l1, l2, l3, l4, l5] (jI z :: jR a :: st) σ Q ↔ ((0 ≤ z ∧ z < mw_lenI a) ∧ mw_WP d 223 29 [l0, l1, l2, l3, l4, l5] (jI (mw_rdI σ a z.toNat) :: st) σ Q) := WP_iaload mq223 dd223_28
theorem dd223_29 : decode cX12_hours 29 = .ok (.if_icmp .ge 119, 3) := by decide +kernel
theorem ww223_29 {d : Nat} {l0 l1 l2 l3 l4 l5 : Option mw_V} {x y : Int} {st : List mw_V} {σ : mw_S} {Q : Option mw_V → mw_S → Prop} : mw_WP d 223 29 [l0, l1, l2, l3, l4, l5] (jI y :: jI x :: st) σ Q ↔ (if y ≤ x then mw_WP d 223 148 [l0, l1, l2, l3, l4, l5] st σ Q else mw_WP d 223 32 [l0, l1, l2, l3, l4, l5] st σ Q) := WP_icmp_ge mq223 dd223_29 (by decide)
theorem dd223_32 : decode cX12_hours 32 = .ok (.aload_n 0, 1) := by decide +kernel
theorem ww223_32 {d : Nat} {l1 l2 l3 l4 l5 : Option mw_V} {x : Nat} {st : List mw_V} {σ : mw_S} {Q : Option mw_V → mw_S → Prop} : mw_WP d 223 32 [some (jR x), l1, l2, l3, l4, l5] st σ Q ↔ mw_WP d 223 33 [some (jR x), l1, l2, l3, l4, l5] (jR x :: st) σ Q := WP_aload_n mq223 dd223_32 rfl
theorem dd223_33 : decode cX12_hours 33 = .ok (.getfield 90, 3) := by decide +kernel
theorem ww223_33 {d : Nat} {l0 l1 l2 l3 l4 l5 : Option mw_V} {st : List mw_V} {σ : mw_S} {Q : Option mw_V → mw_S → Prop} : mw_WP d 223 33 [l0, l1, l2, l3, l4, l5] (jR 100 :: st) σ Q ↔ mw_WP d 223 36 [l0, l1, l2, l3, l4, l5] (jR 124 :: st) σ Q := WP_getR (ci := 11) (k := 50) mq223 dd223_33 (by decide) rfl
theorem dd223_36 : decode cX12_hours 36 = .ok (.bipush 40, 2) := by decide +kernel
theorem ww223_36 {d : Nat} {l0 l1 l2 l3 l4 l5 : Option mw_V} {st : List mw_V} {σ : mw_S} {Q : Option mw_V → mw_S → Prop} : mw_WP d 223 36 [l0, l1, l2, l3, l4, l5] st σ Q ↔ mw_WP d 223 38 [l0, l1, l2, l3, l4, l5] (jI (40) :: st) σ Q := WP_bipush mq223 dd223_36 (by decide)
theorem dd223_38 : decode cX12_hours 38 = .ok (.iload_n 1, 1) := by decide +kernel
theorem ww223_38 {d : Nat} {l0 l2 l3 l4 l5 : Option mw_V} {x : Int} {st : List mw_V} {σ : mw_S} {Q : Option mw_V → mw_S → Prop} : mw_WP d 223 38 [l0, some (jI x), l2, l3, l4, l5] st σ Q ↔ mw_WP d 223 39 [l0, some (jI x), l2, l3, l4, l5] (jI x :: st) σ Q := WP_iload_n mq223 dd223_38 rfl
theorem dd223_39 : decode cX12_hours 39 = .ok (.imul, 1) := by decide +kernel
theorem ww223_39 {d : Nat} {l0 l1 l2 l3 l4 l5 : Option mw_V} {x y : Int} {st : List mw_V} {σ : mw_S} {Q : Option mw_V → mw_S → Prop} : mw_WP d 223 39 [l0, l1, l2, l3, l4, l5] (jI y :: jI x :: st) σ Q ↔ mw_WP d 223 40 [l0, l1, l2, l3, l4, l5] (jI (w32 (x * y)) :: st) σ Q := WP_imul mq223 dd223_39
theorem dd223_40 : decode cX12_hours 40 = .ok (.iload_n 2, 1) := by decide +kernel
theorem ww223_40 {d : Nat} {l0 l1 l3 l4 l5 : Option mw_V} {x : Int} {st : List mw_V} {σ : mw_S} {Q : Option mw_V → mw_S → Prop} : mw_WP d 223 40 [l0, l1, some (jI x), l3, l4, l5] st σ Q ↔ mw_WP d 223 41 [l0, l1, some (jI x), l3, l4, l5] (jI x :: st) σ Q := WP_iload_n mq223 dd223_40 rfl
theorem dd223_41 : decode cX12_hours 41 = .ok (.iadd, 1) := by decide +kernel
theorem ww223_41 {d : Nat} {l0 l1 l2 l3 l4 l5 : Option mw_V} {x y : Int} {st : List mw_V} {σ : mw_S} {Q : Option mw_V → mw_S → Prop} : mw_WP d 223 41 [l0, l1, l2, l3, l4, l5] (jI y :: jI x :: st) σ Q ↔ mw_WP d 223 42 [l0, l1, l2, l3, l4, l5] (jI (w32 (x + y)) :: st) σ Q := WP_iadd mq223 dd223_41
theorem dd223_42 : decode cX12_hours 42 = .ok (.laload, 1) := by decide +kernel
theorem ww223_42 {d : Nat} {l0 l1 l2 l3 l4 l5 : Option mw_V} {z : Int} {a : Nat} {st : List mw_V} {σ : mw_S} {Q : Option mw_V → mw_S → Prop} : mw_WP d 223 42 [l0, l1, l2, l3, l4, l5] (jI z :: jR a :: st) σ Q ↔ ((0 ≤ z ∧ z < mw_lenW 2 a) ∧ mw_WP d 223 43 [l0, l1, l2, l3, l4, l5] (jL (σ a z.toNat) :: st) σ Q) := WP_laload mq223 dd223_42
theorem dd223_43 : decode cX12_hours 43 = .ok (.lstore_n 3, 1) := by decide +kernel
theorem ww223_43 {d : Nat} {l0 l1 l2 l3 l4 l5 : Option mw_V} {x : Int} {st : List mw_V} {σ : mw_S} {Q : Option mw_V → mw_S → Prop} (h : mw_nlo l2 = true) : mw_WP d 223 43 [l0, l1, l2, l3, l4, l5] (jL x :: st) σ Q ↔ mw_WP d 223 44 [l0, l1, l2, some (jL x), none, l5] st σ Q := WP_lstore_n mq223 dd223_43 (Nat.le_of_ble_eq_true rfl) (mw_nl_of (i := 2) rfl h) rfl
theorem dd223_44 : decode cX12_hours 44 = .ok (.aload_n 0, 1) := by decide +kernel
theorem ww223_44 {d : Nat} {l1 l2 l3 l4 l5 : Option mw_V} {x : Nat} {st : List mw_V} {σ : mw_S} {Q : Option mw_V → mw_S → Prop} : mw_WP d 223 44 [some (jR x), l1, l2, l3, l4, l5] st σ Q ↔ mw_WP d 223 45 [some (jR x), l1, l2, l3, l4, l5] (jR x :: st) σ Q := WP_aload_n mq223 dd223_44 rfl
theorem dd223_45 : decode cX12_hours 45 = .ok (.lload_n 3, 1) := by decide +kernel
theorem ww223_45 {d : Nat} {l0 l1 l2 l4 l5 : Option mw_V} {x : Int} {st : List mw_V} {σ : mw_S} {Q : Option mw_V → mw_S → Prop} : mw_WP d 223 45 [l0, l1, l2, some (jL x), l4, l5] st σ Q ↔ mw_WP d 223 46 [l0, l1, l2, some (jL x), l4, l5] (jL x :: st) σ Q := WP_lload_n mq223 dd223_45 rfl
theorem dd223_46 : decode cX12_hours 46 = .ok (.invokevirtual 287, 3) := by decide +kernel
theorem ww223_46 {d : Nat} {l0 l1 l2 l3 l4 l5 : Option mw_V} {v0 : mw_V} {a : Nat} {st : List mw_V} {σ : mw_S} {Q : Option mw_V → mw_S → Prop} (hr : mw_rc a = 12) (h8 : (st.map mw_cat).sum ≤ 8) : mw_WP d 223 46 [l0, l1, l2, l3, l4, l5] (v0 :: jR a :: st) σ Q ↔ mw_Call d 219 [jR a, v0] σ (fun r1 s1 => mw_WP d 223 49 [l0, l1, l2, l3, l4, l5] (r1.toList ++ st) s1 Q) := WP_inv (as := [v0]) mq223 dd223_46 (by decide) mq219 rfl hr h8
theorem dd223_49 : decode cX12_hours 49 = .ok (.ifCond .ne 5, 3) := by decide +kernel
theorem ww223_49 {d : Nat} {l0 l1 l2 l3 l4 l5 : Option mw_V} {x : Int} {st : List mw_V} {σ : mw_S} {Q : Option mw_V → mw_S → Prop} : mw_WP d 223 49 [l0, l1, l2, l3, l4, l5] (jI x :: st) σ Q ↔ (if ¬ x = 0 then mw_WP d 223 54 [l0, l1, l2, l3, l4, l5] st σ Q else mw_WP d 223 52 [l0, l1, l2, l3, l4, l5] st σ Q) := WP_if_ne mq223 dd223_49 (by decide)
theorem dd223_52 : decode cX12_hours 52 = .ok (.iload_n 2, 1) := by decide +kernel
theorem ww223_52 {d : Nat} {l0 l1 l3 l4 l5 : Option mw_V} {x : Int} {st : List mw_V} {σ : mw_S} {Q : Option mw_V → mw_S → Prop} : mw_WP d 223 52 [l0, l1, some (jI x), l3, l4, l5] st σ Q ↔ mw_WP d 223 53 [l0, l1, some (jI x), l3, l4, l5] (jI x :: st) σ Q := WP_iload_n mq223 dd223_52 rfl
theorem dd223_53 : decode cX12_hours 53 = .ok (.ireturn, 1) := by decide +kernel
theorem ww223_53 {d : Nat} {l0 l1 l2 l3 l4 l5 : Option mw_V} {z : Int} {σ : mw_S} {Q : Option mw_V → mw_S → Prop} : mw_WP d 223 53 [l0, l1, l2, l3, l4, l5] [jI z] σ Q ↔ Q (some (jI z)) σ := WP_ireturn (ty := .int) mq223 dd223_53 rfl rfl
theorem dd223_54 : decode cX12_hours 54 = .ok (.aload_n 0, 1) := by decide +kernel
theorem ww223_54 {d : Nat} {l1 l2 l3 l4 l5 : Option mw_V} {x : Nat} {st : List mw_V} {σ : mw_S} {Q : Option mw_V → mw_S → Prop} : mw_WP d 223 54 [some (jR x), l1, l2, l3, l4, l5] st σ Q ↔ mw_WP d 223 55 [some (jR x), l1, l2, l3, l4, l5] (jR x :: st) σ Q := WP_aload_n mq223 dd223_54 rfl
theorem dd223_55 : decode cX12_hours 55 = .ok (.lload_n 3, 1) := by decide +kernel
theorem ww223_55 {d : Nat} {l0 l1 l2 l4 l5 : Option mw_V} {x : Int} {st : List mw_V} {σ : mw_S} {Q : Option mw_V → mw_S → Prop} : mw_WP d 223 55 [l0, l1, l2, some (jL x), l4, l5] st σ Q ↔ mw_WP d 223 56 [l0, l1, l2, some (jL x), l4, l5] (jL x :: st) σ Q := WP_lload_n mq223 dd223_55 rfl
theorem dd223_56 : decode cX12_hours 56 = .ok (.l2i, 1) := by decide +kernel
theorem ww223_56 {d : Nat} {l0 l1 l2 l3 l4 l5 : Option mw_V} {x : Int} {st : List mw_V} {σ : mw_S} {Q : Option mw_V → mw_S → Prop} : mw_WP d 223 56 [l0, l1, l2, l3, l4, l5] (jL x :: st) σ Q ↔ mw_WP d 223 57 [l0, l1, l2, l3, l4, l5] (jI (zI x) :: st) σ Q := WP_l2i mq223 dd223_56
theorem dd223_57 : decode cX12_hours 57 = .ok (.invokevirtual 281, 3) := by decide +kernel
theorem ww223_57 {d : Nat} {l0 l1 l2 l3 l4 l5 : Option mw_V} {v0 : mw_V} {a : Nat} {st : List mw_V} {σ : mw_S} {Q : Option mw_V → mw_S → Prop} (hr : mw_rc a = 12) (h8 : (st.map mw_cat).sum ≤ 8) : mw_WP d 223 57 [l0, l1, l2, l3, l4, l5] (v0 :: jR a :: st) σ Q ↔ mw_Call d 213 [jR a, v0] σ (fun r1 s1 => mw_WP d 223 60 [l0, l1, l2, l3, l4, l5] (r1.toList ++ st) s1 Q) := WP_inv (as := [v0]) mq223 dd223_57 (by decide) mq213 rfl hr h8
theorem dd223_60 : decode cX12_hours 60 = .ok (.aload_n 0, 1) := by decide +kernel
theorem ww223_60 {d : Nat} {l1 l2 l3 l4 l5 : Option mw_V} {x : Nat} {st : List mw_V} {σ : mw_S} {Q : Option mw_V → mw_S → Prop} : mw_WP d 223 60 [some (jR x), l1, l2, l3, l4, l5] st σ Q ↔ mw_WP d 223 61 [some (jR x), l1, l2, l3, l4, l5] (jR x :: st) σ Q := WP_aload_n mq223 dd223_60 rfl
theorem dd223_61 : decode cX12_hours 61 = .ok (.dup, 1) := by decide +kernel
theorem ww223_61 {d : Nat} {l0 l1 l2 l3 l4 l5 : Option mw_V} {v : mw_V} {st : List mw_V} {σ : mw_S} {Q : Option mw_V → mw_S → Prop} (h : mw_cat v = 1) : mw_WP d 223 61 [l0, l1, l2, l3, l4, l5] (v :: st) σ Q ↔ mw_WP d 223 62 [l0, l1, l2, l3, l4, l5] (v :: v :: st) σ Q := WP_dup mq223 dd223_61 h
theorem dd223_62 : decode cX12_hours 62 = .ok (.getfield 296, 3) := by decide +kernel
theorem ww223_62 {d : Nat} {l0 l1 l2 l3 l4 l5 : Option mw_V} {st : List mw_V} {σ : mw_S} {Q : Option mw_V → mw_S → Prop} : mw_WP d 223 62 [l0, l1, l2, l3, l4, l5] (jR 100 :: st) σ Q ↔ mw_WP d 223 65 [l0, l1, l2, l3, l4, l5] (jI (σ 100 21) :: st) σ Q := WP_getI (ci := 11) (k := 21) mq223 dd223_62 (by decide) (Or.inl rfl)
theorem dd223_65 : decode cX12_hours 65 = .ok (.aload_n 0, 1) := by decide +kernel
theorem ww223_65 {d : Nat} {l1 l2 l3 l4 l5 : Option mw_V} {x : Nat} {st : List mw_V} {σ : mw_S} {Q : Option mw_V → mw_S → Prop} : mw_WP d 223 65 [some (jR x), l1, l2, l3, l4, l5] st σ Q ↔ mw_WP d 223 66 [some (jR x), l1, l2, l3, l4, l5] (jR x :: st) σ Q := WP_aload_n mq223 dd223_65 rfl
theorem dd223_66 : decode cX12_hours 66 = .ok (.getfield 250, 3) := by decide +kernel
theorem ww223_66 {d : Nat} {l0 l1 l2 l3 l4 l5 : Option mw_V} {st : List mw_V} {σ : mw_S} {Q : Option mw_V → mw_S → Prop} : mw_WP d 223 66 [l0, l1, l2, l3, l4, l5] (jR 100 :: st) σ Q ↔ mw_WP d 223 69 [l0, l1, l2, l3, l4, l5] (jI (σ 100 19) :: st) σ Q := WP_getI (ci := 11) (k := 19) mq223 dd223_66 (by decide) (Or.inl rfl)
theorem dd223_69 : decode cX12_hours 69 = .ok (.iadd, 1) := by decide +kernel
theorem ww223_69 {d : Nat} {l0 l1 l2 l3 l4 l5 : Option mw_V} {x y : Int} {st : List mw_V} {σ : mw_S} {Q : Option mw_V → mw_S → Prop} : mw_WP d 223 69 [l0, l1, l2, l3, l4, l5] (jI y :: jI x :: st) σ Q ↔ mw_WP d 223 70 [l0, l1, l2, l3, l4, l5] (jI (w32 (x + y)) :: st) σ Q := WP_iadd mq223 dd223_69
theorem dd223_70 : decode cX12_hours 70 = .ok (.putfield 296, 3) := by decide +kernel
theorem ww223_70 {d : Nat} {l0 l1 l2 l3 l4 l5 : Option mw_V} {v : Int} {st : List mw_V} {σ : mw_S} {Q : Option mw_V → mw_S → Prop} : mw_WP d 223 70 [l0, l1, l2, l3, l4, l5] (jI v :: jR 100 :: st) σ Q ↔ mw_WP d 223 73 [l0, l1, l2, l3, l4, l5] st (upS σ 100 21 v) Q := WP_putI (ci := 11) (k := 21) mq223 dd223_70 (by decide) rfl
theorem dd223_73 : decode cX12_hours 73 = .ok (.aload_n 0, 1) := by decide +kernel
theorem ww223_73 {d : Nat} {l1 l2 l3 l4 l5 : Option mw_V} {x : Nat} {st : List mw_V} {σ : mw_S} {Q : Option mw_V → mw_S → Prop} : mw_WP d 223 73 [some (jR x), l1, l2, l3, l4, l5] st σ Q ↔ mw_WP d 223 74 [some (jR x), l1, l2, l3, l4, l5] (jR x :: st) σ Q := WP_aload_n mq223 dd223_73 rfl
theorem dd223_74 : decode cX12_hours 74 = .ok (.dup, 1) := by decide +kernel
theorem ww223_74 {d : Nat} {l0 l1 l2 l3 l4 l5 : Option mw_V} {v : mw_V} {st : List mw_V} {σ : mw_S} {Q : Option mw_V → mw_S → Prop} (h : mw_cat v = 1) : mw_WP d 223 74 [l0, l1, l2, l3, l4, l5] (v :: st) σ Q ↔ mw_WP d 223 75 [l0, l1, l2, l3, l4, l5] (v :: v :: st) σ Q := WP_dup mq223 dd223_74 h
theorem dd223_75 : decode cX12_hours 75 = .ok (.getfield 299, 3) := by decide +kernel
theorem ww223_75 {d : Nat} {l0 l1 l2 l3 l4 l5 : Option mw_V} {st : List mw_V} {σ : mw_S} {Q : Option mw_V → mw_S → Prop} : mw_WP d 223 75 [l0, l1, l2, l3, l4, l5] (jR 100 :: st) σ Q ↔ mw_WP d 223 78 [l0, l1, l2, l3, l4, l5] (jI (σ 100 22) :: st) σ Q := WP_getI (ci := 11) (k := 22) mq223 dd223_75 (by decide) (Or.inl rfl)
theorem dd223_78 : decode cX12_hours 78 = .ok (.aload_n 0, 1) := by decide +kernel
theorem ww223_78 {d : Nat} {l1 l2 l3 l4 l5 : Option mw_V} {x : Nat} {st : List mw_V} {σ : mw_S} {Q : Option mw_V → mw_S → Prop} : mw_WP d 223 78 [some (jR x), l1, l2, l3, l4, l5] st σ Q ↔ mw_WP d 223 79 [some (jR x), l1, l2, l3, l4, l5] (jR x :: st) σ Q := WP_aload_n mq223 dd223_78 rfl
theorem dd223_79 : decode cX12_hours 79 = .ok (.getfield 263, 3) := by decide +kernel
theorem ww223_79 {d : Nat} {l0 l1 l2 l3 l4 l5 : Option mw_V} {st : List mw_V} {σ : mw_S} {Q : Option mw_V → mw_S → Prop} : mw_WP d 223 79 [l0, l1, l2, l3, l4, l5] (jR 100 :: st) σ Q ↔ mw_WP d 223 82 [l0, l1, l2, l3, l4, l5] (jI (σ 100 18) :: st) σ Q := WP_getI (ci := 11) (k := 18) mq223 dd223_79 (by decide) (Or.inl rfl)
theorem dd223_82 : decode cX12_hours 82 = .ok (.iadd, 1) := by decide +kernel
theorem ww223_82 {d : Nat} {l0 l1 l2 l3 l4 l5 : Option mw_V} {x y : Int} {st : List mw_V} {σ : mw_S} {Q : Option mw_V → mw_S → Prop} : mw_WP d 223 82 [l0, l1, l2, l3, l4, l5] (jI y :: jI x :: st) σ Q ↔ mw_WP d 223 83 [l0, l1, l2, l3, l4, l5] (jI (w32 (x + y)) :: st) σ Q := WP_iadd mq223 dd223_82
theorem dd223_83 : decode cX12_hours 83 = .ok (.putfield 299, 3) := by decide +kernel
theorem ww223_83 {d : Nat} {l0 l1 l2 l3 l4 l5 : Option mw_V} {v : Int} {st : List mw_V} {σ : mw_S} {Q : Option mw_V → mw_S → Prop} : mw_WP d 223 83 [l0, l1, l2, l3, l4, l5] (jI v :: jR 100 :: st) σ Q ↔ mw_WP d 223 86 [l0, l1, l2, l3, l4, l5] st (upS σ 100 22 v) Q := WP_putI (ci := 11) (k := 22) mq223 dd223_83 (by decide) rfl
theorem dd223_86 : decode cX12_hours 86 = .ok (.iconst 0, 1) := by decide +kernel
theorem ww223_86 {d : Nat} {l0 l1 l2 l3 l4 l5 : Option mw_V} {st : List mw_V} {σ : mw_S} {Q : Option mw_V → mw_S → Prop} : mw_WP d 223 86 [l0, l1, l2, l3, l4, l5] st σ Q ↔ mw_WP d 223 87 [l0, l1, l2, l3, l4, l5] (jI (0) :: st) σ Q := WP_iconst mq223 dd223_86 (by decide)
theorem dd223_87 : decode cX12_hours 87 = .ok (.istore 5, 2) := by decide +kernel
theorem ww223_87 {d : Nat} {l0 l1 l2 l3 l4 l5 : Option mw_V} {x : Int} {st : List mw_V} {σ : mw_S} {Q : Option mw_V → mw_S → Prop} (h : mw_nlo l4 = true) : mw_WP d 223 87 [l0, l1, l2, l3, l4, l5] (jI x :: st) σ Q ↔ mw_WP d 223 89 [l0, l1, l2, l3, l4, some (jI x)] st σ Q := WP_istore mq223 dd223_87 (Nat.le_of_ble_eq_true rfl) (mw_nl_of (i := 4) rfl h) rfl
theorem dd223_89 : decode cX12_hours 89 = .ok (.iload 5, 2) := by decide +kernel
theorem ww223_89 {d : Nat} {l0 l1 l2 l3 l4 : Option mw_V} {x : Int} {st : List mw_V} {σ : mw_S} {Q : Option mw_V → mw_S → Prop} : mw_WP d 223 89 [l0, l1, l2, l3, l4, some (jI x)] st σ Q ↔ mw_WP d 223 91 [l0, l1, l2, l3, l4, some (jI x)] (jI x :: st) σ Q := WP_iload mq223 dd223_89 rfl
theorem dd223_91 : decode cX12_hours 91 = .ok (.aload_n 0, 1) := by decide +kernel
theorem ww223_91 {d : Nat} {l1 l2 l3 l4 l5 : Option mw_V} {x : Nat} {st : List mw_V} {σ : mw_S} {Q : Option mw_V → mw_S → Prop} : mw_WP d 223 91 [some (jR x), l1, l2, l3, l4, l5] st σ Q ↔ mw_WP d 223 92 [some (jR x), l1, l2, l3, l4, l5] (jR x :: st) σ Q := WP_aload_n mq223 dd223_91 rfl
theorem dd223_92 : decode cX12_hours 92 = .ok (.getfield 13, 3) := by decide +kernel
theorem ww223_92 {d : Nat} {l0 l1 l2 l3 l4 l5 : Option mw_V} {st : List mw_V} {σ : mw_S} {Q : Option mw_V → mw_S → Prop} : mw_WP d 223 92 [l0, l1, l2, l3, l4, l5] (jR 100 :: st) σ Q ↔ mw_WP d 223 95 [l0, l1, l2, l3, l4, l5] (jR 101 :: st) σ Q := WP_getR (ci := 11) (k := 1) mq223 dd223_92 (by decide) rfl
theorem dd223_95 : decode cX12_hours 95 = .ok (.iconst 2, 1) := by decide +kernel
theorem ww223_95 {d : Nat} {l0 l1 l2 l3 l4 l5 : Option mw_V} {st : List mw_V} {σ : mw_S} {Q : Option mw_V → mw_S → Prop} : mw_WP d 223 95 [l0, l1, l2, l3, l4, l5] st σ Q ↔ mw_WP d 223 96 [l0, l1, l2, l3, l4, l5] (jI (2) :: st) σ Q := WP_iconst mq223 dd223_95 (by decide)
theorem dd223_96 : decode cX12_hours 96 = .ok (.iaload, 1) := by decide +kernel
theorem ww223_96 {d : Nat} {l0 l1 l2 l3 l4 l5 : Option mw_V} {z : Int} {a : Nat} {st : List mw_V} {σ : mw_S} {Q : Option mw_V → mw_S → Prop} : mw_WP d 223 96 [l0, l1, l2, l3, l4, l5] (jI z :: jR a :: st) σ Q ↔ ((0 ≤ z ∧ z < mw_lenI a) ∧ mw_WP d 223 97 [l0, l1, l2, l3, l4, l5] (jI (mw_rdI σ a z.toNat) :: st) σ Q) := WP_iaload mq223 dd223_96
theorem dd223_97 : decode cX12_hours 97 = .ok (.if_icmp .ge 45, 3) := by decide +kernel
theorem ww223_97 {d : Nat} {l0 l1 l2 l3 l4 l5 : Option mw_V} {x y : Int} {st : List mw_V} {σ : mw_S} {Q : Option mw_V → mw_S → Prop} : mw_WP d 223 97 [l0, l1, l2, l3, l4, l5] (jI y :: jI x :: st) σ Q ↔ (if y ≤ x then mw_WP d 223 142 [l0, l1, l2, l3, l4, l5] st σ Q else mw_WP d 223 100 [l0, l1, l2, l3, l4, l5] st σ Q) := WP_icmp_ge mq223 dd223_97 (by decide)
theorem dd223_100 : decode cX12_hours 100 = .ok (.aload_n 0, 1) := by decide +kernel
theorem ww223_100 {d : Nat} {l1 l2 l3 l4 l5 : Option mw_V} {x : Nat} {st : List mw_V} {σ : mw_S} {Q : Option mw_V → mw_S → Prop} : mw_WP d 223 100 [some (jR x), l1, l2, l3, l4, l5] st σ Q ↔ mw_WP d 223 101 [some (jR x), l1, l2, l3, l4, l5] (jR x :: st) σ Q := WP_aload_n mq223 dd223_100 rfl
theorem dd223_101 : decode cX12_hours 101 = .ok (.getfield 302, 3) := by decide +kernel
theorem ww223_101 {d : Nat} {l0 l1 l2 l3 l4 l5 : Option mw_V} {st : List mw_V} {σ : mw_S} {Q : Option mw_V → mw_S → Prop} : mw_WP d 223 101 [l0, l1, l2, l3, l4, l5] (jR 100 :: st) σ Q ↔ mw_WP d 223 104 [l0, l1, l2, l3, l4, l5] (jI (σ 100 23) :: st) σ Q := WP_getI (ci := 11) (k := 23) mq223 dd223_101 (by decide) (Or.inl rfl)
theorem dd223_104 : decode cX12_hours 104 = .ok (.iconst (-1), 1) := by decide +kernel
theorem ww223_104 {d : Nat} {l0 l1 l2 l3 l4 l5 : Option mw_V} {st : List mw_V} {σ : mw_S} {Q : Option mw_V → mw_S → Prop} : mw_WP d 223 104 [l0, l1, l2, l3, l4, l5] st σ Q ↔ mw_WP d 223 105 [l0, l1, l2, l3, l4, l5] (jI (-1) :: st) σ Q := WP_iconst mq223 dd223_104 (by decide)
theorem dd223_105 : decode cX12_hours 105 = .ok (.if_icmp .ne 37, 3) := by decide +kernel
theorem ww223_105 {d : Nat} {l0 l1 l2 l3 l4 l5 : Option mw_V} {x y : Int} {st : List mw_V} {σ : mw_S} {Q : Option mw_V → mw_S → Prop} : mw_WP d 223 105 [l0, l1, l2, l3, l4, l5] (jI y :: jI x :: st) σ Q ↔ (if ¬ x = y then mw_WP d 223 142 [l0, l1, l2, l3, l4, l5] st σ Q else mw_WP d 223 108 [l0, l1, l2, l3, l4, l5] st σ Q) := WP_icmp_ne mq223 dd223_105 (by decide)
theorem dd223_108 : decode cX12_hours 108 = .ok (.aload_n 0, 1) := by decide +kernel
theorem ww223_108 {d : Nat} {l1 l2 l3 l4 l5 : Option mw_V} {x : Nat} {st : List mw_V} {σ : mw_S} {Q : Option mw_V → mw_S → Prop} : mw_WP d 223 108 [some (jR x), l1, l2, l3, l4, l5] st σ Q ↔ mw_WP d 223 109 [some (jR x), l1, l2, l3, l4, l5] (jR x :: st) σ Q := WP_aload_n mq223 dd223_108 rfl
theorem dd223_109 : decode cX12_hours 109 = .ok (.getfield 13, 3) := by decide +kernel
theorem ww223_109 {d : Nat} {l0 l1 l2 l3 l4 l5 : Option mw_V} {st : List mw_V} {σ : mw_S} {Q : Option mw_V → mw_S → Prop} : mw_WP d 223 109 [l0, l1, l2, l3, l4, l5] (jR 100 :: st) σ Q ↔ mw_WP d 223 112 [l0, l1, l2, l3, l4, l5] (jR 101 :: st) σ Q := WP_getR (ci := 11) (k := 1) mq223 dd223_109 (by decide) rfl
theorem dd223_112 : decode cX12_hours 112 = .ok (.bipush 85, 2) := by decide +kernel
theorem ww223_112 {d : Nat} {l0 l1 l2 l3 l4 l5 : Option mw_V} {st : List mw_V} {σ : mw_S} {Q : Option mw_V → mw_S → Prop} : mw_WP d 223 112 [l0, l1, l2, l3, l4, l5] st σ Q ↔ mw_WP d 223 114 [l0, l1, l2, l3, l4, l5] (jI (85) :: st) σ Q := WP_bipush mq223 dd223_112 (by decide)
theorem dd223_114 : decode cX12_hours 114 = .ok (.iload 5, 2) := by decide +kernel
theorem ww223_114 {d : Nat} {l0 l1 l2 l3 l4 : Option mw_V} {x : Int} {st : List mw_V} {σ : mw_S} {Q : Option mw_V → mw_S → Prop} : mw_WP d 223 114 [l0, l1, l2, l3, l4, some (jI x)] st σ Q ↔ mw_WP d 223 116 [l0, l1, l2, l3, l4, some (jI x)] (jI x :: st) σ Q := WP_iload mq223 dd223_114 rfl
theorem dd223_116 : decode cX12_hours 116 = .ok (.iadd, 1) := by decide +kernel
theorem ww223_116 {d : Nat} {l0 l1 l2 l3 l4 l5 : Option mw_V} {x y : Int} {st : List mw_V} {σ : mw_S} {Q : Option mw_V → mw_S → Prop} : mw_WP d 223 116 [l0, l1, l2, l3, l4, l5] (jI y :: jI x :: st) σ Q ↔ mw_WP d 223 117 [l0, l1, l2, l3, l4, l5] (jI (w32 (x + y)) :: st) σ Q := WP_iadd mq223 dd223_116
theorem dd223_117 : decode cX12_hours 117 = .ok (.iaload, 1) := by decide +kernel
theorem ww223_117 {d : Nat} {l0 l1 l2 l3 l4 l5 : Option mw_V} {z : Int} {a : Nat} {st : List mw_V} {σ : mw_S} {Q : Option mw_V → mw_S → Prop} : mw_WP d 223 117 [l0, l1, l2, l3, l4, l5] (jI z :: jR a :: st) σ Q ↔ ((0 ≤ z ∧ z < mw_lenI a) ∧ mw_WP d 223 118 [l0, l1, l2, l3, l4, l5] (jI (mw_rdI σ a z.toNat) :: st) σ Q) := WP_iaload mq223 dd223_117
theorem dd223_118 : decode cX12_hours 118 = .ok (.iconst 1, 1) := by decide +kernel
theorem ww223_118 {d : Nat} {l0 l1 l2 l3 l4 l5 : Option mw_V} {st : List mw_V} {σ : mw_S} {Q : Option mw_V → mw_S → Prop} : mw_WP d 223 118 [l0, l1, l2, l3, l4, l5] st σ Q ↔ mw_WP d 223 119 [l0, l1, l2, l3, l4, l5] (jI (1) :: st) σ Q := WP_iconst mq223 dd223_118 (by decide)
theorem dd223_119 : decode cX12_hours 119 = .ok (.if_icmp .ne 6, 3) := by decide +kernel
theorem ww223_119 {d : Nat} {l0 l1 l2 l3 l4 l5 : Option mw_V} {x y : Int} {st : List mw_V} {σ : mw_S} {Q : Option mw_V → mw_S → Prop} : mw_WP d 223 119 [l0, l1, l2, l3, l4, l5] (jI y :: jI x :: st) σ Q ↔ (if ¬ x = y then mw_WP d 223 125 [l0, l1, l2, l3, l4, l5] st σ Q else mw_WP d 223 122 [l0, l1, l2, l3, l4, l5] st σ Q) := WP_icmp_ne mq223 dd223_119 (by decide)
theorem dd223_122 : decode cX12_hours 122 = .ok (.goto 14, 3) := by decide +kernel
theorem ww223_122 {d : Nat} {l0 l1 l2 l3 l4 l5 : Option mw_V} {st : List mw_V} {σ : mw_S} {Q : Option mw_V → mw_S → Prop} : mw_WP d 223 122 [l0, l1, l2, l3, l4, l5] st σ Q ↔ mw_WP d 223 136 [l0, l1, l2, l3, l4, l5] st σ Q := WP_goto mq223 dd223_122 (by decide)
theorem dd223_125 : decode cX12_hours 125 = .ok (.aload_n 0, 1) := by decide +kernel
theorem ww223_125 {d : Nat} {l1 l2 l3 l4 l5 : Option mw_V} {x : Nat} {st : List mw_V} {σ : mw_S} {Q : Option mw_V → mw_S → Prop} : mw_WP d 223 125 [some (jR x), l1, l2, l3, l4, l5] st σ Q ↔ mw_WP d 223 126 [some (jR x), l1, l2, l3, l4, l5] (jR x :: st) σ Q := WP_aload_n mq223 dd223_125 rfl
theorem dd223_126 : decode cX12_hours 126 = .ok (.iload_n 2, 1) := by decide +kernel
theorem ww223_126 {d : Nat} {l0 l1 l3 l4 l5 : Option mw_V} {x : Int} {st : List mw_V} {σ : mw_S} {Q : Option mw_V → mw_S → Prop} : mw_WP d 223 126 [l0, l1, some (jI x), l3, l4, l5] st σ Q ↔ mw_WP d 223 127 [l0, l1, some (jI x), l3, l4, l5] (jI x :: st) σ Q := WP_iload_n mq223 dd223_126 rfl
theorem dd223_127 : decode cX12_hours 127 = .ok (.putfield 302, 3) := by decide +kernel
theorem ww223_127 {d : Nat} {l0 l1 l2 l3 l4 l5 : Option mw_V} {v : Int} {st : List mw_V} {σ : mw_S} {Q : Option mw_V → mw_S → Prop} : mw_WP d 223 127 [l0, l1, l2, l3, l4, l5] (jI v :: jR 100 :: st) σ Q ↔ mw_WP d 223 130 [l0, l1, l2, l3, l4, l5] st (upS σ 100 23 v) Q := WP_putI (ci := 11) (k := 23) mq223 dd223_127 (by decide) rfl
theorem dd223_130 : decode cX12_hours 130 = .ok (.aload_n 0, 1) := by decide +kernel
theorem ww223_130 {d : Nat} {l1 l2 l3 l4 l5 : Option mw_V} {x : Nat} {st : List mw_V} {σ : mw_S} {Q : Option mw_V → mw_S → Prop} : mw_WP d 223 130 [some (jR x), l1, l2, l3, l4, l5] st σ Q ↔ mw_WP d 223 131 [some (jR x), l1, l2, l3, l4, l5] (jR x :: st) σ Q := WP_aload_n mq223 dd223_130 rfl
theorem dd223_131 : decode cX12_hours 131 = .ok (.iload 5, 2) := by decide +kernel
theorem ww223_131 {d : Nat} {l0 l1 l2 l3 l4 : Option mw_V} {x : Int} {st : List mw_V} {σ : mw_S} {Q : Option mw_V → mw_S → Prop} : mw_WP d 223 131 [l0, l1, l2, l3, l4, some (jI x)] st σ Q ↔ mw_WP d 223 133 [l0, l1, l2, l3, l4, some (jI x)] (jI x :: st) σ Q := WP_iload mq223 dd223_131 rfl
theorem dd223_133 : decode cX12_hours 133 = .ok (.putfield 305, 3) := by decide +kernel
theorem ww223_133 {d : Nat} {l0 l1 l2 l3 l4 l5 : Option mw_V} {v : Int} {st : List mw_V} {σ : mw_S} {Q : Option mw_V → mw_S → Prop} : mw_WP d 223 133 [l0, l1, l2, l3, l4, l5] (jI v :: jR 100 :: st) σ Q ↔ mw_WP d 223 136 [l0, l1, l2, l3, l4, l5] st (upS σ 100 24 v) Q := WP_putI (ci := 11) (k := 24) mq223 dd223_133 (by decide) rfl
theorem dd223_136 : decode cX12_hours 136 = .ok (.iinc 5 1, 3) := by decide +kernel
theorem ww223_136 {d : Nat} {l0 l1 l2 l3 l4 : Option mw_V} {x : Int} {st : List mw_V} {σ : mw_S} {Q : Option mw_V → mw_S → Prop} (h : mw_nlo l4 = true) : mw_WP d 223 136 [l0, l1, l2, l3, l4, some (jI x)] st σ Q ↔ mw_WP d 223 139 [l0, l1, l2, l3, l4, some (jI (w32 (x + (1))))] st σ Q := WP_iinc mq223 dd223_136 rfl (Nat.le_of_ble_eq_true rfl) (mw_nl_of (i := 4) rfl h) rfl
theorem dd223_139 : decode cX12_hours 139 = .ok (.goto (-50), 3) := by decide +kernel
theorem ww223_139 {d : Nat} {l0 l1 l2 l3 l4 l5 : Option mw_V} {st : List mw_V} {σ : mw_S} {Q : Option mw_V → mw_S → Prop} : mw_WP d 223 139 [l0, l1, l2, l3, l4, l5] st σ Q ↔ mw_WP d 223 89 [l0, l1, l2, l3, l4, l5] st σ Q := WP_goto mq223 dd223_139 (by decide)
theorem dd223_142 : decode cX12_hours 142 = .ok (.iinc 2 1, 3) := by decide +kernel
theorem ww223_142 {d : Nat} {l0 l1 l3 l4 l5 : Option mw_V} {x : Int} {st : List mw_V} {σ : mw_S} {Q : Option mw_V → mw_S → Prop} (h : mw_nlo l1 = true) : mw_WP d 223 142 [l0, l1, some (jI x), l3, l4, l5] st σ Q ↔ mw_WP d 223 145 [l0, l1, some (jI (w32 (x + (1)))), l3, l4, l5] st σ Q := WP_iinc mq223 dd223_142 rfl (Nat.le_of_ble_eq_true rfl) (mw_nl_of (i := 1) rfl h) rfl
theorem dd223_145 : decode cX12_hours 145 = .ok (.goto (-123), 3) := by decide +kernel
theorem ww223_145 {d : Nat} {l0 l1 l2 l3 l4 l5 : Option mw_V} {st : List mw_V} {σ : mw_S} {Q : Option mw_V → mw_S → Prop} : mw_WP d 223 145 [l0, l1, l2, l3, l4, l5] st σ Q ↔ mw_WP d 223 22 [l0, l1, l2, l3, l4, l5] st σ Q := WP_goto mq223 dd223_145 (by decide)
theorem dd223_148 : decode cX12_hours 148 = .ok (.aload_n 0, 1) := by decide +kernel
theorem ww223_148 {d : Nat} {l1 l2 l3 l4 l5 : Option mw_V} {x : Nat} {st : List mw_V} {σ : mw_S} {Q : Option mw_V → mw_S → Prop} : mw_WP d 223 148 [some (jR x), l1, l2, l3, l4, l5] st σ Q ↔ mw_WP d 223 149 [some (jR x), l1, l2, l3, l4, l5] (jR x :: st) σ Q := WP_aload_n mq223 dd223_148 rfl
theorem dd223_149 : decode cX12_hours 149 = .ok (.getfield 87, 3) := by decide +kernel
theorem ww223_149 {d : Nat} {l0 l1 l2 l3 l4 l5 : Option mw_V} {st : List mw_V} {σ : mw_S} {Q : Option mw_V → mw_S → Prop} : mw_WP d 223 149 [l0, l1, l2, l3, l4, l5] (jR 100 :: st) σ Q ↔ mw_WP d 223 152 [l0, l1, l2, l3, l4, l5] (jR 123 :: st) σ Q := WP_getR (ci := 11) (k := 49) mq223 dd223_149 (by decide) rfl
theorem dd223_152 : decode cX12_hours 152 = .ok (.iload_n 1, 1) := by decide +kernel
theorem ww223_152 {d : Nat} {l0 l2 l3 l4 l5 : Option mw_V} {x : Int} {st : List mw_V} {σ : mw_S} {Q : Option mw_V → mw_S → Prop} : mw_WP d 223 152 [l0, some (jI x), l2, l3, l4, l5] st σ Q ↔ mw_WP d 223 153 [l0, some (jI x), l2, l3, l4, l5] (jI x :: st) σ Q := WP_iload_n mq223 dd223_152 rfl
theorem dd223_153 : decode cX12_hours 153 = .ok (.iaload, 1) := by decide +kernel
theorem ww223_153 {d : Nat} {l0 l1 l2 l3 l4 l5 : Option mw_V} {z : Int} {a : Nat} {st : List mw_V} {σ : mw_S} {Q : Option mw_V → mw_S → Prop} : mw_WP d 223 153 [l0, l1, l2, l3, l4, l5] (jI z :: jR a :: st) σ Q ↔ ((0 ≤ z ∧ z < mw_lenI a) ∧ mw_WP d 223 154 [l0, l1, l2, l3, l4, l5] (jI (mw_rdI σ a z.toNat) :: st) σ Q) := WP_iaload mq223 dd223_153
theorem dd223_154 : decode cX12_hours 154 = .ok (.ireturn, 1) := by decide +kernel
theorem ww223_154 {d : Nat} {l0 l1 l2 l3 l4 l5 : Option mw_V} {z : Int} {σ : mw_S} {Q : Option mw_V → mw_S → Prop} : mw_WP d 223 154 [l0, l1, l2, l3, l4, l5] [jI z] σ Q ↔ Q (some (jI z)) σ := WP_ireturn (ty := .int) mq223 dd223_154 rfl rfl
theorem ee224 {d : Nat} {a : Nat} {z0 : Int} {σ : mw_S} {Q : Option mw_V → mw_S → Prop} : mw_Call (d + 1) 224 [jR a, jI z0] σ Q ↔ mw_WP d 224 0 [some (jR a), some (jI z0)] [] σ Q := CL_u mq224 (Nat.le_of_ble_eq_true rfl) rfl
theorem dd224_0 : decode cX12_noTray 0 = .ok (.iload_n 1, 1) := by decide +kernel
theorem ww224_0 {d : Nat} {l0 : Option mw_V} {x : Int} {st : List mw_V} {σ : mw_S} {Q : Option mw_V → mw_S → Prop} : mw_WP d 224 0 [l0, some (jI x)] st σ Q ↔ mw_WP d 224 1 [l0, some (jI x)] (jI x :: st) σ Q := WP_iload_n mq224 dd224_0 rfl
theorem dd224_1 : decode cX12_noTray 1 = .ok (.i2l, 1) := by decide +kernel
theorem ww224_1 {d : Nat} {l0 l1 : Option mw_V} {x : Int} {st : List mw_V} {σ : mw_S} {Q : Option mw_V → mw_S → Prop} : mw_WP d 224 1 [l0, l1] (jI x :: st) σ Q ↔ mw_WP d 224 2 [l0, l1] (jL (yL x) :: st) σ Q := WP_i2l mq224 dd224_1
theorem dd224_2 : decode cX12_noTray 2 = .ok (.lconst 0, 1) := by decide +kernel
theorem ww224_2 {d : Nat} {l0 l1 : Option mw_V} {st : List mw_V} {σ : mw_S} {Q : Option mw_V → mw_S → Prop} : mw_WP d 224 2 [l0, l1] st σ Q ↔ mw_WP d 224 3 [l0, l1] (jL (0) :: st) σ Q := WP_lconst mq224 dd224_2 (by decide)
theorem dd224_3 : decode cX12_noTray 3 = .ok (.ldc2_w 308, 3) := by decide +kernel
theorem ww224_3 {d : Nat} {l0 l1 : Option mw_V} {st : List mw_V} {σ : mw_S} {Q : Option mw_V → mw_S → Prop} : mw_WP d 224 3 [l0, l1] st σ Q ↔ mw_WP d 224 6 [l0, l1] (jL (3) :: st) σ Q := WP_ldc2_w (v := 3) mq224 dd224_3 (by decide) (by decide)
theorem dd224_6 : decode cX12_noTray 6 = .ok (.invokestatic 159, 3) := by decide +kernel
theorem ww224_6 {d : Nat} {l0 l1 : Option mw_V} {v0 v1 v2 : mw_V} {st : List mw_V} {σ : mw_S} {Q : Option mw_V → mw_S → Prop} (h8 : (st.map mw_cat).sum ≤ 8) : mw_WP d 224 6 [l0, l1] (v2 :: v1 :: v0 :: st) σ Q ↔ mw_Call d 170 [v0, v1, v2] σ (fun r1 s1 => mw_WP d 224 9 [l0, l1] (r1.toList ++ st) s1 Q) := WP_invs (as := [v2, v1, v0]) mq224 dd224_6 (by decide) mq170 rfl rfl h8
theorem dd224_9 : decode cX12_noTray 9 = .ok (.ifCond .ne 8, 3) := by decide +kernel
theorem ww224_9 {d : Nat} {l0 l1 : Option mw_V} {x : Int} {st : List mw_V} {σ : mw_S} {Q : Option mw_V → mw_S → Prop} : mw_WP d 224 9 [l0, l1] (jI x :: st) σ Q ↔ (if ¬ x = 0 then mw_WP d 224 17 [l0, l1] st σ Q else mw_WP d 224 12 [l0, l1] st σ Q) := WP_if_ne mq224 dd224_9 (by decide)
theorem dd224_12 : decode cX12_noTray 12 = .ok (.bipush (-2), 2) := by decide +kernel
theorem ww224_12 {d : Nat} {l0 l1 : Option mw_V} {st : List mw_V} {σ : mw_S} {Q : Option mw_V → mw_S → Prop} : mw_WP d 224 12 [l0, l1] st σ Q ↔ mw_WP d 224 14 [l0, l1] (jI (-2) :: st) σ Q := WP_bipush mq224 dd224_12 (by decide)
theorem dd224_14 : decode cX12_noTray 14 = .ok (.goto 19, 3) := by decide +kernel
theorem ww224_14 {d : Nat} {l0 l1 : Option mw_V} {st : List mw_V} {σ : mw_S} {Q : Option mw_V → mw_S → Prop} : mw_WP d 224 14 [l0, l1] st σ Q ↔ mw_WP d 224 33 [l0, l1] st σ Q := WP_goto mq224 dd224_14 (by decide)
theorem dd224_17 : decode cX12_noTray 17 = .ok (.aload_n 0, 1) := by decide +kernel
theorem ww224_17 {d : Nat} {l1 : Option mw_V} {x : Nat} {st : List mw_V} {σ : mw_S} {Q : Option mw_V → mw_S → Prop} : mw_WP d 224 17 [some (jR x), l1] st σ Q ↔ mw_WP d 224 18 [some (jR x), l1] (jR x :: st) σ Q := WP_aload_n mq224 dd224_17 rfl
theorem dd224_18 : decode cX12_noTray 18 = .ok (.getfield 84, 3) := by decide +kernel
theorem ww224_18 {d : Nat} {l0 l1 : Option mw_V} {st : List mw_V} {σ : mw_S} {Q : Option mw_V → mw_S → Prop} : mw_WP d 224 18 [l0, l1] (jR 100 :: st) σ Q ↔ mw_WP d 224 21 [l0, l1] (jR 122 :: st) σ Q := WP_getR (ci := 11) (k := 48) mq224 dd224_18 (by decide) rfl
theorem dd224_21 : decode cX12_noTray 21 = .ok (.iload_n 1, 1) := by decide +kernel
theorem ww224_21 {d : Nat} {l0 : Option mw_V} {x : Int} {st : List mw_V} {σ : mw_S} {Q : Option mw_V → mw_S → Prop} : mw_WP d 224 21 [l0, some (jI x)] st σ Q ↔ mw_WP d 224 22 [l0, some (jI x)] (jI x :: st) σ Q := WP_iload_n mq224 dd224_21 rfl
theorem dd224_22 : decode cX12_noTray 22 = .ok (.iaload, 1) := by decide +kernel
theorem ww224_22 {d : Nat} {l0 l1 : Option mw_V} {z : Int} {a : Nat} {st : List mw_V} {σ : mw_S} {Q : Option mw_V → mw_S → Prop} : mw_WP d 224 22 [l0, l1] (jI z :: jR a :: st) σ Q ↔ ((0 ≤ z ∧ z < mw_lenI a) ∧ mw_WP d 224 23 [l0, l1] (jI (mw_rdI σ a z.toNat) :: st) σ Q) := WP_iaload mq224 dd224_22
theorem dd224_23 : decode cX12_noTray 23 = .ok (.iconst (-1), 1) := by decide +kernel
theorem ww224_23 {d : Nat} {l0 l1 : Option mw_V} {st : List mw_V} {σ : mw_S} {Q : Option mw_V → mw_S → Prop} : mw_WP d 224 23 [l0, l1] st σ Q ↔ mw_WP d 224 24 [l0, l1] (jI (-1) :: st) σ Q := WP_iconst mq224 dd224_23 (by decide)
theorem dd224_24 : decode cX12_noTray 24 = .ok (.if_icmp .ne 8, 3) := by decide +kernel
theorem ww224_24 {d : Nat} {l0 l1 : Option mw_V} {x y : Int} {st : List mw_V} {σ : mw_S} {Q : Option mw_V → mw_S → Prop} : mw_WP d 224 24 [l0, l1] (jI y :: jI x :: st) σ Q ↔ (if ¬ x = y then mw_WP d 224 32 [l0, l1] st σ Q else mw_WP d 224 27 [l0, l1] st σ Q) := WP_icmp_ne mq224 dd224_24 (by decide)
theorem dd224_27 : decode cX12_noTray 27 = .ok (.bipush (-6), 2) := by decide +kernel
theorem ww224_27 {d : Nat} {l0 l1 : Option mw_V} {st : List mw_V} {σ : mw_S} {Q : Option mw_V → mw_S → Prop} : mw_WP d 224 27 [l0, l1] st σ Q ↔ mw_WP d 224 29 [l0, l1] (jI (-6) :: st) σ Q := WP_bipush mq224 dd224_27 (by decide)
theorem dd224_29 : decode cX12_noTray 29 = .ok (.goto 4, 3) := by decide +kernel
theorem ww224_29 {d : Nat} {l0 l1 : Option mw_V} {st : List mw_V} {σ : mw_S} {Q : Option mw_V → mw_S → Prop} : mw_WP d 224 29 [l0, l1] st σ Q ↔ mw_WP d 224 33 [l0, l1] st σ Q := WP_goto mq224 dd224_29 (by decide)
theorem dd224_32 : decode cX12_noTray 32 = .ok (.iconst 0, 1) := by decide +kernel
theorem ww224_32 {d : Nat} {l0 l1 : Option mw_V} {st : List mw_V} {σ : mw_S} {Q : Option mw_V → mw_S → Prop} : mw_WP d 224 32 [l0, l1] st σ Q ↔ mw_WP d 224 33 [l0, l1] (jI (0) :: st) σ Q := WP_iconst mq224 dd224_32 (by decide)
theorem dd224_33 : decode cX12_noTray 33 = .ok (.ireturn, 1) := by decide +kernel
theorem ww224_33 {d : Nat} {l0 l1 : Option mw_V} {z : Int} {σ : mw_S} {Q : Option mw_V → mw_S → Prop} : mw_WP d 224 33 [l0, l1] [jI z] σ Q ↔ Q (some (jI z)) σ := WP_ireturn (ty := .int) mq224 dd224_33 rfl rfl
theorem ee225 {d : Nat} {a : Nat} {z0 : Int} {z1 : Int} {σ : mw_S} {Q : Option mw_V → mw_S → Prop} : mw_Call (d + 1) 225 [jR a, jI z0, jI z1] σ Q ↔ mw_WP d 225 0 [some (jR a), some (jI z0), some (jI z1), none, none] [] σ Q := CL_u mq225 (Nat.le_of_ble_eq_true rfl) rfl
theorem dd225_0 : decode cX12_judge 0 = .ok (.aload_n 0, 1) := by decide +kernel
theorem ww225_0 {d : Nat} {l1 l2 l3 l4 : Option mw_V} {x : Nat} {st : List mw_V} {σ : mw_S} {Q : Option mw_V → mw_S → Prop} : mw_WP d 225 0 [some (jR x), l1, l2, l3, l4] st σ Q ↔ mw_WP d 225 1 [some (jR x), l1, l2, l3, l4] (jR x :: st) σ Q := WP_aload_n mq225 dd225_0 rfl
theorem dd225_1 : decode cX12_judge 1 = .ok (.iconst 0, 1) := by decide +kernel
theorem ww225_1 {d : Nat} {l0 l1 l2 l3 l4 : Option mw_V} {st : List mw_V} {σ : mw_S} {Q : Option mw_V → mw_S → Prop} : mw_WP d 225 1 [l0, l1, l2, l3, l4] st σ Q ↔ mw_WP d 225 2 [l0, l1, l2, l3, l4] (jI (0) :: st) σ Q := WP_iconst mq225 dd225_1 (by decide)
theorem dd225_2 : decode cX12_judge 2 = .ok (.putfield 1, 3) := by decide +kernel
theorem ww225_2 {d : Nat} {l0 l1 l2 l3 l4 : Option mw_V} {v : Int} {st : List mw_V} {σ : mw_S} {Q : Option mw_V → mw_S → Prop} : mw_WP d 225 2 [l0, l1, l2, l3, l4] (jI v :: jR 100 :: st) σ Q ↔ mw_WP d 225 5 [l0, l1, l2, l3, l4] st (upS σ 100 0 v) Q := WP_putI (ci := 11) (k := 0) mq225 dd225_2 (by decide) rfl
theorem dd225_5 : decode cX12_judge 5 = .ok (.iload_n 2, 1) := by decide +kernel
theorem ww225_5 {d : Nat} {l0 l1 l3 l4 : Option mw_V} {x : Int} {st : List mw_V} {σ : mw_S} {Q : Option mw_V → mw_S → Prop} : mw_WP d 225 5 [l0, l1, some (jI x), l3, l4] st σ Q ↔ mw_WP d 225 6 [l0, l1, some (jI x), l3, l4] (jI x :: st) σ Q := WP_iload_n mq225 dd225_5 rfl
theorem dd225_6 : decode cX12_judge 6 = .ok (.i2l, 1) := by decide +kernel
theorem ww225_6 {d : Nat} {l0 l1 l2 l3 l4 : Option mw_V} {x : Int} {st : List mw_V} {σ : mw_S} {Q : Option mw_V → mw_S → Prop} : mw_WP d 225 6 [l0, l1, l2, l3, l4] (jI x :: st) σ Q ↔ mw_WP d 225 7 [l0, l1, l2, l3, l4] (jL (yL x) :: st) σ Q := WP_i2l mq225 dd225_6
theorem dd225_7 : decode cX12_judge 7 = .ok (.lconst 0, 1) := by decide +kernel
theorem ww225_7 {d : Nat} {l0 l1 l2 l3 l4 : Option mw_V} {st : List mw_V} {σ : mw_S} {Q : Option mw_V → mw_S → Prop} : mw_WP d 225 7 [l0, l1, l2, l3, l4] st σ Q ↔ mw_WP d 225 8 [l0, l1, l2, l3, l4] (jL (0) :: st) σ Q := WP_lconst mq225 dd225_7 (by decide)
theorem dd225_8 : decode cX12_judge 8 = .ok (.ldc2_w 308, 3) := by decide +kernel
theorem ww225_8 {d : Nat} {l0 l1 l2 l3 l4 : Option mw_V} {st : List mw_V} {σ : mw_S} {Q : Option mw_V → mw_S → Prop} : mw_WP d 225 8 [l0, l1, l2, l3, l4] st σ Q ↔ mw_WP d 225 11 [l0, l1, l2, l3, l4] (jL (3) :: st) σ Q := WP_ldc2_w (v := 3) mq225 dd225_8 (by decide) (by decide)
theorem dd225_11 : decode cX12_judge 11 = .ok (.invokestatic 159, 3) := by decide +kernel
theorem ww225_11 {d : Nat} {l0 l1 l2 l3 l4 : Option mw_V} {v0 v1 v2 : mw_V} {st : List mw_V} {σ : mw_S} {Q : Option mw_V → mw_S → Prop} (h8 : (st.map mw_cat).sum ≤ 8) : mw_WP d 225 11 [l0, l1, l2, l3, l4] (v2 :: v1 :: v0 :: st) σ Q ↔ mw_Call d 170 [v0, v1, v2] σ (fun r1 s1 => mw_WP d 225 14 [l0, l1, l2, l3, l4] (r1.toList ++ st) s1 Q) := WP_invs (as := [v2, v1, v0]) mq225 dd225_11 (by decide) mq170 rfl rfl h8
theorem dd225_14 : decode cX12_judge 14 = .ok (.ifCond .ne 6, 3) := by decide +kernel
theorem ww225_14 {d : Nat} {l0 l1 l2 l3 l4 : Option mw_V} {x : Int} {st : List mw_V} {σ : mw_S} {Q : Option mw_V → mw_S → Prop} : mw_WP d 225 14 [l0, l1, l2, l3, l4] (jI x :: st) σ Q ↔ (if ¬ x = 0 then mw_WP d 225 20 [l0, l1, l2, l3, l4] st σ Q else mw_WP d 225 17 [l0, l1, l2, l3, l4] st σ Q) := WP_if_ne mq225 dd225_14 (by decide)
theorem dd225_17 : decode cX12_judge 17 = .ok (.bipush (-2), 2) := by decide +kernel
theorem ww225_17 {d : Nat} {l0 l1 l2 l3 l4 : Option mw_V} {st : List mw_V} {σ : mw_S} {Q : Option mw_V → mw_S → Prop} : mw_WP d 225 17 [l0, l1, l2, l3, l4] st σ Q ↔ mw_WP d 225 19 [l0, l1, l2, l3, l4] (jI (-2) :: st) σ Q := WP_bipush mq225 dd225_17 (by decide)
theorem dd225_19 : decode cX12_judge 19 = .ok (.ireturn, 1) := by decide +kernel
theorem ww225_19 {d : Nat} {l0 l1 l2 l3 l4 : Option mw_V} {z : Int} {σ : mw_S} {Q : Option mw_V → mw_S → Prop} : mw_WP d 225 19 [l0, l1, l2, l3, l4] [jI z] σ Q ↔ Q (some (jI z)) σ := WP_ireturn (ty := .int) mq225 dd225_19 rfl rfl
theorem dd225_20 : decode cX12_judge 20 = .ok (.aload_n 0, 1) := by decide +kernel
theorem ww225_20 {d : Nat} {l1 l2 l3 l4 : Option mw_V} {x : Nat} {st : List mw_V} {σ : mw_S} {Q : Option mw_V → mw_S → Prop} : mw_WP d 225 20 [some (jR x), l1, l2, l3, l4] st σ Q ↔ mw_WP d 225 21 [some (jR x), l1, l2, l3, l4] (jR x :: st) σ Q := WP_aload_n mq225 dd225_20 rfl
theorem dd225_21 : decode cX12_judge 21 = .ok (.iload_n 1, 1) := by decide +kernel
theorem ww225_21 {d : Nat} {l0 l2 l3 l4 : Option mw_V} {x : Int} {st : List mw_V} {σ : mw_S} {Q : Option mw_V → mw_S → Prop} : mw_WP d 225 21 [l0, some (jI x), l2, l3, l4] st σ Q ↔ mw_WP d 225 22 [l0, some (jI x), l2, l3, l4] (jI x :: st) σ Q := WP_iload_n mq225 dd225_21 rfl
theorem dd225_22 : decode cX12_judge 22 = .ok (.invokevirtual 310, 3) := by decide +kernel
theorem ww225_22 {d : Nat} {l0 l1 l2 l3 l4 : Option mw_V} {v0 : mw_V} {a : Nat} {st : List mw_V} {σ : mw_S} {Q : Option mw_V → mw_S → Prop} (hr : mw_rc a = 12) (h8 : (st.map mw_cat).sum ≤ 8) : mw_WP d 225 22 [l0, l1, l2, l3, l4] (v0 :: jR a :: st) σ Q ↔ mw_Call d 224 [jR a, v0] σ (fun r1 s1 => mw_WP d 225 25 [l0, l1, l2, l3, l4] (r1.toList ++ st) s1 Q) := WP_inv (as := [v0]) mq225 dd225_22 (by decide) mq224 rfl hr h8
theorem dd225_25 : decode cX12_judge 25 = .ok (.istore_n 3, 1) := by decide +kernel
theorem ww225_25 {d : Nat} {l0 l1 l2 l3 l4 : Option mw_V} {x : Int} {st : List mw_V} {σ : mw_S} {Q : Option mw_V → mw_S → Prop} (h : mw_nlo l2 = true) : mw_WP d 225 25 [l0, l1, l2, l3, l4] (jI x :: st) σ Q ↔ mw_WP d 225 26 [l0, l1, l2, some (jI x), l4] st σ Q := WP_istore_n mq225 dd225_25 (Nat.le_of_ble_eq_true rfl) (mw_nl_of (i := 2) rfl h) rfl
theorem dd225_26 : decode cX12_judge 26 = .ok (.iload_n 3, 1) := by decide +kernel
theorem ww225_26 {d : Nat} {l0 l1 l2 l4 : Option mw_V} {x : Int} {st : List mw_V} {σ : mw_S} {Q : Option mw_V → mw_S → Prop} : mw_WP d 225 26 [l0, l1, l2, some (jI x), l4] st σ Q ↔ mw_WP d 225 27 [l0, l1, l2, some (jI x), l4] (jI x :: st) σ Q := WP_iload_n mq225 dd225_26 rfl
theorem dd225_27 : decode cX12_judge 27 = .ok (.ifCond .eq 5, 3) := by decide +kernel
theorem ww225_27 {d : Nat} {l0 l1 l2 l3 l4 : Option mw_V} {x : Int} {st : List mw_V} {σ : mw_S} {Q : Option mw_V → mw_S → Prop} : mw_WP d 225 27 [l0, l1, l2, l3, l4] (jI x :: st) σ Q ↔ (if x = 0 then mw_WP d 225 32 [l0, l1, l2, l3, l4] st σ Q else mw_WP d 225 30 [l0, l1, l2, l3, l4] st σ Q) := WP_if_eq mq225 dd225_27 (by decide)
theorem dd225_30 : decode cX12_judge 30 = .ok (.iload_n 3, 1) := by decide +kernel
theorem ww225_30 {d : Nat} {l0 l1 l2 l4 : Option mw_V} {x : Int} {st : List mw_V} {σ : mw_S} {Q : Option mw_V → mw_S → Prop} : mw_WP d 225 30 [l0, l1, l2, some (jI x), l4] st σ Q ↔ mw_WP d 225 31 [l0, l1, l2, some (jI x), l4] (jI x :: st) σ Q := WP_iload_n mq225 dd225_30 rfl
theorem dd225_31 : decode cX12_judge 31 = .ok (.ireturn, 1) := by decide +kernel
theorem ww225_31 {d : Nat} {l0 l1 l2 l3 l4 : Option mw_V} {z : Int} {σ : mw_S} {Q : Option mw_V → mw_S → Prop} : mw_WP d 225 31 [l0, l1, l2, l3, l4] [jI z] σ Q ↔ Q (some (jI z)) σ := WP_ireturn (ty := .int) mq225 dd225_31 rfl rfl
theorem dd225_32 : decode cX12_judge 32 = .ok (.aload_n 0, 1) := by decide +kernel
theorem ww225_32 {d : Nat} {l1 l2 l3 l4 : Option mw_V} {x : Nat} {st : List mw_V} {σ : mw_S} {Q : Option mw_V → mw_S → Prop} : mw_WP d 225 32 [some (jR x), l1, l2, l3, l4] st σ Q ↔ mw_WP d 225 33 [some (jR x), l1, l2, l3, l4] (jR x :: st) σ Q := WP_aload_n mq225 dd225_32 rfl
theorem dd225_33 : decode cX12_judge 33 = .ok (.invokevirtual 275, 3) := by decide +kernel
theorem ww225_33 {d : Nat} {l0 l1 l2 l3 l4 : Option mw_V} {a : Nat} {st : List mw_V} {σ : mw_S} {Q : Option mw_V → mw_S → Prop} (hr : mw_rc a = 12) (h8 : (st.map mw_cat).sum ≤ 8) : mw_WP d 225 33 [l0, l1, l2, l3, l4] (jR a :: st) σ Q ↔ mw_Call d 214 [jR a] σ (fun r1 s1 => mw_WP d 225 36 [l0, l1, l2, l3, l4] (r1.toList ++ st) s1 Q) := WP_inv (as := []) mq225 dd225_33 (by decide) mq214 rfl hr h8
theorem dd225_36 : decode cX12_judge 36 = .ok (.aload_n 0, 1) := by decide +kernel
theorem ww225_36 {d : Nat} {l1 l2 l3 l4 : Option mw_V} {x : Nat} {st : List mw_V} {σ : mw_S} {Q : Option mw_V → mw_S → Prop} : mw_WP d 225 36 [some (jR x), l1, l2, l3, l4] st σ Q ↔ mw_WP d 225 37 [some (jR x), l1, l2, l3, l4] (jR x :: st) σ Q := WP_aload_n mq225 dd225_36 rfl
theorem dd225_37 : decode cX12_judge 37 = .ok (.iload_n 1, 1) := by decide +kernel
theorem ww225_37 {d : Nat} {l0 l2 l3 l4 : Option mw_V} {x : Int} {st : List mw_V} {σ : mw_S} {Q : Option mw_V → mw_S → Prop} : mw_WP d 225 37 [l0, some (jI x), l2, l3, l4] st σ Q ↔ mw_WP d 225 38 [l0, some (jI x), l2, l3, l4] (jI x :: st) σ Q := WP_iload_n mq225 dd225_37 rfl
theorem dd225_38 : decode cX12_judge 38 = .ok (.invokevirtual 313, 3) := by decide +kernel
theorem ww225_38 {d : Nat} {l0 l1 l2 l3 l4 : Option mw_V} {v0 : mw_V} {a : Nat} {st : List mw_V} {σ : mw_S} {Q : Option mw_V → mw_S → Prop} (hr : mw_rc a = 12) (h8 : (st.map mw_cat).sum ≤ 8) : mw_WP d 225 38 [l0, l1, l2, l3, l4] (v0 :: jR a :: st) σ Q ↔ mw_Call d 223 [jR a, v0] σ (fun r1 s1 => mw_WP d 225 41 [l0, l1, l2, l3, l4] (r1.toList ++ st) s1 Q) := WP_inv (as := [v0]) mq225 dd225_38 (by decide) mq223 rfl hr h8
theorem dd225_41 : decode cX12_judge 41 = .ok (.istore 4, 2) := by decide +kernel
theorem ww225_41 {d : Nat} {l0 l1 l2 l3 l4 : Option mw_V} {x : Int} {st : List mw_V} {σ : mw_S} {Q : Option mw_V → mw_S → Prop} (h : mw_nlo l3 = true) : mw_WP d 225 41 [l0, l1, l2, l3, l4] (jI x :: st) σ Q ↔ mw_WP d 225 43 [l0, l1, l2, l3, some (jI x)] st σ Q := WP_istore mq225 dd225_41 (Nat.le_of_ble_eq_true rfl) (mw_nl_of (i := 3) rfl h) rfl
theorem dd225_43 : decode cX12_judge 43 = .ok (.aload_n 0, 1) := by decide +kernel
theorem ww225_43 {d : Nat} {l1 l2 l3 l4 : Option mw_V} {x : Nat} {st : List mw_V} {σ : mw_S} {Q : Option mw_V → mw_S → Prop} : mw_WP d 225 43 [some (jR x), l1, l2, l3, l4] st σ Q ↔ mw_WP d 225 44 [some (jR x), l1, l2, l3, l4] (jR x :: st) σ Q := WP_aload_n mq225 dd225_43 rfl
theorem dd225_44 : decode cX12_judge 44 = .ok (.invokevirtual 284, 3) := by decide +kernel
theorem ww225_44 {d : Nat} {l0 l1 l2 l3 l4 : Option mw_V} {a : Nat} {st : List mw_V} {σ : mw_S} {Q : Option mw_V → mw_S → Prop} (hr : mw_rc a = 12) (h8 : (st.map mw_cat).sum ≤ 8) : mw_WP d 225 44 [l0, l1, l2, l3, l4] (jR a :: st) σ Q ↔ mw_Call d 215 [jR a] σ (fun r1 s1 => mw_WP d 225 47 [l0, l1, l2, l3, l4] (r1.toList ++ st) s1 Q) := WP_inv (as := []) mq225 dd225_44 (by decide) mq215 rfl hr h8
theorem dd225_47 : decode cX12_judge 47 = .ok (.iload_n 2, 1) := by decide +kernel
theorem ww225_47 {d : Nat} {l0 l1 l3 l4 : Option mw_V} {x : Int} {st : List mw_V} {σ : mw_S} {Q : Option mw_V → mw_S → Prop} : mw_WP d 225 47 [l0, l1, some (jI x), l3, l4] st σ Q ↔ mw_WP d 225 48 [l0, l1, some (jI x), l3, l4] (jI x :: st) σ Q := WP_iload_n mq225 dd225_47 rfl
theorem dd225_48 : decode cX12_judge 48 = .ok (.ifCond .ne 23, 3) := by decide +kernel
theorem ww225_48 {d : Nat} {l0 l1 l2 l3 l4 : Option mw_V} {x : Int} {st : List mw_V} {σ : mw_S} {Q : Option mw_V → mw_S → Prop} : mw_WP d 225 48 [l0, l1, l2, l3, l4] (jI x :: st) σ Q ↔ (if ¬ x = 0 then mw_WP d 225 71 [l0, l1, l2, l3, l4] st σ Q else mw_WP d 225 51 [l0, l1, l2, l3, l4] st σ Q) := WP_if_ne mq225 dd225_48 (by decide)
theorem dd225_51 : decode cX12_judge 51 = .ok (.iload 4, 2) := by decide +kernel
theorem ww225_51 {d : Nat} {l0 l1 l2 l3 : Option mw_V} {x : Int} {st : List mw_V} {σ : mw_S} {Q : Option mw_V → mw_S → Prop} : mw_WP d 225 51 [l0, l1, l2, l3, some (jI x)] st σ Q ↔ mw_WP d 225 53 [l0, l1, l2, l3, some (jI x)] (jI x :: st) σ Q := WP_iload mq225 dd225_51 rfl
theorem dd225_53 : decode cX12_judge 53 = .ok (.aload_n 0, 1) := by decide +kernel
theorem ww225_53 {d : Nat} {l1 l2 l3 l4 : Option mw_V} {x : Nat} {st : List mw_V} {σ : mw_S} {Q : Option mw_V → mw_S → Prop} : mw_WP d 225 53 [some (jR x), l1, l2, l3, l4] st σ Q ↔ mw_WP d 225 54 [some (jR x), l1, l2, l3, l4] (jR x :: st) σ Q := WP_aload_n mq225 dd225_53 rfl
theorem dd225_54 : decode cX12_judge 54 = .ok (.getfield 87, 3) := by decide +kernel
theorem ww225_54 {d : Nat} {l0 l1 l2 l3 l4 : Option mw_V} {st : List mw_V} {σ : mw_S} {Q : Option mw_V → mw_S → Prop} : mw_WP d 225 54 [l0, l1, l2, l3, l4] (jR 100 :: st) σ Q ↔ mw_WP d 225 57 [l0, l1, l2, l3, l4] (jR 123 :: st) σ Q := WP_getR (ci := 11) (k := 49) mq225 dd225_54 (by decide) rfl
theorem dd225_57 : decode cX12_judge 57 = .ok (.iload_n 1, 1) := by decide +kernel
theorem ww225_57 {d : Nat} {l0 l2 l3 l4 : Option mw_V} {x : Int} {st : List mw_V} {σ : mw_S} {Q : Option mw_V → mw_S → Prop} : mw_WP d 225 57 [l0, some (jI x), l2, l3, l4] st σ Q ↔ mw_WP d 225 58 [l0, some (jI x), l2, l3, l4] (jI x :: st) σ Q := WP_iload_n mq225 dd225_57 rfl
theorem dd225_58 : decode cX12_judge 58 = .ok (.iaload, 1) := by decide +kernel
theorem ww225_58 {d : Nat} {l0 l1 l2 l3 l4 : Option mw_V} {z : Int} {a : Nat} {st : List mw_V} {σ : mw_S} {Q : Option mw_V → mw_S → Prop} : mw_WP d 225 58 [l0, l1, l2, l3, l4] (jI z :: jR a :: st) σ Q ↔ ((0 ≤ z ∧ z < mw_lenI a) ∧ mw_WP d 225 59 [l0, l1, l2, l3, l4] (jI (mw_rdI σ a z.toNat) :: st) σ Q) := WP_iaload mq225 dd225_58
theorem dd225_59 : decode cX12_judge 59 = .ok (.if_icmp .ne 7, 3) := by decide +kernel
theorem ww225_59 {d : Nat} {l0 l1 l2 l3 l4 : Option mw_V} {x y : Int} {st : List mw_V} {σ : mw_S} {Q : Option mw_V → mw_S → Prop} : mw_WP d 225 59 [l0, l1, l2, l3, l4] (jI y :: jI x :: st) σ Q ↔ (if ¬ x = y then mw_WP d 225 66 [l0, l1, l2, l3, l4] st σ Q else mw_WP d 225 62 [l0, l1, l2, l3, l4] st σ Q) := WP_icmp_ne mq225 dd225_59 (by decide)
theorem dd225_62 : decode cX12_judge 62 = .ok (.iconst (-1), 1) := by decide +kernel
theorem ww225_62 {d : Nat} {l0 l1 l2 l3 l4 : Option mw_V} {st : List mw_V} {σ : mw_S} {Q : Option mw_V → mw_S → Prop} : mw_WP d 225 62 [l0, l1, l2, l3, l4] st σ Q ↔ mw_WP d 225 63 [l0, l1, l2, l3, l4] (jI (-1) :: st) σ Q := WP_iconst mq225 dd225_62 (by decide)
theorem dd225_63 : decode cX12_judge 63 = .ok (.goto 34, 3) := by decide +kernel
theorem ww225_63 {d : Nat} {l0 l1 l2 l3 l4 : Option mw_V} {st : List mw_V} {σ : mw_S} {Q : Option mw_V → mw_S → Prop} : mw_WP d 225 63 [l0, l1, l2, l3, l4] st σ Q ↔ mw_WP d 225 97 [l0, l1, l2, l3, l4] st σ Q := WP_goto mq225 dd225_63 (by decide)
theorem dd225_66 : decode cX12_judge 66 = .ok (.iload 4, 2) := by decide +kernel
theorem ww225_66 {d : Nat} {l0 l1 l2 l3 : Option mw_V} {x : Int} {st : List mw_V} {σ : mw_S} {Q : Option mw_V → mw_S → Prop} : mw_WP d 225 66 [l0, l1, l2, l3, some (jI x)] st σ Q ↔ mw_WP d 225 68 [l0, l1, l2, l3, some (jI x)] (jI x :: st) σ Q := WP_iload mq225 dd225_66 rfl
theorem dd225_68 : decode cX12_judge 68 = .ok (.goto 29, 3) := by decide +kernel
theorem ww225_68 {d : Nat} {l0 l1 l2 l3 l4 : Option mw_V} {st : List mw_V} {σ : mw_S} {Q : Option mw_V → mw_S → Prop} : mw_WP d 225 68 [l0, l1, l2, l3, l4] st σ Q ↔ mw_WP d 225 97 [l0, l1, l2, l3, l4] st σ Q := WP_goto mq225 dd225_68 (by decide)
theorem dd225_71 : decode cX12_judge 71 = .ok (.iload_n 2, 1) := by decide +kernel
theorem ww225_71 {d : Nat} {l0 l1 l3 l4 : Option mw_V} {x : Int} {st : List mw_V} {σ : mw_S} {Q : Option mw_V → mw_S → Prop} : mw_WP d 225 71 [l0, l1, some (jI x), l3, l4] st σ Q ↔ mw_WP d 225 72 [l0, l1, some (jI x), l3, l4] (jI x :: st) σ Q := WP_iload_n mq225 dd225_71 rfl
theorem dd225_72 : decode cX12_judge 72 = .ok (.iconst 1, 1) := by decide +kernel
theorem ww225_72 {d : Nat} {l0 l1 l2 l3 l4 : Option mw_V} {st : List mw_V} {σ : mw_S} {Q : Option mw_V → mw_S → Prop} : mw_WP d 225 72 [l0, l1, l2, l3, l4] st σ Q ↔ mw_WP d 225 73 [l0, l1, l2, l3, l4] (jI (1) :: st) σ Q := WP_iconst mq225 dd225_72 (by decide)
theorem dd225_73 : decode cX12_judge 73 = .ok (.if_icmp .ne 8, 3) := by decide +kernel
theorem ww225_73 {d : Nat} {l0 l1 l2 l3 l4 : Option mw_V} {x y : Int} {st : List mw_V} {σ : mw_S} {Q : Option mw_V → mw_S → Prop} : mw_WP d 225 73 [l0, l1, l2, l3, l4] (jI y :: jI x :: st) σ Q ↔ (if ¬ x = y then mw_WP d 225 81 [l0, l1, l2, l3, l4] st σ Q else mw_WP d 225 76 [l0, l1, l2, l3, l4] st σ Q) := WP_icmp_ne mq225 dd225_73 (by decide)
theorem dd225_76 : decode cX12_judge 76 = .ok (.iload 4, 2) := by decide +kernel
theorem ww225_76 {d : Nat} {l0 l1 l2 l3 : Option mw_V} {x : Int} {st : List mw_V} {σ : mw_S} {Q : Option mw_V → mw_S → Prop} : mw_WP d 225 76 [l0, l1, l2, l3, some (jI x)] st σ Q ↔ mw_WP d 225 78 [l0, l1, l2, l3, some (jI x)] (jI x :: st) σ Q := WP_iload mq225 dd225_76 rfl
theorem dd225_78 : decode cX12_judge 78 = .ok (.goto 19, 3) := by decide +kernel
theorem ww225_78 {d : Nat} {l0 l1 l2 l3 l4 : Option mw_V} {st : List mw_V} {σ : mw_S} {Q : Option mw_V → mw_S → Prop} : mw_WP d 225 78 [l0, l1, l2, l3, l4] st σ Q ↔ mw_WP d 225 97 [l0, l1, l2, l3, l4] st σ Q := WP_goto mq225 dd225_78 (by decide)
theorem dd225_81 : decode cX12_judge 81 = .ok (.iload_n 2, 1) := by decide +kernel
theorem ww225_81 {d : Nat} {l0 l1 l3 l4 : Option mw_V} {x : Int} {st : List mw_V} {σ : mw_S} {Q : Option mw_V → mw_S → Prop} : mw_WP d 225 81 [l0, l1, some (jI x), l3, l4] st σ Q ↔ mw_WP d 225 82 [l0, l1, some (jI x), l3, l4] (jI x :: st) σ Q := WP_iload_n mq225 dd225_81 rfl
theorem dd225_82 : decode cX12_judge 82 = .ok (.iconst 2, 1) := by decide +kernel
theorem ww225_82 {d : Nat} {l0 l1 l2 l3 l4 : Option mw_V} {st : List mw_V} {σ : mw_S} {Q : Option mw_V → mw_S → Prop} : mw_WP d 225 82 [l0, l1, l2, l3, l4] st σ Q ↔ mw_WP d 225 83 [l0, l1, l2, l3, l4] (jI (2) :: st) σ Q := WP_iconst mq225 dd225_82 (by decide)
theorem dd225_83 : decode cX12_judge 83 = .ok (.if_icmp .ne 10, 3) := by decide +kernel
theorem ww225_83 {d : Nat} {l0 l1 l2 l3 l4 : Option mw_V} {x y : Int} {st : List mw_V} {σ : mw_S} {Q : Option mw_V → mw_S → Prop} : mw_WP d 225 83 [l0, l1, l2, l3, l4] (jI y :: jI x :: st) σ Q ↔ (if ¬ x = y then mw_WP d 225 93 [l0, l1, l2, l3, l4] st σ Q else mw_WP d 225 86 [l0, l1, l2, l3, l4] st σ Q) := WP_icmp_ne mq225 dd225_83 (by decide)
theorem dd225_86 : decode cX12_judge 86 = .ok (.aload_n 0, 1) := by decide +kernel
theorem ww225_86 {d : Nat} {l1 l2 l3 l4 : Option mw_V} {x : Nat} {st : List mw_V} {σ : mw_S} {Q : Option mw_V → mw_S → Prop} : mw_WP d 225 86 [some (jR x), l1, l2, l3, l4] st σ Q ↔ mw_WP d 225 87 [some (jR x), l1, l2, l3, l4] (jR x :: st) σ Q := WP_aload_n mq225 dd225_86 rfl
theorem dd225_87 : decode cX12_judge 87 = .ok (.getfield 296, 3) := by decide +kernel
theorem ww225_87 {d : Nat} {l0 l1 l2 l3 l4 : Option mw_V} {st : List mw_V} {σ : mw_S} {Q : Option mw_V → mw_S → Prop} : mw_WP d 225 87 [l0, l1, l2, l3, l4] (jR 100 :: st) σ Q ↔ mw_WP d 225 90 [l0, l1, l2, l3, l4] (jI (σ 100 21) :: st) σ Q := WP_getI (ci := 11) (k := 21) mq225 dd225_87 (by decide) (Or.inl rfl)
theorem dd225_90 : decode cX12_judge 90 = .ok (.goto 7, 3) := by decide +kernel
theorem ww225_90 {d : Nat} {l0 l1 l2 l3 l4 : Option mw_V} {st : List mw_V} {σ : mw_S} {Q : Option mw_V → mw_S → Prop} : mw_WP d 225 90 [l0, l1, l2, l3, l4] st σ Q ↔ mw_WP d 225 97 [l0, l1, l2, l3, l4] st σ Q := WP_goto mq225 dd225_90 (by decide)
theorem dd225_93 : decode cX12_judge 93 = .ok (.aload_n 0, 1) := by decide +kernel
theorem ww225_93 {d : Nat} {l1 l2 l3 l4 : Option mw_V} {x : Nat} {st : List mw_V} {σ : mw_S} {Q : Option mw_V → mw_S → Prop} : mw_WP d 225 93 [some (jR x), l1, l2, l3, l4] st σ Q ↔ mw_WP d 225 94 [some (jR x), l1, l2, l3, l4] (jR x :: st) σ Q := WP_aload_n mq225 dd225_93 rfl
theorem dd225_94 : decode cX12_judge 94 = .ok (.getfield 299, 3) := by decide +kernel
theorem ww225_94 {d : Nat} {l0 l1 l2 l3 l4 : Option mw_V} {st : List mw_V} {σ : mw_S} {Q : Option mw_V → mw_S → Prop} : mw_WP d 225 94 [l0, l1, l2, l3, l4] (jR 100 :: st) σ Q ↔ mw_WP d 225 97 [l0, l1, l2, l3, l4] (jI (σ 100 22) :: st) σ Q := WP_getI (ci := 11) (k := 22) mq225 dd225_94 (by decide) (Or.inl rfl)
theorem dd225_97 : decode cX12_judge 97 = .ok (.ireturn, 1) := by decide +kernel
theorem ww225_97 {d : Nat} {l0 l1 l2 l3 l4 : Option mw_V} {z : Int} {σ : mw_S} {Q : Option mw_V → mw_S → Prop} : mw_WP d 225 97 [l0, l1, l2, l3, l4] [jI z] σ Q ↔ Q (some (jI z)) σ := WP_ireturn (ty := .int) mq225 dd225_97 rfl rfl
theorem ee226 {d : Nat} {a : Nat} {z0 : Int} {σ : mw_S} {Q : Option mw_V → mw_S → Prop} : mw_Call (d + 1) 226 [jR a, jI z0] σ Q ↔ mw_WP d 226 0 [some (jR a), some (jI z0), none, none] [] σ Q := CL_u mq226 (Nat.le_of_ble_eq_true rfl) rfl
theorem dd226_0 : decode cX12_perform 0 = .ok (.aload_n 0, 1) := by decide +kernel
theorem ww226_0 {d : Nat} {l1 l2 l3 : Option mw_V} {x : Nat} {st : List mw_V} {σ : mw_S} {Q : Option mw_V → mw_S → Prop} : mw_WP d 226 0 [some (jR x), l1, l2, l3] st σ Q ↔ mw_WP d 226 1 [some (jR x), l1, l2, l3] (jR x :: st) σ Q := WP_aload_n mq226 dd226_0 rfl
theorem dd226_1 : decode cX12_perform 1 = .ok (.iconst 0, 1) := by decide +kernel
theorem ww226_1 {d : Nat} {l0 l1 l2 l3 : Option mw_V} {st : List mw_V} {σ : mw_S} {Q : Option mw_V → mw_S → Prop} : mw_WP d 226 1 [l0, l1, l2, l3] st σ Q ↔ mw_WP d 226 2 [l0, l1, l2, l3] (jI (0) :: st) σ Q := WP_iconst mq226 dd226_1 (by decide)
theorem dd226_2 : decode cX12_perform 2 = .ok (.putfield 1, 3) := by decide +kernel
theorem ww226_2 {d : Nat} {l0 l1 l2 l3 : Option mw_V} {v : Int} {st : List mw_V} {σ : mw_S} {Q : Option mw_V → mw_S → Prop} : mw_WP d 226 2 [l0, l1, l2, l3] (jI v :: jR 100 :: st) σ Q ↔ mw_WP d 226 5 [l0, l1, l2, l3] st (upS σ 100 0 v) Q := WP_putI (ci := 11) (k := 0) mq226 dd226_2 (by decide) rfl
theorem dd226_5 : decode cX12_perform 5 = .ok (.aload_n 0, 1) := by decide +kernel
theorem ww226_5 {d : Nat} {l1 l2 l3 : Option mw_V} {x : Nat} {st : List mw_V} {σ : mw_S} {Q : Option mw_V → mw_S → Prop} : mw_WP d 226 5 [some (jR x), l1, l2, l3] st σ Q ↔ mw_WP d 226 6 [some (jR x), l1, l2, l3] (jR x :: st) σ Q := WP_aload_n mq226 dd226_5 rfl
theorem dd226_6 : decode cX12_perform 6 = .ok (.iload_n 1, 1) := by decide +kernel
theorem ww226_6 {d : Nat} {l0 l2 l3 : Option mw_V} {x : Int} {st : List mw_V} {σ : mw_S} {Q : Option mw_V → mw_S → Prop} : mw_WP d 226 6 [l0, some (jI x), l2, l3] st σ Q ↔ mw_WP d 226 7 [l0, some (jI x), l2, l3] (jI x :: st) σ Q := WP_iload_n mq226 dd226_6 rfl
theorem dd226_7 : decode cX12_perform 7 = .ok (.invokevirtual 310, 3) := by decide +kernel
theorem ww226_7 {d : Nat} {l0 l1 l2 l3 : Option mw_V} {v0 : mw_V} {a : Nat} {st : List mw_V} {σ : mw_S} {Q : Option mw_V → mw_S → Prop} (hr : mw_rc a = 12) (h8 : (st.map mw_cat).sum ≤ 8) : mw_WP d 226 7 [l0, l1, l2, l3] (v0 :: jR a :: st) σ Q ↔ mw_Call d 224 [jR a, v0] σ (fun r1 s1 => mw_WP d 226 10 [l0, l1, l2, l3] (r1.toList ++ st) s1 Q) := WP_inv (as := [v0]) mq226 dd226_7 (by decide) mq224 rfl hr h8
theorem dd226_10 : decode cX12_perform 10 = .ok (.istore_n 2, 1) := by decide +kernel
theorem ww226_10 {d : Nat} {l0 l1 l2 l3 : Option mw_V} {x : Int} {st : List mw_V} {σ : mw_S} {Q : Option mw_V → mw_S → Prop} (h : mw_nlo l1 = true) : mw_WP d 226 10 [l0, l1, l2, l3] (jI x :: st) σ Q ↔ mw_WP d 226 11 [l0, l1, some (jI x), l3] st σ Q := WP_istore_n mq226 dd226_10 (Nat.le_of_ble_eq_true rfl) (mw_nl_of (i := 1) rfl h) rfl
theorem dd226_11 : decode cX12_perform 11 = .ok (.iload_n 2, 1) := by decide +kernel
theorem ww226_11 {d : Nat} {l0 l1 l3 : Option mw_V} {x : Int} {st : List mw_V} {σ : mw_S} {Q : Option mw_V → mw_S → Prop} : mw_WP d 226 11 [l0, l1, some (jI x), l3] st σ Q ↔ mw_WP d 226 12 [l0, l1, some (jI x), l3] (jI x :: st) σ Q := WP_iload_n mq226 dd226_11 rfl
theorem dd226_12 : decode cX12_perform 12 = .ok (.ifCond .eq 5, 3) := by decide +kernel
theorem ww226_12 {d : Nat} {l0 l1 l2 l3 : Option mw_V} {x : Int} {st : List mw_V} {σ : mw_S} {Q : Option mw_V → mw_S → Prop} : mw_WP d 226 12 [l0, l1, l2, l3] (jI x :: st) σ Q ↔ (if x = 0 then mw_WP d 226 17 [l0, l1, l2, l3] st σ Q else mw_WP d 226 15 [l0, l1, l2, l3] st σ Q) := WP_if_eq mq226 dd226_12 (by decide)
theorem dd226_15 : decode cX12_perform 15 = .ok (.iload_n 2, 1) := by decide +kernel
theorem ww226_15 {d : Nat} {l0 l1 l3 : Option mw_V} {x : Int} {st : List mw_V} {σ : mw_S} {Q : Option mw_V → mw_S → Prop} : mw_WP d 226 15 [l0, l1, some (jI x), l3] st σ Q ↔ mw_WP d 226 16 [l0, l1, some (jI x), l3] (jI x :: st) σ Q := WP_iload_n mq226 dd226_15 rfl
theorem dd226_16 : decode cX12_perform 16 = .ok (.ireturn, 1) := by decide +kernel
theorem ww226_16 {d : Nat} {l0 l1 l2 l3 : Option mw_V} {z : Int} {σ : mw_S} {Q : Option mw_V → mw_S → Prop} : mw_WP d 226 16 [l0, l1, l2, l3] [jI z] σ Q ↔ Q (some (jI z)) σ := WP_ireturn (ty := .int) mq226 dd226_16 rfl rfl
theorem dd226_17 : decode cX12_perform 17 = .ok (.aload_n 0, 1) := by decide +kernel
theorem ww226_17 {d : Nat} {l1 l2 l3 : Option mw_V} {x : Nat} {st : List mw_V} {σ : mw_S} {Q : Option mw_V → mw_S → Prop} : mw_WP d 226 17 [some (jR x), l1, l2, l3] st σ Q ↔ mw_WP d 226 18 [some (jR x), l1, l2, l3] (jR x :: st) σ Q := WP_aload_n mq226 dd226_17 rfl
theorem dd226_18 : decode cX12_perform 18 = .ok (.invokevirtual 275, 3) := by decide +kernel
theorem ww226_18 {d : Nat} {l0 l1 l2 l3 : Option mw_V} {a : Nat} {st : List mw_V} {σ : mw_S} {Q : Option mw_V → mw_S → Prop} (hr : mw_rc a = 12) (h8 : (st.map mw_cat).sum ≤ 8) : mw_WP d 226 18 [l0, l1, l2, l3] (jR a :: st) σ Q ↔ mw_Call d 214 [jR a] σ (fun r1 s1 => mw_WP d 226 21 [l0, l1, l2, l3] (r1.toList ++ st) s1 Q) := WP_inv (as := []) mq226 dd226_18 (by decide) mq214 rfl hr h8
theorem dd226_21 : decode cX12_perform 21 = .ok (.aload_n 0, 1) := by decide +kernel
theorem ww226_21 {d : Nat} {l1 l2 l3 : Option mw_V} {x : Nat} {st : List mw_V} {σ : mw_S} {Q : Option mw_V → mw_S → Prop} : mw_WP d 226 21 [some (jR x), l1, l2, l3] st σ Q ↔ mw_WP d 226 22 [some (jR x), l1, l2, l3] (jR x :: st) σ Q := WP_aload_n mq226 dd226_21 rfl
theorem dd226_22 : decode cX12_perform 22 = .ok (.iload_n 1, 1) := by decide +kernel
theorem ww226_22 {d : Nat} {l0 l2 l3 : Option mw_V} {x : Int} {st : List mw_V} {σ : mw_S} {Q : Option mw_V → mw_S → Prop} : mw_WP d 226 22 [l0, some (jI x), l2, l3] st σ Q ↔ mw_WP d 226 23 [l0, some (jI x), l2, l3] (jI x :: st) σ Q := WP_iload_n mq226 dd226_22 rfl
theorem dd226_23 : decode cX12_perform 23 = .ok (.invokevirtual 313, 3) := by decide +kernel
theorem ww226_23 {d : Nat} {l0 l1 l2 l3 : Option mw_V} {v0 : mw_V} {a : Nat} {st : List mw_V} {σ : mw_S} {Q : Option mw_V → mw_S → Prop} (hr : mw_rc a = 12) (h8 : (st.map mw_cat).sum ≤ 8) : mw_WP d 226 23 [l0, l1, l2, l3] (v0 :: jR a :: st) σ Q ↔ mw_Call d 223 [jR a, v0] σ (fun r1 s1 => mw_WP d 226 26 [l0, l1, l2, l3] (r1.toList ++ st) s1 Q) := WP_inv (as := [v0]) mq226 dd226_23 (by decide) mq223 rfl hr h8
theorem dd226_26 : decode cX12_perform 26 = .ok (.istore_n 3, 1) := by decide +kernel
theorem ww226_26 {d : Nat} {l0 l1 l2 l3 : Option mw_V} {x : Int} {st : List mw_V} {σ : mw_S} {Q : Option mw_V → mw_S → Prop} (h : mw_nlo l2 = true) : mw_WP d 226 26 [l0, l1, l2, l3] (jI x :: st) σ Q ↔ mw_WP d 226 27 [l0, l1, l2, some (jI x)] st σ Q := WP_istore_n mq226 dd226_26 (Nat.le_of_ble_eq_true rfl) (mw_nl_of (i := 2) rfl h) rfl
theorem dd226_27 : decode cX12_perform 27 = .ok (.iload_n 3, 1) := by decide +kernel
theorem ww226_27 {d : Nat} {l0 l1 l2 : Option mw_V} {x : Int} {st : List mw_V} {σ : mw_S} {Q : Option mw_V → mw_S → Prop} : mw_WP d 226 27 [l0, l1, l2, some (jI x)] st σ Q ↔ mw_WP d 226 28 [l0, l1, l2, some (jI x)] (jI x :: st) σ Q := WP_iload_n mq226 dd226_27 rfl
theorem dd226_28 : decode cX12_perform 28 = .ok (.ifCond .le 7, 3) := by decide +kernel
theorem ww226_28 {d : Nat} {l0 l1 l2 l3 : Option mw_V} {x : Int} {st : List mw_V} {σ : mw_S} {Q : Option mw_V → mw_S → Prop} : mw_WP d 226 28 [l0, l1, l2, l3] (jI x :: st) σ Q ↔ (if x ≤ 0 then mw_WP d 226 35 [l0, l1, l2, l3] st σ Q else mw_WP d 226 31 [l0, l1, l2, l3] st σ Q) := WP_if_le mq226 dd226_28 (by decide)
theorem dd226_31 : decode cX12_perform 31 = .ok (.aload_n 0, 1) := by decide +kernel
theorem ww226_31 {d : Nat} {l1 l2 l3 : Option mw_V} {x : Nat} {st : List mw_V} {σ : mw_S} {Q : Option mw_V → mw_S → Prop} : mw_WP d 226 31 [some (jR x), l1, l2, l3] st σ Q ↔ mw_WP d 226 32 [some (jR x), l1, l2, l3] (jR x :: st) σ Q := WP_aload_n mq226 dd226_31 rfl
theorem dd226_32 : decode cX12_perform 32 = .ok (.invokevirtual 291, 3) := by decide +kernel
theorem ww226_32 {d : Nat} {l0 l1 l2 l3 : Option mw_V} {a : Nat} {st : List mw_V} {σ : mw_S} {Q : Option mw_V → mw_S → Prop} (hr : mw_rc a = 12) (h8 : (st.map mw_cat).sum ≤ 8) : mw_WP d 226 32 [l0, l1, l2, l3] (jR a :: st) σ Q ↔ mw_Call d 216 [jR a] σ (fun r1 s1 => mw_WP d 226 35 [l0, l1, l2, l3] (r1.toList ++ st) s1 Q) := WP_inv (as := []) mq226 dd226_32 (by decide) mq216 rfl hr h8
theorem dd226_35 : decode cX12_perform 35 = .ok (.iload_n 3, 1) := by decide +kernel
theorem ww226_35 {d : Nat} {l0 l1 l2 : Option mw_V} {x : Int} {st : List mw_V} {σ : mw_S} {Q : Option mw_V → mw_S → Prop} : mw_WP d 226 35 [l0, l1, l2, some (jI x)] st σ Q ↔ mw_WP d 226 36 [l0, l1, l2, some (jI x)] (jI x :: st) σ Q := WP_iload_n mq226 dd226_35 rfl
theorem dd226_36 : decode cX12_perform 36 = .ok (.ireturn, 1) := by decide +kernel
theorem ww226_36 {d : Nat} {l0 l1 l2 l3 : Option mw_V} {z : Int} {σ : mw_S} {Q : Option mw_V → mw_S → Prop} : mw_WP d 226 36 [l0, l1, l2, l3] [jI z] σ Q ↔ Q (some (jI z)) σ := WP_ireturn (ty := .int) mq226 dd226_36 rfl rfl
theorem ee227 {d : Nat} {a : Nat} {z0 : Int} {σ : mw_S} {Q : Option mw_V → mw_S → Prop} : mw_Call (d + 1) 227 [jR a, jI z0] σ Q ↔ mw_WP d 227 0 [some (jR a), some (jI z0)] [] σ Q := CL_u mq227 (Nat.le_of_ble_eq_true rfl) rfl
theorem dd227_0 : decode cX12_draw 0 = .ok (.aload_n 0, 1) := by decide +kernel
theorem ww227_0 {d : Nat} {l1 : Option mw_V} {x : Nat} {st : List mw_V} {σ : mw_S} {Q : Option mw_V → mw_S → Prop} : mw_WP d 227 0 [some (jR x), l1] st σ Q ↔ mw_WP d 227 1 [some (jR x), l1] (jR x :: st) σ Q := WP_aload_n mq227 dd227_0 rfl
theorem dd227_1 : decode cX12_draw 1 = .ok (.ldc_w 316, 3) := by decide +kernel
theorem ww227_1 {d : Nat} {l0 l1 : Option mw_V} {st : List mw_V} {σ : mw_S} {Q : Option mw_V → mw_S → Prop} : mw_WP d 227 1 [l0, l1] st σ Q ↔ mw_WP d 227 4 [l0, l1] (jI (1103515245) :: st) σ Q := WP_ldc_w (v := 1103515245) mq227 dd227_1 (by decide) (by decide)
theorem dd227_4 : decode cX12_draw 4 = .ok (.aload_n 0, 1) := by decide +kernel
theorem ww227_4 {d : Nat} {l1 : Option mw_V} {x : Nat} {st : List mw_V} {σ : mw_S} {Q : Option mw_V → mw_S → Prop} : mw_WP d 227 4 [some (jR x), l1] st σ Q ↔ mw_WP d 227 5 [some (jR x), l1] (jR x :: st) σ Q := WP_aload_n mq227 dd227_4 rfl
theorem dd227_5 : decode cX12_draw 5 = .ok (.getfield 317, 3) := by decide +kernel
theorem ww227_5 {d : Nat} {l0 l1 : Option mw_V} {st : List mw_V} {σ : mw_S} {Q : Option mw_V → mw_S → Prop} : mw_WP d 227 5 [l0, l1] (jR 100 :: st) σ Q ↔ mw_WP d 227 8 [l0, l1] (jI (σ 100 25) :: st) σ Q := WP_getI (ci := 11) (k := 25) mq227 dd227_5 (by decide) (Or.inl rfl)
theorem dd227_8 : decode cX12_draw 8 = .ok (.imul, 1) := by decide +kernel
theorem ww227_8 {d : Nat} {l0 l1 : Option mw_V} {x y : Int} {st : List mw_V} {σ : mw_S} {Q : Option mw_V → mw_S → Prop} : mw_WP d 227 8 [l0, l1] (jI y :: jI x :: st) σ Q ↔ mw_WP d 227 9 [l0, l1] (jI (w32 (x * y)) :: st) σ Q := WP_imul mq227 dd227_8
theorem dd227_9 : decode cX12_draw 9 = .ok (.sipush 12345, 3) := by decide +kernel
theorem ww227_9 {d : Nat} {l0 l1 : Option mw_V} {st : List mw_V} {σ : mw_S} {Q : Option mw_V → mw_S → Prop} : mw_WP d 227 9 [l0, l1] st σ Q ↔ mw_WP d 227 12 [l0, l1] (jI (12345) :: st) σ Q := WP_sipush mq227 dd227_9 (by decide)
theorem dd227_12 : decode cX12_draw 12 = .ok (.iadd, 1) := by decide +kernel
theorem ww227_12 {d : Nat} {l0 l1 : Option mw_V} {x y : Int} {st : List mw_V} {σ : mw_S} {Q : Option mw_V → mw_S → Prop} : mw_WP d 227 12 [l0, l1] (jI y :: jI x :: st) σ Q ↔ mw_WP d 227 13 [l0, l1] (jI (w32 (x + y)) :: st) σ Q := WP_iadd mq227 dd227_12
theorem dd227_13 : decode cX12_draw 13 = .ok (.putfield 317, 3) := by decide +kernel
theorem ww227_13 {d : Nat} {l0 l1 : Option mw_V} {v : Int} {st : List mw_V} {σ : mw_S} {Q : Option mw_V → mw_S → Prop} : mw_WP d 227 13 [l0, l1] (jI v :: jR 100 :: st) σ Q ↔ mw_WP d 227 16 [l0, l1] st (upS σ 100 25 v) Q := WP_putI (ci := 11) (k := 25) mq227 dd227_13 (by decide) rfl
theorem dd227_16 : decode cX12_draw 16 = .ok (.aload_n 0, 1) := by decide +kernel
theorem ww227_16 {d : Nat} {l1 : Option mw_V} {x : Nat} {st : List mw_V} {σ : mw_S} {Q : Option mw_V → mw_S → Prop} : mw_WP d 227 16 [some (jR x), l1] st σ Q ↔ mw_WP d 227 17 [some (jR x), l1] (jR x :: st) σ Q := WP_aload_n mq227 dd227_16 rfl
theorem dd227_17 : decode cX12_draw 17 = .ok (.getfield 317, 3) := by decide +kernel
theorem ww227_17 {d : Nat} {l0 l1 : Option mw_V} {st : List mw_V} {σ : mw_S} {Q : Option mw_V → mw_S → Prop} : mw_WP d 227 17 [l0, l1] (jR 100 :: st) σ Q ↔ mw_WP d 227 20 [l0, l1] (jI (σ 100 25) :: st) σ Q := WP_getI (ci := 11) (k := 25) mq227 dd227_17 (by decide) (Or.inl rfl)
theorem dd227_20 : decode cX12_draw 20 = .ok (.bipush 16, 2) := by decide +kernel
theorem ww227_20 {d : Nat} {l0 l1 : Option mw_V} {st : List mw_V} {σ : mw_S} {Q : Option mw_V → mw_S → Prop} : mw_WP d 227 20 [l0, l1] st σ Q ↔ mw_WP d 227 22 [l0, l1] (jI (16) :: st) σ Q := WP_bipush mq227 dd227_20 (by decide)
theorem dd227_22 : decode cX12_draw 22 = .ok (.iushr, 1) := by decide +kernel
theorem ww227_22 {d : Nat} {l0 l1 : Option mw_V} {x y : Int} {st : List mw_V} {σ : mw_S} {Q : Option mw_V → mw_S → Prop} : mw_WP d 227 22 [l0, l1] (jI y :: jI x :: st) σ Q ↔ mw_WP d 227 23 [l0, l1] (jI (zUshr x y) :: st) σ Q := WP_iushr mq227 dd227_22
theorem dd227_23 : decode cX12_draw 23 = .ok (.iload_n 1, 1) := by decide +kernel
theorem ww227_23 {d : Nat} {l0 : Option mw_V} {x : Int} {st : List mw_V} {σ : mw_S} {Q : Option mw_V → mw_S → Prop} : mw_WP d 227 23 [l0, some (jI x)] st σ Q ↔ mw_WP d 227 24 [l0, some (jI x)] (jI x :: st) σ Q := WP_iload_n mq227 dd227_23 rfl
theorem dd227_24 : decode cX12_draw 24 = .ok (.irem, 1) := by decide +kernel
theorem ww227_24 {d : Nat} {l0 l1 : Option mw_V} {x y : Int} {st : List mw_V} {σ : mw_S} {Q : Option mw_V → mw_S → Prop} : mw_WP d 227 24 [l0, l1] (jI y :: jI x :: st) σ Q ↔ (¬ i32 y = 0 ∧ mw_WP d 227 25 [l0, l1] (jI (zRem x y) :: st) σ Q) := WP_irem mq227 dd227_24
theorem dd227_25 : decode cX12_draw 25 = .ok (.ireturn, 1) := by decide +kernel
theorem ww227_25 {d : Nat} {l0 l1 : Option mw_V} {z : Int} {σ : mw_S} {Q : Option mw_V → mw_S → Prop} : mw_WP d 227 25 [l0, l1] [jI z] σ Q ↔ Q (some (jI z)) σ := WP_ireturn (ty := .int) mq227 dd227_25 rfl rfl
theorem ee228 {d : Nat} {a : Nat} {z0 : Int} {z1 : Int} {σ : mw_S} {Q : Option mw_V → mw_S → Prop} : mw_Call (d + 1) 228 [jR a, jI z0, jI z1] σ Q ↔ mw_WP d 228 0 [some (jR a), some (jI z0), some (jI z1), none, none, none, none] [] σ Q := CL_u mq228 (Nat.le_of_ble_eq_true rfl) rfl
theorem dd228_0 : decode cX12_day 0 = .ok (.aload_n 0, 1) := by decide +kernel
theorem ww228_0 {d : Nat} {l1 l2 l3 l4 l5 l6 : Option mw_V} {x : Nat} {st : List mw_V} {σ : mw_S} {Q : Option mw_V → mw_S → Prop} : mw_WP d 228 0 [some (jR x), l1, l2, l3, l4, l5, l6] st σ Q ↔ mw_WP d 228 1 [some (jR x), l1, l2, l3, l4, l5, l6] (jR x :: st) σ Q := WP_aload_n mq228 dd228_0 rfl
theorem dd228_1 : decode cX12_day 1 = .ok (.iconst 0, 1) := by decide +kernel
theorem ww228_1 {d : Nat} {l0 l1 l2 l3 l4 l5 l6 : Option mw_V} {st : List mw_V} {σ : mw_S} {Q : Option mw_V → mw_S → Prop} : mw_WP d 228 1 [l0, l1, l2, l3, l4, l5, l6] st σ Q ↔ mw_WP d 228 2 [l0, l1, l2, l3, l4, l5, l6] (jI (0) :: st) σ Q := WP_iconst mq228 dd228_1 (by decide)
theorem dd228_2 : decode cX12_day 2 = .ok (.putfield 1, 3) := by decide +kernel
theorem ww228_2 {d : Nat} {l0 l1 l2 l3 l4 l5 l6 : Option mw_V} {v : Int} {st : List mw_V} {σ : mw_S} {Q : Option mw_V → mw_S → Prop} : mw_WP d 228 2 [l0, l1, l2, l3, l4, l5, l6] (jI v :: jR 100 :: st) σ Q ↔ mw_WP d 228 5 [l0, l1, l2, l3, l4, l5, l6] st (upS σ 100 0 v) Q := WP_putI (ci := 11) (k := 0) mq228 dd228_2 (by decide) rfl
theorem dd228_5 : decode cX12_day 5 = .ok (.iload_n 2, 1) := by decide +kernel
theorem ww228_5 {d : Nat} {l0 l1 l3 l4 l5 l6 : Option mw_V} {x : Int} {st : List mw_V} {σ : mw_S} {Q : Option mw_V → mw_S → Prop} : mw_WP d 228 5 [l0, l1, some (jI x), l3, l4, l5, l6] st σ Q ↔ mw_WP d 228 6 [l0, l1, some (jI x), l3, l4, l5, l6] (jI x :: st) σ Q := WP_iload_n mq228 dd228_5 rfl
theorem dd228_6 : decode cX12_day 6 = .ok (.i2l, 1) := by decide +kernel
theorem ww228_6 {d : Nat} {l0 l1 l2 l3 l4 l5 l6 : Option mw_V} {x : Int} {st : List mw_V} {σ : mw_S} {Q : Option mw_V → mw_S → Prop} : mw_WP d 228 6 [l0, l1, l2, l3, l4, l5, l6] (jI x :: st) σ Q ↔ mw_WP d 228 7 [l0, l1, l2, l3, l4, l5, l6] (jL (yL x) :: st) σ Q := WP_i2l mq228 dd228_6
theorem dd228_7 : decode cX12_day 7 = .ok (.lconst 1, 1) := by decide +kernel
theorem ww228_7 {d : Nat} {l0 l1 l2 l3 l4 l5 l6 : Option mw_V} {st : List mw_V} {σ : mw_S} {Q : Option mw_V → mw_S → Prop} : mw_WP d 228 7 [l0, l1, l2, l3, l4, l5, l6] st σ Q ↔ mw_WP d 228 8 [l0, l1, l2, l3, l4, l5, l6] (jL (1) :: st) σ Q := WP_lconst mq228 dd228_7 (by decide)
theorem dd228_8 : decode cX12_day 8 = .ok (.ldc2_w 320, 3) := by decide +kernel
theorem ww228_8 {d : Nat} {l0 l1 l2 l3 l4 l5 l6 : Option mw_V} {st : List mw_V} {σ : mw_S} {Q : Option mw_V → mw_S → Prop} : mw_WP d 228 8 [l0, l1, l2, l3, l4, l5, l6] st σ Q ↔ mw_WP d 228 11 [l0, l1, l2, l3, l4, l5, l6] (jL (60) :: st) σ Q := WP_ldc2_w (v := 60) mq228 dd228_8 (by decide) (by decide)
theorem dd228_11 : decode cX12_day 11 = .ok (.invokestatic 159, 3) := by decide +kernel
theorem ww228_11 {d : Nat} {l0 l1 l2 l3 l4 l5 l6 : Option mw_V} {v0 v1 v2 : mw_V} {st : List mw_V} {σ : mw_S} {Q : Option mw_V → mw_S → Prop} (h8 : (st.map mw_cat).sum ≤ 8) : mw_WP d 228 11 [l0, l1, l2, l3, l4, l5, l6] (v2 :: v1 :: v0 :: st) σ Q ↔ mw_Call d 170 [v0, v1, v2] σ (fun r1 s1 => mw_WP d 228 14 [l0, l1, l2, l3, l4, l5, l6] (r1.toList ++ st) s1 Q) := WP_invs (as := [v2, v1, v0]) mq228 dd228_11 (by decide) mq170 rfl rfl h8
theorem dd228_14 : decode cX12_day 14 = .ok (.ifCond .ne 6, 3) := by decide +kernel
theorem ww228_14 {d : Nat} {l0 l1 l2 l3 l4 l5 l6 : Option mw_V} {x : Int} {st : List mw_V} {σ : mw_S} {Q : Option mw_V → mw_S → Prop} : mw_WP d 228 14 [l0, l1, l2, l3, l4, l5, l6] (jI x :: st) σ Q ↔ (if ¬ x = 0 then mw_WP d 228 20 [l0, l1, l2, l3, l4, l5, l6] st σ Q else mw_WP d 228 17 [l0, l1, l2, l3, l4, l5, l6] st σ Q) := WP_if_ne mq228 dd228_14 (by decide)
theorem dd228_17 : decode cX12_day 17 = .ok (.bipush (-3), 2) := by decide +kernel
theorem ww228_17 {d : Nat} {l0 l1 l2 l3 l4 l5 l6 : Option mw_V} {st : List mw_V} {σ : mw_S} {Q : Option mw_V → mw_S → Prop} : mw_WP d 228 17 [l0, l1, l2, l3, l4, l5, l6] st σ Q ↔ mw_WP d 228 19 [l0, l1, l2, l3, l4, l5, l6] (jI (-3) :: st) σ Q := WP_bipush mq228 dd228_17 (by decide)
theorem dd228_19 : decode cX12_day 19 = .ok (.ireturn, 1) := by decide +kernel
theorem ww228_19 {d : Nat} {l0 l1 l2 l3 l4 l5 l6 : Option mw_V} {z : Int} {σ : mw_S} {Q : Option mw_V → mw_S → Prop} : mw_WP d 228 19 [l0, l1, l2, l3, l4, l5, l6] [jI z] σ Q ↔ Q (some (jI z)) σ := WP_ireturn (ty := .int) mq228 dd228_19 rfl rfl
theorem dd228_20 : decode cX12_day 20 = .ok (.aload_n 0, 1) := by decide +kernel
theorem ww228_20 {d : Nat} {l1 l2 l3 l4 l5 l6 : Option mw_V} {x : Nat} {st : List mw_V} {σ : mw_S} {Q : Option mw_V → mw_S → Prop} : mw_WP d 228 20 [some (jR x), l1, l2, l3, l4, l5, l6] st σ Q ↔ mw_WP d 228 21 [some (jR x), l1, l2, l3, l4, l5, l6] (jR x :: st) σ Q := WP_aload_n mq228 dd228_20 rfl
theorem dd228_21 : decode cX12_day 21 = .ok (.getfield 13, 3) := by decide +kernel
theorem ww228_21 {d : Nat} {l0 l1 l2 l3 l4 l5 l6 : Option mw_V} {st : List mw_V} {σ : mw_S} {Q : Option mw_V → mw_S → Prop} : mw_WP d 228 21 [l0, l1, l2, l3, l4, l5, l6] (jR 100 :: st) σ Q ↔ mw_WP d 228 24 [l0, l1, l2, l3, l4, l5, l6] (jR 101 :: st) σ Q := WP_getR (ci := 11) (k := 1) mq228 dd228_21 (by decide) rfl
theorem dd228_24 : decode cX12_day 24 = .ok (.iconst 2, 1) := by decide +kernel
theorem ww228_24 {d : Nat} {l0 l1 l2 l3 l4 l5 l6 : Option mw_V} {st : List mw_V} {σ : mw_S} {Q : Option mw_V → mw_S → Prop} : mw_WP d 228 24 [l0, l1, l2, l3, l4, l5, l6] st σ Q ↔ mw_WP d 228 25 [l0, l1, l2, l3, l4, l5, l6] (jI (2) :: st) σ Q := WP_iconst mq228 dd228_24 (by decide)
theorem dd228_25 : decode cX12_day 25 = .ok (.iaload, 1) := by decide +kernel
theorem ww228_25 {d : Nat} {l0 l1 l2 l3 l4 l5 l6 : Option mw_V} {z : Int} {a : Nat} {st : List mw_V} {σ : mw_S} {Q : Option mw_V → mw_S → Prop} : mw_WP d 228 25 [l0, l1, l2, l3, l4, l5, l6] (jI z :: jR a :: st) σ Q ↔ ((0 ≤ z ∧ z < mw_lenI a) ∧ mw_WP d 228 26 [l0, l1, l2, l3, l4, l5, l6] (jI (mw_rdI σ a z.toNat) :: st) σ Q) := WP_iaload mq228 dd228_25
theorem dd228_26 : decode cX12_day 26 = .ok (.ifCond .ne 6, 3) := by decide +kernel
theorem ww228_26 {d : Nat} {l0 l1 l2 l3 l4 l5 l6 : Option mw_V} {x : Int} {st : List mw_V} {σ : mw_S} {Q : Option mw_V → mw_S → Prop} : mw_WP d 228 26 [l0, l1, l2, l3, l4, l5, l6] (jI x :: st) σ Q ↔ (if ¬ x = 0 then mw_WP d 228 32 [l0, l1, l2, l3, l4, l5, l6] st σ Q else mw_WP d 228 29 [l0, l1, l2, l3, l4, l5, l6] st σ Q) := WP_if_ne mq228 dd228_26 (by decide)
theorem dd228_29 : decode cX12_day 29 = .ok (.bipush (-5), 2) := by decide +kernel
theorem ww228_29 {d : Nat} {l0 l1 l2 l3 l4 l5 l6 : Option mw_V} {st : List mw_V} {σ : mw_S} {Q : Option mw_V → mw_S → Prop} : mw_WP d 228 29 [l0, l1, l2, l3, l4, l5, l6] st σ Q ↔ mw_WP d 228 31 [l0, l1, l2, l3, l4, l5, l6] (jI (-5) :: st) σ Q := WP_bipush mq228 dd228_29 (by decide)
theorem dd228_31 : decode cX12_day 31 = .ok (.ireturn, 1) := by decide +kernel
theorem ww228_31 {d : Nat} {l0 l1 l2 l3 l4 l5 l6 : Option mw_V} {z : Int} {σ : mw_S} {Q : Option mw_V → mw_S → Prop} : mw_WP d 228 31 [l0, l1, l2, l3, l4, l5, l6] [jI z] σ Q ↔ Q (some (jI z)) σ := WP_ireturn (ty := .int) mq228 dd228_31 rfl rfl
theorem dd228_32 : decode cX12_day 32 = .ok (.aload_n 0, 1) := by decide +kernel
theorem ww228_32 {d : Nat} {l1 l2 l3 l4 l5 l6 : Option mw_V} {x : Nat} {st : List mw_V} {σ : mw_S} {Q : Option mw_V → mw_S → Prop} : mw_WP d 228 32 [some (jR x), l1, l2, l3, l4, l5, l6] st σ Q ↔ mw_WP d 228 33 [some (jR x), l1, l2, l3, l4, l5, l6] (jR x :: st) σ Q := WP_aload_n mq228 dd228_32 rfl
theorem dd228_33 : decode cX12_day 33 = .ok (.invokevirtual 275, 3) := by decide +kernel
theorem ww228_33 {d : Nat} {l0 l1 l2 l3 l4 l5 l6 : Option mw_V} {a : Nat} {st : List mw_V} {σ : mw_S} {Q : Option mw_V → mw_S → Prop} (hr : mw_rc a = 12) (h8 : (st.map mw_cat).sum ≤ 8) : mw_WP d 228 33 [l0, l1, l2, l3, l4, l5, l6] (jR a :: st) σ Q ↔ mw_Call d 214 [jR a] σ (fun r1 s1 => mw_WP d 228 36 [l0, l1, l2, l3, l4, l5, l6] (r1.toList ++ st) s1 Q) := WP_inv (as := []) mq228 dd228_33 (by decide) mq214 rfl hr h8
theorem dd228_36 : decode cX12_day 36 = .ok (.aload_n 0, 1) := by decide +kernel
theorem ww228_36 {d : Nat} {l1 l2 l3 l4 l5 l6 : Option mw_V} {x : Nat} {st : List mw_V} {σ : mw_S} {Q : Option mw_V → mw_S → Prop} : mw_WP d 228 36 [some (jR x), l1, l2, l3, l4, l5, l6] st σ Q ↔ mw_WP d 228 37 [some (jR x), l1, l2, l3, l4, l5, l6] (jR x :: st) σ Q := WP_aload_n mq228 dd228_36 rfl
theorem dd228_37 : decode cX12_day 37 = .ok (.iload_n 1, 1) := by decide +kernel
theorem ww228_37 {d : Nat} {l0 l2 l3 l4 l5 l6 : Option mw_V} {x : Int} {st : List mw_V} {σ : mw_S} {Q : Option mw_V → mw_S → Prop} : mw_WP d 228 37 [l0, some (jI x), l2, l3, l4, l5, l6] st σ Q ↔ mw_WP d 228 38 [l0, some (jI x), l2, l3, l4, l5, l6] (jI x :: st) σ Q := WP_iload_n mq228 dd228_37 rfl
theorem dd228_38 : decode cX12_day 38 = .ok (.putfield 317, 3) := by decide +kernel
theorem ww228_38 {d : Nat} {l0 l1 l2 l3 l4 l5 l6 : Option mw_V} {v : Int} {st : List mw_V} {σ : mw_S} {Q : Option mw_V → mw_S → Prop} : mw_WP d 228 38 [l0, l1, l2, l3, l4, l5, l6] (jI v :: jR 100 :: st) σ Q ↔ mw_WP d 228 41 [l0, l1, l2, l3, l4, l5, l6] st (upS σ 100 25 v) Q := WP_putI (ci := 11) (k := 25) mq228 dd228_38 (by decide) rfl
theorem dd228_41 : decode cX12_day 41 = .ok (.iconst 0, 1) := by decide +kernel
theorem ww228_41 {d : Nat} {l0 l1 l2 l3 l4 l5 l6 : Option mw_V} {st : List mw_V} {σ : mw_S} {Q : Option mw_V → mw_S → Prop} : mw_WP d 228 41 [l0, l1, l2, l3, l4, l5, l6] st σ Q ↔ mw_WP d 228 42 [l0, l1, l2, l3, l4, l5, l6] (jI (0) :: st) σ Q := WP_iconst mq228 dd228_41 (by decide)
theorem dd228_42 : decode cX12_day 42 = .ok (.istore_n 3, 1) := by decide +kernel
theorem ww228_42 {d : Nat} {l0 l1 l2 l3 l4 l5 l6 : Option mw_V} {x : Int} {st : List mw_V} {σ : mw_S} {Q : Option mw_V → mw_S → Prop} (h : mw_nlo l2 = true) : mw_WP d 228 42 [l0, l1, l2, l3, l4, l5, l6] (jI x :: st) σ Q ↔ mw_WP d 228 43 [l0, l1, l2, some (jI x), l4, l5, l6] st σ Q := WP_istore_n mq228 dd228_42 (Nat.le_of_ble_eq_true rfl) (mw_nl_of (i := 2) rfl h) rfl
theorem dd228_43 : decode cX12_day 43 = .ok (.iconst 0, 1) := by decide +kernel
theorem ww228_43 {d : Nat} {l0 l1 l2 l3 l4 l5 l6 : Option mw_V} {st : List mw_V} {σ : mw_S} {Q : Option mw_V → mw_S → Prop} : mw_WP d 228 43 [l0, l1, l2, l3, l4, l5, l6] st σ Q ↔ mw_WP d 228 44 [l0, l1, l2, l3, l4, l5, l6] (jI (0) :: st) σ Q := WP_iconst mq228 dd228_43 (by decide)
theorem dd228_44 : decode cX12_day 44 = .ok (.istore 4, 2) := by decide +kernel
theorem ww228_44 {d : Nat} {l0 l1 l2 l3 l4 l5 l6 : Option mw_V} {x : Int} {st : List mw_V} {σ : mw_S} {Q : Option mw_V → mw_S → Prop} (h : mw_nlo l3 = true) : mw_WP d 228 44 [l0, l1, l2, l3, l4, l5, l6] (jI x :: st) σ Q ↔ mw_WP d 228 46 [l0, l1, l2, l3, some (jI x), l5, l6] st σ Q := WP_istore mq228 dd228_44 (Nat.le_of_ble_eq_true rfl) (mw_nl_of (i := 3) rfl h) rfl
theorem dd228_46 : decode cX12_day 46 = .ok (.iload 4, 2) := by decide +kernel
theorem ww228_46 {d : Nat} {l0 l1 l2 l3 l5 l6 : Option mw_V} {x : Int} {st : List mw_V} {σ : mw_S} {Q : Option mw_V → mw_S → Prop} : mw_WP d 228 46 [l0, l1, l2, l3, some (jI x), l5, l6] st σ Q ↔ mw_WP d 228 48 [l0, l1, l2, l3, some (jI x), l5, l6] (jI x :: st) σ Q := WP_iload mq228 dd228_46 rfl
theorem dd228_48 : decode cX12_day 48 = .ok (.iload_n 2, 1) := by decide +kernel
theorem ww228_48 {d : Nat} {l0 l1 l3 l4 l5 l6 : Option mw_V} {x : Int} {st : List mw_V} {σ : mw_S} {Q : Option mw_V → mw_S → Prop} : mw_WP d 228 48 [l0, l1, some (jI x), l3, l4, l5, l6] st σ Q ↔ mw_WP d 228 49 [l0, l1, some (jI x), l3, l4, l5, l6] (jI x :: st) σ Q := WP_iload_n mq228 dd228_48 rfl
theorem dd228_49 : decode cX12_day 49 = .ok (.if_icmp .ge 63, 3) := by decide +kernel
theorem ww228_49 {d : Nat} {l0 l1 l2 l3 l4 l5 l6 : Option mw_V} {x y : Int} {st : List mw_V} {σ : mw_S} {Q : Option mw_V → mw_S → Prop} : mw_WP d 228 49 [l0, l1, l2, l3, l4, l5, l6] (jI y :: jI x :: st) σ Q ↔ (if y ≤ x then mw_WP d 228 112 [l0, l1, l2, l3, l4, l5, l6] st σ Q else mw_WP d 228 52 [l0, l1, l2, l3, l4, l5, l6] st σ Q) := WP_icmp_ge mq228 dd228_49 (by decide)
theorem dd228_52 : decode cX12_day 52 = .ok (.iconst 0, 1) := by decide +kernel
theorem ww228_52 {d : Nat} {l0 l1 l2 l3 l4 l5 l6 : Option mw_V} {st : List mw_V} {σ : mw_S} {Q : Option mw_V → mw_S → Prop} : mw_WP d 228 52 [l0, l1, l2, l3, l4, l5, l6] st σ Q ↔ mw_WP d 228 53 [l0, l1, l2, l3, l4, l5, l6] (jI (0) :: st) σ Q := WP_iconst mq228 dd228_52 (by decide)
theorem dd228_53 : decode cX12_day 53 = .ok (.istore 5, 2) := by decide +kernel
theorem ww228_53 {d : Nat} {l0 l1 l2 l3 l4 l5 l6 : Option mw_V} {x : Int} {st : List mw_V} {σ : mw_S} {Q : Option mw_V → mw_S → Prop} (h : mw_nlo l4 = true) : mw_WP d 228 53 [l0, l1, l2, l3, l4, l5, l6] (jI x :: st) σ Q ↔ mw_WP d 228 55 [l0, l1, l2, l3, l4, some (jI x), l6] st σ Q := WP_istore mq228 dd228_53 (Nat.le_of_ble_eq_true rfl) (mw_nl_of (i := 4) rfl h) rfl
theorem dd228_55 : decode cX12_day 55 = .ok (.iconst 0, 1) := by decide +kernel
theorem ww228_55 {d : Nat} {l0 l1 l2 l3 l4 l5 l6 : Option mw_V} {st : List mw_V} {σ : mw_S} {Q : Option mw_V → mw_S → Prop} : mw_WP d 228 55 [l0, l1, l2, l3, l4, l5, l6] st σ Q ↔ mw_WP d 228 56 [l0, l1, l2, l3, l4, l5, l6] (jI (0) :: st) σ Q := WP_iconst mq228 dd228_55 (by decide)
theorem dd228_56 : decode cX12_day 56 = .ok (.istore 6, 2) := by decide +kernel
theorem ww228_56 {d : Nat} {l0 l1 l2 l3 l4 l5 l6 : Option mw_V} {x : Int} {st : List mw_V} {σ : mw_S} {Q : Option mw_V → mw_S → Prop} (h : mw_nlo l5 = true) : mw_WP d 228 56 [l0, l1, l2, l3, l4, l5, l6] (jI x :: st) σ Q ↔ mw_WP d 228 58 [l0, l1, l2, l3, l4, l5, some (jI x)] st σ Q := WP_istore mq228 dd228_56 (Nat.le_of_ble_eq_true rfl) (mw_nl_of (i := 5) rfl h) rfl
theorem dd228_58 : decode cX12_day 58 = .ok (.iload 6, 2) := by decide +kernel
theorem ww228_58 {d : Nat} {l0 l1 l2 l3 l4 l5 : Option mw_V} {x : Int} {st : List mw_V} {σ : mw_S} {Q : Option mw_V → mw_S → Prop} : mw_WP d 228 58 [l0, l1, l2, l3, l4, l5, some (jI x)] st σ Q ↔ mw_WP d 228 60 [l0, l1, l2, l3, l4, l5, some (jI x)] (jI x :: st) σ Q := WP_iload mq228 dd228_58 rfl
theorem dd228_60 : decode cX12_day 60 = .ok (.aload_n 0, 1) := by decide +kernel
theorem ww228_60 {d : Nat} {l1 l2 l3 l4 l5 l6 : Option mw_V} {x : Nat} {st : List mw_V} {σ : mw_S} {Q : Option mw_V → mw_S → Prop} : mw_WP d 228 60 [some (jR x), l1, l2, l3, l4, l5, l6] st σ Q ↔ mw_WP d 228 61 [some (jR x), l1, l2, l3, l4, l5, l6] (jR x :: st) σ Q := WP_aload_n mq228 dd228_60 rfl
theorem dd228_61 : decode cX12_day 61 = .ok (.getfield 13, 3) := by decide +kernel
theorem ww228_61 {d : Nat} {l0 l1 l2 l3 l4 l5 l6 : Option mw_V} {st : List mw_V} {σ : mw_S} {Q : Option mw_V → mw_S → Prop} : mw_WP d 228 61 [l0, l1, l2, l3, l4, l5, l6] (jR 100 :: st) σ Q ↔ mw_WP d 228 64 [l0, l1, l2, l3, l4, l5, l6] (jR 101 :: st) σ Q := WP_getR (ci := 11) (k := 1) mq228 dd228_61 (by decide) rfl
theorem dd228_64 : decode cX12_day 64 = .ok (.iconst 2, 1) := by decide +kernel
theorem ww228_64 {d : Nat} {l0 l1 l2 l3 l4 l5 l6 : Option mw_V} {st : List mw_V} {σ : mw_S} {Q : Option mw_V → mw_S → Prop} : mw_WP d 228 64 [l0, l1, l2, l3, l4, l5, l6] st σ Q ↔ mw_WP d 228 65 [l0, l1, l2, l3, l4, l5, l6] (jI (2) :: st) σ Q := WP_iconst mq228 dd228_64 (by decide)
theorem dd228_65 : decode cX12_day 65 = .ok (.iaload, 1) := by decide +kernel
theorem ww228_65 {d : Nat} {l0 l1 l2 l3 l4 l5 l6 : Option mw_V} {z : Int} {a : Nat} {st : List mw_V} {σ : mw_S} {Q : Option mw_V → mw_S → Prop} : mw_WP d 228 65 [l0, l1, l2, l3, l4, l5, l6] (jI z :: jR a :: st) σ Q ↔ ((0 ≤ z ∧ z < mw_lenI a) ∧ mw_WP d 228 66 [l0, l1, l2, l3, l4, l5, l6] (jI (mw_rdI σ a z.toNat) :: st) σ Q) := WP_iaload mq228 dd228_65
theorem dd228_66 : decode cX12_day 66 = .ok (.if_icmp .ge 27, 3) := by decide +kernel
theorem ww228_66 {d : Nat} {l0 l1 l2 l3 l4 l5 l6 : Option mw_V} {x y : Int} {st : List mw_V} {σ : mw_S} {Q : Option mw_V → mw_S → Prop} : mw_WP d 228 66 [l0, l1, l2, l3, l4, l5, l6] (jI y :: jI x :: st) σ Q ↔ (if y ≤ x then mw_WP d 228 93 [l0, l1, l2, l3, l4, l5, l6] st σ Q else mw_WP d 228 69 [l0, l1, l2, l3, l4, l5, l6] st σ Q) := WP_icmp_ge mq228 dd228_66 (by decide)
theorem dd228_69 : decode cX12_day 69 = .ok (.iload 5, 2) := by decide +kernel
theorem ww228_69 {d : Nat} {l0 l1 l2 l3 l4 l6 : Option mw_V} {x : Int} {st : List mw_V} {σ : mw_S} {Q : Option mw_V → mw_S → Prop} : mw_WP d 228 69 [l0, l1, l2, l3, l4, some (jI x), l6] st σ Q ↔ mw_WP d 228 71 [l0, l1, l2, l3, l4, some (jI x), l6] (jI x :: st) σ Q := WP_iload mq228 dd228_69 rfl
theorem dd228_71 : decode cX12_day 71 = .ok (.aload_n 0, 1) := by decide +kernel
theorem ww228_71 {d : Nat} {l1 l2 l3 l4 l5 l6 : Option mw_V} {x : Nat} {st : List mw_V} {σ : mw_S} {Q : Option mw_V → mw_S → Prop} : mw_WP d 228 71 [some (jR x), l1, l2, l3, l4, l5, l6] st σ Q ↔ mw_WP d 228 72 [some (jR x), l1, l2, l3, l4, l5, l6] (jR x :: st) σ Q := WP_aload_n mq228 dd228_71 rfl
theorem dd228_72 : decode cX12_day 72 = .ok (.bipush 9, 2) := by decide +kernel
theorem ww228_72 {d : Nat} {l0 l1 l2 l3 l4 l5 l6 : Option mw_V} {st : List mw_V} {σ : mw_S} {Q : Option mw_V → mw_S → Prop} : mw_WP d 228 72 [l0, l1, l2, l3, l4, l5, l6] st σ Q ↔ mw_WP d 228 74 [l0, l1, l2, l3, l4, l5, l6] (jI (9) :: st) σ Q := WP_bipush mq228 dd228_72 (by decide)
theorem dd228_74 : decode cX12_day 74 = .ok (.invokevirtual 322, 3) := by decide +kernel
theorem ww228_74 {d : Nat} {l0 l1 l2 l3 l4 l5 l6 : Option mw_V} {v0 : mw_V} {a : Nat} {st : List mw_V} {σ : mw_S} {Q : Option mw_V → mw_S → Prop} (hr : mw_rc a = 12) (h8 : (st.map mw_cat).sum ≤ 8) : mw_WP d 228 74 [l0, l1, l2, l3, l4, l5, l6] (v0 :: jR a :: st) σ Q ↔ mw_Call d 227 [jR a, v0] σ (fun r1 s1 => mw_WP d 228 77 [l0, l1, l2, l3, l4, l5, l6] (r1.toList ++ st) s1 Q) := WP_inv (as := [v0]) mq228 dd228_74 (by decide) mq227 rfl hr h8
theorem dd228_77 : decode cX12_day 77 = .ok (.aload_n 0, 1) := by decide +kernel
theorem ww228_77 {d : Nat} {l1 l2 l3 l4 l5 l6 : Option mw_V} {x : Nat} {st : List mw_V} {σ : mw_S} {Q : Option mw_V → mw_S → Prop} : mw_WP d 228 77 [some (jR x), l1, l2, l3, l4, l5, l6] st σ Q ↔ mw_WP d 228 78 [some (jR x), l1, l2, l3, l4, l5, l6] (jR x :: st) σ Q := WP_aload_n mq228 dd228_77 rfl
theorem dd228_78 : decode cX12_day 78 = .ok (.iload 6, 2) := by decide +kernel
theorem ww228_78 {d : Nat} {l0 l1 l2 l3 l4 l5 : Option mw_V} {x : Int} {st : List mw_V} {σ : mw_S} {Q : Option mw_V → mw_S → Prop} : mw_WP d 228 78 [l0, l1, l2, l3, l4, l5, some (jI x)] st σ Q ↔ mw_WP d 228 80 [l0, l1, l2, l3, l4, l5, some (jI x)] (jI x :: st) σ Q := WP_iload mq228 dd228_78 rfl
theorem dd228_80 : decode cX12_day 80 = .ok (.invokevirtual 278, 3) := by decide +kernel
theorem ww228_80 {d : Nat} {l0 l1 l2 l3 l4 l5 l6 : Option mw_V} {v0 : mw_V} {a : Nat} {st : List mw_V} {σ : mw_S} {Q : Option mw_V → mw_S → Prop} (hr : mw_rc a = 12) (h8 : (st.map mw_cat).sum ≤ 8) : mw_WP d 228 80 [l0, l1, l2, l3, l4, l5, l6] (v0 :: jR a :: st) σ Q ↔ mw_Call d 218 [jR a, v0] σ (fun r1 s1 => mw_WP d 228 83 [l0, l1, l2, l3, l4, l5, l6] (r1.toList ++ st) s1 Q) := WP_inv (as := [v0]) mq228 dd228_80 (by decide) mq218 rfl hr h8
theorem dd228_83 : decode cX12_day 83 = .ok (.imul, 1) := by decide +kernel
theorem ww228_83 {d : Nat} {l0 l1 l2 l3 l4 l5 l6 : Option mw_V} {x y : Int} {st : List mw_V} {σ : mw_S} {Q : Option mw_V → mw_S → Prop} : mw_WP d 228 83 [l0, l1, l2, l3, l4, l5, l6] (jI y :: jI x :: st) σ Q ↔ mw_WP d 228 84 [l0, l1, l2, l3, l4, l5, l6] (jI (w32 (x * y)) :: st) σ Q := WP_imul mq228 dd228_83
theorem dd228_84 : decode cX12_day 84 = .ok (.iadd, 1) := by decide +kernel
theorem ww228_84 {d : Nat} {l0 l1 l2 l3 l4 l5 l6 : Option mw_V} {x y : Int} {st : List mw_V} {σ : mw_S} {Q : Option mw_V → mw_S → Prop} : mw_WP d 228 84 [l0, l1, l2, l3, l4, l5, l6] (jI y :: jI x :: st) σ Q ↔ mw_WP d 228 85 [l0, l1, l2, l3, l4, l5, l6] (jI (w32 (x + y)) :: st) σ Q := WP_iadd mq228 dd228_84
theorem dd228_85 : decode cX12_day 85 = .ok (.istore 5, 2) := by decide +kernel
theorem ww228_85 {d : Nat} {l0 l1 l2 l3 l4 l5 l6 : Option mw_V} {x : Int} {st : List mw_V} {σ : mw_S} {Q : Option mw_V → mw_S → Prop} (h : mw_nlo l4 = true) : mw_WP d 228 85 [l0, l1, l2, l3, l4, l5, l6] (jI x :: st) σ Q ↔ mw_WP d 228 87 [l0, l1, l2, l3, l4, some (jI x), l6] st σ Q := WP_istore mq228 dd228_85 (Nat.le_of_ble_eq_true rfl) (mw_nl_of (i := 4) rfl h) rfl
theorem dd228_87 : decode cX12_day 87 = .ok (.iinc 6 1, 3) := by decide +kernel
theorem ww228_87 {d : Nat} {l0 l1 l2 l3 l4 l5 : Option mw_V} {x : Int} {st : List mw_V} {σ : mw_S} {Q : Option mw_V → mw_S → Prop} (h : mw_nlo l5 = true) : mw_WP d 228 87 [l0, l1, l2, l3, l4, l5, some (jI x)] st σ Q ↔ mw_WP d 228 90 [l0, l1, l2, l3, l4, l5, some (jI (w32 (x + (1))))] st σ Q := WP_iinc mq228 dd228_87 rfl (Nat.le_of_ble_eq_true rfl) (mw_nl_of (i := 5) rfl h) rfl
theorem dd228_90 : decode cX12_day 90 = .ok (.goto (-32), 3) := by decide +kernel
theorem ww228_90 {d : Nat} {l0 l1 l2 l3 l4 l5 l6 : Option mw_V} {st : List mw_V} {σ : mw_S} {Q : Option mw_V → mw_S → Prop} : mw_WP d 228 90 [l0, l1, l2, l3, l4, l5, l6] st σ Q ↔ mw_WP d 228 58 [l0, l1, l2, l3, l4, l5, l6] st σ Q := WP_goto mq228 dd228_90 (by decide)
theorem dd228_93 : decode cX12_day 93 = .ok (.aload_n 0, 1) := by decide +kernel
theorem ww228_93 {d : Nat} {l1 l2 l3 l4 l5 l6 : Option mw_V} {x : Nat} {st : List mw_V} {σ : mw_S} {Q : Option mw_V → mw_S → Prop} : mw_WP d 228 93 [some (jR x), l1, l2, l3, l4, l5, l6] st σ Q ↔ mw_WP d 228 94 [some (jR x), l1, l2, l3, l4, l5, l6] (jR x :: st) σ Q := WP_aload_n mq228 dd228_93 rfl
theorem dd228_94 : decode cX12_day 94 = .ok (.iload 5, 2) := by decide +kernel
theorem ww228_94 {d : Nat} {l0 l1 l2 l3 l4 l6 : Option mw_V} {x : Int} {st : List mw_V} {σ : mw_S} {Q : Option mw_V → mw_S → Prop} : mw_WP d 228 94 [l0, l1, l2, l3, l4, some (jI x), l6] st σ Q ↔ mw_WP d 228 96 [l0, l1, l2, l3, l4, some (jI x), l6] (jI x :: st) σ Q := WP_iload mq228 dd228_94 rfl
theorem dd228_96 : decode cX12_day 96 = .ok (.invokevirtual 281, 3) := by decide +kernel
theorem ww228_96 {d : Nat} {l0 l1 l2 l3 l4 l5 l6 : Option mw_V} {v0 : mw_V} {a : Nat} {st : List mw_V} {σ : mw_S} {Q : Option mw_V → mw_S → Prop} (hr : mw_rc a = 12) (h8 : (st.map mw_cat).sum ≤ 8) : mw_WP d 228 96 [l0, l1, l2, l3, l4, l5, l6] (v0 :: jR a :: st) σ Q ↔ mw_Call d 213 [jR a, v0] σ (fun r1 s1 => mw_WP d 228 99 [l0, l1, l2, l3, l4, l5, l6] (r1.toList ++ st) s1 Q) := WP_inv (as := [v0]) mq228 dd228_96 (by decide) mq213 rfl hr h8
theorem dd228_99 : decode cX12_day 99 = .ok (.iload_n 3, 1) := by decide +kernel
theorem ww228_99 {d : Nat} {l0 l1 l2 l4 l5 l6 : Option mw_V} {x : Int} {st : List mw_V} {σ : mw_S} {Q : Option mw_V → mw_S → Prop} : mw_WP d 228 99 [l0, l1, l2, some (jI x), l4, l5, l6] st σ Q ↔ mw_WP d 228 100 [l0, l1, l2, some (jI x), l4, l5, l6] (jI x :: st) σ Q := WP_iload_n mq228 dd228_99 rfl
theorem dd228_100 : decode cX12_day 100 = .ok (.aload_n 0, 1) := by decide +kernel
theorem ww228_100 {d : Nat} {l1 l2 l3 l4 l5 l6 : Option mw_V} {x : Nat} {st : List mw_V} {σ : mw_S} {Q : Option mw_V → mw_S → Prop} : mw_WP d 228 100 [some (jR x), l1, l2, l3, l4, l5, l6] st σ Q ↔ mw_WP d 228 101 [some (jR x), l1, l2, l3, l4, l5, l6] (jR x :: st) σ Q := WP_aload_n mq228 dd228_100 rfl
theorem dd228_101 : decode cX12_day 101 = .ok (.getfield 250, 3) := by decide +kernel
theorem ww228_101 {d : Nat} {l0 l1 l2 l3 l4 l5 l6 : Option mw_V} {st : List mw_V} {σ : mw_S} {Q : Option mw_V → mw_S → Prop} : mw_WP d 228 101 [l0, l1, l2, l3, l4, l5, l6] (jR 100 :: st) σ Q ↔ mw_WP d 228 104 [l0, l1, l2, l3, l4, l5, l6] (jI (σ 100 19) :: st) σ Q := WP_getI (ci := 11) (k := 19) mq228 dd228_101 (by decide) (Or.inl rfl)
theorem dd228_104 : decode cX12_day 104 = .ok (.iadd, 1) := by decide +kernel
theorem ww228_104 {d : Nat} {l0 l1 l2 l3 l4 l5 l6 : Option mw_V} {x y : Int} {st : List mw_V} {σ : mw_S} {Q : Option mw_V → mw_S → Prop} : mw_WP d 228 104 [l0, l1, l2, l3, l4, l5, l6] (jI y :: jI x :: st) σ Q ↔ mw_WP d 228 105 [l0, l1, l2, l3, l4, l5, l6] (jI (w32 (x + y)) :: st) σ Q := WP_iadd mq228 dd228_104
theorem dd228_105 : decode cX12_day 105 = .ok (.istore_n 3, 1) := by decide +kernel
theorem ww228_105 {d : Nat} {l0 l1 l2 l3 l4 l5 l6 : Option mw_V} {x : Int} {st : List mw_V} {σ : mw_S} {Q : Option mw_V → mw_S → Prop} (h : mw_nlo l2 = true) : mw_WP d 228 105 [l0, l1, l2, l3, l4, l5, l6] (jI x :: st) σ Q ↔ mw_WP d 228 106 [l0, l1, l2, some (jI x), l4, l5, l6] st σ Q := WP_istore_n mq228 dd228_105 (Nat.le_of_ble_eq_true rfl) (mw_nl_of (i := 2) rfl h) rfl
theorem dd228_106 : decode cX12_day 106 = .ok (.iinc 4 1, 3) := by decide +kernel
theorem ww228_106 {d : Nat} {l0 l1 l2 l3 l5 l6 : Option mw_V} {x : Int} {st : List mw_V} {σ : mw_S} {Q : Option mw_V → mw_S → Prop} (h : mw_nlo l3 = true) : mw_WP d 228 106 [l0, l1, l2, l3, some (jI x), l5, l6] st σ Q ↔ mw_WP d 228 109 [l0, l1, l2, l3, some (jI (w32 (x + (1)))), l5, l6] st σ Q := WP_iinc mq228 dd228_106 rfl (Nat.le_of_ble_eq_true rfl) (mw_nl_of (i := 3) rfl h) rfl
theorem dd228_109 : decode cX12_day 109 = .ok (.goto (-63), 3) := by decide +kernel
theorem ww228_109 {d : Nat} {l0 l1 l2 l3 l4 l5 l6 : Option mw_V} {st : List mw_V} {σ : mw_S} {Q : Option mw_V → mw_S → Prop} : mw_WP d 228 109 [l0, l1, l2, l3, l4, l5, l6] st σ Q ↔ mw_WP d 228 46 [l0, l1, l2, l3, l4, l5, l6] st σ Q := WP_goto mq228 dd228_109 (by decide)
theorem dd228_112 : decode cX12_day 112 = .ok (.aload_n 0, 1) := by decide +kernel
theorem ww228_112 {d : Nat} {l1 l2 l3 l4 l5 l6 : Option mw_V} {x : Nat} {st : List mw_V} {σ : mw_S} {Q : Option mw_V → mw_S → Prop} : mw_WP d 228 112 [some (jR x), l1, l2, l3, l4, l5, l6] st σ Q ↔ mw_WP d 228 113 [some (jR x), l1, l2, l3, l4, l5, l6] (jR x :: st) σ Q := WP_aload_n mq228 dd228_112 rfl
theorem dd228_113 : decode cX12_day 113 = .ok (.invokevirtual 291, 3) := by decide +kernel
theorem ww228_113 {d : Nat} {l0 l1 l2 l3 l4 l5 l6 : Option mw_V} {a : Nat} {st : List mw_V} {σ : mw_S} {Q : Option mw_V → mw_S → Prop} (hr : mw_rc a = 12) (h8 : (st.map mw_cat).sum ≤ 8) : mw_WP d 228 113 [l0, l1, l2, l3, l4, l5, l6] (jR a :: st) σ Q ↔ mw_Call d 216 [jR a] σ (fun r1 s1 => mw_WP d 228 116 [l0, l1, l2, l3, l4, l5, l6] (r1.toList ++ st) s1 Q) := WP_inv (as := []) mq228 dd228_113 (by decide) mq216 rfl hr h8
theorem dd228_116 : decode cX12_day 116 = .ok (.iload_n 3, 1) := by decide +kernel
theorem ww228_116 {d : Nat} {l0 l1 l2 l4 l5 l6 : Option mw_V} {x : Int} {st : List mw_V} {σ : mw_S} {Q : Option mw_V → mw_S → Prop} : mw_WP d 228 116 [l0, l1, l2, some (jI x), l4, l5, l6] st σ Q ↔ mw_WP d 228 117 [l0, l1, l2, some (jI x), l4, l5, l6] (jI x :: st) σ Q := WP_iload_n mq228 dd228_116 rfl
theorem dd228_117 : decode cX12_day 117 = .ok (.ireturn, 1) := by decide +kernel
theorem ww228_117 {d : Nat} {l0 l1 l2 l3 l4 l5 l6 : Option mw_V} {z : Int} {σ : mw_S} {Q : Option mw_V → mw_S → Prop} : mw_WP d 228 117 [l0, l1, l2, l3, l4, l5, l6] [jI z] σ Q ↔ Q (some (jI z)) σ := WP_ireturn (ty := .int) mq228 dd228_117 rfl rfl
theorem ee229 {d : Nat} {a : Nat} {z0 : Int} {z1 : Int} {σ : mw_S} {Q : Option mw_V → mw_S → Prop} : mw_Call (d + 1) 229 [jR a, jI z0, jI z1] σ Q ↔ mw_WP d 229 0 [some (jR a), some (jI z0), some (jI z1), none] [] σ Q := CL_u mq229 (Nat.le_of_ble_eq_true rfl) rfl
theorem dd229_0 : decode cX12_fails_ 0 = .ok (.aload_n 0, 1) := by decide +kernel
theorem ww229_0 {d : Nat} {l1 l2 l3 : Option mw_V} {x : Nat} {st : List mw_V} {σ : mw_S} {Q : Option mw_V → mw_S → Prop} : mw_WP d 229 0 [some (jR x), l1, l2, l3] st σ Q ↔ mw_WP d 229 1 [some (jR x), l1, l2, l3] (jR x :: st) σ Q := WP_aload_n mq229 dd229_0 rfl
theorem dd229_1 : decode cX12_fails_ 1 = .ok (.iconst 0, 1) := by decide +kernel
theorem ww229_1 {d : Nat} {l0 l1 l2 l3 : Option mw_V} {st : List mw_V} {σ : mw_S} {Q : Option mw_V → mw_S → Prop} : mw_WP d 229 1 [l0, l1, l2, l3] st σ Q ↔ mw_WP d 229 2 [l0, l1, l2, l3] (jI (0) :: st) σ Q := WP_iconst mq229 dd229_1 (by decide)
theorem dd229_2 : decode cX12_fails_ 2 = .ok (.putfield 1, 3) := by decide +kernel
theorem ww229_2 {d : Nat} {l0 l1 l2 l3 : Option mw_V} {v : Int} {st : List mw_V} {σ : mw_S} {Q : Option mw_V → mw_S → Prop} : mw_WP d 229 2 [l0, l1, l2, l3] (jI v :: jR 100 :: st) σ Q ↔ mw_WP d 229 5 [l0, l1, l2, l3] st (upS σ 100 0 v) Q := WP_putI (ci := 11) (k := 0) mq229 dd229_2 (by decide) rfl
theorem dd229_5 : decode cX12_fails_ 5 = .ok (.iload_n 2, 1) := by decide +kernel
theorem ww229_5 {d : Nat} {l0 l1 l3 : Option mw_V} {x : Int} {st : List mw_V} {σ : mw_S} {Q : Option mw_V → mw_S → Prop} : mw_WP d 229 5 [l0, l1, some (jI x), l3] st σ Q ↔ mw_WP d 229 6 [l0, l1, some (jI x), l3] (jI x :: st) σ Q := WP_iload_n mq229 dd229_5 rfl
theorem dd229_6 : decode cX12_fails_ 6 = .ok (.i2l, 1) := by decide +kernel
theorem ww229_6 {d : Nat} {l0 l1 l2 l3 : Option mw_V} {x : Int} {st : List mw_V} {σ : mw_S} {Q : Option mw_V → mw_S → Prop} : mw_WP d 229 6 [l0, l1, l2, l3] (jI x :: st) σ Q ↔ mw_WP d 229 7 [l0, l1, l2, l3] (jL (yL x) :: st) σ Q := WP_i2l mq229 dd229_6
theorem dd229_7 : decode cX12_fails_ 7 = .ok (.lconst 0, 1) := by decide +kernel
theorem ww229_7 {d : Nat} {l0 l1 l2 l3 : Option mw_V} {st : List mw_V} {σ : mw_S} {Q : Option mw_V → mw_S → Prop} : mw_WP d 229 7 [l0, l1, l2, l3] st σ Q ↔ mw_WP d 229 8 [l0, l1, l2, l3] (jL (0) :: st) σ Q := WP_lconst mq229 dd229_7 (by decide)
theorem dd229_8 : decode cX12_fails_ 8 = .ok (.lconst 1, 1) := by decide +kernel
theorem ww229_8 {d : Nat} {l0 l1 l2 l3 : Option mw_V} {st : List mw_V} {σ : mw_S} {Q : Option mw_V → mw_S → Prop} : mw_WP d 229 8 [l0, l1, l2, l3] st σ Q ↔ mw_WP d 229 9 [l0, l1, l2, l3] (jL (1) :: st) σ Q := WP_lconst mq229 dd229_8 (by decide)
theorem dd229_9 : decode cX12_fails_ 9 = .ok (.invokestatic 159, 3) := by decide +kernel
theorem ww229_9 {d : Nat} {l0 l1 l2 l3 : Option mw_V} {v0 v1 v2 : mw_V} {st : List mw_V} {σ : mw_S} {Q : Option mw_V → mw_S → Prop} (h8 : (st.map mw_cat).sum ≤ 8) : mw_WP d 229 9 [l0, l1, l2, l3] (v2 :: v1 :: v0 :: st) σ Q ↔ mw_Call d 170 [v0, v1, v2] σ (fun r1 s1 => mw_WP d 229 12 [l0, l1, l2, l3] (r1.toList ++ st) s1 Q) := WP_invs (as := [v2, v1, v0]) mq229 dd229_9 (by decide) mq170 rfl rfl h8
theorem dd229_12 : decode cX12_fails_ 12 = .ok (.ifCond .ne 6, 3) := by decide +kernel
theorem ww229_12 {d : Nat} {l0 l1 l2 l3 : Option mw_V} {x : Int} {st : List mw_V} {σ : mw_S} {Q : Option mw_V → mw_S → Prop} : mw_WP d 229 12 [l0, l1, l2, l3] (jI x :: st) σ Q ↔ (if ¬ x = 0 then mw_WP d 229 18 [l0, l1, l2, l3] st σ Q else mw_WP d 229 15 [l0, l1, l2, l3] st σ Q) := WP_if_ne mq229 dd229_12 (by decide)
theorem dd229_15 : decode cX12_fails_ 15 = .ok (.bipush (-2), 2) := by decide +kernel
theorem ww229_15 {d : Nat} {l0 l1 l2 l3 : Option mw_V} {st : List mw_V} {σ : mw_S} {Q : Option mw_V → mw_S → Prop} : mw_WP d 229 15 [l0, l1, l2, l3] st σ Q ↔ mw_WP d 229 17 [l0, l1, l2, l3] (jI (-2) :: st) σ Q := WP_bipush mq229 dd229_15 (by decide)
theorem dd229_17 : decode cX12_fails_ 17 = .ok (.ireturn, 1) := by decide +kernel
theorem ww229_17 {d : Nat} {l0 l1 l2 l3 : Option mw_V} {z : Int} {σ : mw_S} {Q : Option mw_V → mw_S → Prop} : mw_WP d 229 17 [l0, l1, l2, l3] [jI z] σ Q ↔ Q (some (jI z)) σ := WP_ireturn (ty := .int) mq229 dd229_17 rfl rfl
theorem dd229_18 : decode cX12_fails_ 18 = .ok (.aload_n 0, 1) := by decide +kernel
theorem ww229_18 {d : Nat} {l1 l2 l3 : Option mw_V} {x : Nat} {st : List mw_V} {σ : mw_S} {Q : Option mw_V → mw_S → Prop} : mw_WP d 229 18 [some (jR x), l1, l2, l3] st σ Q ↔ mw_WP d 229 19 [some (jR x), l1, l2, l3] (jR x :: st) σ Q := WP_aload_n mq229 dd229_18 rfl
theorem dd229_19 : decode cX12_fails_ 19 = .ok (.iload_n 1, 1) := by decide +kernel
theorem ww229_19 {d : Nat} {l0 l2 l3 : Option mw_V} {x : Int} {st : List mw_V} {σ : mw_S} {Q : Option mw_V → mw_S → Prop} : mw_WP d 229 19 [l0, some (jI x), l2, l3] st σ Q ↔ mw_WP d 229 20 [l0, some (jI x), l2, l3] (jI x :: st) σ Q := WP_iload_n mq229 dd229_19 rfl
theorem dd229_20 : decode cX12_fails_ 20 = .ok (.invokevirtual 310, 3) := by decide +kernel
theorem ww229_20 {d : Nat} {l0 l1 l2 l3 : Option mw_V} {v0 : mw_V} {a : Nat} {st : List mw_V} {σ : mw_S} {Q : Option mw_V → mw_S → Prop} (hr : mw_rc a = 12) (h8 : (st.map mw_cat).sum ≤ 8) : mw_WP d 229 20 [l0, l1, l2, l3] (v0 :: jR a :: st) σ Q ↔ mw_Call d 224 [jR a, v0] σ (fun r1 s1 => mw_WP d 229 23 [l0, l1, l2, l3] (r1.toList ++ st) s1 Q) := WP_inv (as := [v0]) mq229 dd229_20 (by decide) mq224 rfl hr h8
theorem dd229_23 : decode cX12_fails_ 23 = .ok (.istore_n 3, 1) := by decide +kernel
theorem ww229_23 {d : Nat} {l0 l1 l2 l3 : Option mw_V} {x : Int} {st : List mw_V} {σ : mw_S} {Q : Option mw_V → mw_S → Prop} (h : mw_nlo l2 = true) : mw_WP d 229 23 [l0, l1, l2, l3] (jI x :: st) σ Q ↔ mw_WP d 229 24 [l0, l1, l2, some (jI x)] st σ Q := WP_istore_n mq229 dd229_23 (Nat.le_of_ble_eq_true rfl) (mw_nl_of (i := 2) rfl h) rfl
theorem dd229_24 : decode cX12_fails_ 24 = .ok (.iload_n 3, 1) := by decide +kernel
theorem ww229_24 {d : Nat} {l0 l1 l2 : Option mw_V} {x : Int} {st : List mw_V} {σ : mw_S} {Q : Option mw_V → mw_S → Prop} : mw_WP d 229 24 [l0, l1, l2, some (jI x)] st σ Q ↔ mw_WP d 229 25 [l0, l1, l2, some (jI x)] (jI x :: st) σ Q := WP_iload_n mq229 dd229_24 rfl
theorem dd229_25 : decode cX12_fails_ 25 = .ok (.ifCond .eq 5, 3) := by decide +kernel
theorem ww229_25 {d : Nat} {l0 l1 l2 l3 : Option mw_V} {x : Int} {st : List mw_V} {σ : mw_S} {Q : Option mw_V → mw_S → Prop} : mw_WP d 229 25 [l0, l1, l2, l3] (jI x :: st) σ Q ↔ (if x = 0 then mw_WP d 229 30 [l0, l1, l2, l3] st σ Q else mw_WP d 229 28 [l0, l1, l2, l3] st σ Q) := WP_if_eq mq229 dd229_25 (by decide)
theorem dd229_28 : decode cX12_fails_ 28 = .ok (.iload_n 3, 1) := by decide +kernel
theorem ww229_28 {d : Nat} {l0 l1 l2 : Option mw_V} {x : Int} {st : List mw_V} {σ : mw_S} {Q : Option mw_V → mw_S → Prop} : mw_WP d 229 28 [l0, l1, l2, some (jI x)] st σ Q ↔ mw_WP d 229 29 [l0, l1, l2, some (jI x)] (jI x :: st) σ Q := WP_iload_n mq229 dd229_28 rfl
theorem dd229_29 : decode cX12_fails_ 29 = .ok (.ireturn, 1) := by decide +kernel
theorem ww229_29 {d : Nat} {l0 l1 l2 l3 : Option mw_V} {z : Int} {σ : mw_S} {Q : Option mw_V → mw_S → Prop} : mw_WP d 229 29 [l0, l1, l2, l3] [jI z] σ Q ↔ Q (some (jI z)) σ := WP_ireturn (ty := .int) mq229 dd229_29 rfl rfl
theorem dd229_30 : decode cX12_fails_ 30 = .ok (.aload_n 0, 1) := by decide +kernel
theorem ww229_30 {d : Nat} {l1 l2 l3 : Option mw_V} {x : Nat} {st : List mw_V} {σ : mw_S} {Q : Option mw_V → mw_S → Prop} : mw_WP d 229 30 [some (jR x), l1, l2, l3] st σ Q ↔ mw_WP d 229 31 [some (jR x), l1, l2, l3] (jR x :: st) σ Q := WP_aload_n mq229 dd229_30 rfl
theorem dd229_31 : decode cX12_fails_ 31 = .ok (.invokevirtual 275, 3) := by decide +kernel
theorem ww229_31 {d : Nat} {l0 l1 l2 l3 : Option mw_V} {a : Nat} {st : List mw_V} {σ : mw_S} {Q : Option mw_V → mw_S → Prop} (hr : mw_rc a = 12) (h8 : (st.map mw_cat).sum ≤ 8) : mw_WP d 229 31 [l0, l1, l2, l3] (jR a :: st) σ Q ↔ mw_Call d 214 [jR a] σ (fun r1 s1 => mw_WP d 229 34 [l0, l1, l2, l3] (r1.toList ++ st) s1 Q) := WP_inv (as := []) mq229 dd229_31 (by decide) mq214 rfl hr h8
theorem dd229_34 : decode cX12_fails_ 34 = .ok (.aload_n 0, 1) := by decide +kernel
theorem ww229_34 {d : Nat} {l1 l2 l3 : Option mw_V} {x : Nat} {st : List mw_V} {σ : mw_S} {Q : Option mw_V → mw_S → Prop} : mw_WP d 229 34 [some (jR x), l1, l2, l3] st σ Q ↔ mw_WP d 229 35 [some (jR x), l1, l2, l3] (jR x :: st) σ Q := WP_aload_n mq229 dd229_34 rfl
theorem dd229_35 : decode cX12_fails_ 35 = .ok (.iload_n 1, 1) := by decide +kernel
theorem ww229_35 {d : Nat} {l0 l2 l3 : Option mw_V} {x : Int} {st : List mw_V} {σ : mw_S} {Q : Option mw_V → mw_S → Prop} : mw_WP d 229 35 [l0, some (jI x), l2, l3] st σ Q ↔ mw_WP d 229 36 [l0, some (jI x), l2, l3] (jI x :: st) σ Q := WP_iload_n mq229 dd229_35 rfl
theorem dd229_36 : decode cX12_fails_ 36 = .ok (.invokevirtual 313, 3) := by decide +kernel
theorem ww229_36 {d : Nat} {l0 l1 l2 l3 : Option mw_V} {v0 : mw_V} {a : Nat} {st : List mw_V} {σ : mw_S} {Q : Option mw_V → mw_S → Prop} (hr : mw_rc a = 12) (h8 : (st.map mw_cat).sum ≤ 8) : mw_WP d 229 36 [l0, l1, l2, l3] (v0 :: jR a :: st) σ Q ↔ mw_Call d 223 [jR a, v0] σ (fun r1 s1 => mw_WP d 229 39 [l0, l1, l2, l3] (r1.toList ++ st) s1 Q) := WP_inv (as := [v0]) mq229 dd229_36 (by decide) mq223 rfl hr h8
theorem dd229_39 : decode cX12_fails_ 39 = .ok (.pop, 1) := by decide +kernel
theorem ww229_39 {d : Nat} {l0 l1 l2 l3 : Option mw_V} {v : mw_V} {st : List mw_V} {σ : mw_S} {Q : Option mw_V → mw_S → Prop} (h : mw_cat v = 1) : mw_WP d 229 39 [l0, l1, l2, l3] (v :: st) σ Q ↔ mw_WP d 229 40 [l0, l1, l2, l3] st σ Q := WP_pop mq229 dd229_39 h
theorem dd229_40 : decode cX12_fails_ 40 = .ok (.aload_n 0, 1) := by decide +kernel
theorem ww229_40 {d : Nat} {l1 l2 l3 : Option mw_V} {x : Nat} {st : List mw_V} {σ : mw_S} {Q : Option mw_V → mw_S → Prop} : mw_WP d 229 40 [some (jR x), l1, l2, l3] st σ Q ↔ mw_WP d 229 41 [some (jR x), l1, l2, l3] (jR x :: st) σ Q := WP_aload_n mq229 dd229_40 rfl
theorem dd229_41 : decode cX12_fails_ 41 = .ok (.invokevirtual 284, 3) := by decide +kernel
theorem ww229_41 {d : Nat} {l0 l1 l2 l3 : Option mw_V} {a : Nat} {st : List mw_V} {σ : mw_S} {Q : Option mw_V → mw_S → Prop} (hr : mw_rc a = 12) (h8 : (st.map mw_cat).sum ≤ 8) : mw_WP d 229 41 [l0, l1, l2, l3] (jR a :: st) σ Q ↔ mw_Call d 215 [jR a] σ (fun r1 s1 => mw_WP d 229 44 [l0, l1, l2, l3] (r1.toList ++ st) s1 Q) := WP_inv (as := []) mq229 dd229_41 (by decide) mq215 rfl hr h8
theorem dd229_44 : decode cX12_fails_ 44 = .ok (.iload_n 2, 1) := by decide +kernel
theorem ww229_44 {d : Nat} {l0 l1 l3 : Option mw_V} {x : Int} {st : List mw_V} {σ : mw_S} {Q : Option mw_V → mw_S → Prop} : mw_WP d 229 44 [l0, l1, some (jI x), l3] st σ Q ↔ mw_WP d 229 45 [l0, l1, some (jI x), l3] (jI x :: st) σ Q := WP_iload_n mq229 dd229_44 rfl
theorem dd229_45 : decode cX12_fails_ 45 = .ok (.ifCond .ne 10, 3) := by decide +kernel
theorem ww229_45 {d : Nat} {l0 l1 l2 l3 : Option mw_V} {x : Int} {st : List mw_V} {σ : mw_S} {Q : Option mw_V → mw_S → Prop} : mw_WP d 229 45 [l0, l1, l2, l3] (jI x :: st) σ Q ↔ (if ¬ x = 0 then mw_WP d 229 55 [l0, l1, l2, l3] st σ Q else mw_WP d 229 48 [l0, l1, l2, l3] st σ Q) := WP_if_ne mq229 dd229_45 (by decide)
theorem dd229_48 : decode cX12_fails_ 48 = .ok (.aload_n 0, 1) := by decide +kernel
theorem ww229_48 {d : Nat} {l1 l2 l3 : Option mw_V} {x : Nat} {st : List mw_V} {σ : mw_S} {Q : Option mw_V → mw_S → Prop} : mw_WP d 229 48 [some (jR x), l1, l2, l3] st σ Q ↔ mw_WP d 229 49 [some (jR x), l1, l2, l3] (jR x :: st) σ Q := WP_aload_n mq229 dd229_48 rfl
theorem dd229_49 : decode cX12_fails_ 49 = .ok (.getfield 302, 3) := by decide +kernel
theorem ww229_49 {d : Nat} {l0 l1 l2 l3 : Option mw_V} {st : List mw_V} {σ : mw_S} {Q : Option mw_V → mw_S → Prop} : mw_WP d 229 49 [l0, l1, l2, l3] (jR 100 :: st) σ Q ↔ mw_WP d 229 52 [l0, l1, l2, l3] (jI (σ 100 23) :: st) σ Q := WP_getI (ci := 11) (k := 23) mq229 dd229_49 (by decide) (Or.inl rfl)
theorem dd229_52 : decode cX12_fails_ 52 = .ok (.goto 7, 3) := by decide +kernel
theorem ww229_52 {d : Nat} {l0 l1 l2 l3 : Option mw_V} {st : List mw_V} {σ : mw_S} {Q : Option mw_V → mw_S → Prop} : mw_WP d 229 52 [l0, l1, l2, l3] st σ Q ↔ mw_WP d 229 59 [l0, l1, l2, l3] st σ Q := WP_goto mq229 dd229_52 (by decide)
theorem dd229_55 : decode cX12_fails_ 55 = .ok (.aload_n 0, 1) := by decide +kernel
theorem ww229_55 {d : Nat} {l1 l2 l3 : Option mw_V} {x : Nat} {st : List mw_V} {σ : mw_S} {Q : Option mw_V → mw_S → Prop} : mw_WP d 229 55 [some (jR x), l1, l2, l3] st σ Q ↔ mw_WP d 229 56 [some (jR x), l1, l2, l3] (jR x :: st) σ Q := WP_aload_n mq229 dd229_55 rfl
theorem dd229_56 : decode cX12_fails_ 56 = .ok (.getfield 305, 3) := by decide +kernel
theorem ww229_56 {d : Nat} {l0 l1 l2 l3 : Option mw_V} {st : List mw_V} {σ : mw_S} {Q : Option mw_V → mw_S → Prop} : mw_WP d 229 56 [l0, l1, l2, l3] (jR 100 :: st) σ Q ↔ mw_WP d 229 59 [l0, l1, l2, l3] (jI (σ 100 24) :: st) σ Q := WP_getI (ci := 11) (k := 24) mq229 dd229_56 (by decide) (Or.inl rfl)
theorem dd229_59 : decode cX12_fails_ 59 = .ok (.ireturn, 1) := by decide +kernel
theorem ww229_59 {d : Nat} {l0 l1 l2 l3 : Option mw_V} {z : Int} {σ : mw_S} {Q : Option mw_V → mw_S → Prop} : mw_WP d 229 59 [l0, l1, l2, l3] [jI z] σ Q ↔ Q (some (jI z)) σ := WP_ireturn (ty := .int) mq229 dd229_59 rfl rfl
theorem ee230 {d : Nat} {a : Nat} {z0 : Int} {z1 : Int} {σ : mw_S} {Q : Option mw_V → mw_S → Prop} : mw_Call (d + 1) 230 [jR a, jI z0, jI z1] σ Q ↔ mw_WP d 230 0 [some (jR a), some (jI z0), some (jI z1), none, none, none, none, none, none] [] σ Q := CL_u mq230 (Nat.le_of_ble_eq_true rfl) rfl
theorem dd230_0 : decode cX12_round 0 = .ok (.aload_n 0, 1) := by decide +kernel
theorem ww230_0 {d : Nat} {l1 l2 l3 l4 l5 l6 l7 l8 : Option mw_V} {x : Nat} {st : List mw_V} {σ : mw_S} {Q : Option mw_V → mw_S → Prop} : mw_WP d 230 0 [some (jR x), l1, l2, l3, l4, l5, l6, l7, l8] st σ Q ↔ mw_WP d 230 1 [some (jR x), l1, l2, l3, l4, l5, l6, l7, l8] (jR x :: st) σ Q := WP_aload_n mq230 dd230_0 rfl
theorem dd230_1 : decode cX12_round 1 = .ok (.iconst 0, 1) := by decide +kernel
theorem ww230_1 {d : Nat} {l0 l1 l2 l3 l4 l5 l6 l7 l8 : Option mw_V} {st : List mw_V} {σ : mw_S} {Q : Option mw_V → mw_S → Prop} : mw_WP d 230 1 [l0, l1, l2, l3, l4, l5, l6, l7, l8] st σ Q ↔ mw_WP d 230 2 [l0, l1, l2, l3, l4, l5, l6, l7, l8] (jI (0) :: st) σ Q := WP_iconst mq230 dd230_1 (by decide)
theorem dd230_2 : decode cX12_round 2 = .ok (.putfield 1, 3) := by decide +kernel
theorem ww230_2 {d : Nat} {l0 l1 l2 l3 l4 l5 l6 l7 l8 : Option mw_V} {v : Int} {st : List mw_V} {σ : mw_S} {Q : Option mw_V → mw_S → Prop} : mw_WP d 230 2 [l0, l1, l2, l3, l4, l5, l6, l7, l8] (jI v :: jR 100 :: st) σ Q ↔ mw_WP d 230 5 [l0, l1, l2, l3, l4, l5, l6, l7, l8] st (upS σ 100 0 v) Q := WP_putI (ci := 11) (k := 0) mq230 dd230_2 (by decide) rfl
theorem dd230_5 : decode cX12_round 5 = .ok (.iload_n 2, 1) := by decide +kernel
theorem ww230_5 {d : Nat} {l0 l1 l3 l4 l5 l6 l7 l8 : Option mw_V} {x : Int} {st : List mw_V} {σ : mw_S} {Q : Option mw_V → mw_S → Prop} : mw_WP d 230 5 [l0, l1, some (jI x), l3, l4, l5, l6, l7, l8] st σ Q ↔ mw_WP d 230 6 [l0, l1, some (jI x), l3, l4, l5, l6, l7, l8] (jI x :: st) σ Q := WP_iload_n mq230 dd230_5 rfl
theorem dd230_6 : decode cX12_round 6 = .ok (.i2l, 1) := by decide +kernel
theorem ww230_6 {d : Nat} {l0 l1 l2 l3 l4 l5 l6 l7 l8 : Option mw_V} {x : Int} {st : List mw_V} {σ : mw_S} {Q : Option mw_V → mw_S → Prop} : mw_WP d 230 6 [l0, l1, l2, l3, l4, l5, l6, l7, l8] (jI x :: st) σ Q ↔ mw_WP d 230 7 [l0, l1, l2, l3, l4, l5, l6, l7, l8] (jL (yL x) :: st) σ Q := WP_i2l mq230 dd230_6
theorem dd230_7 : decode cX12_round 7 = .ok (.lconst 0, 1) := by decide +kernel
theorem ww230_7 {d : Nat} {l0 l1 l2 l3 l4 l5 l6 l7 l8 : Option mw_V} {st : List mw_V} {σ : mw_S} {Q : Option mw_V → mw_S → Prop} : mw_WP d 230 7 [l0, l1, l2, l3, l4, l5, l6, l7, l8] st σ Q ↔ mw_WP d 230 8 [l0, l1, l2, l3, l4, l5, l6, l7, l8] (jL (0) :: st) σ Q := WP_lconst mq230 dd230_7 (by decide)
theorem dd230_8 : decode cX12_round 8 = .ok (.lconst 1, 1) := by decide +kernel
theorem ww230_8 {d : Nat} {l0 l1 l2 l3 l4 l5 l6 l7 l8 : Option mw_V} {st : List mw_V} {σ : mw_S} {Q : Option mw_V → mw_S → Prop} : mw_WP d 230 8 [l0, l1, l2, l3, l4, l5, l6, l7, l8] st σ Q ↔ mw_WP d 230 9 [l0, l1, l2, l3, l4, l5, l6, l7, l8] (jL (1) :: st) σ Q := WP_lconst mq230 dd230_8 (by decide)
theorem dd230_9 : decode cX12_round 9 = .ok (.invokestatic 159, 3) := by decide +kernel
theorem ww230_9 {d : Nat} {l0 l1 l2 l3 l4 l5 l6 l7 l8 : Option mw_V} {v0 v1 v2 : mw_V} {st : List mw_V} {σ : mw_S} {Q : Option mw_V → mw_S → Prop} (h8 : (st.map mw_cat).sum ≤ 8) : mw_WP d 230 9 [l0, l1, l2, l3, l4, l5, l6, l7, l8] (v2 :: v1 :: v0 :: st) σ Q ↔ mw_Call d 170 [v0, v1, v2] σ (fun r1 s1 => mw_WP d 230 12 [l0, l1, l2, l3, l4, l5, l6, l7, l8] (r1.toList ++ st) s1 Q) := WP_invs (as := [v2, v1, v0]) mq230 dd230_9 (by decide) mq170 rfl rfl h8
theorem dd230_12 : decode cX12_round 12 = .ok (.ifCond .ne 6, 3) := by decide +kernel
theorem ww230_12 {d : Nat} {l0 l1 l2 l3 l4 l5 l6 l7 l8 : Option mw_V} {x : Int} {st : List mw_V} {σ : mw_S} {Q : Option mw_V → mw_S → Prop} : mw_WP d 230 12 [l0, l1, l2, l3, l4, l5, l6, l7, l8] (jI x :: st) σ Q ↔ (if ¬ x = 0 then mw_WP d 230 18 [l0, l1, l2, l3, l4, l5, l6, l7, l8] st σ Q else mw_WP d 230 15 [l0, l1, l2, l3, l4, l5, l6, l7, l8] st σ Q) := WP_if_ne mq230 dd230_12 (by decide)
theorem dd230_15 : decode cX12_round 15 = .ok (.bipush (-2), 2) := by decide +kernel
theorem ww230_15 {d : Nat} {l0 l1 l2 l3 l4 l5 l6 l7 l8 : Option mw_V} {st : List mw_V} {σ : mw_S} {Q : Option mw_V → mw_S → Prop} : mw_WP d 230 15 [l0, l1, l2, l3, l4, l5, l6, l7, l8] st σ Q ↔ mw_WP d 230 17 [l0, l1, l2, l3, l4, l5, l6, l7, l8] (jI (-2) :: st) σ Q := WP_bipush mq230 dd230_15 (by decide)
theorem dd230_17 : decode cX12_round 17 = .ok (.ireturn, 1) := by decide +kernel
theorem ww230_17 {d : Nat} {l0 l1 l2 l3 l4 l5 l6 l7 l8 : Option mw_V} {z : Int} {σ : mw_S} {Q : Option mw_V → mw_S → Prop} : mw_WP d 230 17 [l0, l1, l2, l3, l4, l5, l6, l7, l8] [jI z] σ Q ↔ Q (some (jI z)) σ := WP_ireturn (ty := .int) mq230 dd230_17 rfl rfl
theorem dd230_18 : decode cX12_round 18 = .ok (.aload_n 0, 1) := by decide +kernel
theorem ww230_18 {d : Nat} {l1 l2 l3 l4 l5 l6 l7 l8 : Option mw_V} {x : Nat} {st : List mw_V} {σ : mw_S} {Q : Option mw_V → mw_S → Prop} : mw_WP d 230 18 [some (jR x), l1, l2, l3, l4, l5, l6, l7, l8] st σ Q ↔ mw_WP d 230 19 [some (jR x), l1, l2, l3, l4, l5, l6, l7, l8] (jR x :: st) σ Q := WP_aload_n mq230 dd230_18 rfl
theorem dd230_19 : decode cX12_round 19 = .ok (.iload_n 1, 1) := by decide +kernel
theorem ww230_19 {d : Nat} {l0 l2 l3 l4 l5 l6 l7 l8 : Option mw_V} {x : Int} {st : List mw_V} {σ : mw_S} {Q : Option mw_V → mw_S → Prop} : mw_WP d 230 19 [l0, some (jI x), l2, l3, l4, l5, l6, l7, l8] st σ Q ↔ mw_WP d 230 20 [l0, some (jI x), l2, l3, l4, l5, l6, l7, l8] (jI x :: st) σ Q := WP_iload_n mq230 dd230_19 rfl
theorem dd230_20 : decode cX12_round 20 = .ok (.invokevirtual 310, 3) := by decide +kernel
theorem ww230_20 {d : Nat} {l0 l1 l2 l3 l4 l5 l6 l7 l8 : Option mw_V} {v0 : mw_V} {a : Nat} {st : List mw_V} {σ : mw_S} {Q : Option mw_V → mw_S → Prop} (hr : mw_rc a = 12) (h8 : (st.map mw_cat).sum ≤ 8) : mw_WP d 230 20 [l0, l1, l2, l3, l4, l5, l6, l7, l8] (v0 :: jR a :: st) σ Q ↔ mw_Call d 224 [jR a, v0] σ (fun r1 s1 => mw_WP d 230 23 [l0, l1, l2, l3, l4, l5, l6, l7, l8] (r1.toList ++ st) s1 Q) := WP_inv (as := [v0]) mq230 dd230_20 (by decide) mq224 rfl hr h8
theorem dd230_23 : decode cX12_round 23 = .ok (.istore_n 3, 1) := by decide +kernel
theorem ww230_23 {d : Nat} {l0 l1 l2 l3 l4 l5 l6 l7 l8 : Option mw_V} {x : Int} {st : List mw_V} {σ : mw_S} {Q : Option mw_V → mw_S → Prop} (h : mw_nlo l2 = true) : mw_WP d 230 23 [l0, l1, l2, l3, l4, l5, l6, l7, l8] (jI x :: st) σ Q ↔ mw_WP d 230 24 [l0, l1, l2, some (jI x), l4, l5, l6, l7, l8] st σ Q := WP_istore_n mq230 dd230_23 (Nat.le_of_ble_eq_true rfl) (mw_nl_of (i := 2) rfl h) rfl
theorem dd230_24 : decode cX12_round 24 = .ok (.iload_n 3, 1) := by decide +kernel
theorem ww230_24 {d : Nat} {l0 l1 l2 l4 l5 l6 l7 l8 : Option mw_V} {x : Int} {st : List mw_V} {σ : mw_S} {Q : Option mw_V → mw_S → Prop} : mw_WP d 230 24 [l0, l1, l2, some (jI x), l4, l5, l6, l7, l8] st σ Q ↔ mw_WP d 230 25 [l0, l1, l2, some (jI x), l4, l5, l6, l7, l8] (jI x :: st) σ Q := WP_iload_n mq230 dd230_24 rfl
theorem dd230_25 : decode cX12_round 25 = .ok (.ifCond .eq 5, 3) := by decide +kernel
theorem ww230_25 {d : Nat} {l0 l1 l2 l3 l4 l5 l6 l7 l8 : Option mw_V} {x : Int} {st : List mw_V} {σ : mw_S} {Q : Option mw_V → mw_S → Prop} : mw_WP d 230 25 [l0, l1, l2, l3, l4, l5, l6, l7, l8] (jI x :: st) σ Q ↔ (if x = 0 then mw_WP d 230 30 [l0, l1, l2, l3, l4, l5, l6, l7, l8] st σ Q else mw_WP d 230 28 [l0, l1, l2, l3, l4, l5, l6, l7, l8] st σ Q) := WP_if_eq mq230 dd230_25 (by decide)
theorem dd230_28 : decode cX12_round 28 = .ok (.iload_n 3, 1) := by decide +kernel
theorem ww230_28 {d : Nat} {l0 l1 l2 l4 l5 l6 l7 l8 : Option mw_V} {x : Int} {st : List mw_V} {σ : mw_S} {Q : Option mw_V → mw_S → Prop} : mw_WP d 230 28 [l0, l1, l2, some (jI x), l4, l5, l6, l7, l8] st σ Q ↔ mw_WP d 230 29 [l0, l1, l2, some (jI x), l4, l5, l6, l7, l8] (jI x :: st) σ Q := WP_iload_n mq230 dd230_28 rfl
theorem dd230_29 : decode cX12_round 29 = .ok (.ireturn, 1) := by decide +kernel
theorem ww230_29 {d : Nat} {l0 l1 l2 l3 l4 l5 l6 l7 l8 : Option mw_V} {z : Int} {σ : mw_S} {Q : Option mw_V → mw_S → Prop} : mw_WP d 230 29 [l0, l1, l2, l3, l4, l5, l6, l7, l8] [jI z] σ Q ↔ Q (some (jI z)) σ := WP_ireturn (ty := .int) mq230 dd230_29 rfl rfl
theorem dd230_30 : decode cX12_round 30 = .ok (.aload_n 0, 1) := by decide +kernel
theorem ww230_30 {d : Nat} {l1 l2 l3 l4 l5 l6 l7 l8 : Option mw_V} {x : Nat} {st : List mw_V} {σ : mw_S} {Q : Option mw_V → mw_S → Prop} : mw_WP d 230 30 [some (jR x), l1, l2, l3, l4, l5, l6, l7, l8] st σ Q ↔ mw_WP d 230 31 [some (jR x), l1, l2, l3, l4, l5, l6, l7, l8] (jR x :: st) σ Q := WP_aload_n mq230 dd230_30 rfl
theorem dd230_31 : decode cX12_round 31 = .ok (.getfield 87, 3) := by decide +kernel
theorem ww230_31 {d : Nat} {l0 l1 l2 l3 l4 l5 l6 l7 l8 : Option mw_V} {st : List mw_V} {σ : mw_S} {Q : Option mw_V → mw_S → Prop} : mw_WP d 230 31 [l0, l1, l2, l3, l4, l5, l6, l7, l8] (jR 100 :: st) σ Q ↔ mw_WP d 230 34 [l0, l1, l2, l3, l4, l5, l6, l7, l8] (jR 123 :: st) σ Q := WP_getR (ci := 11) (k := 49) mq230 dd230_31 (by decide) rfl
theorem dd230_34 : decode cX12_round 34 = .ok (.iload_n 1, 1) := by decide +kernel
theorem ww230_34 {d : Nat} {l0 l2 l3 l4 l5 l6 l7 l8 : Option mw_V} {x : Int} {st : List mw_V} {σ : mw_S} {Q : Option mw_V → mw_S → Prop} : mw_WP d 230 34 [l0, some (jI x), l2, l3, l4, l5, l6, l7, l8] st σ Q ↔ mw_WP d 230 35 [l0, some (jI x), l2, l3, l4, l5, l6, l7, l8] (jI x :: st) σ Q := WP_iload_n mq230 dd230_34 rfl
theorem dd230_35 : decode cX12_round 35 = .ok (.iaload, 1) := by decide +kernel
theorem ww230_35 {d : Nat} {l0 l1 l2 l3 l4 l5 l6 l7 l8 : Option mw_V} {z : Int} {a : Nat} {st : List mw_V} {σ : mw_S} {Q : Option mw_V → mw_S → Prop} : mw_WP d 230 35 [l0, l1, l2, l3, l4, l5, l6, l7, l8] (jI z :: jR a :: st) σ Q ↔ ((0 ≤ z ∧ z < mw_lenI a) ∧ mw_WP d 230 36 [l0, l1, l2, l3, l4, l5, l6, l7, l8] (jI (mw_rdI σ a z.toNat) :: st) σ Q) := WP_iaload mq230 dd230_35
theorem dd230_36 : decode cX12_round 36 = .ok (.i2l, 1) := by decide +kernel
theorem ww230_36 {d : Nat} {l0 l1 l2 l3 l4 l5 l6 l7 l8 : Option mw_V} {x : Int} {st : List mw_V} {σ : mw_S} {Q : Option mw_V → mw_S → Prop} : mw_WP d 230 36 [l0, l1, l2, l3, l4, l5, l6, l7, l8] (jI x :: st) σ Q ↔ mw_WP d 230 37 [l0, l1, l2, l3, l4, l5, l6, l7, l8] (jL (yL x) :: st) σ Q := WP_i2l mq230 dd230_36
theorem dd230_37 : decode cX12_round 37 = .ok (.lconst 1, 1) := by decide +kernel
theorem ww230_37 {d : Nat} {l0 l1 l2 l3 l4 l5 l6 l7 l8 : Option mw_V} {st : List mw_V} {σ : mw_S} {Q : Option mw_V → mw_S → Prop} : mw_WP d 230 37 [l0, l1, l2, l3, l4, l5, l6, l7, l8] st σ Q ↔ mw_WP d 230 38 [l0, l1, l2, l3, l4, l5, l6, l7, l8] (jL (1) :: st) σ Q := WP_lconst mq230 dd230_37 (by decide)
theorem dd230_38 : decode cX12_round 38 = .ok (.ldc2_w 294, 3) := by decide +kernel
theorem ww230_38 {d : Nat} {l0 l1 l2 l3 l4 l5 l6 l7 l8 : Option mw_V} {st : List mw_V} {σ : mw_S} {Q : Option mw_V → mw_S → Prop} : mw_WP d 230 38 [l0, l1, l2, l3, l4, l5, l6, l7, l8] st σ Q ↔ mw_WP d 230 41 [l0, l1, l2, l3, l4, l5, l6, l7, l8] (jL (10) :: st) σ Q := WP_ldc2_w (v := 10) mq230 dd230_38 (by decide) (by decide)
theorem dd230_41 : decode cX12_round 41 = .ok (.invokestatic 159, 3) := by decide +kernel
theorem ww230_41 {d : Nat} {l0 l1 l2 l3 l4 l5 l6 l7 l8 : Option mw_V} {v0 v1 v2 : mw_V} {st : List mw_V} {σ : mw_S} {Q : Option mw_V → mw_S → Prop} (h8 : (st.map mw_cat).sum ≤ 8) : mw_WP d 230 41 [l0, l1, l2, l3, l4, l5, l6, l7, l8] (v2 :: v1 :: v0 :: st) σ Q ↔ mw_Call d 170 [v0, v1, v2] σ (fun r1 s1 => mw_WP d 230 44 [l0, l1, l2, l3, l4, l5, l6, l7, l8] (r1.toList ++ st) s1 Q) := WP_invs (as := [v2, v1, v0]) mq230 dd230_41 (by decide) mq170 rfl rfl h8
theorem dd230_44 : decode cX12_round 44 = .ok (.ifCond .ne 6, 3) := by decide +kernel
theorem ww230_44 {d : Nat} {l0 l1 l2 l3 l4 l5 l6 l7 l8 : Option mw_V} {x : Int} {st : List mw_V} {σ : mw_S} {Q : Option mw_V → mw_S → Prop} : mw_WP d 230 44 [l0, l1, l2, l3, l4, l5, l6, l7, l8] (jI x :: st) σ Q ↔ (if ¬ x = 0 then mw_WP d 230 50 [l0, l1, l2, l3, l4, l5, l6, l7, l8] st σ Q else mw_WP d 230 47 [l0, l1, l2, l3, l4, l5, l6, l7, l8] st σ Q) := WP_if_ne mq230 dd230_44 (by decide)
theorem dd230_47 : decode cX12_round 47 = .ok (.bipush (-4), 2) := by decide +kernel
theorem ww230_47 {d : Nat} {l0 l1 l2 l3 l4 l5 l6 l7 l8 : Option mw_V} {st : List mw_V} {σ : mw_S} {Q : Option mw_V → mw_S → Prop} : mw_WP d 230 47 [l0, l1, l2, l3, l4, l5, l6, l7, l8] st σ Q ↔ mw_WP d 230 49 [l0, l1, l2, l3, l4, l5, l6, l7, l8] (jI (-4) :: st) σ Q := WP_bipush mq230 dd230_47 (by decide)
theorem dd230_49 : decode cX12_round 49 = .ok (.ireturn, 1) := by decide +kernel
theorem ww230_49 {d : Nat} {l0 l1 l2 l3 l4 l5 l6 l7 l8 : Option mw_V} {z : Int} {σ : mw_S} {Q : Option mw_V → mw_S → Prop} : mw_WP d 230 49 [l0, l1, l2, l3, l4, l5, l6, l7, l8] [jI z] σ Q ↔ Q (some (jI z)) σ := WP_ireturn (ty := .int) mq230 dd230_49 rfl rfl
theorem dd230_50 : decode cX12_round 50 = .ok (.iconst 0, 1) := by decide +kernel
theorem ww230_50 {d : Nat} {l0 l1 l2 l3 l4 l5 l6 l7 l8 : Option mw_V} {st : List mw_V} {σ : mw_S} {Q : Option mw_V → mw_S → Prop} : mw_WP d 230 50 [l0, l1, l2, l3, l4, l5, l6, l7, l8] st σ Q ↔ mw_WP d 230 51 [l0, l1, l2, l3, l4, l5, l6, l7, l8] (jI (0) :: st) σ Q := WP_iconst mq230 dd230_50 (by decide)
theorem dd230_51 : decode cX12_round 51 = .ok (.istore 4, 2) := by decide +kernel
theorem ww230_51 {d : Nat} {l0 l1 l2 l3 l4 l5 l6 l7 l8 : Option mw_V} {x : Int} {st : List mw_V} {σ : mw_S} {Q : Option mw_V → mw_S → Prop} (h : mw_nlo l3 = true) : mw_WP d 230 51 [l0, l1, l2, l3, l4, l5, l6, l7, l8] (jI x :: st) σ Q ↔ mw_WP d 230 53 [l0, l1, l2, l3, some (jI x), l5, l6, l7, l8] st σ Q := WP_istore mq230 dd230_51 (Nat.le_of_ble_eq_true rfl) (mw_nl_of (i := 3) rfl h) rfl
theorem dd230_53 : decode cX12_round 53 = .ok (.iload 4, 2) := by decide +kernel
theorem ww230_53 {d : Nat} {l0 l1 l2 l3 l5 l6 l7 l8 : Option mw_V} {x : Int} {st : List mw_V} {σ : mw_S} {Q : Option mw_V → mw_S → Prop} : mw_WP d 230 53 [l0, l1, l2, l3, some (jI x), l5, l6, l7, l8] st σ Q ↔ mw_WP d 230 55 [l0, l1, l2, l3, some (jI x), l5, l6, l7, l8] (jI x :: st) σ Q := WP_iload mq230 dd230_53 rfl
theorem dd230_55 : decode cX12_round 55 = .ok (.aload_n 0, 1) := by decide +kernel
theorem ww230_55 {d : Nat} {l1 l2 l3 l4 l5 l6 l7 l8 : Option mw_V} {x : Nat} {st : List mw_V} {σ : mw_S} {Q : Option mw_V → mw_S → Prop} : mw_WP d 230 55 [some (jR x), l1, l2, l3, l4, l5, l6, l7, l8] st σ Q ↔ mw_WP d 230 56 [some (jR x), l1, l2, l3, l4, l5, l6, l7, l8] (jR x :: st) σ Q := WP_aload_n mq230 dd230_55 rfl
theorem dd230_56 : decode cX12_round 56 = .ok (.getfield 87, 3) := by decide +kernel
theorem ww230_56 {d : Nat} {l0 l1 l2 l3 l4 l5 l6 l7 l8 : Option mw_V} {st : List mw_V} {σ : mw_S} {Q : Option mw_V → mw_S → Prop} : mw_WP d 230 56 [l0, l1, l2, l3, l4, l5, l6, l7, l8] (jR 100 :: st) σ Q ↔ mw_WP d 230 59 [l0, l1, l2, l3, l4, l5, l6, l7, l8] (jR 123 :: st) σ Q := WP_getR (ci := 11) (k := 49) mq230 dd230_56 (by decide) rfl
theorem dd230_59 : decode cX12_round 59 = .ok (.iload_n 1, 1) := by decide +kernel
theorem ww230_59 {d : Nat} {l0 l2 l3 l4 l5 l6 l7 l8 : Option mw_V} {x : Int} {st : List mw_V} {σ : mw_S} {Q : Option mw_V → mw_S → Prop} : mw_WP d 230 59 [l0, some (jI x), l2, l3, l4, l5, l6, l7, l8] st σ Q ↔ mw_WP d 230 60 [l0, some (jI x), l2, l3, l4, l5, l6, l7, l8] (jI x :: st) σ Q := WP_iload_n mq230 dd230_59 rfl
theorem dd230_60 : decode cX12_round 60 = .ok (.iaload, 1) := by decide +kernel
theorem ww230_60 {d : Nat} {l0 l1 l2 l3 l4 l5 l6 l7 l8 : Option mw_V} {z : Int} {a : Nat} {st : List mw_V} {σ : mw_S} {Q : Option mw_V → mw_S → Prop} : mw_WP d 230 60 [l0, l1, l2, l3, l4, l5, l6, l7, l8] (jI z :: jR a :: st) σ Q ↔ ((0 ≤ z ∧ z < mw_lenI a) ∧ mw_WP d 230 61 [l0, l1, l2, l3, l4, l5, l6, l7, l8] (jI (mw_rdI σ a z.toNat) :: st) σ Q) := WP_iaload mq230 dd230_60
theorem dd230_61 : decode cX12_round 61 = .ok (.if_icmp .ge 31, 3) := by decide +kernel
theorem ww230_61 {d : Nat} {l0 l1 l2 l3 l4 l5 l6 l7 l8 : Option mw_V} {x y : Int} {st : List mw_V} {σ : mw_S} {Q : Option mw_V → mw_S → Prop} : mw_WP d 230 61 [l0, l1, l2, l3, l4, l5, l6, l7, l8] (jI y :: jI x :: st) σ Q ↔ (if y ≤ x then mw_WP d 230 92 [l0, l1, l2, l3, l4, l5, l6, l7, l8] st σ Q else mw_WP d 230 64 [l0, l1, l2, l3, l4, l5, l6, l7, l8] st σ Q) := WP_icmp_ge mq230 dd230_61 (by decide)
theorem dd230_64 : decode cX12_round 64 = .ok (.aload_n 0, 1) := by decide +kernel
theorem ww230_64 {d : Nat} {l1 l2 l3 l4 l5 l6 l7 l8 : Option mw_V} {x : Nat} {st : List mw_V} {σ : mw_S} {Q : Option mw_V → mw_S → Prop} : mw_WP d 230 64 [some (jR x), l1, l2, l3, l4, l5, l6, l7, l8] st σ Q ↔ mw_WP d 230 65 [some (jR x), l1, l2, l3, l4, l5, l6, l7, l8] (jR x :: st) σ Q := WP_aload_n mq230 dd230_64 rfl
theorem dd230_65 : decode cX12_round 65 = .ok (.aload_n 0, 1) := by decide +kernel
theorem ww230_65 {d : Nat} {l1 l2 l3 l4 l5 l6 l7 l8 : Option mw_V} {x : Nat} {st : List mw_V} {σ : mw_S} {Q : Option mw_V → mw_S → Prop} : mw_WP d 230 65 [some (jR x), l1, l2, l3, l4, l5, l6, l7, l8] st σ Q ↔ mw_WP d 230 66 [some (jR x), l1, l2, l3, l4, l5, l6, l7, l8] (jR x :: st) σ Q := WP_aload_n mq230 dd230_65 rfl
theorem dd230_66 : decode cX12_round 66 = .ok (.getfield 90, 3) := by decide +kernel
theorem ww230_66 {d : Nat} {l0 l1 l2 l3 l4 l5 l6 l7 l8 : Option mw_V} {st : List mw_V} {σ : mw_S} {Q : Option mw_V → mw_S → Prop} : mw_WP d 230 66 [l0, l1, l2, l3, l4, l5, l6, l7, l8] (jR 100 :: st) σ Q ↔ mw_WP d 230 69 [l0, l1, l2, l3, l4, l5, l6, l7, l8] (jR 124 :: st) σ Q := WP_getR (ci := 11) (k := 50) mq230 dd230_66 (by decide) rfl
theorem dd230_69 : decode cX12_round 69 = .ok (.bipush 40, 2) := by decide +kernel
theorem ww230_69 {d : Nat} {l0 l1 l2 l3 l4 l5 l6 l7 l8 : Option mw_V} {st : List mw_V} {σ : mw_S} {Q : Option mw_V → mw_S → Prop} : mw_WP d 230 69 [l0, l1, l2, l3, l4, l5, l6, l7, l8] st σ Q ↔ mw_WP d 230 71 [l0, l1, l2, l3, l4, l5, l6, l7, l8] (jI (40) :: st) σ Q := WP_bipush mq230 dd230_69 (by decide)
theorem dd230_71 : decode cX12_round 71 = .ok (.iload_n 1, 1) := by decide +kernel
theorem ww230_71 {d : Nat} {l0 l2 l3 l4 l5 l6 l7 l8 : Option mw_V} {x : Int} {st : List mw_V} {σ : mw_S} {Q : Option mw_V → mw_S → Prop} : mw_WP d 230 71 [l0, some (jI x), l2, l3, l4, l5, l6, l7, l8] st σ Q ↔ mw_WP d 230 72 [l0, some (jI x), l2, l3, l4, l5, l6, l7, l8] (jI x :: st) σ Q := WP_iload_n mq230 dd230_71 rfl
theorem dd230_72 : decode cX12_round 72 = .ok (.imul, 1) := by decide +kernel
theorem ww230_72 {d : Nat} {l0 l1 l2 l3 l4 l5 l6 l7 l8 : Option mw_V} {x y : Int} {st : List mw_V} {σ : mw_S} {Q : Option mw_V → mw_S → Prop} : mw_WP d 230 72 [l0, l1, l2, l3, l4, l5, l6, l7, l8] (jI y :: jI x :: st) σ Q ↔ mw_WP d 230 73 [l0, l1, l2, l3, l4, l5, l6, l7, l8] (jI (w32 (x * y)) :: st) σ Q := WP_imul mq230 dd230_72
theorem dd230_73 : decode cX12_round 73 = .ok (.iload 4, 2) := by decide +kernel
theorem ww230_73 {d : Nat} {l0 l1 l2 l3 l5 l6 l7 l8 : Option mw_V} {x : Int} {st : List mw_V} {σ : mw_S} {Q : Option mw_V → mw_S → Prop} : mw_WP d 230 73 [l0, l1, l2, l3, some (jI x), l5, l6, l7, l8] st σ Q ↔ mw_WP d 230 75 [l0, l1, l2, l3, some (jI x), l5, l6, l7, l8] (jI x :: st) σ Q := WP_iload mq230 dd230_73 rfl
theorem dd230_75 : decode cX12_round 75 = .ok (.iadd, 1) := by decide +kernel
theorem ww230_75 {d : Nat} {l0 l1 l2 l3 l4 l5 l6 l7 l8 : Option mw_V} {x y : Int} {st : List mw_V} {σ : mw_S} {Q : Option mw_V → mw_S → Prop} : mw_WP d 230 75 [l0, l1, l2, l3, l4, l5, l6, l7, l8] (jI y :: jI x :: st) σ Q ↔ mw_WP d 230 76 [l0, l1, l2, l3, l4, l5, l6, l7, l8] (jI (w32 (x + y)) :: st) σ Q := WP_iadd mq230 dd230_75
theorem dd230_76 : decode cX12_round 76 = .ok (.laload, 1) := by decide +kernel
theorem ww230_76 {d : Nat} {l0 l1 l2 l3 l4 l5 l6 l7 l8 : Option mw_V} {z : Int} {a : Nat} {st : List mw_V} {σ : mw_S} {Q : Option mw_V → mw_S → Prop} : mw_WP d 230 76 [l0, l1, l2, l3, l4, l5, l6, l7, l8] (jI z :: jR a :: st) σ Q ↔ ((0 ≤ z ∧ z < mw_lenW 2 a) ∧ mw_WP d 230 77 [l0, l1, l2, l3, l4, l5, l6, l7, l8] (jL (σ a z.toNat) :: st) σ Q) := WP_laload mq230 dd230_76
theorem dd230_77 : decode cX12_round 77 = .ok (.invokevirtual 287, 3) := by decide +kernel
theorem ww230_77 {d : Nat} {l0 l1 l2 l3 l4 l5 l6 l7 l8 : Option mw_V} {v0 : mw_V} {a : Nat} {st : List mw_V} {σ : mw_S} {Q : Option mw_V → mw_S → Prop} (hr : mw_rc a = 12) (h8 : (st.map mw_cat).sum ≤ 8) : mw_WP d 230 77 [l0, l1, l2, l3, l4, l5, l6, l7, l8] (v0 :: jR a :: st) σ Q ↔ mw_Call d 219 [jR a, v0] σ (fun r1 s1 => mw_WP d 230 80 [l0, l1, l2, l3, l4, l5, l6, l7, l8] (r1.toList ++ st) s1 Q) := WP_inv (as := [v0]) mq230 dd230_77 (by decide) mq219 rfl hr h8
theorem dd230_80 : decode cX12_round 80 = .ok (.ifCond .ne 6, 3) := by decide +kernel
theorem ww230_80 {d : Nat} {l0 l1 l2 l3 l4 l5 l6 l7 l8 : Option mw_V} {x : Int} {st : List mw_V} {σ : mw_S} {Q : Option mw_V → mw_S → Prop} : mw_WP d 230 80 [l0, l1, l2, l3, l4, l5, l6, l7, l8] (jI x :: st) σ Q ↔ (if ¬ x = 0 then mw_WP d 230 86 [l0, l1, l2, l3, l4, l5, l6, l7, l8] st σ Q else mw_WP d 230 83 [l0, l1, l2, l3, l4, l5, l6, l7, l8] st σ Q) := WP_if_ne mq230 dd230_80 (by decide)
theorem dd230_83 : decode cX12_round 83 = .ok (.bipush (-3), 2) := by decide +kernel
theorem ww230_83 {d : Nat} {l0 l1 l2 l3 l4 l5 l6 l7 l8 : Option mw_V} {st : List mw_V} {σ : mw_S} {Q : Option mw_V → mw_S → Prop} : mw_WP d 230 83 [l0, l1, l2, l3, l4, l5, l6, l7, l8] st σ Q ↔ mw_WP d 230 85 [l0, l1, l2, l3, l4, l5, l6, l7, l8] (jI (-3) :: st) σ Q := WP_bipush mq230 dd230_83 (by decide)
theorem dd230_85 : decode cX12_round 85 = .ok (.ireturn, 1) := by decide +kernel
theorem ww230_85 {d : Nat} {l0 l1 l2 l3 l4 l5 l6 l7 l8 : Option mw_V} {z : Int} {σ : mw_S} {Q : Option mw_V → mw_S → Prop} : mw_WP d 230 85 [l0, l1, l2, l3, l4, l5, l6, l7, l8] [jI z] σ Q ↔ Q (some (jI z)) σ := WP_ireturn (ty := .int) mq230 dd230_85 rfl rfl
theorem dd230_86 : decode cX12_round 86 = .ok (.iinc 4 1, 3) := by decide +kernel
theorem ww230_86 {d : Nat} {l0 l1 l2 l3 l5 l6 l7 l8 : Option mw_V} {x : Int} {st : List mw_V} {σ : mw_S} {Q : Option mw_V → mw_S → Prop} (h : mw_nlo l3 = true) : mw_WP d 230 86 [l0, l1, l2, l3, some (jI x), l5, l6, l7, l8] st σ Q ↔ mw_WP d 230 89 [l0, l1, l2, l3, some (jI (w32 (x + (1)))), l5, l6, l7, l8] st σ Q := WP_iinc mq230 dd230_86 rfl (Nat.le_of_ble_eq_true rfl) (mw_nl_of (i := 3) rfl h) rfl
theorem dd230_89 : decode cX12_round 89 = .ok (.goto (-36), 3) := by decide +kernel
theorem ww230_89 {d : Nat} {l0 l1 l2 l3 l4 l5 l6 l7 l8 : Option mw_V} {st : List mw_V} {σ : mw_S} {Q : Option mw_V → mw_S → Prop} : mw_WP d 230 89 [l0, l1, l2, l3, l4, l5, l6, l7, l8] st σ Q ↔ mw_WP d 230 53 [l0, l1, l2, l3, l4, l5, l6, l7, l8] st σ Q := WP_goto mq230 dd230_89 (by decide)
theorem dd230_92 : decode cX12_round 92 = .ok (.aload_n 0, 1) := by decide +kernel
theorem ww230_92 {d : Nat} {l1 l2 l3 l4 l5 l6 l7 l8 : Option mw_V} {x : Nat} {st : List mw_V} {σ : mw_S} {Q : Option mw_V → mw_S → Prop} : mw_WP d 230 92 [some (jR x), l1, l2, l3, l4, l5, l6, l7, l8] st σ Q ↔ mw_WP d 230 93 [some (jR x), l1, l2, l3, l4, l5, l6, l7, l8] (jR x :: st) σ Q := WP_aload_n mq230 dd230_92 rfl
theorem dd230_93 : decode cX12_round 93 = .ok (.invokevirtual 275, 3) := by decide +kernel
theorem ww230_93 {d : Nat} {l0 l1 l2 l3 l4 l5 l6 l7 l8 : Option mw_V} {a : Nat} {st : List mw_V} {σ : mw_S} {Q : Option mw_V → mw_S → Prop} (hr : mw_rc a = 12) (h8 : (st.map mw_cat).sum ≤ 8) : mw_WP d 230 93 [l0, l1, l2, l3, l4, l5, l6, l7, l8] (jR a :: st) σ Q ↔ mw_Call d 214 [jR a] σ (fun r1 s1 => mw_WP d 230 96 [l0, l1, l2, l3, l4, l5, l6, l7, l8] (r1.toList ++ st) s1 Q) := WP_inv (as := []) mq230 dd230_93 (by decide) mq214 rfl hr h8
theorem dd230_96 : decode cX12_round 96 = .ok (.iconst (-1), 1) := by decide +kernel
theorem ww230_96 {d : Nat} {l0 l1 l2 l3 l4 l5 l6 l7 l8 : Option mw_V} {st : List mw_V} {σ : mw_S} {Q : Option mw_V → mw_S → Prop} : mw_WP d 230 96 [l0, l1, l2, l3, l4, l5, l6, l7, l8] st σ Q ↔ mw_WP d 230 97 [l0, l1, l2, l3, l4, l5, l6, l7, l8] (jI (-1) :: st) σ Q := WP_iconst mq230 dd230_96 (by decide)
theorem dd230_97 : decode cX12_round 97 = .ok (.istore 4, 2) := by decide +kernel
theorem ww230_97 {d : Nat} {l0 l1 l2 l3 l4 l5 l6 l7 l8 : Option mw_V} {x : Int} {st : List mw_V} {σ : mw_S} {Q : Option mw_V → mw_S → Prop} (h : mw_nlo l3 = true) : mw_WP d 230 97 [l0, l1, l2, l3, l4, l5, l6, l7, l8] (jI x :: st) σ Q ↔ mw_WP d 230 99 [l0, l1, l2, l3, some (jI x), l5, l6, l7, l8] st σ Q := WP_istore mq230 dd230_97 (Nat.le_of_ble_eq_true rfl) (mw_nl_of (i := 3) rfl h) rfl
theorem dd230_99 : decode cX12_round 99 = .ok (.iconst (-1), 1) := by decide +kernel
theorem ww230_99 {d : Nat} {l0 l1 l2 l3 l4 l5 l6 l7 l8 : Option mw_V} {st : List mw_V} {σ : mw_S} {Q : Option mw_V → mw_S → Prop} : mw_WP d 230 99 [l0, l1, l2, l3, l4, l5, l6, l7, l8] st σ Q ↔ mw_WP d 230 100 [l0, l1, l2, l3, l4, l5, l6, l7, l8] (jI (-1) :: st) σ Q := WP_iconst mq230 dd230_99 (by decide)
theorem dd230_100 : decode cX12_round 100 = .ok (.istore 5, 2) := by decide +kernel
theorem ww230_100 {d : Nat} {l0 l1 l2 l3 l4 l5 l6 l7 l8 : Option mw_V} {x : Int} {st : List mw_V} {σ : mw_S} {Q : Option mw_V → mw_S → Prop} (h : mw_nlo l4 = true) : mw_WP d 230 100 [l0, l1, l2, l3, l4, l5, l6, l7, l8] (jI x :: st) σ Q ↔ mw_WP d 230 102 [l0, l1, l2, l3, l4, some (jI x), l6, l7, l8] st σ Q := WP_istore mq230 dd230_100 (Nat.le_of_ble_eq_true rfl) (mw_nl_of (i := 4) rfl h) rfl
theorem dd230_102 : decode cX12_round 102 = .ok (.iconst 0, 1) := by decide +kernel
theorem ww230_102 {d : Nat} {l0 l1 l2 l3 l4 l5 l6 l7 l8 : Option mw_V} {st : List mw_V} {σ : mw_S} {Q : Option mw_V → mw_S → Prop} : mw_WP d 230 102 [l0, l1, l2, l3, l4, l5, l6, l7, l8] st σ Q ↔ mw_WP d 230 103 [l0, l1, l2, l3, l4, l5, l6, l7, l8] (jI (0) :: st) σ Q := WP_iconst mq230 dd230_102 (by decide)
theorem dd230_103 : decode cX12_round 103 = .ok (.istore 6, 2) := by decide +kernel
theorem ww230_103 {d : Nat} {l0 l1 l2 l3 l4 l5 l6 l7 l8 : Option mw_V} {x : Int} {st : List mw_V} {σ : mw_S} {Q : Option mw_V → mw_S → Prop} (h : mw_nlo l5 = true) : mw_WP d 230 103 [l0, l1, l2, l3, l4, l5, l6, l7, l8] (jI x :: st) σ Q ↔ mw_WP d 230 105 [l0, l1, l2, l3, l4, l5, some (jI x), l7, l8] st σ Q := WP_istore mq230 dd230_103 (Nat.le_of_ble_eq_true rfl) (mw_nl_of (i := 5) rfl h) rfl
theorem dd230_105 : decode cX12_round 105 = .ok (.iload 6, 2) := by decide +kernel
theorem ww230_105 {d : Nat} {l0 l1 l2 l3 l4 l5 l7 l8 : Option mw_V} {x : Int} {st : List mw_V} {σ : mw_S} {Q : Option mw_V → mw_S → Prop} : mw_WP d 230 105 [l0, l1, l2, l3, l4, l5, some (jI x), l7, l8] st σ Q ↔ mw_WP d 230 107 [l0, l1, l2, l3, l4, l5, some (jI x), l7, l8] (jI x :: st) σ Q := WP_iload mq230 dd230_105 rfl
theorem dd230_107 : decode cX12_round 107 = .ok (.sipush 200, 3) := by decide +kernel
theorem ww230_107 {d : Nat} {l0 l1 l2 l3 l4 l5 l6 l7 l8 : Option mw_V} {st : List mw_V} {σ : mw_S} {Q : Option mw_V → mw_S → Prop} : mw_WP d 230 107 [l0, l1, l2, l3, l4, l5, l6, l7, l8] st σ Q ↔ mw_WP d 230 110 [l0, l1, l2, l3, l4, l5, l6, l7, l8] (jI (200) :: st) σ Q := WP_sipush mq230 dd230_107 (by decide)
theorem dd230_110 : decode cX12_round 110 = .ok (.if_icmp .gt 148, 3) := by decide +kernel
theorem ww230_110 {d : Nat} {l0 l1 l2 l3 l4 l5 l6 l7 l8 : Option mw_V} {x y : Int} {st : List mw_V} {σ : mw_S} {Q : Option mw_V → mw_S → Prop} : mw_WP d 230 110 [l0, l1, l2, l3, l4, l5, l6, l7, l8] (jI y :: jI x :: st) σ Q ↔ (if y < x then mw_WP d 230 258 [l0, l1, l2, l3, l4, l5, l6, l7, l8] st σ Q else mw_WP d 230 113 [l0, l1, l2, l3, l4, l5, l6, l7, l8] st σ Q) := WP_icmp_gt mq230 dd230_110 (by decide)
theorem dd230_113 : decode cX12_round 113 = .ok (.iload 4, 2) := by decide +kernel
theorem ww230_113 {d : Nat} {l0 l1 l2 l3 l5 l6 l7 l8 : Option mw_V} {x : Int} {st : List mw_V} {σ : mw_S} {Q : Option mw_V → mw_S → Prop} : mw_WP d 230 113 [l0, l1, l2, l3, some (jI x), l5, l6, l7, l8] st σ Q ↔ mw_WP d 230 115 [l0, l1, l2, l3, some (jI x), l5, l6, l7, l8] (jI x :: st) σ Q := WP_iload mq230 dd230_113 rfl
theorem dd230_115 : decode cX12_round 115 = .ok (.iconst (-1), 1) := by decide +kernel
theorem ww230_115 {d : Nat} {l0 l1 l2 l3 l4 l5 l6 l7 l8 : Option mw_V} {st : List mw_V} {σ : mw_S} {Q : Option mw_V → mw_S → Prop} : mw_WP d 230 115 [l0, l1, l2, l3, l4, l5, l6, l7, l8] st σ Q ↔ mw_WP d 230 116 [l0, l1, l2, l3, l4, l5, l6, l7, l8] (jI (-1) :: st) σ Q := WP_iconst mq230 dd230_115 (by decide)
theorem dd230_116 : decode cX12_round 116 = .ok (.if_icmp .ne 142, 3) := by decide +kernel
theorem ww230_116 {d : Nat} {l0 l1 l2 l3 l4 l5 l6 l7 l8 : Option mw_V} {x y : Int} {st : List mw_V} {σ : mw_S} {Q : Option mw_V → mw_S → Prop} : mw_WP d 230 116 [l0, l1, l2, l3, l4, l5, l6, l7, l8] (jI y :: jI x :: st) σ Q ↔ (if ¬ x = y then mw_WP d 230 258 [l0, l1, l2, l3, l4, l5, l6, l7, l8] st σ Q else mw_WP d 230 119 [l0, l1, l2, l3, l4, l5, l6, l7, l8] st σ Q) := WP_icmp_ne mq230 dd230_116 (by decide)
theorem dd230_119 : decode cX12_round 119 = .ok (.iconst 0, 1) := by decide +kernel
theorem ww230_119 {d : Nat} {l0 l1 l2 l3 l4 l5 l6 l7 l8 : Option mw_V} {st : List mw_V} {σ : mw_S} {Q : Option mw_V → mw_S → Prop} : mw_WP d 230 119 [l0, l1, l2, l3, l4, l5, l6, l7, l8] st σ Q ↔ mw_WP d 230 120 [l0, l1, l2, l3, l4, l5, l6, l7, l8] (jI (0) :: st) σ Q := WP_iconst mq230 dd230_119 (by decide)
theorem dd230_120 : decode cX12_round 120 = .ok (.istore 7, 2) := by decide +kernel
theorem ww230_120 {d : Nat} {l0 l1 l2 l3 l4 l5 l6 l7 l8 : Option mw_V} {x : Int} {st : List mw_V} {σ : mw_S} {Q : Option mw_V → mw_S → Prop} (h : mw_nlo l6 = true) : mw_WP d 230 120 [l0, l1, l2, l3, l4, l5, l6, l7, l8] (jI x :: st) σ Q ↔ mw_WP d 230 122 [l0, l1, l2, l3, l4, l5, l6, some (jI x), l8] st σ Q := WP_istore mq230 dd230_120 (Nat.le_of_ble_eq_true rfl) (mw_nl_of (i := 6) rfl h) rfl
theorem dd230_122 : decode cX12_round 122 = .ok (.iload 7, 2) := by decide +kernel
theorem ww230_122 {d : Nat} {l0 l1 l2 l3 l4 l5 l6 l8 : Option mw_V} {x : Int} {st : List mw_V} {σ : mw_S} {Q : Option mw_V → mw_S → Prop} : mw_WP d 230 122 [l0, l1, l2, l3, l4, l5, l6, some (jI x), l8] st σ Q ↔ mw_WP d 230 124 [l0, l1, l2, l3, l4, l5, l6, some (jI x), l8] (jI x :: st) σ Q := WP_iload mq230 dd230_122 rfl
theorem dd230_124 : decode cX12_round 124 = .ok (.bipush 34, 2) := by decide +kernel
theorem ww230_124 {d : Nat} {l0 l1 l2 l3 l4 l5 l6 l7 l8 : Option mw_V} {st : List mw_V} {σ : mw_S} {Q : Option mw_V → mw_S → Prop} : mw_WP d 230 124 [l0, l1, l2, l3, l4, l5, l6, l7, l8] st σ Q ↔ mw_WP d 230 126 [l0, l1, l2, l3, l4, l5, l6, l7, l8] (jI (34) :: st) σ Q := WP_bipush mq230 dd230_124 (by decide)
theorem dd230_126 : decode cX12_round 126 = .ok (.if_icmp .ge 32, 3) := by decide +kernel
theorem ww230_126 {d : Nat} {l0 l1 l2 l3 l4 l5 l6 l7 l8 : Option mw_V} {x y : Int} {st : List mw_V} {σ : mw_S} {Q : Option mw_V → mw_S → Prop} : mw_WP d 230 126 [l0, l1, l2, l3, l4, l5, l6, l7, l8] (jI y :: jI x :: st) σ Q ↔ (if y ≤ x then mw_WP d 230 158 [l0, l1, l2, l3, l4, l5, l6, l7, l8] st σ Q else mw_WP d 230 129 [l0, l1, l2, l3, l4, l5, l6, l7, l8] st σ Q) := WP_icmp_ge mq230 dd230_126 (by decide)
theorem dd230_129 : decode cX12_round 129 = .ok (.aload_n 0, 1) := by decide +kernel
theorem ww230_129 {d : Nat} {l1 l2 l3 l4 l5 l6 l7 l8 : Option mw_V} {x : Nat} {st : List mw_V} {σ : mw_S} {Q : Option mw_V → mw_S → Prop} : mw_WP d 230 129 [some (jR x), l1, l2, l3, l4, l5, l6, l7, l8] st σ Q ↔ mw_WP d 230 130 [some (jR x), l1, l2, l3, l4, l5, l6, l7, l8] (jR x :: st) σ Q := WP_aload_n mq230 dd230_129 rfl
theorem dd230_130 : decode cX12_round 130 = .ok (.getfield 39, 3) := by decide +kernel
theorem ww230_130 {d : Nat} {l0 l1 l2 l3 l4 l5 l6 l7 l8 : Option mw_V} {st : List mw_V} {σ : mw_S} {Q : Option mw_V → mw_S → Prop} : mw_WP d 230 130 [l0, l1, l2, l3, l4, l5, l6, l7, l8] (jR 100 :: st) σ Q ↔ mw_WP d 230 133 [l0, l1, l2, l3, l4, l5, l6, l7, l8] (jR 108 :: st) σ Q := WP_getR (ci := 11) (k := 26) mq230 dd230_130 (by decide) rfl
theorem dd230_133 : decode cX12_round 133 = .ok (.bipush 34, 2) := by decide +kernel
theorem ww230_133 {d : Nat} {l0 l1 l2 l3 l4 l5 l6 l7 l8 : Option mw_V} {st : List mw_V} {σ : mw_S} {Q : Option mw_V → mw_S → Prop} : mw_WP d 230 133 [l0, l1, l2, l3, l4, l5, l6, l7, l8] st σ Q ↔ mw_WP d 230 135 [l0, l1, l2, l3, l4, l5, l6, l7, l8] (jI (34) :: st) σ Q := WP_bipush mq230 dd230_133 (by decide)
theorem dd230_135 : decode cX12_round 135 = .ok (.iload 6, 2) := by decide +kernel
theorem ww230_135 {d : Nat} {l0 l1 l2 l3 l4 l5 l7 l8 : Option mw_V} {x : Int} {st : List mw_V} {σ : mw_S} {Q : Option mw_V → mw_S → Prop} : mw_WP d 230 135 [l0, l1, l2, l3, l4, l5, some (jI x), l7, l8] st σ Q ↔ mw_WP d 230 137 [l0, l1, l2, l3, l4, l5, some (jI x), l7, l8] (jI x :: st) σ Q := WP_iload mq230 dd230_135 rfl
theorem dd230_137 : decode cX12_round 137 = .ok (.imul, 1) := by decide +kernel
theorem ww230_137 {d : Nat} {l0 l1 l2 l3 l4 l5 l6 l7 l8 : Option mw_V} {x y : Int} {st : List mw_V} {σ : mw_S} {Q : Option mw_V → mw_S → Prop} : mw_WP d 230 137 [l0, l1, l2, l3, l4, l5, l6, l7, l8] (jI y :: jI x :: st) σ Q ↔ mw_WP d 230 138 [l0, l1, l2, l3, l4, l5, l6, l7, l8] (jI (w32 (x * y)) :: st) σ Q := WP_imul mq230 dd230_137
theorem dd230_138 : decode cX12_round 138 = .ok (.iload 7, 2) := by decide +kernel
theorem ww230_138 {d : Nat} {l0 l1 l2 l3 l4 l5 l6 l8 : Option mw_V} {x : Int} {st : List mw_V} {σ : mw_S} {Q : Option mw_V → mw_S → Prop} : mw_WP d 230 138 [l0, l1, l2, l3, l4, l5, l6, some (jI x), l8] st σ Q ↔ mw_WP d 230 140 [l0, l1, l2, l3, l4, l5, l6, some (jI x), l8] (jI x :: st) σ Q := WP_iload mq230 dd230_138 rfl
theorem dd230_140 : decode cX12_round 140 = .ok (.iadd, 1) := by decide +kernel
theorem ww230_140 {d : Nat} {l0 l1 l2 l3 l4 l5 l6 l7 l8 : Option mw_V} {x y : Int} {st : List mw_V} {σ : mw_S} {Q : Option mw_V → mw_S → Prop} : mw_WP d 230 140 [l0, l1, l2, l3, l4, l5, l6, l7, l8] (jI y :: jI x :: st) σ Q ↔ mw_WP d 230 141 [l0, l1, l2, l3, l4, l5, l6, l7, l8] (jI (w32 (x + y)) :: st) σ Q := WP_iadd mq230 dd230_140
theorem dd230_141 : decode cX12_round 141 = .ok (.aload_n 0, 1) := by decide +kernel
theorem ww230_141 {d : Nat} {l1 l2 l3 l4 l5 l6 l7 l8 : Option mw_V} {x : Nat} {st : List mw_V} {σ : mw_S} {Q : Option mw_V → mw_S → Prop} : mw_WP d 230 141 [some (jR x), l1, l2, l3, l4, l5, l6, l7, l8] st σ Q ↔ mw_WP d 230 142 [some (jR x), l1, l2, l3, l4, l5, l6, l7, l8] (jR x :: st) σ Q := WP_aload_n mq230 dd230_141 rfl
theorem dd230_142 : decode cX12_round 142 = .ok (.getfield 13, 3) := by decide +kernel
theorem ww230_142 {d : Nat} {l0 l1 l2 l3 l4 l5 l6 l7 l8 : Option mw_V} {st : List mw_V} {σ : mw_S} {Q : Option mw_V → mw_S → Prop} : mw_WP d 230 142 [l0, l1, l2, l3, l4, l5, l6, l7, l8] (jR 100 :: st) σ Q ↔ mw_WP d 230 145 [l0, l1, l2, l3, l4, l5, l6, l7, l8] (jR 101 :: st) σ Q := WP_getR (ci := 11) (k := 1) mq230 dd230_142 (by decide) rfl
theorem dd230_145 : decode cX12_round 145 = .ok (.bipush 41, 2) := by decide +kernel
theorem ww230_145 {d : Nat} {l0 l1 l2 l3 l4 l5 l6 l7 l8 : Option mw_V} {st : List mw_V} {σ : mw_S} {Q : Option mw_V → mw_S → Prop} : mw_WP d 230 145 [l0, l1, l2, l3, l4, l5, l6, l7, l8] st σ Q ↔ mw_WP d 230 147 [l0, l1, l2, l3, l4, l5, l6, l7, l8] (jI (41) :: st) σ Q := WP_bipush mq230 dd230_145 (by decide)
theorem dd230_147 : decode cX12_round 147 = .ok (.iload 7, 2) := by decide +kernel
theorem ww230_147 {d : Nat} {l0 l1 l2 l3 l4 l5 l6 l8 : Option mw_V} {x : Int} {st : List mw_V} {σ : mw_S} {Q : Option mw_V → mw_S → Prop} : mw_WP d 230 147 [l0, l1, l2, l3, l4, l5, l6, some (jI x), l8] st σ Q ↔ mw_WP d 230 149 [l0, l1, l2, l3, l4, l5, l6, some (jI x), l8] (jI x :: st) σ Q := WP_iload mq230 dd230_147 rfl
theorem dd230_149 : decode cX12_round 149 = .ok (.iadd, 1) := by decide +kernel
theorem ww230_149 {d : Nat} {l0 l1 l2 l3 l4 l5 l6 l7 l8 : Option mw_V} {x y : Int} {st : List mw_V} {σ : mw_S} {Q : Option mw_V → mw_S → Prop} : mw_WP d 230 149 [l0, l1, l2, l3, l4, l5, l6, l7, l8] (jI y :: jI x :: st) σ Q ↔ mw_WP d 230 150 [l0, l1, l2, l3, l4, l5, l6, l7, l8] (jI (w32 (x + y)) :: st) σ Q := WP_iadd mq230 dd230_149
theorem dd230_150 : decode cX12_round 150 = .ok (.iaload, 1) := by decide +kernel
theorem ww230_150 {d : Nat} {l0 l1 l2 l3 l4 l5 l6 l7 l8 : Option mw_V} {z : Int} {a : Nat} {st : List mw_V} {σ : mw_S} {Q : Option mw_V → mw_S → Prop} : mw_WP d 230 150 [l0, l1, l2, l3, l4, l5, l6, l7, l8] (jI z :: jR a :: st) σ Q ↔ ((0 ≤ z ∧ z < mw_lenI a) ∧ mw_WP d 230 151 [l0, l1, l2, l3, l4, l5, l6, l7, l8] (jI (mw_rdI σ a z.toNat) :: st) σ Q) := WP_iaload mq230 dd230_150
theorem dd230_151 : decode cX12_round 151 = .ok (.iastore, 1) := by decide +kernel
theorem ww230_151 {d : Nat} {l0 l1 l2 l3 l4 l5 l6 l7 l8 : Option mw_V} {x z : Int} {a : Nat} {st : List mw_V} {σ : mw_S} {Q : Option mw_V → mw_S → Prop} : mw_WP d 230 151 [l0, l1, l2, l3, l4, l5, l6, l7, l8] (jI x :: jI z :: jR a :: st) σ Q ↔ ((0 ≤ z ∧ z < mw_lenW 0 a) ∧ mw_WP d 230 152 [l0, l1, l2, l3, l4, l5, l6, l7, l8] st (upS σ a z.toNat x) Q) := WP_iastore mq230 dd230_151
theorem dd230_152 : decode cX12_round 152 = .ok (.iinc 7 1, 3) := by decide +kernel
theorem ww230_152 {d : Nat} {l0 l1 l2 l3 l4 l5 l6 l8 : Option mw_V} {x : Int} {st : List mw_V} {σ : mw_S} {Q : Option mw_V → mw_S → Prop} (h : mw_nlo l6 = true) : mw_WP d 230 152 [l0, l1, l2, l3, l4, l5, l6, some (jI x), l8] st σ Q ↔ mw_WP d 230 155 [l0, l1, l2, l3, l4, l5, l6, some (jI (w32 (x + (1)))), l8] st σ Q := WP_iinc mq230 dd230_152 rfl (Nat.le_of_ble_eq_true rfl) (mw_nl_of (i := 6) rfl h) rfl
theorem dd230_155 : decode cX12_round 155 = .ok (.goto (-33), 3) := by decide +kernel
theorem ww230_155 {d : Nat} {l0 l1 l2 l3 l4 l5 l6 l7 l8 : Option mw_V} {st : List mw_V} {σ : mw_S} {Q : Option mw_V → mw_S → Prop} : mw_WP d 230 155 [l0, l1, l2, l3, l4, l5, l6, l7, l8] st σ Q ↔ mw_WP d 230 122 [l0, l1, l2, l3, l4, l5, l6, l7, l8] st σ Q := WP_goto mq230 dd230_155 (by decide)
theorem dd230_158 : decode cX12_round 158 = .ok (.iconst 0, 1) := by decide +kernel
theorem ww230_158 {d : Nat} {l0 l1 l2 l3 l4 l5 l6 l7 l8 : Option mw_V} {st : List mw_V} {σ : mw_S} {Q : Option mw_V → mw_S → Prop} : mw_WP d 230 158 [l0, l1, l2, l3, l4, l5, l6, l7, l8] st σ Q ↔ mw_WP d 230 159 [l0, l1, l2, l3, l4, l5, l6, l7, l8] (jI (0) :: st) σ Q := WP_iconst mq230 dd230_158 (by decide)
theorem dd230_159 : decode cX12_round 159 = .ok (.istore 7, 2) := by decide +kernel
theorem ww230_159 {d : Nat} {l0 l1 l2 l3 l4 l5 l6 l7 l8 : Option mw_V} {x : Int} {st : List mw_V} {σ : mw_S} {Q : Option mw_V → mw_S → Prop} (h : mw_nlo l6 = true) : mw_WP d 230 159 [l0, l1, l2, l3, l4, l5, l6, l7, l8] (jI x :: st) σ Q ↔ mw_WP d 230 161 [l0, l1, l2, l3, l4, l5, l6, some (jI x), l8] st σ Q := WP_istore mq230 dd230_159 (Nat.le_of_ble_eq_true rfl) (mw_nl_of (i := 6) rfl h) rfl
theorem dd230_161 : decode cX12_round 161 = .ok (.iload 7, 2) := by decide +kernel
theorem ww230_161 {d : Nat} {l0 l1 l2 l3 l4 l5 l6 l8 : Option mw_V} {x : Int} {st : List mw_V} {σ : mw_S} {Q : Option mw_V → mw_S → Prop} : mw_WP d 230 161 [l0, l1, l2, l3, l4, l5, l6, some (jI x), l8] st σ Q ↔ mw_WP d 230 163 [l0, l1, l2, l3, l4, l5, l6, some (jI x), l8] (jI x :: st) σ Q := WP_iload mq230 dd230_161 rfl
theorem dd230_163 : decode cX12_round 163 = .ok (.iload 6, 2) := by decide +kernel
theorem ww230_163 {d : Nat} {l0 l1 l2 l3 l4 l5 l7 l8 : Option mw_V} {x : Int} {st : List mw_V} {σ : mw_S} {Q : Option mw_V → mw_S → Prop} : mw_WP d 230 163 [l0, l1, l2, l3, l4, l5, some (jI x), l7, l8] st σ Q ↔ mw_WP d 230 165 [l0, l1, l2, l3, l4, l5, some (jI x), l7, l8] (jI x :: st) σ Q := WP_iload mq230 dd230_163 rfl
theorem dd230_165 : decode cX12_round 165 = .ok (.if_icmp .ge 81, 3) := by decide +kernel
theorem ww230_165 {d : Nat} {l0 l1 l2 l3 l4 l5 l6 l7 l8 : Option mw_V} {x y : Int} {st : List mw_V} {σ : mw_S} {Q : Option mw_V → mw_S → Prop} : mw_WP d 230 165 [l0, l1, l2, l3, l4, l5, l6, l7, l8] (jI y :: jI x :: st) σ Q ↔ (if y ≤ x then mw_WP d 230 246 [l0, l1, l2, l3, l4, l5, l6, l7, l8] st σ Q else mw_WP d 230 168 [l0, l1, l2, l3, l4, l5, l6, l7, l8] st σ Q) := WP_icmp_ge mq230 dd230_165 (by decide)
theorem dd230_168 : decode cX12_round 168 = .ok (.iload 4, 2) := by decide +kernel
theorem ww230_168 {d : Nat} {l0 l1 l2 l3 l5 l6 l7 l8 : Option mw_V} {x : Int} {st : List mw_V} {σ : mw_S} {Q : Option mw_V → mw_S → Prop} : mw_WP d 230 168 [l0, l1, l2, l3, some (jI x), l5, l6, l7, l8] st σ Q ↔ mw_WP d 230 170 [l0, l1, l2, l3, some (jI x), l5, l6, l7, l8] (jI x :: st) σ Q := WP_iload mq230 dd230_168 rfl
theorem dd230_170 : decode cX12_round 170 = .ok (.iconst (-1), 1) := by decide +kernel
theorem ww230_170 {d : Nat} {l0 l1 l2 l3 l4 l5 l6 l7 l8 : Option mw_V} {st : List mw_V} {σ : mw_S} {Q : Option mw_V → mw_S → Prop} : mw_WP d 230 170 [l0, l1, l2, l3, l4, l5, l6, l7, l8] st σ Q ↔ mw_WP d 230 171 [l0, l1, l2, l3, l4, l5, l6, l7, l8] (jI (-1) :: st) σ Q := WP_iconst mq230 dd230_170 (by decide)
theorem dd230_171 : decode cX12_round 171 = .ok (.if_icmp .ne 75, 3) := by decide +kernel
theorem ww230_171 {d : Nat} {l0 l1 l2 l3 l4 l5 l6 l7 l8 : Option mw_V} {x y : Int} {st : List mw_V} {σ : mw_S} {Q : Option mw_V → mw_S → Prop} : mw_WP d 230 171 [l0, l1, l2, l3, l4, l5, l6, l7, l8] (jI y :: jI x :: st) σ Q ↔ (if ¬ x = y then mw_WP d 230 246 [l0, l1, l2, l3, l4, l5, l6, l7, l8] st σ Q else mw_WP d 230 174 [l0, l1, l2, l3, l4, l5, l6, l7, l8] st σ Q) := WP_icmp_ne mq230 dd230_171 (by decide)
theorem dd230_174 : decode cX12_round 174 = .ok (.iconst 0, 1) := by decide +kernel
theorem ww230_174 {d : Nat} {l0 l1 l2 l3 l4 l5 l6 l7 l8 : Option mw_V} {st : List mw_V} {σ : mw_S} {Q : Option mw_V → mw_S → Prop} : mw_WP d 230 174 [l0, l1, l2, l3, l4, l5, l6, l7, l8] st σ Q ↔ mw_WP d 230 175 [l0, l1, l2, l3, l4, l5, l6, l7, l8] (jI (0) :: st) σ Q := WP_iconst mq230 dd230_174 (by decide)
theorem dd230_175 : decode cX12_round 175 = .ok (.istore 8, 2) := by decide +kernel
theorem ww230_175 {d : Nat} {l0 l1 l2 l3 l4 l5 l6 l7 l8 : Option mw_V} {x : Int} {st : List mw_V} {σ : mw_S} {Q : Option mw_V → mw_S → Prop} (h : mw_nlo l7 = true) : mw_WP d 230 175 [l0, l1, l2, l3, l4, l5, l6, l7, l8] (jI x :: st) σ Q ↔ mw_WP d 230 177 [l0, l1, l2, l3, l4, l5, l6, l7, some (jI x)] st σ Q := WP_istore mq230 dd230_175 (Nat.le_of_ble_eq_true rfl) (mw_nl_of (i := 7) rfl h) rfl
theorem dd230_177 : decode cX12_round 177 = .ok (.iload 8, 2) := by decide +kernel
theorem ww230_177 {d : Nat} {l0 l1 l2 l3 l4 l5 l6 l7 : Option mw_V} {x : Int} {st : List mw_V} {σ : mw_S} {Q : Option mw_V → mw_S → Prop} : mw_WP d 230 177 [l0, l1, l2, l3, l4, l5, l6, l7, some (jI x)] st σ Q ↔ mw_WP d 230 179 [l0, l1, l2, l3, l4, l5, l6, l7, some (jI x)] (jI x :: st) σ Q := WP_iload mq230 dd230_177 rfl
theorem dd230_179 : decode cX12_round 179 = .ok (.bipush 34, 2) := by decide +kernel
theorem ww230_179 {d : Nat} {l0 l1 l2 l3 l4 l5 l6 l7 l8 : Option mw_V} {st : List mw_V} {σ : mw_S} {Q : Option mw_V → mw_S → Prop} : mw_WP d 230 179 [l0, l1, l2, l3, l4, l5, l6, l7, l8] st σ Q ↔ mw_WP d 230 181 [l0, l1, l2, l3, l4, l5, l6, l7, l8] (jI (34) :: st) σ Q := WP_bipush mq230 dd230_179 (by decide)
theorem dd230_181 : decode cX12_round 181 = .ok (.if_icmp .ge 38, 3) := by decide +kernel
theorem ww230_181 {d : Nat} {l0 l1 l2 l3 l4 l5 l6 l7 l8 : Option mw_V} {x y : Int} {st : List mw_V} {σ : mw_S} {Q : Option mw_V → mw_S → Prop} : mw_WP d 230 181 [l0, l1, l2, l3, l4, l5, l6, l7, l8] (jI y :: jI x :: st) σ Q ↔ (if y ≤ x then mw_WP d 230 219 [l0, l1, l2, l3, l4, l5, l6, l7, l8] st σ Q else mw_WP d 230 184 [l0, l1, l2, l3, l4, l5, l6, l7, l8] st σ Q) := WP_icmp_ge mq230 dd230_181 (by decide)
theorem dd230_184 : decode cX12_round 184 = .ok (.aload_n 0, 1) := by decide +kernel
theorem ww230_184 {d : Nat} {l1 l2 l3 l4 l5 l6 l7 l8 : Option mw_V} {x : Nat} {st : List mw_V} {σ : mw_S} {Q : Option mw_V → mw_S → Prop} : mw_WP d 230 184 [some (jR x), l1, l2, l3, l4, l5, l6, l7, l8] st σ Q ↔ mw_WP d 230 185 [some (jR x), l1, l2, l3, l4, l5, l6, l7, l8] (jR x :: st) σ Q := WP_aload_n mq230 dd230_184 rfl
theorem dd230_185 : decode cX12_round 185 = .ok (.getfield 39, 3) := by decide +kernel
theorem ww230_185 {d : Nat} {l0 l1 l2 l3 l4 l5 l6 l7 l8 : Option mw_V} {st : List mw_V} {σ : mw_S} {Q : Option mw_V → mw_S → Prop} : mw_WP d 230 185 [l0, l1, l2, l3, l4, l5, l6, l7, l8] (jR 100 :: st) σ Q ↔ mw_WP d 230 188 [l0, l1, l2, l3, l4, l5, l6, l7, l8] (jR 108 :: st) σ Q := WP_getR (ci := 11) (k := 26) mq230 dd230_185 (by decide) rfl
theorem dd230_188 : decode cX12_round 188 = .ok (.bipush 34, 2) := by decide +kernel
theorem ww230_188 {d : Nat} {l0 l1 l2 l3 l4 l5 l6 l7 l8 : Option mw_V} {st : List mw_V} {σ : mw_S} {Q : Option mw_V → mw_S → Prop} : mw_WP d 230 188 [l0, l1, l2, l3, l4, l5, l6, l7, l8] st σ Q ↔ mw_WP d 230 190 [l0, l1, l2, l3, l4, l5, l6, l7, l8] (jI (34) :: st) σ Q := WP_bipush mq230 dd230_188 (by decide)
theorem dd230_190 : decode cX12_round 190 = .ok (.iload 7, 2) := by decide +kernel
theorem ww230_190 {d : Nat} {l0 l1 l2 l3 l4 l5 l6 l8 : Option mw_V} {x : Int} {st : List mw_V} {σ : mw_S} {Q : Option mw_V → mw_S → Prop} : mw_WP d 230 190 [l0, l1, l2, l3, l4, l5, l6, some (jI x), l8] st σ Q ↔ mw_WP d 230 192 [l0, l1, l2, l3, l4, l5, l6, some (jI x), l8] (jI x :: st) σ Q := WP_iload mq230 dd230_190 rfl
theorem dd230_192 : decode cX12_round 192 = .ok (.imul, 1) := by decide +kernel
theorem ww230_192 {d : Nat} {l0 l1 l2 l3 l4 l5 l6 l7 l8 : Option mw_V} {x y : Int} {st : List mw_V} {σ : mw_S} {Q : Option mw_V → mw_S → Prop} : mw_WP d 230 192 [l0, l1, l2, l3, l4, l5, l6, l7, l8] (jI y :: jI x :: st) σ Q ↔ mw_WP d 230 193 [l0, l1, l2, l3, l4, l5, l6, l7, l8] (jI (w32 (x * y)) :: st) σ Q := WP_imul mq230 dd230_192
theorem dd230_193 : decode cX12_round 193 = .ok (.iload 8, 2) := by decide +kernel
theorem ww230_193 {d : Nat} {l0 l1 l2 l3 l4 l5 l6 l7 : Option mw_V} {x : Int} {st : List mw_V} {σ : mw_S} {Q : Option mw_V → mw_S → Prop} : mw_WP d 230 193 [l0, l1, l2, l3, l4, l5, l6, l7, some (jI x)] st σ Q ↔ mw_WP d 230 195 [l0, l1, l2, l3, l4, l5, l6, l7, some (jI x)] (jI x :: st) σ Q := WP_iload mq230 dd230_193 rfl
theorem dd230_195 : decode cX12_round 195 = .ok (.iadd, 1) := by decide +kernel
theorem ww230_195 {d : Nat} {l0 l1 l2 l3 l4 l5 l6 l7 l8 : Option mw_V} {x y : Int} {st : List mw_V} {σ : mw_S} {Q : Option mw_V → mw_S → Prop} : mw_WP d 230 195 [l0, l1, l2, l3, l4, l5, l6, l7, l8] (jI y :: jI x :: st) σ Q ↔ mw_WP d 230 196 [l0, l1, l2, l3, l4, l5, l6, l7, l8] (jI (w32 (x + y)) :: st) σ Q := WP_iadd mq230 dd230_195
theorem dd230_196 : decode cX12_round 196 = .ok (.iaload, 1) := by decide +kernel
theorem ww230_196 {d : Nat} {l0 l1 l2 l3 l4 l5 l6 l7 l8 : Option mw_V} {z : Int} {a : Nat} {st : List mw_V} {σ : mw_S} {Q : Option mw_V → mw_S → Prop} : mw_WP d 230 196 [l0, l1, l2, l3, l4, l5, l6, l7, l8] (jI z :: jR a :: st) σ Q ↔ ((0 ≤ z ∧ z < mw_lenI a) ∧ mw_WP d 230 197 [l0, l1, l2, l3, l4, l5, l6, l7, l8] (jI (mw_rdI σ a z.toNat) :: st) σ Q) := WP_iaload mq230 dd230_196
theorem dd230_197 : decode cX12_round 197 = .ok (.aload_n 0, 1) := by decide +kernel
theorem ww230_197 {d : Nat} {l1 l2 l3 l4 l5 l6 l7 l8 : Option mw_V} {x : Nat} {st : List mw_V} {σ : mw_S} {Q : Option mw_V → mw_S → Prop} : mw_WP d 230 197 [some (jR x), l1, l2, l3, l4, l5, l6, l7, l8] st σ Q ↔ mw_WP d 230 198 [some (jR x), l1, l2, l3, l4, l5, l6, l7, l8] (jR x :: st) σ Q := WP_aload_n mq230 dd230_197 rfl
theorem dd230_198 : decode cX12_round 198 = .ok (.getfield 39, 3) := by decide +kernel
theorem ww230_198 {d : Nat} {l0 l1 l2 l3 l4 l5 l6 l7 l8 : Option mw_V} {st : List mw_V} {σ : mw_S} {Q : Option mw_V → mw_S → Prop} : mw_WP d 230 198 [l0, l1, l2, l3, l4, l5, l6, l7, l8] (jR 100 :: st) σ Q ↔ mw_WP d 230 201 [l0, l1, l2, l3, l4, l5, l6, l7, l8] (jR 108 :: st) σ Q := WP_getR (ci := 11) (k := 26) mq230 dd230_198 (by decide) rfl
theorem dd230_201 : decode cX12_round 201 = .ok (.bipush 34, 2) := by decide +kernel
theorem ww230_201 {d : Nat} {l0 l1 l2 l3 l4 l5 l6 l7 l8 : Option mw_V} {st : List mw_V} {σ : mw_S} {Q : Option mw_V → mw_S → Prop} : mw_WP d 230 201 [l0, l1, l2, l3, l4, l5, l6, l7, l8] st σ Q ↔ mw_WP d 230 203 [l0, l1, l2, l3, l4, l5, l6, l7, l8] (jI (34) :: st) σ Q := WP_bipush mq230 dd230_201 (by decide)
theorem dd230_203 : decode cX12_round 203 = .ok (.iload 6, 2) := by decide +kernel
theorem ww230_203 {d : Nat} {l0 l1 l2 l3 l4 l5 l7 l8 : Option mw_V} {x : Int} {st : List mw_V} {σ : mw_S} {Q : Option mw_V → mw_S → Prop} : mw_WP d 230 203 [l0, l1, l2, l3, l4, l5, some (jI x), l7, l8] st σ Q ↔ mw_WP d 230 205 [l0, l1, l2, l3, l4, l5, some (jI x), l7, l8] (jI x :: st) σ Q := WP_iload mq230 dd230_203 rfl
theorem dd230_205 : decode cX12_round 205 = .ok (.imul, 1) := by decide +kernel
theorem ww230_205 {d : Nat} {l0 l1 l2 l3 l4 l5 l6 l7 l8 : Option mw_V} {x y : Int} {st : List mw_V} {σ : mw_S} {Q : Option mw_V → mw_S → Prop} : mw_WP d 230 205 [l0, l1, l2, l3, l4, l5, l6, l7, l8] (jI y :: jI x :: st) σ Q ↔ mw_WP d 230 206 [l0, l1, l2, l3, l4, l5, l6, l7, l8] (jI (w32 (x * y)) :: st) σ Q := WP_imul mq230 dd230_205
theorem dd230_206 : decode cX12_round 206 = .ok (.iload 8, 2) := by decide +kernel
theorem ww230_206 {d : Nat} {l0 l1 l2 l3 l4 l5 l6 l7 : Option mw_V} {x : Int} {st : List mw_V} {σ : mw_S} {Q : Option mw_V → mw_S → Prop} : mw_WP d 230 206 [l0, l1, l2, l3, l4, l5, l6, l7, some (jI x)] st σ Q ↔ mw_WP d 230 208 [l0, l1, l2, l3, l4, l5, l6, l7, some (jI x)] (jI x :: st) σ Q := WP_iload mq230 dd230_206 rfl
theorem dd230_208 : decode cX12_round 208 = .ok (.iadd, 1) := by decide +kernel
theorem ww230_208 {d : Nat} {l0 l1 l2 l3 l4 l5 l6 l7 l8 : Option mw_V} {x y : Int} {st : List mw_V} {σ : mw_S} {Q : Option mw_V → mw_S → Prop} : mw_WP d 230 208 [l0, l1, l2, l3, l4, l5, l6, l7, l8] (jI y :: jI x :: st) σ Q ↔ mw_WP d 230 209 [l0, l1, l2, l3, l4, l5, l6, l7, l8] (jI (w32 (x + y)) :: st) σ Q := WP_iadd mq230 dd230_208
theorem dd230_209 : decode cX12_round 209 = .ok (.iaload, 1) := by decide +kernel
theorem ww230_209 {d : Nat} {l0 l1 l2 l3 l4 l5 l6 l7 l8 : Option mw_V} {z : Int} {a : Nat} {st : List mw_V} {σ : mw_S} {Q : Option mw_V → mw_S → Prop} : mw_WP d 230 209 [l0, l1, l2, l3, l4, l5, l6, l7, l8] (jI z :: jR a :: st) σ Q ↔ ((0 ≤ z ∧ z < mw_lenI a) ∧ mw_WP d 230 210 [l0, l1, l2, l3, l4, l5, l6, l7, l8] (jI (mw_rdI σ a z.toNat) :: st) σ Q) := WP_iaload mq230 dd230_209
theorem dd230_210 : decode cX12_round 210 = .ok (.if_icmp .ne 9, 3) := by decide +kernel
theorem ww230_210 {d : Nat} {l0 l1 l2 l3 l4 l5 l6 l7 l8 : Option mw_V} {x y : Int} {st : List mw_V} {σ : mw_S} {Q : Option mw_V → mw_S → Prop} : mw_WP d 230 210 [l0, l1, l2, l3, l4, l5, l6, l7, l8] (jI y :: jI x :: st) σ Q ↔ (if ¬ x = y then mw_WP d 230 219 [l0, l1, l2, l3, l4, l5, l6, l7, l8] st σ Q else mw_WP d 230 213 [l0, l1, l2, l3, l4, l5, l6, l7, l8] st σ Q) := WP_icmp_ne mq230 dd230_210 (by decide)
theorem dd230_213 : decode cX12_round 213 = .ok (.iinc 8 1, 3) := by decide +kernel
theorem ww230_213 {d : Nat} {l0 l1 l2 l3 l4 l5 l6 l7 : Option mw_V} {x : Int} {st : List mw_V} {σ : mw_S} {Q : Option mw_V → mw_S → Prop} (h : mw_nlo l7 = true) : mw_WP d 230 213 [l0, l1, l2, l3, l4, l5, l6, l7, some (jI x)] st σ Q ↔ mw_WP d 230 216 [l0, l1, l2, l3, l4, l5, l6, l7, some (jI (w32 (x + (1))))] st σ Q := WP_iinc mq230 dd230_213 rfl (Nat.le_of_ble_eq_true rfl) (mw_nl_of (i := 7) rfl h) rfl
theorem dd230_216 : decode cX12_round 216 = .ok (.goto (-39), 3) := by decide +kernel
theorem ww230_216 {d : Nat} {l0 l1 l2 l3 l4 l5 l6 l7 l8 : Option mw_V} {st : List mw_V} {σ : mw_S} {Q : Option mw_V → mw_S → Prop} : mw_WP d 230 216 [l0, l1, l2, l3, l4, l5, l6, l7, l8] st σ Q ↔ mw_WP d 230 177 [l0, l1, l2, l3, l4, l5, l6, l7, l8] st σ Q := WP_goto mq230 dd230_216 (by decide)
theorem dd230_219 : decode cX12_round 219 = .ok (.iload 8, 2) := by decide +kernel
theorem ww230_219 {d : Nat} {l0 l1 l2 l3 l4 l5 l6 l7 : Option mw_V} {x : Int} {st : List mw_V} {σ : mw_S} {Q : Option mw_V → mw_S → Prop} : mw_WP d 230 219 [l0, l1, l2, l3, l4, l5, l6, l7, some (jI x)] st σ Q ↔ mw_WP d 230 221 [l0, l1, l2, l3, l4, l5, l6, l7, some (jI x)] (jI x :: st) σ Q := WP_iload mq230 dd230_219 rfl
theorem dd230_221 : decode cX12_round 221 = .ok (.bipush 34, 2) := by decide +kernel
theorem ww230_221 {d : Nat} {l0 l1 l2 l3 l4 l5 l6 l7 l8 : Option mw_V} {st : List mw_V} {σ : mw_S} {Q : Option mw_V → mw_S → Prop} : mw_WP d 230 221 [l0, l1, l2, l3, l4, l5, l6, l7, l8] st σ Q ↔ mw_WP d 230 223 [l0, l1, l2, l3, l4, l5, l6, l7, l8] (jI (34) :: st) σ Q := WP_bipush mq230 dd230_221 (by decide)
theorem dd230_223 : decode cX12_round 223 = .ok (.if_icmp .ge 6, 3) := by decide +kernel
theorem ww230_223 {d : Nat} {l0 l1 l2 l3 l4 l5 l6 l7 l8 : Option mw_V} {x y : Int} {st : List mw_V} {σ : mw_S} {Q : Option mw_V → mw_S → Prop} : mw_WP d 230 223 [l0, l1, l2, l3, l4, l5, l6, l7, l8] (jI y :: jI x :: st) σ Q ↔ (if y ≤ x then mw_WP d 230 229 [l0, l1, l2, l3, l4, l5, l6, l7, l8] st σ Q else mw_WP d 230 226 [l0, l1, l2, l3, l4, l5, l6, l7, l8] st σ Q) := WP_icmp_ge mq230 dd230_223 (by decide)
theorem dd230_226 : decode cX12_round 226 = .ok (.goto 14, 3) := by decide +kernel
theorem ww230_226 {d : Nat} {l0 l1 l2 l3 l4 l5 l6 l7 l8 : Option mw_V} {st : List mw_V} {σ : mw_S} {Q : Option mw_V → mw_S → Prop} : mw_WP d 230 226 [l0, l1, l2, l3, l4, l5, l6, l7, l8] st σ Q ↔ mw_WP d 230 240 [l0, l1, l2, l3, l4, l5, l6, l7, l8] st σ Q := WP_goto mq230 dd230_226 (by decide)
theorem dd230_229 : decode cX12_round 229 = .ok (.iload 6, 2) := by decide +kernel
theorem ww230_229 {d : Nat} {l0 l1 l2 l3 l4 l5 l7 l8 : Option mw_V} {x : Int} {st : List mw_V} {σ : mw_S} {Q : Option mw_V → mw_S → Prop} : mw_WP d 230 229 [l0, l1, l2, l3, l4, l5, some (jI x), l7, l8] st σ Q ↔ mw_WP d 230 231 [l0, l1, l2, l3, l4, l5, some (jI x), l7, l8] (jI x :: st) σ Q := WP_iload mq230 dd230_229 rfl
theorem dd230_231 : decode cX12_round 231 = .ok (.iload 7, 2) := by decide +kernel
theorem ww230_231 {d : Nat} {l0 l1 l2 l3 l4 l5 l6 l8 : Option mw_V} {x : Int} {st : List mw_V} {σ : mw_S} {Q : Option mw_V → mw_S → Prop} : mw_WP d 230 231 [l0, l1, l2, l3, l4, l5, l6, some (jI x), l8] st σ Q ↔ mw_WP d 230 233 [l0, l1, l2, l3, l4, l5, l6, some (jI x), l8] (jI x :: st) σ Q := WP_iload mq230 dd230_231 rfl
theorem dd230_233 : decode cX12_round 233 = .ok (.isub, 1) := by decide +kernel
theorem ww230_233 {d : Nat} {l0 l1 l2 l3 l4 l5 l6 l7 l8 : Option mw_V} {x y : Int} {st : List mw_V} {σ : mw_S} {Q : Option mw_V → mw_S → Prop} : mw_WP d 230 233 [l0, l1, l2, l3, l4, l5, l6, l7, l8] (jI y :: jI x :: st) σ Q ↔ mw_WP d 230 234 [l0, l1, l2, l3, l4, l5, l6, l7, l8] (jI (w32 (x - y)) :: st) σ Q := WP_isub mq230 dd230_233
theorem dd230_234 : decode cX12_round 234 = .ok (.istore 4, 2) := by decide +kernel
theorem ww230_234 {d : Nat} {l0 l1 l2 l3 l4 l5 l6 l7 l8 : Option mw_V} {x : Int} {st : List mw_V} {σ : mw_S} {Q : Option mw_V → mw_S → Prop} (h : mw_nlo l3 = true) : mw_WP d 230 234 [l0, l1, l2, l3, l4, l5, l6, l7, l8] (jI x :: st) σ Q ↔ mw_WP d 230 236 [l0, l1, l2, l3, some (jI x), l5, l6, l7, l8] st σ Q := WP_istore mq230 dd230_234 (Nat.le_of_ble_eq_true rfl) (mw_nl_of (i := 3) rfl h) rfl
theorem dd230_236 : decode cX12_round 236 = .ok (.iload 7, 2) := by decide +kernel
theorem ww230_236 {d : Nat} {l0 l1 l2 l3 l4 l5 l6 l8 : Option mw_V} {x : Int} {st : List mw_V} {σ : mw_S} {Q : Option mw_V → mw_S → Prop} : mw_WP d 230 236 [l0, l1, l2, l3, l4, l5, l6, some (jI x), l8] st σ Q ↔ mw_WP d 230 238 [l0, l1, l2, l3, l4, l5, l6, some (jI x), l8] (jI x :: st) σ Q := WP_iload mq230 dd230_236 rfl
theorem dd230_238 : decode cX12_round 238 = .ok (.istore 5, 2) := by decide +kernel
theorem ww230_238 {d : Nat} {l0 l1 l2 l3 l4 l5 l6 l7 l8 : Option mw_V} {x : Int} {st : List mw_V} {σ : mw_S} {Q : Option mw_V → mw_S → Prop} (h : mw_nlo l4 = true) : mw_WP d 230 238 [l0, l1, l2, l3, l4, l5, l6, l7, l8] (jI x :: st) σ Q ↔ mw_WP d 230 240 [l0, l1, l2, l3, l4, some (jI x), l6, l7, l8] st σ Q := WP_istore mq230 dd230_238 (Nat.le_of_ble_eq_true rfl) (mw_nl_of (i := 4) rfl h) rfl
theorem dd230_240 : decode cX12_round 240 = .ok (.iinc 7 1, 3) := by decide +kernel
theorem ww230_240 {d : Nat} {l0 l1 l2 l3 l4 l5 l6 l8 : Option mw_V} {x : Int} {st : List mw_V} {σ : mw_S} {Q : Option mw_V → mw_S → Prop} (h : mw_nlo l6 = true) : mw_WP d 230 240 [l0, l1, l2, l3, l4, l5, l6, some (jI x), l8] st σ Q ↔ mw_WP d 230 243 [l0, l1, l2, l3, l4, l5, l6, some (jI (w32 (x + (1)))), l8] st σ Q := WP_iinc mq230 dd230_240 rfl (Nat.le_of_ble_eq_true rfl) (mw_nl_of (i := 6) rfl h) rfl
theorem dd230_243 : decode cX12_round 243 = .ok (.goto (-82), 3) := by decide +kernel
theorem ww230_243 {d : Nat} {l0 l1 l2 l3 l4 l5 l6 l7 l8 : Option mw_V} {st : List mw_V} {σ : mw_S} {Q : Option mw_V → mw_S → Prop} : mw_WP d 230 243 [l0, l1, l2, l3, l4, l5, l6, l7, l8] st σ Q ↔ mw_WP d 230 161 [l0, l1, l2, l3, l4, l5, l6, l7, l8] st σ Q := WP_goto mq230 dd230_243 (by decide)
theorem dd230_246 : decode cX12_round 246 = .ok (.aload_n 0, 1) := by decide +kernel
theorem ww230_246 {d : Nat} {l1 l2 l3 l4 l5 l6 l7 l8 : Option mw_V} {x : Nat} {st : List mw_V} {σ : mw_S} {Q : Option mw_V → mw_S → Prop} : mw_WP d 230 246 [some (jR x), l1, l2, l3, l4, l5, l6, l7, l8] st σ Q ↔ mw_WP d 230 247 [some (jR x), l1, l2, l3, l4, l5, l6, l7, l8] (jR x :: st) σ Q := WP_aload_n mq230 dd230_246 rfl
theorem dd230_247 : decode cX12_round 247 = .ok (.iload_n 1, 1) := by decide +kernel
theorem ww230_247 {d : Nat} {l0 l2 l3 l4 l5 l6 l7 l8 : Option mw_V} {x : Int} {st : List mw_V} {σ : mw_S} {Q : Option mw_V → mw_S → Prop} : mw_WP d 230 247 [l0, some (jI x), l2, l3, l4, l5, l6, l7, l8] st σ Q ↔ mw_WP d 230 248 [l0, some (jI x), l2, l3, l4, l5, l6, l7, l8] (jI x :: st) σ Q := WP_iload_n mq230 dd230_247 rfl
theorem dd230_248 : decode cX12_round 248 = .ok (.invokevirtual 313, 3) := by decide +kernel
theorem ww230_248 {d : Nat} {l0 l1 l2 l3 l4 l5 l6 l7 l8 : Option mw_V} {v0 : mw_V} {a : Nat} {st : List mw_V} {σ : mw_S} {Q : Option mw_V → mw_S → Prop} (hr : mw_rc a = 12) (h8 : (st.map mw_cat).sum ≤ 8) : mw_WP d 230 248 [l0, l1, l2, l3, l4, l5, l6, l7, l8] (v0 :: jR a :: st) σ Q ↔ mw_Call d 223 [jR a, v0] σ (fun r1 s1 => mw_WP d 230 251 [l0, l1, l2, l3, l4, l5, l6, l7, l8] (r1.toList ++ st) s1 Q) := WP_inv (as := [v0]) mq230 dd230_248 (by decide) mq223 rfl hr h8
theorem dd230_251 : decode cX12_round 251 = .ok (.pop, 1) := by decide +kernel
theorem ww230_251 {d : Nat} {l0 l1 l2 l3 l4 l5 l6 l7 l8 : Option mw_V} {v : mw_V} {st : List mw_V} {σ : mw_S} {Q : Option mw_V → mw_S → Prop} (h : mw_cat v = 1) : mw_WP d 230 251 [l0, l1, l2, l3, l4, l5, l6, l7, l8] (v :: st) σ Q ↔ mw_WP d 230 252 [l0, l1, l2, l3, l4, l5, l6, l7, l8] st σ Q := WP_pop mq230 dd230_251 h
theorem dd230_252 : decode cX12_round 252 = .ok (.iinc 6 1, 3) := by decide +kernel
theorem ww230_252 {d : Nat} {l0 l1 l2 l3 l4 l5 l7 l8 : Option mw_V} {x : Int} {st : List mw_V} {σ : mw_S} {Q : Option mw_V → mw_S → Prop} (h : mw_nlo l5 = true) : mw_WP d 230 252 [l0, l1, l2, l3, l4, l5, some (jI x), l7, l8] st σ Q ↔ mw_WP d 230 255 [l0, l1, l2, l3, l4, l5, some (jI (w32 (x + (1)))), l7, l8] st σ Q := WP_iinc mq230 dd230_252 rfl (Nat.le_of_ble_eq_true rfl) (mw_nl_of (i := 5) rfl h) rfl
theorem dd230_255 : decode cX12_round 255 = .ok (.goto (-150), 3) := by decide +kernel
theorem ww230_255 {d : Nat} {l0 l1 l2 l3 l4 l5 l6 l7 l8 : Option mw_V} {st : List mw_V} {σ : mw_S} {Q : Option mw_V → mw_S → Prop} : mw_WP d 230 255 [l0, l1, l2, l3, l4, l5, l6, l7, l8] st σ Q ↔ mw_WP d 230 105 [l0, l1, l2, l3, l4, l5, l6, l7, l8] st σ Q := WP_goto mq230 dd230_255 (by decide)
theorem dd230_258 : decode cX12_round 258 = .ok (.aload_n 0, 1) := by decide +kernel
theorem ww230_258 {d : Nat} {l1 l2 l3 l4 l5 l6 l7 l8 : Option mw_V} {x : Nat} {st : List mw_V} {σ : mw_S} {Q : Option mw_V → mw_S → Prop} : mw_WP d 230 258 [some (jR x), l1, l2, l3, l4, l5, l6, l7, l8] st σ Q ↔ mw_WP d 230 259 [some (jR x), l1, l2, l3, l4, l5, l6, l7, l8] (jR x :: st) σ Q := WP_aload_n mq230 dd230_258 rfl
theorem dd230_259 : decode cX12_round 259 = .ok (.invokevirtual 284, 3) := by decide +kernel
theorem ww230_259 {d : Nat} {l0 l1 l2 l3 l4 l5 l6 l7 l8 : Option mw_V} {a : Nat} {st : List mw_V} {σ : mw_S} {Q : Option mw_V → mw_S → Prop} (hr : mw_rc a = 12) (h8 : (st.map mw_cat).sum ≤ 8) : mw_WP d 230 259 [l0, l1, l2, l3, l4, l5, l6, l7, l8] (jR a :: st) σ Q ↔ mw_Call d 215 [jR a] σ (fun r1 s1 => mw_WP d 230 262 [l0, l1, l2, l3, l4, l5, l6, l7, l8] (r1.toList ++ st) s1 Q) := WP_inv (as := []) mq230 dd230_259 (by decide) mq215 rfl hr h8
theorem dd230_262 : decode cX12_round 262 = .ok (.iload 4, 2) := by decide +kernel
theorem ww230_262 {d : Nat} {l0 l1 l2 l3 l5 l6 l7 l8 : Option mw_V} {x : Int} {st : List mw_V} {σ : mw_S} {Q : Option mw_V → mw_S → Prop} : mw_WP d 230 262 [l0, l1, l2, l3, some (jI x), l5, l6, l7, l8] st σ Q ↔ mw_WP d 230 264 [l0, l1, l2, l3, some (jI x), l5, l6, l7, l8] (jI x :: st) σ Q := WP_iload mq230 dd230_262 rfl
theorem dd230_264 : decode cX12_round 264 = .ok (.iconst (-1), 1) := by decide +kernel
theorem ww230_264 {d : Nat} {l0 l1 l2 l3 l4 l5 l6 l7 l8 : Option mw_V} {st : List mw_V} {σ : mw_S} {Q : Option mw_V → mw_S → Prop} : mw_WP d 230 264 [l0, l1, l2, l3, l4, l5, l6, l7, l8] st σ Q ↔ mw_WP d 230 265 [l0, l1, l2, l3, l4, l5, l6, l7, l8] (jI (-1) :: st) σ Q := WP_iconst mq230 dd230_264 (by decide)
theorem dd230_265 : decode cX12_round 265 = .ok (.if_icmp .eq 7, 3) := by decide +kernel
theorem ww230_265 {d : Nat} {l0 l1 l2 l3 l4 l5 l6 l7 l8 : Option mw_V} {x y : Int} {st : List mw_V} {σ : mw_S} {Q : Option mw_V → mw_S → Prop} : mw_WP d 230 265 [l0, l1, l2, l3, l4, l5, l6, l7, l8] (jI y :: jI x :: st) σ Q ↔ (if x = y then mw_WP d 230 272 [l0, l1, l2, l3, l4, l5, l6, l7, l8] st σ Q else mw_WP d 230 268 [l0, l1, l2, l3, l4, l5, l6, l7, l8] st σ Q) := WP_icmp_eq mq230 dd230_265 (by decide)
theorem dd230_268 : decode cX12_round 268 = .ok (.iload_n 2, 1) := by decide +kernel
theorem ww230_268 {d : Nat} {l0 l1 l3 l4 l5 l6 l7 l8 : Option mw_V} {x : Int} {st : List mw_V} {σ : mw_S} {Q : Option mw_V → mw_S → Prop} : mw_WP d 230 268 [l0, l1, some (jI x), l3, l4, l5, l6, l7, l8] st σ Q ↔ mw_WP d 230 269 [l0, l1, some (jI x), l3, l4, l5, l6, l7, l8] (jI x :: st) σ Q := WP_iload_n mq230 dd230_268 rfl
theorem dd230_269 : decode cX12_round 269 = .ok (.ifCond .ne 8, 3) := by decide +kernel
theorem ww230_269 {d : Nat} {l0 l1 l2 l3 l4 l5 l6 l7 l8 : Option mw_V} {x : Int} {st : List mw_V} {σ : mw_S} {Q : Option mw_V → mw_S → Prop} : mw_WP d 230 269 [l0, l1, l2, l3, l4, l5, l6, l7, l8] (jI x :: st) σ Q ↔ (if ¬ x = 0 then mw_WP d 230 277 [l0, l1, l2, l3, l4, l5, l6, l7, l8] st σ Q else mw_WP d 230 272 [l0, l1, l2, l3, l4, l5, l6, l7, l8] st σ Q) := WP_if_ne mq230 dd230_269 (by decide)
theorem dd230_272 : decode cX12_round 272 = .ok (.iload 4, 2) := by decide +kernel
theorem ww230_272 {d : Nat} {l0 l1 l2 l3 l5 l6 l7 l8 : Option mw_V} {x : Int} {st : List mw_V} {σ : mw_S} {Q : Option mw_V → mw_S → Prop} : mw_WP d 230 272 [l0, l1, l2, l3, some (jI x), l5, l6, l7, l8] st σ Q ↔ mw_WP d 230 274 [l0, l1, l2, l3, some (jI x), l5, l6, l7, l8] (jI x :: st) σ Q := WP_iload mq230 dd230_272 rfl
theorem dd230_274 : decode cX12_round 274 = .ok (.goto 5, 3) := by decide +kernel
theorem ww230_274 {d : Nat} {l0 l1 l2 l3 l4 l5 l6 l7 l8 : Option mw_V} {st : List mw_V} {σ : mw_S} {Q : Option mw_V → mw_S → Prop} : mw_WP d 230 274 [l0, l1, l2, l3, l4, l5, l6, l7, l8] st σ Q ↔ mw_WP d 230 279 [l0, l1, l2, l3, l4, l5, l6, l7, l8] st σ Q := WP_goto mq230 dd230_274 (by decide)
theorem dd230_277 : decode cX12_round 277 = .ok (.iload 5, 2) := by decide +kernel
theorem ww230_277 {d : Nat} {l0 l1 l2 l3 l4 l6 l7 l8 : Option mw_V} {x : Int} {st : List mw_V} {σ : mw_S} {Q : Option mw_V → mw_S → Prop} : mw_WP d 230 277 [l0, l1, l2, l3, l4, some (jI x), l6, l7, l8] st σ Q ↔ mw_WP d 230 279 [l0, l1, l2, l3, l4, some (jI x), l6, l7, l8] (jI x :: st) σ Q := WP_iload mq230 dd230_277 rfl
theorem dd230_279 : decode cX12_round 279 = .ok (.ireturn, 1) := by decide +kernel
theorem ww230_279 {d : Nat} {l0 l1 l2 l3 l4 l5 l6 l7 l8 : Option mw_V} {z : Int} {σ : mw_S} {Q : Option mw_V → mw_S → Prop} : mw_WP d 230 279 [l0, l1, l2, l3, l4, l5, l6, l7, l8] [jI z] σ Q ↔ Q (some (jI z)) σ := WP_ireturn (ty := .int) mq230 dd230_279 rfl rfl
theorem ee231 {d : Nat} {a : Nat} {σ : mw_S} {Q : Option mw_V → mw_S → Prop} : mw_Call (d + 1) 231 [jR a] σ Q ↔ mw_WP d 231 0 [some (jR a), none] [] σ Q := CL_u mq231 (Nat.le_of_ble_eq_true rfl) rfl
theorem dd231_0 : decode cX12_forgets 0 = .ok (.iconst 0, 1) := by decide +kernel
theorem ww231_0 {d : Nat} {l0 l1 : Option mw_V} {st : List mw_V} {σ : mw_S} {Q : Option mw_V → mw_S → Prop} : mw_WP d 231 0 [l0, l1] st σ Q ↔ mw_WP d 231 1 [l0, l1] (jI (0) :: st) σ Q := WP_iconst mq231 dd231_0 (by decide)
theorem dd231_1 : decode cX12_forgets 1 = .ok (.istore_n 1, 1) := by decide +kernel
theorem ww231_1 {d : Nat} {l0 l1 : Option mw_V} {x : Int} {st : List mw_V} {σ : mw_S} {Q : Option mw_V → mw_S → Prop} (h : mw_nlo l0 = true) : mw_WP d 231 1 [l0, l1] (jI x :: st) σ Q ↔ mw_WP d 231 2 [l0, some (jI x)] st σ Q := WP_istore_n mq231 dd231_1 (Nat.le_of_ble_eq_true rfl) (mw_nl_of (i := 0) rfl h) rfl
theorem dd231_2 : decode cX12_forgets 2 = .ok (.iload_n 1, 1) := by decide +kernel
theorem ww231_2 {d : Nat} {l0 : Option mw_V} {x : Int} {st : List mw_V} {σ : mw_S} {Q : Option mw_V → mw_S → Prop} : mw_WP d 231 2 [l0, some (jI x)] st σ Q ↔ mw_WP d 231 3 [l0, some (jI x)] (jI x :: st) σ Q := WP_iload_n mq231 dd231_2 rfl
theorem dd231_3 : decode cX12_forgets 3 = .ok (.sipush 16384, 3) := by decide +kernel
theorem ww231_3 {d : Nat} {l0 l1 : Option mw_V} {st : List mw_V} {σ : mw_S} {Q : Option mw_V → mw_S → Prop} : mw_WP d 231 3 [l0, l1] st σ Q ↔ mw_WP d 231 6 [l0, l1] (jI (16384) :: st) σ Q := WP_sipush mq231 dd231_3 (by decide)
theorem dd231_6 : decode cX12_forgets 6 = .ok (.if_icmp .ge 16, 3) := by decide +kernel
theorem ww231_6 {d : Nat} {l0 l1 : Option mw_V} {x y : Int} {st : List mw_V} {σ : mw_S} {Q : Option mw_V → mw_S → Prop} : mw_WP d 231 6 [l0, l1] (jI y :: jI x :: st) σ Q ↔ (if y ≤ x then mw_WP d 231 22 [l0, l1] st σ Q else mw_WP d 231 9 [l0, l1] st σ Q) := WP_icmp_ge mq231 dd231_6 (by decide)
theorem dd231_9 : decode cX12_forgets 9 = .ok (.aload_n 0, 1) := by decide +kernel
theorem ww231_9 {d : Nat} {l1 : Option mw_V} {x : Nat} {st : List mw_V} {σ : mw_S} {Q : Option mw_V → mw_S → Prop} : mw_WP d 231 9 [some (jR x), l1] st σ Q ↔ mw_WP d 231 10 [some (jR x), l1] (jR x :: st) σ Q := WP_aload_n mq231 dd231_9 rfl
theorem dd231_10 : decode cX12_forgets 10 = .ok (.getfield 55, 3) := by decide +kernel
theorem ww231_10 {d : Nat} {l0 l1 : Option mw_V} {st : List mw_V} {σ : mw_S} {Q : Option mw_V → mw_S → Prop} : mw_WP d 231 10 [l0, l1] (jR 100 :: st) σ Q ↔ mw_WP d 231 13 [l0, l1] (jR 113 :: st) σ Q := WP_getR (ci := 11) (k := 31) mq231 dd231_10 (by decide) rfl
theorem dd231_13 : decode cX12_forgets 13 = .ok (.iload_n 1, 1) := by decide +kernel
theorem ww231_13 {d : Nat} {l0 : Option mw_V} {x : Int} {st : List mw_V} {σ : mw_S} {Q : Option mw_V → mw_S → Prop} : mw_WP d 231 13 [l0, some (jI x)] st σ Q ↔ mw_WP d 231 14 [l0, some (jI x)] (jI x :: st) σ Q := WP_iload_n mq231 dd231_13 rfl
theorem dd231_14 : decode cX12_forgets 14 = .ok (.iconst (-1), 1) := by decide +kernel
theorem ww231_14 {d : Nat} {l0 l1 : Option mw_V} {st : List mw_V} {σ : mw_S} {Q : Option mw_V → mw_S → Prop} : mw_WP d 231 14 [l0, l1] st σ Q ↔ mw_WP d 231 15 [l0, l1] (jI (-1) :: st) σ Q := WP_iconst mq231 dd231_14 (by decide)
theorem dd231_15 : decode cX12_forgets 15 = .ok (.iastore, 1) := by decide +kernel
theorem ww231_15 {d : Nat} {l0 l1 : Option mw_V} {x z : Int} {a : Nat} {st : List mw_V} {σ : mw_S} {Q : Option mw_V → mw_S → Prop} : mw_WP d 231 15 [l0, l1] (jI x :: jI z :: jR a :: st) σ Q ↔ ((0 ≤ z ∧ z < mw_lenW 0 a) ∧ mw_WP d 231 16 [l0, l1] st (upS σ a z.toNat x) Q) := WP_iastore mq231 dd231_15
theorem dd231_16 : decode cX12_forgets 16 = .ok (.iinc 1 1, 3) := by decide +kernel
theorem ww231_16 {d : Nat} {l0 : Option mw_V} {x : Int} {st : List mw_V} {σ : mw_S} {Q : Option mw_V → mw_S → Prop} (h : mw_nlo l0 = true) : mw_WP d 231 16 [l0, some (jI x)] st σ Q ↔ mw_WP d 231 19 [l0, some (jI (w32 (x + (1))))] st σ Q := WP_iinc mq231 dd231_16 rfl (Nat.le_of_ble_eq_true rfl) (mw_nl_of (i := 0) rfl h) rfl
theorem dd231_19 : decode cX12_forgets 19 = .ok (.goto (-17), 3) := by decide +kernel
theorem ww231_19 {d : Nat} {l0 l1 : Option mw_V} {st : List mw_V} {σ : mw_S} {Q : Option mw_V → mw_S → Prop} : mw_WP d 231 19 [l0, l1] st σ Q ↔ mw_WP d 231 2 [l0, l1] st σ Q := WP_goto mq231 dd231_19 (by decide)
theorem dd231_22 : decode cX12_forgets 22 = .ok (.aload_n 0, 1) := by decide +kernel
theorem ww231_22 {d : Nat} {l1 : Option mw_V} {x : Nat} {st : List mw_V} {σ : mw_S} {Q : Option mw_V → mw_S → Prop} : mw_WP d 231 22 [some (jR x), l1] st σ Q ↔ mw_WP d 231 23 [some (jR x), l1] (jR x :: st) σ Q := WP_aload_n mq231 dd231_22 rfl
theorem dd231_23 : decode cX12_forgets 23 = .ok (.iconst 0, 1) := by decide +kernel
theorem ww231_23 {d : Nat} {l0 l1 : Option mw_V} {st : List mw_V} {σ : mw_S} {Q : Option mw_V → mw_S → Prop} : mw_WP d 231 23 [l0, l1] st σ Q ↔ mw_WP d 231 24 [l0, l1] (jI (0) :: st) σ Q := WP_iconst mq231 dd231_23 (by decide)
theorem dd231_24 : decode cX12_forgets 24 = .ok (.putfield 325, 3) := by decide +kernel
theorem ww231_24 {d : Nat} {l0 l1 : Option mw_V} {v : Int} {st : List mw_V} {σ : mw_S} {Q : Option mw_V → mw_S → Prop} : mw_WP d 231 24 [l0, l1] (jI v :: jR 100 :: st) σ Q ↔ mw_WP d 231 27 [l0, l1] st (upS σ 100 32 v) Q := WP_putI (ci := 11) (k := 32) mq231 dd231_24 (by decide) rfl
theorem dd231_27 : decode cX12_forgets 27 = .ok (.return_, 1) := by decide +kernel
theorem ww231_27 {d : Nat} {l0 l1 : Option mw_V} {σ : mw_S} {Q : Option mw_V → mw_S → Prop} : mw_WP d 231 27 [l0, l1] [] σ Q ↔ Q none σ := WP_return mq231 dd231_27 rfl
theorem ee232 {d : Nat} {a : Nat} {a0 : Nat} {z1 : Int} {σ : mw_S} {Q : Option mw_V → mw_S → Prop} : mw_Call (d + 1) 232 [jR a, jR a0, jI z1] σ Q ↔ mw_WP d 232 0 [some (jR a), some (jR a0), some (jI z1), none] [] σ Q := CL_u mq232 (Nat.le_of_ble_eq_true rfl) rfl
theorem dd232_0 : decode cX12_loads 0 = .ok (.iconst 0, 1) := by decide +kernel
theorem ww232_0 {d : Nat} {l0 l1 l2 l3 : Option mw_V} {st : List mw_V} {σ : mw_S} {Q : Option mw_V → mw_S → Prop} : mw_WP d 232 0 [l0, l1, l2, l3] st σ Q ↔ mw_WP d 232 1 [l0, l1, l2, l3] (jI (0) :: st) σ Q := WP_iconst mq232 dd232_0 (by decide)
theorem dd232_1 : decode cX12_loads 1 = .ok (.istore_n 3, 1) := by decide +kernel
theorem ww232_1 {d : Nat} {l0 l1 l2 l3 : Option mw_V} {x : Int} {st : List mw_V} {σ : mw_S} {Q : Option mw_V → mw_S → Prop} (h : mw_nlo l2 = true) : mw_WP d 232 1 [l0, l1, l2, l3] (jI x :: st) σ Q ↔ mw_WP d 232 2 [l0, l1, l2, some (jI x)] st σ Q := WP_istore_n mq232 dd232_1 (Nat.le_of_ble_eq_true rfl) (mw_nl_of (i := 2) rfl h) rfl
theorem dd232_2 : decode cX12_loads 2 = .ok (.iload_n 3, 1) := by decide +kernel
theorem ww232_2 {d : Nat} {l0 l1 l2 : Option mw_V} {x : Int} {st : List mw_V} {σ : mw_S} {Q : Option mw_V → mw_S → Prop} : mw_WP d 232 2 [l0, l1, l2, some (jI x)] st σ Q ↔ mw_WP d 232 3 [l0, l1, l2, some (jI x)] (jI x :: st) σ Q := WP_iload_n mq232 dd232_2 rfl
theorem dd232_3 : decode cX12_loads 3 = .ok (.bipush 25, 2) := by decide +kernel
theorem ww232_3 {d : Nat} {l0 l1 l2 l3 : Option mw_V} {st : List mw_V} {σ : mw_S} {Q : Option mw_V → mw_S → Prop} : mw_WP d 232 3 [l0, l1, l2, l3] st σ Q ↔ mw_WP d 232 5 [l0, l1, l2, l3] (jI (25) :: st) σ Q := WP_bipush mq232 dd232_3 (by decide)
theorem dd232_5 : decode cX12_loads 5 = .ok (.if_icmp .ge 26, 3) := by decide +kernel
theorem ww232_5 {d : Nat} {l0 l1 l2 l3 : Option mw_V} {x y : Int} {st : List mw_V} {σ : mw_S} {Q : Option mw_V → mw_S → Prop} : mw_WP d 232 5 [l0, l1, l2, l3] (jI y :: jI x :: st) σ Q ↔ (if y ≤ x then mw_WP d 232 31 [l0, l1, l2, l3] st σ Q else mw_WP d 232 8 [l0, l1, l2, l3] st σ Q) := WP_icmp_ge mq232 dd232_5 (by decide)
theorem dd232_8 : decode cX12_loads 8 = .ok (.aload_n 0, 1) := by decide +kernel
theorem ww232_8 {d : Nat} {l1 l2 l3 : Option mw_V} {x : Nat} {st : List mw_V} {σ : mw_S} {Q : Option mw_V → mw_S → Prop} : mw_WP d 232 8 [some (jR x), l1, l2, l3] st σ Q ↔ mw_WP d 232 9 [some (jR x), l1, l2, l3] (jR x :: st) σ Q := WP_aload_n mq232 dd232_8 rfl
theorem dd232_9 : decode cX12_loads 9 = .ok (.getfield 13, 3) := by decide +kernel
theorem ww232_9 {d : Nat} {l0 l1 l2 l3 : Option mw_V} {st : List mw_V} {σ : mw_S} {Q : Option mw_V → mw_S → Prop} : mw_WP d 232 9 [l0, l1, l2, l3] (jR 100 :: st) σ Q ↔ mw_WP d 232 12 [l0, l1, l2, l3] (jR 101 :: st) σ Q := WP_getR (ci := 11) (k := 1) mq232 dd232_9 (by decide) rfl
theorem dd232_12 : decode cX12_loads 12 = .ok (.bipush 41, 2) := by decide +kernel
theorem ww232_12 {d : Nat} {l0 l1 l2 l3 : Option mw_V} {st : List mw_V} {σ : mw_S} {Q : Option mw_V → mw_S → Prop} : mw_WP d 232 12 [l0, l1, l2, l3] st σ Q ↔ mw_WP d 232 14 [l0, l1, l2, l3] (jI (41) :: st) σ Q := WP_bipush mq232 dd232_12 (by decide)
theorem dd232_14 : decode cX12_loads 14 = .ok (.iload_n 3, 1) := by decide +kernel
theorem ww232_14 {d : Nat} {l0 l1 l2 : Option mw_V} {x : Int} {st : List mw_V} {σ : mw_S} {Q : Option mw_V → mw_S → Prop} : mw_WP d 232 14 [l0, l1, l2, some (jI x)] st σ Q ↔ mw_WP d 232 15 [l0, l1, l2, some (jI x)] (jI x :: st) σ Q := WP_iload_n mq232 dd232_14 rfl
theorem dd232_15 : decode cX12_loads 15 = .ok (.iadd, 1) := by decide +kernel
theorem ww232_15 {d : Nat} {l0 l1 l2 l3 : Option mw_V} {x y : Int} {st : List mw_V} {σ : mw_S} {Q : Option mw_V → mw_S → Prop} : mw_WP d 232 15 [l0, l1, l2, l3] (jI y :: jI x :: st) σ Q ↔ mw_WP d 232 16 [l0, l1, l2, l3] (jI (w32 (x + y)) :: st) σ Q := WP_iadd mq232 dd232_15
theorem dd232_16 : decode cX12_loads 16 = .ok (.aload_n 1, 1) := by decide +kernel
theorem ww232_16 {d : Nat} {l0 l2 l3 : Option mw_V} {x : Nat} {st : List mw_V} {σ : mw_S} {Q : Option mw_V → mw_S → Prop} : mw_WP d 232 16 [l0, some (jR x), l2, l3] st σ Q ↔ mw_WP d 232 17 [l0, some (jR x), l2, l3] (jR x :: st) σ Q := WP_aload_n mq232 dd232_16 rfl
theorem dd232_17 : decode cX12_loads 17 = .ok (.bipush 25, 2) := by decide +kernel
theorem ww232_17 {d : Nat} {l0 l1 l2 l3 : Option mw_V} {st : List mw_V} {σ : mw_S} {Q : Option mw_V → mw_S → Prop} : mw_WP d 232 17 [l0, l1, l2, l3] st σ Q ↔ mw_WP d 232 19 [l0, l1, l2, l3] (jI (25) :: st) σ Q := WP_bipush mq232 dd232_17 (by decide)
theorem dd232_19 : decode cX12_loads 19 = .ok (.iload_n 2, 1) := by decide +kernel
theorem ww232_19 {d : Nat} {l0 l1 l3 : Option mw_V} {x : Int} {st : List mw_V} {σ : mw_S} {Q : Option mw_V → mw_S → Prop} : mw_WP d 232 19 [l0, l1, some (jI x), l3] st σ Q ↔ mw_WP d 232 20 [l0, l1, some (jI x), l3] (jI x :: st) σ Q := WP_iload_n mq232 dd232_19 rfl
theorem dd232_20 : decode cX12_loads 20 = .ok (.imul, 1) := by decide +kernel
theorem ww232_20 {d : Nat} {l0 l1 l2 l3 : Option mw_V} {x y : Int} {st : List mw_V} {σ : mw_S} {Q : Option mw_V → mw_S → Prop} : mw_WP d 232 20 [l0, l1, l2, l3] (jI y :: jI x :: st) σ Q ↔ mw_WP d 232 21 [l0, l1, l2, l3] (jI (w32 (x * y)) :: st) σ Q := WP_imul mq232 dd232_20
theorem dd232_21 : decode cX12_loads 21 = .ok (.iload_n 3, 1) := by decide +kernel
theorem ww232_21 {d : Nat} {l0 l1 l2 : Option mw_V} {x : Int} {st : List mw_V} {σ : mw_S} {Q : Option mw_V → mw_S → Prop} : mw_WP d 232 21 [l0, l1, l2, some (jI x)] st σ Q ↔ mw_WP d 232 22 [l0, l1, l2, some (jI x)] (jI x :: st) σ Q := WP_iload_n mq232 dd232_21 rfl
theorem dd232_22 : decode cX12_loads 22 = .ok (.iadd, 1) := by decide +kernel
theorem ww232_22 {d : Nat} {l0 l1 l2 l3 : Option mw_V} {x y : Int} {st : List mw_V} {σ : mw_S} {Q : Option mw_V → mw_S → Prop} : mw_WP d 232 22 [l0, l1, l2, l3] (jI y :: jI x :: st) σ Q ↔ mw_WP d 232 23 [l0, l1, l2, l3] (jI (w32 (x + y)) :: st) σ Q := WP_iadd mq232 dd232_22
theorem dd232_23 : decode cX12_loads 23 = .ok (.iaload, 1) := by decide +kernel
theorem ww232_23 {d : Nat} {l0 l1 l2 l3 : Option mw_V} {z : Int} {a : Nat} {st : List mw_V} {σ : mw_S} {Q : Option mw_V → mw_S → Prop} : mw_WP d 232 23 [l0, l1, l2, l3] (jI z :: jR a :: st) σ Q ↔ ((0 ≤ z ∧ z < mw_lenI a) ∧ mw_WP d 232 24 [l0, l1, l2, l3] (jI (mw_rdI σ a z.toNat) :: st) σ Q) := WP_iaload mq232 dd232_23
theorem dd232_24 : decode cX12_loads 24 = .ok (.iastore, 1) := by decide +kernel
theorem ww232_24 {d : Nat} {l0 l1 l2 l3 : Option mw_V} {x z : Int} {a : Nat} {st : List mw_V} {σ : mw_S} {Q : Option mw_V → mw_S → Prop} : mw_WP d 232 24 [l0, l1, l2, l3] (jI x :: jI z :: jR a :: st) σ Q ↔ ((0 ≤ z ∧ z < mw_lenW 0 a) ∧ mw_WP d 232 25 [l0, l1, l2, l3] st (upS σ a z.toNat x) Q) := WP_iastore mq232 dd232_24
theorem dd232_25 : decode cX12_loads 25 = .ok (.iinc 3 1, 3) := by decide +kernel
theorem ww232_25 {d : Nat} {l0 l1 l2 : Option mw_V} {x : Int} {st : List mw_V} {σ : mw_S} {Q : Option mw_V → mw_S → Prop} (h : mw_nlo l2 = true) : mw_WP d 232 25 [l0, l1, l2, some (jI x)] st σ Q ↔ mw_WP d 232 28 [l0, l1, l2, some (jI (w32 (x + (1))))] st σ Q := WP_iinc mq232 dd232_25 rfl (Nat.le_of_ble_eq_true rfl) (mw_nl_of (i := 2) rfl h) rfl
theorem dd232_28 : decode cX12_loads 28 = .ok (.goto (-26), 3) := by decide +kernel
theorem ww232_28 {d : Nat} {l0 l1 l2 l3 : Option mw_V} {st : List mw_V} {σ : mw_S} {Q : Option mw_V → mw_S → Prop} : mw_WP d 232 28 [l0, l1, l2, l3] st σ Q ↔ mw_WP d 232 2 [l0, l1, l2, l3] st σ Q := WP_goto mq232 dd232_28 (by decide)
theorem dd232_31 : decode cX12_loads 31 = .ok (.return_, 1) := by decide +kernel
theorem ww232_31 {d : Nat} {l0 l1 l2 l3 : Option mw_V} {σ : mw_S} {Q : Option mw_V → mw_S → Prop} : mw_WP d 232 31 [l0, l1, l2, l3] [] σ Q ↔ Q none σ := WP_return mq232 dd232_31 rfl
