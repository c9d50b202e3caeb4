/-! 13.c: rows that decode each instruction, and its rule -/
theorem ee43 {d : Nat} {a : Nat} {σ : mw_S} {Q : Option mw_V → mw_S → Prop} : mw_Call (d + 1) 43 [jR a] σ Q ↔ mw_WP d 43 0 [some (jR a)] [] σ Q := CL_u mq43 (Nat.le_of_ble_eq_true rfl) rfl
theorem dd43_0 : decode cX7_hasRoom 0 = .ok (.aload_n 0, 1) := by decide +kernel
theorem ww43_0 {d : Nat} {x : Nat} {st : List mw_V} {σ : mw_S} {Q : Option mw_V → mw_S → Prop} : mw_WP d 43 0 [some (jR x)] st σ Q ↔ mw_WP d 43 1 [some (jR x)] (jR x :: st) σ Q := WP_aload_n mq43 dd43_0 rfl
theorem dd43_1 : decode cX7_hasRoom 1 = .ok (.getfield 29, 3) := by decide +kernel
theorem ww43_1 {d : Nat} {l0 : Option mw_V} {st : List mw_V} {σ : mw_S} {Q : Option mw_V → mw_S → Prop} : mw_WP d 43 1 [l0] (jR 1 :: st) σ Q ↔ mw_WP d 43 4 [l0] (jI (σ 1 2) :: st) σ Q := WP_getI (ci := 6) (k := 2) mq43 dd43_1 (by decide) (Or.inl rfl)
theorem dd43_4 : decode cX7_hasRoom 4 = .ok (.bipush 20, 2) := by decide +kernel
theorem ww43_4 {d : Nat} {l0 : Option mw_V} {st : List mw_V} {σ : mw_S} {Q : Option mw_V → mw_S → Prop} : mw_WP d 43 4 [l0] st σ Q ↔ mw_WP d 43 6 [l0] (jI (20) :: st) σ Q := WP_bipush mq43 dd43_4 (by decide)
theorem dd43_6 : decode cX7_hasRoom 6 = .ok (.iadd, 1) := by decide +kernel
theorem ww43_6 {d : Nat} {l0 : Option mw_V} {x y : Int} {st : List mw_V} {σ : mw_S} {Q : Option mw_V → mw_S → Prop} : mw_WP d 43 6 [l0] (jI y :: jI x :: st) σ Q ↔ mw_WP d 43 7 [l0] (jI (w32 (x + y)) :: st) σ Q := WP_iadd mq43 dd43_6
theorem dd43_7 : decode cX7_hasRoom 7 = .ok (.sipush 900, 3) := by decide +kernel
theorem ww43_7 {d : Nat} {l0 : Option mw_V} {st : List mw_V} {σ : mw_S} {Q : Option mw_V → mw_S → Prop} : mw_WP d 43 7 [l0] st σ Q ↔ mw_WP d 43 10 [l0] (jI (900) :: st) σ Q := WP_sipush mq43 dd43_7 (by decide)
theorem dd43_10 : decode cX7_hasRoom 10 = .ok (.if_icmp .gt 7, 3) := by decide +kernel
theorem ww43_10 {d : Nat} {l0 : Option mw_V} {x y : Int} {st : List mw_V} {σ : mw_S} {Q : Option mw_V → mw_S → Prop} : mw_WP d 43 10 [l0] (jI y :: jI x :: st) σ Q ↔ (if y < x then mw_WP d 43 17 [l0] st σ Q else mw_WP d 43 13 [l0] st σ Q) := WP_icmp_gt mq43 dd43_10 (by decide)
theorem dd43_13 : decode cX7_hasRoom 13 = .ok (.iconst 1, 1) := by decide +kernel
theorem ww43_13 {d : Nat} {l0 : Option mw_V} {st : List mw_V} {σ : mw_S} {Q : Option mw_V → mw_S → Prop} : mw_WP d 43 13 [l0] st σ Q ↔ mw_WP d 43 14 [l0] (jI (1) :: st) σ Q := WP_iconst mq43 dd43_13 (by decide)
theorem dd43_14 : decode cX7_hasRoom 14 = .ok (.goto 4, 3) := by decide +kernel
theorem ww43_14 {d : Nat} {l0 : Option mw_V} {st : List mw_V} {σ : mw_S} {Q : Option mw_V → mw_S → Prop} : mw_WP d 43 14 [l0] st σ Q ↔ mw_WP d 43 18 [l0] st σ Q := WP_goto mq43 dd43_14 (by decide)
theorem dd43_17 : decode cX7_hasRoom 17 = .ok (.iconst 0, 1) := by decide +kernel
theorem ww43_17 {d : Nat} {l0 : Option mw_V} {st : List mw_V} {σ : mw_S} {Q : Option mw_V → mw_S → Prop} : mw_WP d 43 17 [l0] st σ Q ↔ mw_WP d 43 18 [l0] (jI (0) :: st) σ Q := WP_iconst mq43 dd43_17 (by decide)
theorem dd43_18 : decode cX7_hasRoom 18 = .ok (.ireturn, 1) := by decide +kernel
theorem ww43_18 {d : Nat} {l0 : Option mw_V} {z : Int} {σ : mw_S} {Q : Option mw_V → mw_S → Prop} (h : z = 0 ∨ z = 1) : mw_WP d 43 18 [l0] [jI z] σ Q ↔ Q (some (jI z)) σ := WP_ireturn (ty := .boolean) mq43 dd43_18 rfl (by rcases h with rfl | rfl <;> decide)
theorem ee44 {d : Nat} {a : Nat} {z0 : Int} {σ : mw_S} {Q : Option mw_V → mw_S → Prop} : mw_Call (d + 1) 44 [jR a, jI z0] σ Q ↔ mw_WP d 44 0 [some (jR a), some (jI z0), none] [] σ Q := CL_u mq44 (Nat.le_of_ble_eq_true rfl) rfl
theorem dd44_0 : decode cX7_tapeInt 0 = .ok (.bipush 24, 2) := by decide +kernel
theorem ww44_0 {d : Nat} {l0 l1 l2 : Option mw_V} {st : List mw_V} {σ : mw_S} {Q : Option mw_V → mw_S → Prop} : mw_WP d 44 0 [l0, l1, l2] st σ Q ↔ mw_WP d 44 2 [l0, l1, l2] (jI (24) :: st) σ Q := WP_bipush mq44 dd44_0 (by decide)
theorem dd44_2 : decode cX7_tapeInt 2 = .ok (.istore_n 2, 1) := by decide +kernel
theorem ww44_2 {d : Nat} {l0 l1 l2 : Option mw_V} {x : Int} {st : List mw_V} {σ : mw_S} {Q : Option mw_V → mw_S → Prop} (h : mw_nlo l1 = true) : mw_WP d 44 2 [l0, l1, l2] (jI x :: st) σ Q ↔ mw_WP d 44 3 [l0, l1, some (jI x)] st σ Q := WP_istore_n mq44 dd44_2 (Nat.le_of_ble_eq_true rfl) (mw_nl_of (i := 1) rfl h) rfl
theorem dd44_3 : decode cX7_tapeInt 3 = .ok (.iload_n 2, 1) := by decide +kernel
theorem ww44_3 {d : Nat} {l0 l1 : Option mw_V} {x : Int} {st : List mw_V} {σ : mw_S} {Q : Option mw_V → mw_S → Prop} : mw_WP d 44 3 [l0, l1, some (jI x)] st σ Q ↔ mw_WP d 44 4 [l0, l1, some (jI x)] (jI x :: st) σ Q := WP_iload_n mq44 dd44_3 rfl
theorem dd44_4 : decode cX7_tapeInt 4 = .ok (.ifCond .lt 45, 3) := by decide +kernel
theorem ww44_4 {d : Nat} {l0 l1 l2 : Option mw_V} {x : Int} {st : List mw_V} {σ : mw_S} {Q : Option mw_V → mw_S → Prop} : mw_WP d 44 4 [l0, l1, l2] (jI x :: st) σ Q ↔ (if x < 0 then mw_WP d 44 49 [l0, l1, l2] st σ Q else mw_WP d 44 7 [l0, l1, l2] st σ Q) := WP_if_lt mq44 dd44_4 (by decide)
theorem dd44_7 : decode cX7_tapeInt 7 = .ok (.aload_n 0, 1) := by decide +kernel
theorem ww44_7 {d : Nat} {l1 l2 : Option mw_V} {x : Nat} {st : List mw_V} {σ : mw_S} {Q : Option mw_V → mw_S → Prop} : mw_WP d 44 7 [some (jR x), l1, l2] st σ Q ↔ mw_WP d 44 8 [some (jR x), l1, l2] (jR x :: st) σ Q := WP_aload_n mq44 dd44_7 rfl
theorem dd44_8 : decode cX7_tapeInt 8 = .ok (.getfield 29, 3) := by decide +kernel
theorem ww44_8 {d : Nat} {l0 l1 l2 : Option mw_V} {st : List mw_V} {σ : mw_S} {Q : Option mw_V → mw_S → Prop} : mw_WP d 44 8 [l0, l1, l2] (jR 1 :: st) σ Q ↔ mw_WP d 44 11 [l0, l1, l2] (jI (σ 1 2) :: st) σ Q := WP_getI (ci := 6) (k := 2) mq44 dd44_8 (by decide) (Or.inl rfl)
theorem dd44_11 : decode cX7_tapeInt 11 = .ok (.sipush 900, 3) := by decide +kernel
theorem ww44_11 {d : Nat} {l0 l1 l2 : Option mw_V} {st : List mw_V} {σ : mw_S} {Q : Option mw_V → mw_S → Prop} : mw_WP d 44 11 [l0, l1, l2] st σ Q ↔ mw_WP d 44 14 [l0, l1, l2] (jI (900) :: st) σ Q := WP_sipush mq44 dd44_11 (by decide)
theorem dd44_14 : decode cX7_tapeInt 14 = .ok (.if_icmp .ge 35, 3) := by decide +kernel
theorem ww44_14 {d : Nat} {l0 l1 l2 : Option mw_V} {x y : Int} {st : List mw_V} {σ : mw_S} {Q : Option mw_V → mw_S → Prop} : mw_WP d 44 14 [l0, l1, l2] (jI y :: jI x :: st) σ Q ↔ (if y ≤ x then mw_WP d 44 49 [l0, l1, l2] st σ Q else mw_WP d 44 17 [l0, l1, l2] st σ Q) := WP_icmp_ge mq44 dd44_14 (by decide)
theorem dd44_17 : decode cX7_tapeInt 17 = .ok (.aload_n 0, 1) := by decide +kernel
theorem ww44_17 {d : Nat} {l1 l2 : Option mw_V} {x : Nat} {st : List mw_V} {σ : mw_S} {Q : Option mw_V → mw_S → Prop} : mw_WP d 44 17 [some (jR x), l1, l2] st σ Q ↔ mw_WP d 44 18 [some (jR x), l1, l2] (jR x :: st) σ Q := WP_aload_n mq44 dd44_17 rfl
theorem dd44_18 : decode cX7_tapeInt 18 = .ok (.getfield 11, 3) := by decide +kernel
theorem ww44_18 {d : Nat} {l0 l1 l2 : Option mw_V} {st : List mw_V} {σ : mw_S} {Q : Option mw_V → mw_S → Prop} : mw_WP d 44 18 [l0, l1, l2] (jR 1 :: st) σ Q ↔ mw_WP d 44 21 [l0, l1, l2] (jR 2 :: st) σ Q := WP_getR (ci := 6) (k := 0) mq44 dd44_18 (by decide) rfl
theorem dd44_21 : decode cX7_tapeInt 21 = .ok (.aload_n 0, 1) := by decide +kernel
theorem ww44_21 {d : Nat} {l1 l2 : Option mw_V} {x : Nat} {st : List mw_V} {σ : mw_S} {Q : Option mw_V → mw_S → Prop} : mw_WP d 44 21 [some (jR x), l1, l2] st σ Q ↔ mw_WP d 44 22 [some (jR x), l1, l2] (jR x :: st) σ Q := WP_aload_n mq44 dd44_21 rfl
theorem dd44_22 : decode cX7_tapeInt 22 = .ok (.getfield 29, 3) := by decide +kernel
theorem ww44_22 {d : Nat} {l0 l1 l2 : Option mw_V} {st : List mw_V} {σ : mw_S} {Q : Option mw_V → mw_S → Prop} : mw_WP d 44 22 [l0, l1, l2] (jR 1 :: st) σ Q ↔ mw_WP d 44 25 [l0, l1, l2] (jI (σ 1 2) :: st) σ Q := WP_getI (ci := 6) (k := 2) mq44 dd44_22 (by decide) (Or.inl rfl)
theorem dd44_25 : decode cX7_tapeInt 25 = .ok (.iload_n 1, 1) := by decide +kernel
theorem ww44_25 {d : Nat} {l0 l2 : Option mw_V} {x : Int} {st : List mw_V} {σ : mw_S} {Q : Option mw_V → mw_S → Prop} : mw_WP d 44 25 [l0, some (jI x), l2] st σ Q ↔ mw_WP d 44 26 [l0, some (jI x), l2] (jI x :: st) σ Q := WP_iload_n mq44 dd44_25 rfl
theorem dd44_26 : decode cX7_tapeInt 26 = .ok (.iload_n 2, 1) := by decide +kernel
theorem ww44_26 {d : Nat} {l0 l1 : Option mw_V} {x : Int} {st : List mw_V} {σ : mw_S} {Q : Option mw_V → mw_S → Prop} : mw_WP d 44 26 [l0, l1, some (jI x)] st σ Q ↔ mw_WP d 44 27 [l0, l1, some (jI x)] (jI x :: st) σ Q := WP_iload_n mq44 dd44_26 rfl
theorem dd44_27 : decode cX7_tapeInt 27 = .ok (.iushr, 1) := by decide +kernel
theorem ww44_27 {d : Nat} {l0 l1 l2 : Option mw_V} {x y : Int} {st : List mw_V} {σ : mw_S} {Q : Option mw_V → mw_S → Prop} : mw_WP d 44 27 [l0, l1, l2] (jI y :: jI x :: st) σ Q ↔ mw_WP d 44 28 [l0, l1, l2] (jI (zUshr x y) :: st) σ Q := WP_iushr mq44 dd44_27
theorem dd44_28 : decode cX7_tapeInt 28 = .ok (.sipush 255, 3) := by decide +kernel
theorem ww44_28 {d : Nat} {l0 l1 l2 : Option mw_V} {st : List mw_V} {σ : mw_S} {Q : Option mw_V → mw_S → Prop} : mw_WP d 44 28 [l0, l1, l2] st σ Q ↔ mw_WP d 44 31 [l0, l1, l2] (jI (255) :: st) σ Q := WP_sipush mq44 dd44_28 (by decide)
theorem dd44_31 : decode cX7_tapeInt 31 = .ok (.iand, 1) := by decide +kernel
theorem ww44_31 {d : Nat} {l0 l1 l2 : Option mw_V} {x y : Int} {st : List mw_V} {σ : mw_S} {Q : Option mw_V → mw_S → Prop} : mw_WP d 44 31 [l0, l1, l2] (jI y :: jI x :: st) σ Q ↔ mw_WP d 44 32 [l0, l1, l2] (jI (zAnd x y) :: st) σ Q := WP_iand mq44 dd44_31
theorem dd44_32 : decode cX7_tapeInt 32 = .ok (.iastore, 1) := by decide +kernel
theorem ww44_32 {d : Nat} {l0 l1 l2 : Option mw_V} {x z : Int} {a : Nat} {st : List mw_V} {σ : mw_S} {Q : Option mw_V → mw_S → Prop} : mw_WP d 44 32 [l0, l1, l2] (jI x :: jI z :: jR a :: st) σ Q ↔ ((0 ≤ z ∧ z < mw_lenW 0 a) ∧ mw_WP d 44 33 [l0, l1, l2] st (upS σ a z.toNat x) Q) := WP_iastore mq44 dd44_32
theorem dd44_33 : decode cX7_tapeInt 33 = .ok (.aload_n 0, 1) := by decide +kernel
theorem ww44_33 {d : Nat} {l1 l2 : Option mw_V} {x : Nat} {st : List mw_V} {σ : mw_S} {Q : Option mw_V → mw_S → Prop} : mw_WP d 44 33 [some (jR x), l1, l2] st σ Q ↔ mw_WP d 44 34 [some (jR x), l1, l2] (jR x :: st) σ Q := WP_aload_n mq44 dd44_33 rfl
theorem dd44_34 : decode cX7_tapeInt 34 = .ok (.dup, 1) := by decide +kernel
theorem ww44_34 {d : Nat} {l0 l1 l2 : Option mw_V} {v : mw_V} {st : List mw_V} {σ : mw_S} {Q : Option mw_V → mw_S → Prop} (h : mw_cat v = 1) : mw_WP d 44 34 [l0, l1, l2] (v :: st) σ Q ↔ mw_WP d 44 35 [l0, l1, l2] (v :: v :: st) σ Q := WP_dup mq44 dd44_34 h
theorem dd44_35 : decode cX7_tapeInt 35 = .ok (.getfield 29, 3) := by decide +kernel
theorem ww44_35 {d : Nat} {l0 l1 l2 : Option mw_V} {st : List mw_V} {σ : mw_S} {Q : Option mw_V → mw_S → Prop} : mw_WP d 44 35 [l0, l1, l2] (jR 1 :: st) σ Q ↔ mw_WP d 44 38 [l0, l1, l2] (jI (σ 1 2) :: st) σ Q := WP_getI (ci := 6) (k := 2) mq44 dd44_35 (by decide) (Or.inl rfl)
theorem dd44_38 : decode cX7_tapeInt 38 = .ok (.iconst 1, 1) := by decide +kernel
theorem ww44_38 {d : Nat} {l0 l1 l2 : Option mw_V} {st : List mw_V} {σ : mw_S} {Q : Option mw_V → mw_S → Prop} : mw_WP d 44 38 [l0, l1, l2] st σ Q ↔ mw_WP d 44 39 [l0, l1, l2] (jI (1) :: st) σ Q := WP_iconst mq44 dd44_38 (by decide)
theorem dd44_39 : decode cX7_tapeInt 39 = .ok (.iadd, 1) := by decide +kernel
theorem ww44_39 {d : Nat} {l0 l1 l2 : Option mw_V} {x y : Int} {st : List mw_V} {σ : mw_S} {Q : Option mw_V → mw_S → Prop} : mw_WP d 44 39 [l0, l1, l2] (jI y :: jI x :: st) σ Q ↔ mw_WP d 44 40 [l0, l1, l2] (jI (w32 (x + y)) :: st) σ Q := WP_iadd mq44 dd44_39
theorem dd44_40 : decode cX7_tapeInt 40 = .ok (.putfield 29, 3) := by decide +kernel
theorem ww44_40 {d : Nat} {l0 l1 l2 : Option mw_V} {v : Int} {st : List mw_V} {σ : mw_S} {Q : Option mw_V → mw_S → Prop} : mw_WP d 44 40 [l0, l1, l2] (jI v :: jR 1 :: st) σ Q ↔ mw_WP d 44 43 [l0, l1, l2] st (upS σ 1 2 v) Q := WP_putI (ci := 6) (k := 2) mq44 dd44_40 (by decide) rfl
theorem dd44_43 : decode cX7_tapeInt 43 = .ok (.iinc 2 (-8), 3) := by decide +kernel
theorem ww44_43 {d : Nat} {l0 l1 : Option mw_V} {x : Int} {st : List mw_V} {σ : mw_S} {Q : Option mw_V → mw_S → Prop} (h : mw_nlo l1 = true) : mw_WP d 44 43 [l0, l1, some (jI x)] st σ Q ↔ mw_WP d 44 46 [l0, l1, some (jI (w32 (x + (-8))))] st σ Q := WP_iinc mq44 dd44_43 rfl (Nat.le_of_ble_eq_true rfl) (mw_nl_of (i := 1) rfl h) rfl
theorem dd44_46 : decode cX7_tapeInt 46 = .ok (.goto (-43), 3) := by decide +kernel
theorem ww44_46 {d : Nat} {l0 l1 l2 : Option mw_V} {st : List mw_V} {σ : mw_S} {Q : Option mw_V → mw_S → Prop} : mw_WP d 44 46 [l0, l1, l2] st σ Q ↔ mw_WP d 44 3 [l0, l1, l2] st σ Q := WP_goto mq44 dd44_46 (by decide)
theorem dd44_49 : decode cX7_tapeInt 49 = .ok (.return_, 1) := by decide +kernel
theorem ww44_49 {d : Nat} {l0 l1 l2 : Option mw_V} {σ : mw_S} {Q : Option mw_V → mw_S → Prop} : mw_WP d 44 49 [l0, l1, l2] [] σ Q ↔ Q none σ := WP_return mq44 dd44_49 rfl
theorem ee45 {d : Nat} {a : Nat} {z0 : Int} {σ : mw_S} {Q : Option mw_V → mw_S → Prop} : mw_Call (d + 1) 45 [jR a, jI z0] σ Q ↔ mw_WP d 45 0 [some (jR a), some (jI z0), none, none] [] σ Q := CL_u mq45 (Nat.le_of_ble_eq_true rfl) rfl
theorem dd45_0 : decode cX7_readText 0 = .ok (.aload_n 0, 1) := by decide +kernel
theorem ww45_0 {d : Nat} {l1 l2 l3 : Option mw_V} {x : Nat} {st : List mw_V} {σ : mw_S} {Q : Option mw_V → mw_S → Prop} : mw_WP d 45 0 [some (jR x), l1, l2, l3] st σ Q ↔ mw_WP d 45 1 [some (jR x), l1, l2, l3] (jR x :: st) σ Q := WP_aload_n mq45 dd45_0 rfl
theorem dd45_1 : decode cX7_readText 1 = .ok (.iload_n 1, 1) := by decide +kernel
theorem ww45_1 {d : Nat} {l0 l2 l3 : Option mw_V} {x : Int} {st : List mw_V} {σ : mw_S} {Q : Option mw_V → mw_S → Prop} : mw_WP d 45 1 [l0, some (jI x), l2, l3] st σ Q ↔ mw_WP d 45 2 [l0, some (jI x), l2, l3] (jI x :: st) σ Q := WP_iload_n mq45 dd45_1 rfl
theorem dd45_2 : decode cX7_readText 2 = .ok (.aload_n 0, 1) := by decide +kernel
theorem ww45_2 {d : Nat} {l1 l2 l3 : Option mw_V} {x : Nat} {st : List mw_V} {σ : mw_S} {Q : Option mw_V → mw_S → Prop} : mw_WP d 45 2 [some (jR x), l1, l2, l3] st σ Q ↔ mw_WP d 45 3 [some (jR x), l1, l2, l3] (jR x :: st) σ Q := WP_aload_n mq45 dd45_2 rfl
theorem dd45_3 : decode cX7_readText 3 = .ok (.getfield 29, 3) := by decide +kernel
theorem ww45_3 {d : Nat} {l0 l1 l2 l3 : Option mw_V} {st : List mw_V} {σ : mw_S} {Q : Option mw_V → mw_S → Prop} : mw_WP d 45 3 [l0, l1, l2, l3] (jR 1 :: st) σ Q ↔ mw_WP d 45 6 [l0, l1, l2, l3] (jI (σ 1 2) :: st) σ Q := WP_getI (ci := 6) (k := 2) mq45 dd45_3 (by decide) (Or.inl rfl)
theorem dd45_6 : decode cX7_readText 6 = .ok (.invokestatic 32, 3) := by decide +kernel
theorem ww45_6 {d : Nat} {l0 l1 l2 l3 : Option mw_V} {v0 v1 : mw_V} {st : List mw_V} {σ : mw_S} {Q : Option mw_V → mw_S → Prop} (h8 : (st.map mw_cat).sum ≤ 8) : mw_WP d 45 6 [l0, l1, l2, l3] (v1 :: v0 :: st) σ Q ↔ mw_Call d 283 [v0, v1] σ (fun r1 s1 => mw_WP d 45 9 [l0, l1, l2, l3] (r1.toList ++ st) s1 Q) := WP_invs (as := [v1, v0]) mq45 dd45_6 (by decide) mq283 rfl rfl h8
theorem dd45_9 : decode cX7_readText 9 = .ok (.putfield 38, 3) := by decide +kernel
theorem ww45_9 {d : Nat} {l0 l1 l2 l3 : Option mw_V} {v : Int} {st : List mw_V} {σ : mw_S} {Q : Option mw_V → mw_S → Prop} : mw_WP d 45 9 [l0, l1, l2, l3] (jI v :: jR 1 :: st) σ Q ↔ mw_WP d 45 12 [l0, l1, l2, l3] st (upS σ 1 5 v) Q := WP_putI (ci := 6) (k := 5) mq45 dd45_9 (by decide) rfl
theorem dd45_12 : decode cX7_readText 12 = .ok (.aload_n 0, 1) := by decide +kernel
theorem ww45_12 {d : Nat} {l1 l2 l3 : Option mw_V} {x : Nat} {st : List mw_V} {σ : mw_S} {Q : Option mw_V → mw_S → Prop} : mw_WP d 45 12 [some (jR x), l1, l2, l3] st σ Q ↔ mw_WP d 45 13 [some (jR x), l1, l2, l3] (jR x :: st) σ Q := WP_aload_n mq45 dd45_12 rfl
theorem dd45_13 : decode cX7_readText 13 = .ok (.iconst 0, 1) := by decide +kernel
theorem ww45_13 {d : Nat} {l0 l1 l2 l3 : Option mw_V} {st : List mw_V} {σ : mw_S} {Q : Option mw_V → mw_S → Prop} : mw_WP d 45 13 [l0, l1, l2, l3] st σ Q ↔ mw_WP d 45 14 [l0, l1, l2, l3] (jI (0) :: st) σ Q := WP_iconst mq45 dd45_13 (by decide)
theorem dd45_14 : decode cX7_readText 14 = .ok (.putfield 29, 3) := by decide +kernel
theorem ww45_14 {d : Nat} {l0 l1 l2 l3 : Option mw_V} {v : Int} {st : List mw_V} {σ : mw_S} {Q : Option mw_V → mw_S → Prop} : mw_WP d 45 14 [l0, l1, l2, l3] (jI v :: jR 1 :: st) σ Q ↔ mw_WP d 45 17 [l0, l1, l2, l3] st (upS σ 1 2 v) Q := WP_putI (ci := 6) (k := 2) mq45 dd45_14 (by decide) rfl
theorem dd45_17 : decode cX7_readText 17 = .ok (.aload_n 0, 1) := by decide +kernel
theorem ww45_17 {d : Nat} {l1 l2 l3 : Option mw_V} {x : Nat} {st : List mw_V} {σ : mw_S} {Q : Option mw_V → mw_S → Prop} : mw_WP d 45 17 [some (jR x), l1, l2, l3] st σ Q ↔ mw_WP d 45 18 [some (jR x), l1, l2, l3] (jR x :: st) σ Q := WP_aload_n mq45 dd45_17 rfl
theorem dd45_18 : decode cX7_readText 18 = .ok (.iconst 0, 1) := by decide +kernel
theorem ww45_18 {d : Nat} {l0 l1 l2 l3 : Option mw_V} {st : List mw_V} {σ : mw_S} {Q : Option mw_V → mw_S → Prop} : mw_WP d 45 18 [l0, l1, l2, l3] st σ Q ↔ mw_WP d 45 19 [l0, l1, l2, l3] (jI (0) :: st) σ Q := WP_iconst mq45 dd45_18 (by decide)
theorem dd45_19 : decode cX7_readText 19 = .ok (.putfield 41, 3) := by decide +kernel
theorem ww45_19 {d : Nat} {l0 l1 l2 l3 : Option mw_V} {v : Int} {st : List mw_V} {σ : mw_S} {Q : Option mw_V → mw_S → Prop} : mw_WP d 45 19 [l0, l1, l2, l3] (jI v :: jR 1 :: st) σ Q ↔ mw_WP d 45 22 [l0, l1, l2, l3] st (upS σ 1 6 v) Q := WP_putI (ci := 6) (k := 6) mq45 dd45_19 (by decide) rfl
theorem dd45_22 : decode cX7_readText 22 = .ok (.aload_n 0, 1) := by decide +kernel
theorem ww45_22 {d : Nat} {l1 l2 l3 : Option mw_V} {x : Nat} {st : List mw_V} {σ : mw_S} {Q : Option mw_V → mw_S → Prop} : mw_WP d 45 22 [some (jR x), l1, l2, l3] st σ Q ↔ mw_WP d 45 23 [some (jR x), l1, l2, l3] (jR x :: st) σ Q := WP_aload_n mq45 dd45_22 rfl
theorem dd45_23 : decode cX7_readText 23 = .ok (.iconst 0, 1) := by decide +kernel
theorem ww45_23 {d : Nat} {l0 l1 l2 l3 : Option mw_V} {st : List mw_V} {σ : mw_S} {Q : Option mw_V → mw_S → Prop} : mw_WP d 45 23 [l0, l1, l2, l3] st σ Q ↔ mw_WP d 45 24 [l0, l1, l2, l3] (jI (0) :: st) σ Q := WP_iconst mq45 dd45_23 (by decide)
theorem dd45_24 : decode cX7_readText 24 = .ok (.putfield 44, 3) := by decide +kernel
theorem ww45_24 {d : Nat} {l0 l1 l2 l3 : Option mw_V} {v : Int} {st : List mw_V} {σ : mw_S} {Q : Option mw_V → mw_S → Prop} : mw_WP d 45 24 [l0, l1, l2, l3] (jI v :: jR 1 :: st) σ Q ↔ mw_WP d 45 27 [l0, l1, l2, l3] st (upS σ 1 3 v) Q := WP_putI (ci := 6) (k := 3) mq45 dd45_24 (by decide) rfl
theorem dd45_27 : decode cX7_readText 27 = .ok (.aload_n 0, 1) := by decide +kernel
theorem ww45_27 {d : Nat} {l1 l2 l3 : Option mw_V} {x : Nat} {st : List mw_V} {σ : mw_S} {Q : Option mw_V → mw_S → Prop} : mw_WP d 45 27 [some (jR x), l1, l2, l3] st σ Q ↔ mw_WP d 45 28 [some (jR x), l1, l2, l3] (jR x :: st) σ Q := WP_aload_n mq45 dd45_27 rfl
theorem dd45_28 : decode cX7_readText 28 = .ok (.iconst (-1), 1) := by decide +kernel
theorem ww45_28 {d : Nat} {l0 l1 l2 l3 : Option mw_V} {st : List mw_V} {σ : mw_S} {Q : Option mw_V → mw_S → Prop} : mw_WP d 45 28 [l0, l1, l2, l3] st σ Q ↔ mw_WP d 45 29 [l0, l1, l2, l3] (jI (-1) :: st) σ Q := WP_iconst mq45 dd45_28 (by decide)
theorem dd45_29 : decode cX7_readText 29 = .ok (.putfield 22, 3) := by decide +kernel
theorem ww45_29 {d : Nat} {l0 l1 l2 l3 : Option mw_V} {v : Int} {st : List mw_V} {σ : mw_S} {Q : Option mw_V → mw_S → Prop} : mw_WP d 45 29 [l0, l1, l2, l3] (jI v :: jR 1 :: st) σ Q ↔ mw_WP d 45 32 [l0, l1, l2, l3] st (upS σ 1 4 v) Q := WP_putI (ci := 6) (k := 4) mq45 dd45_29 (by decide) rfl
theorem dd45_32 : decode cX7_readText 32 = .ok (.aload_n 0, 1) := by decide +kernel
theorem ww45_32 {d : Nat} {l1 l2 l3 : Option mw_V} {x : Nat} {st : List mw_V} {σ : mw_S} {Q : Option mw_V → mw_S → Prop} : mw_WP d 45 32 [some (jR x), l1, l2, l3] st σ Q ↔ mw_WP d 45 33 [some (jR x), l1, l2, l3] (jR x :: st) σ Q := WP_aload_n mq45 dd45_32 rfl
theorem dd45_33 : decode cX7_readText 33 = .ok (.getfield 18, 3) := by decide +kernel
theorem ww45_33 {d : Nat} {l0 l1 l2 l3 : Option mw_V} {st : List mw_V} {σ : mw_S} {Q : Option mw_V → mw_S → Prop} : mw_WP d 45 33 [l0, l1, l2, l3] (jR 1 :: st) σ Q ↔ mw_WP d 45 36 [l0, l1, l2, l3] (jR 3 :: st) σ Q := WP_getR (ci := 6) (k := 1) mq45 dd45_33 (by decide) rfl
theorem dd45_36 : decode cX7_readText 36 = .ok (.invokevirtual 47, 3) := by decide +kernel
theorem ww45_36 {d : Nat} {l0 l1 l2 l3 : Option mw_V} {a : Nat} {st : List mw_V} {σ : mw_S} {Q : Option mw_V → mw_S → Prop} (hr : mw_rc a = 1) (h8 : (st.map mw_cat).sum ≤ 8) : mw_WP d 45 36 [l0, l1, l2, l3] (jR a :: st) σ Q ↔ mw_Call d 0 [jR a] σ (fun r1 s1 => mw_WP d 45 39 [l0, l1, l2, l3] (r1.toList ++ st) s1 Q) := WP_inv (as := []) mq45 dd45_36 (by decide) mq0 rfl hr h8
theorem dd45_39 : decode cX7_readText 39 = .ok (.aload_n 0, 1) := by decide +kernel
theorem ww45_39 {d : Nat} {l1 l2 l3 : Option mw_V} {x : Nat} {st : List mw_V} {σ : mw_S} {Q : Option mw_V → mw_S → Prop} : mw_WP d 45 39 [some (jR x), l1, l2, l3] st σ Q ↔ mw_WP d 45 40 [some (jR x), l1, l2, l3] (jR x :: st) σ Q := WP_aload_n mq45 dd45_39 rfl
theorem dd45_40 : decode cX7_readText 40 = .ok (.invokevirtual 50, 3) := by decide +kernel
theorem ww45_40 {d : Nat} {l0 l1 l2 l3 : Option mw_V} {a : Nat} {st : List mw_V} {σ : mw_S} {Q : Option mw_V → mw_S → Prop} (hr : mw_rc a = 7) (h8 : (st.map mw_cat).sum ≤ 8) : mw_WP d 45 40 [l0, l1, l2, l3] (jR a :: st) σ Q ↔ mw_Call d 72 [jR a] σ (fun r1 s1 => mw_WP d 45 43 [l0, l1, l2, l3] (r1.toList ++ st) s1 Q) := WP_inv (as := []) mq45 dd45_40 (by decide) mq72 rfl hr h8
theorem dd45_43 : decode cX7_readText 43 = .ok (.iconst 0, 1) := by decide +kernel
theorem ww45_43 {d : Nat} {l0 l1 l2 l3 : Option mw_V} {st : List mw_V} {σ : mw_S} {Q : Option mw_V → mw_S → Prop} : mw_WP d 45 43 [l0, l1, l2, l3] st σ Q ↔ mw_WP d 45 44 [l0, l1, l2, l3] (jI (0) :: st) σ Q := WP_iconst mq45 dd45_43 (by decide)
theorem dd45_44 : decode cX7_readText 44 = .ok (.istore_n 2, 1) := by decide +kernel
theorem ww45_44 {d : Nat} {l0 l1 l2 l3 : Option mw_V} {x : Int} {st : List mw_V} {σ : mw_S} {Q : Option mw_V → mw_S → Prop} (h : mw_nlo l1 = true) : mw_WP d 45 44 [l0, l1, l2, l3] (jI x :: st) σ Q ↔ mw_WP d 45 45 [l0, l1, some (jI x), l3] st σ Q := WP_istore_n mq45 dd45_44 (Nat.le_of_ble_eq_true rfl) (mw_nl_of (i := 1) rfl h) rfl
theorem dd45_45 : decode cX7_readText 45 = .ok (.iload_n 2, 1) := by decide +kernel
theorem ww45_45 {d : Nat} {l0 l1 l3 : Option mw_V} {x : Int} {st : List mw_V} {σ : mw_S} {Q : Option mw_V → mw_S → Prop} : mw_WP d 45 45 [l0, l1, some (jI x), l3] st σ Q ↔ mw_WP d 45 46 [l0, l1, some (jI x), l3] (jI x :: st) σ Q := WP_iload_n mq45 dd45_45 rfl
theorem dd45_46 : decode cX7_readText 46 = .ok (.aload_n 0, 1) := by decide +kernel
theorem ww45_46 {d : Nat} {l1 l2 l3 : Option mw_V} {x : Nat} {st : List mw_V} {σ : mw_S} {Q : Option mw_V → mw_S → Prop} : mw_WP d 45 46 [some (jR x), l1, l2, l3] st σ Q ↔ mw_WP d 45 47 [some (jR x), l1, l2, l3] (jR x :: st) σ Q := WP_aload_n mq45 dd45_46 rfl
theorem dd45_47 : decode cX7_readText 47 = .ok (.getfield 38, 3) := by decide +kernel
theorem ww45_47 {d : Nat} {l0 l1 l2 l3 : Option mw_V} {st : List mw_V} {σ : mw_S} {Q : Option mw_V → mw_S → Prop} : mw_WP d 45 47 [l0, l1, l2, l3] (jR 1 :: st) σ Q ↔ mw_WP d 45 50 [l0, l1, l2, l3] (jI (σ 1 5) :: st) σ Q := WP_getI (ci := 6) (k := 5) mq45 dd45_47 (by decide) (Or.inl rfl)
theorem dd45_50 : decode cX7_readText 50 = .ok (.if_icmp .ge 129, 3) := by decide +kernel
theorem ww45_50 {d : Nat} {l0 l1 l2 l3 : Option mw_V} {x y : Int} {st : List mw_V} {σ : mw_S} {Q : Option mw_V → mw_S → Prop} : mw_WP d 45 50 [l0, l1, l2, l3] (jI y :: jI x :: st) σ Q ↔ (if y ≤ x then mw_WP d 45 179 [l0, l1, l2, l3] st σ Q else mw_WP d 45 53 [l0, l1, l2, l3] st σ Q) := WP_icmp_ge mq45 dd45_50 (by decide)
theorem dd45_53 : decode cX7_readText 53 = .ok (.aload_n 0, 1) := by decide +kernel
theorem ww45_53 {d : Nat} {l1 l2 l3 : Option mw_V} {x : Nat} {st : List mw_V} {σ : mw_S} {Q : Option mw_V → mw_S → Prop} : mw_WP d 45 53 [some (jR x), l1, l2, l3] st σ Q ↔ mw_WP d 45 54 [some (jR x), l1, l2, l3] (jR x :: st) σ Q := WP_aload_n mq45 dd45_53 rfl
theorem dd45_54 : decode cX7_readText 54 = .ok (.getfield 53, 3) := by decide +kernel
theorem ww45_54 {d : Nat} {l0 l1 l2 l3 : Option mw_V} {st : List mw_V} {σ : mw_S} {Q : Option mw_V → mw_S → Prop} : mw_WP d 45 54 [l0, l1, l2, l3] (jR 1 :: st) σ Q ↔ mw_WP d 45 57 [l0, l1, l2, l3] (jI (σ 1 8) :: st) σ Q := WP_getI (ci := 6) (k := 8) mq45 dd45_54 (by decide) (Or.inl rfl)
theorem dd45_57 : decode cX7_readText 57 = .ok (.ifCond .eq 122, 3) := by decide +kernel
theorem ww45_57 {d : Nat} {l0 l1 l2 l3 : Option mw_V} {x : Int} {st : List mw_V} {σ : mw_S} {Q : Option mw_V → mw_S → Prop} : mw_WP d 45 57 [l0, l1, l2, l3] (jI x :: st) σ Q ↔ (if x = 0 then mw_WP d 45 179 [l0, l1, l2, l3] st σ Q else mw_WP d 45 60 [l0, l1, l2, l3] st σ Q) := WP_if_eq mq45 dd45_57 (by decide)
theorem dd45_60 : decode cX7_readText 60 = .ok (.aload_n 0, 1) := by decide +kernel
theorem ww45_60 {d : Nat} {l1 l2 l3 : Option mw_V} {x : Nat} {st : List mw_V} {σ : mw_S} {Q : Option mw_V → mw_S → Prop} : mw_WP d 45 60 [some (jR x), l1, l2, l3] st σ Q ↔ mw_WP d 45 61 [some (jR x), l1, l2, l3] (jR x :: st) σ Q := WP_aload_n mq45 dd45_60 rfl
theorem dd45_61 : decode cX7_readText 61 = .ok (.ldc 56, 2) := by decide +kernel
theorem ww45_61 {d : Nat} {l0 l1 l2 l3 : Option mw_V} {st : List mw_V} {σ : mw_S} {Q : Option mw_V → mw_S → Prop} : mw_WP d 45 61 [l0, l1, l2, l3] st σ Q ↔ mw_WP d 45 63 [l0, l1, l2, l3] (jR 1001 :: st) σ Q := WP_ldcS (n := 1) mq45 dd45_61 (by decide) (by decide) rfl
theorem dd45_63 : decode cX7_readText 63 = .ok (.invokevirtual 58, 3) := by decide +kernel
theorem ww45_63 {d : Nat} {l0 l1 l2 l3 : Option mw_V} {v0 : mw_V} {a : Nat} {st : List mw_V} {σ : mw_S} {Q : Option mw_V → mw_S → Prop} (hr : mw_rc a = 7) (h8 : (st.map mw_cat).sum ≤ 8) : mw_WP d 45 63 [l0, l1, l2, l3] (v0 :: jR a :: st) σ Q ↔ mw_Call d 66 [jR a, v0] σ (fun r1 s1 => mw_WP d 45 66 [l0, l1, l2, l3] (r1.toList ++ st) s1 Q) := WP_inv (as := [v0]) mq45 dd45_63 (by decide) mq66 rfl hr h8
theorem dd45_66 : decode cX7_readText 66 = .ok (.ifCond .eq 10, 3) := by decide +kernel
theorem ww45_66 {d : Nat} {l0 l1 l2 l3 : Option mw_V} {x : Int} {st : List mw_V} {σ : mw_S} {Q : Option mw_V → mw_S → Prop} : mw_WP d 45 66 [l0, l1, l2, l3] (jI x :: st) σ Q ↔ (if x = 0 then mw_WP d 45 76 [l0, l1, l2, l3] st σ Q else mw_WP d 45 69 [l0, l1, l2, l3] st σ Q) := WP_if_eq mq45 dd45_66 (by decide)
theorem dd45_69 : decode cX7_readText 69 = .ok (.aload_n 0, 1) := by decide +kernel
theorem ww45_69 {d : Nat} {l1 l2 l3 : Option mw_V} {x : Nat} {st : List mw_V} {σ : mw_S} {Q : Option mw_V → mw_S → Prop} : mw_WP d 45 69 [some (jR x), l1, l2, l3] st σ Q ↔ mw_WP d 45 70 [some (jR x), l1, l2, l3] (jR x :: st) σ Q := WP_aload_n mq45 dd45_69 rfl
theorem dd45_70 : decode cX7_readText 70 = .ok (.invokevirtual 62, 3) := by decide +kernel
theorem ww45_70 {d : Nat} {l0 l1 l2 l3 : Option mw_V} {a : Nat} {st : List mw_V} {σ : mw_S} {Q : Option mw_V → mw_S → Prop} (hr : mw_rc a = 7) (h8 : (st.map mw_cat).sum ≤ 8) : mw_WP d 45 70 [l0, l1, l2, l3] (jR a :: st) σ Q ↔ mw_Call d 46 [jR a] σ (fun r1 s1 => mw_WP d 45 73 [l0, l1, l2, l3] (r1.toList ++ st) s1 Q) := WP_inv (as := []) mq45 dd45_70 (by decide) mq46 rfl hr h8
theorem dd45_73 : decode cX7_readText 73 = .ok (.goto 71, 3) := by decide +kernel
theorem ww45_73 {d : Nat} {l0 l1 l2 l3 : Option mw_V} {st : List mw_V} {σ : mw_S} {Q : Option mw_V → mw_S → Prop} : mw_WP d 45 73 [l0, l1, l2, l3] st σ Q ↔ mw_WP d 45 144 [l0, l1, l2, l3] st σ Q := WP_goto mq45 dd45_73 (by decide)
theorem dd45_76 : decode cX7_readText 76 = .ok (.aload_n 0, 1) := by decide +kernel
theorem ww45_76 {d : Nat} {l1 l2 l3 : Option mw_V} {x : Nat} {st : List mw_V} {σ : mw_S} {Q : Option mw_V → mw_S → Prop} : mw_WP d 45 76 [some (jR x), l1, l2, l3] st σ Q ↔ mw_WP d 45 77 [some (jR x), l1, l2, l3] (jR x :: st) σ Q := WP_aload_n mq45 dd45_76 rfl
theorem dd45_77 : decode cX7_readText 77 = .ok (.ldc 66, 2) := by decide +kernel
theorem ww45_77 {d : Nat} {l0 l1 l2 l3 : Option mw_V} {st : List mw_V} {σ : mw_S} {Q : Option mw_V → mw_S → Prop} : mw_WP d 45 77 [l0, l1, l2, l3] st σ Q ↔ mw_WP d 45 79 [l0, l1, l2, l3] (jR 1002 :: st) σ Q := WP_ldcS (n := 2) mq45 dd45_77 (by decide) (by decide) rfl
theorem dd45_79 : decode cX7_readText 79 = .ok (.invokevirtual 58, 3) := by decide +kernel
theorem ww45_79 {d : Nat} {l0 l1 l2 l3 : Option mw_V} {v0 : mw_V} {a : Nat} {st : List mw_V} {σ : mw_S} {Q : Option mw_V → mw_S → Prop} (hr : mw_rc a = 7) (h8 : (st.map mw_cat).sum ≤ 8) : mw_WP d 45 79 [l0, l1, l2, l3] (v0 :: jR a :: st) σ Q ↔ mw_Call d 66 [jR a, v0] σ (fun r1 s1 => mw_WP d 45 82 [l0, l1, l2, l3] (r1.toList ++ st) s1 Q) := WP_inv (as := [v0]) mq45 dd45_79 (by decide) mq66 rfl hr h8
theorem dd45_82 : decode cX7_readText 82 = .ok (.ifCond .eq 10, 3) := by decide +kernel
theorem ww45_82 {d : Nat} {l0 l1 l2 l3 : Option mw_V} {x : Int} {st : List mw_V} {σ : mw_S} {Q : Option mw_V → mw_S → Prop} : mw_WP d 45 82 [l0, l1, l2, l3] (jI x :: st) σ Q ↔ (if x = 0 then mw_WP d 45 92 [l0, l1, l2, l3] st σ Q else mw_WP d 45 85 [l0, l1, l2, l3] st σ Q) := WP_if_eq mq45 dd45_82 (by decide)
theorem dd45_85 : decode cX7_readText 85 = .ok (.aload_n 0, 1) := by decide +kernel
theorem ww45_85 {d : Nat} {l1 l2 l3 : Option mw_V} {x : Nat} {st : List mw_V} {σ : mw_S} {Q : Option mw_V → mw_S → Prop} : mw_WP d 45 85 [some (jR x), l1, l2, l3] st σ Q ↔ mw_WP d 45 86 [some (jR x), l1, l2, l3] (jR x :: st) σ Q := WP_aload_n mq45 dd45_85 rfl
theorem dd45_86 : decode cX7_readText 86 = .ok (.invokevirtual 68, 3) := by decide +kernel
theorem ww45_86 {d : Nat} {l0 l1 l2 l3 : Option mw_V} {a : Nat} {st : List mw_V} {σ : mw_S} {Q : Option mw_V → mw_S → Prop} (hr : mw_rc a = 7) (h8 : (st.map mw_cat).sum ≤ 8) : mw_WP d 45 86 [l0, l1, l2, l3] (jR a :: st) σ Q ↔ mw_Call d 47 [jR a] σ (fun r1 s1 => mw_WP d 45 89 [l0, l1, l2, l3] (r1.toList ++ st) s1 Q) := WP_inv (as := []) mq45 dd45_86 (by decide) mq47 rfl hr h8
theorem dd45_89 : decode cX7_readText 89 = .ok (.goto 55, 3) := by decide +kernel
theorem ww45_89 {d : Nat} {l0 l1 l2 l3 : Option mw_V} {st : List mw_V} {σ : mw_S} {Q : Option mw_V → mw_S → Prop} : mw_WP d 45 89 [l0, l1, l2, l3] st σ Q ↔ mw_WP d 45 144 [l0, l1, l2, l3] st σ Q := WP_goto mq45 dd45_89 (by decide)
theorem dd45_92 : decode cX7_readText 92 = .ok (.aload_n 0, 1) := by decide +kernel
theorem ww45_92 {d : Nat} {l1 l2 l3 : Option mw_V} {x : Nat} {st : List mw_V} {σ : mw_S} {Q : Option mw_V → mw_S → Prop} : mw_WP d 45 92 [some (jR x), l1, l2, l3] st σ Q ↔ mw_WP d 45 93 [some (jR x), l1, l2, l3] (jR x :: st) σ Q := WP_aload_n mq45 dd45_92 rfl
theorem dd45_93 : decode cX7_readText 93 = .ok (.ldc 71, 2) := by decide +kernel
theorem ww45_93 {d : Nat} {l0 l1 l2 l3 : Option mw_V} {st : List mw_V} {σ : mw_S} {Q : Option mw_V → mw_S → Prop} : mw_WP d 45 93 [l0, l1, l2, l3] st σ Q ↔ mw_WP d 45 95 [l0, l1, l2, l3] (jR 1004 :: st) σ Q := WP_ldcS (n := 4) mq45 dd45_93 (by decide) (by decide) rfl
theorem dd45_95 : decode cX7_readText 95 = .ok (.invokevirtual 58, 3) := by decide +kernel
theorem ww45_95 {d : Nat} {l0 l1 l2 l3 : Option mw_V} {v0 : mw_V} {a : Nat} {st : List mw_V} {σ : mw_S} {Q : Option mw_V → mw_S → Prop} (hr : mw_rc a = 7) (h8 : (st.map mw_cat).sum ≤ 8) : mw_WP d 45 95 [l0, l1, l2, l3] (v0 :: jR a :: st) σ Q ↔ mw_Call d 66 [jR a, v0] σ (fun r1 s1 => mw_WP d 45 98 [l0, l1, l2, l3] (r1.toList ++ st) s1 Q) := WP_inv (as := [v0]) mq45 dd45_95 (by decide) mq66 rfl hr h8
theorem dd45_98 : decode cX7_readText 98 = .ok (.ifCond .eq 10, 3) := by decide +kernel
theorem ww45_98 {d : Nat} {l0 l1 l2 l3 : Option mw_V} {x : Int} {st : List mw_V} {σ : mw_S} {Q : Option mw_V → mw_S → Prop} : mw_WP d 45 98 [l0, l1, l2, l3] (jI x :: st) σ Q ↔ (if x = 0 then mw_WP d 45 108 [l0, l1, l2, l3] st σ Q else mw_WP d 45 101 [l0, l1, l2, l3] st σ Q) := WP_if_eq mq45 dd45_98 (by decide)
theorem dd45_101 : decode cX7_readText 101 = .ok (.aload_n 0, 1) := by decide +kernel
theorem ww45_101 {d : Nat} {l1 l2 l3 : Option mw_V} {x : Nat} {st : List mw_V} {σ : mw_S} {Q : Option mw_V → mw_S → Prop} : mw_WP d 45 101 [some (jR x), l1, l2, l3] st σ Q ↔ mw_WP d 45 102 [some (jR x), l1, l2, l3] (jR x :: st) σ Q := WP_aload_n mq45 dd45_101 rfl
theorem dd45_102 : decode cX7_readText 102 = .ok (.invokevirtual 73, 3) := by decide +kernel
theorem ww45_102 {d : Nat} {l0 l1 l2 l3 : Option mw_V} {a : Nat} {st : List mw_V} {σ : mw_S} {Q : Option mw_V → mw_S → Prop} (hr : mw_rc a = 7) (h8 : (st.map mw_cat).sum ≤ 8) : mw_WP d 45 102 [l0, l1, l2, l3] (jR a :: st) σ Q ↔ mw_Call d 48 [jR a] σ (fun r1 s1 => mw_WP d 45 105 [l0, l1, l2, l3] (r1.toList ++ st) s1 Q) := WP_inv (as := []) mq45 dd45_102 (by decide) mq48 rfl hr h8
theorem dd45_105 : decode cX7_readText 105 = .ok (.goto 39, 3) := by decide +kernel
theorem ww45_105 {d : Nat} {l0 l1 l2 l3 : Option mw_V} {st : List mw_V} {σ : mw_S} {Q : Option mw_V → mw_S → Prop} : mw_WP d 45 105 [l0, l1, l2, l3] st σ Q ↔ mw_WP d 45 144 [l0, l1, l2, l3] st σ Q := WP_goto mq45 dd45_105 (by decide)
theorem dd45_108 : decode cX7_readText 108 = .ok (.aload_n 0, 1) := by decide +kernel
theorem ww45_108 {d : Nat} {l1 l2 l3 : Option mw_V} {x : Nat} {st : List mw_V} {σ : mw_S} {Q : Option mw_V → mw_S → Prop} : mw_WP d 45 108 [some (jR x), l1, l2, l3] st σ Q ↔ mw_WP d 45 109 [some (jR x), l1, l2, l3] (jR x :: st) σ Q := WP_aload_n mq45 dd45_108 rfl
theorem dd45_109 : decode cX7_readText 109 = .ok (.ldc 76, 2) := by decide +kernel
theorem ww45_109 {d : Nat} {l0 l1 l2 l3 : Option mw_V} {st : List mw_V} {σ : mw_S} {Q : Option mw_V → mw_S → Prop} : mw_WP d 45 109 [l0, l1, l2, l3] st σ Q ↔ mw_WP d 45 111 [l0, l1, l2, l3] (jR 1006 :: st) σ Q := WP_ldcS (n := 6) mq45 dd45_109 (by decide) (by decide) rfl
theorem dd45_111 : decode cX7_readText 111 = .ok (.invokevirtual 58, 3) := by decide +kernel
theorem ww45_111 {d : Nat} {l0 l1 l2 l3 : Option mw_V} {v0 : mw_V} {a : Nat} {st : List mw_V} {σ : mw_S} {Q : Option mw_V → mw_S → Prop} (hr : mw_rc a = 7) (h8 : (st.map mw_cat).sum ≤ 8) : mw_WP d 45 111 [l0, l1, l2, l3] (v0 :: jR a :: st) σ Q ↔ mw_Call d 66 [jR a, v0] σ (fun r1 s1 => mw_WP d 45 114 [l0, l1, l2, l3] (r1.toList ++ st) s1 Q) := WP_inv (as := [v0]) mq45 dd45_111 (by decide) mq66 rfl hr h8
theorem dd45_114 : decode cX7_readText 114 = .ok (.ifCond .eq 10, 3) := by decide +kernel
theorem ww45_114 {d : Nat} {l0 l1 l2 l3 : Option mw_V} {x : Int} {st : List mw_V} {σ : mw_S} {Q : Option mw_V → mw_S → Prop} : mw_WP d 45 114 [l0, l1, l2, l3] (jI x :: st) σ Q ↔ (if x = 0 then mw_WP d 45 124 [l0, l1, l2, l3] st σ Q else mw_WP d 45 117 [l0, l1, l2, l3] st σ Q) := WP_if_eq mq45 dd45_114 (by decide)
theorem dd45_117 : decode cX7_readText 117 = .ok (.aload_n 0, 1) := by decide +kernel
theorem ww45_117 {d : Nat} {l1 l2 l3 : Option mw_V} {x : Nat} {st : List mw_V} {σ : mw_S} {Q : Option mw_V → mw_S → Prop} : mw_WP d 45 117 [some (jR x), l1, l2, l3] st σ Q ↔ mw_WP d 45 118 [some (jR x), l1, l2, l3] (jR x :: st) σ Q := WP_aload_n mq45 dd45_117 rfl
theorem dd45_118 : decode cX7_readText 118 = .ok (.invokevirtual 78, 3) := by decide +kernel
theorem ww45_118 {d : Nat} {l0 l1 l2 l3 : Option mw_V} {a : Nat} {st : List mw_V} {σ : mw_S} {Q : Option mw_V → mw_S → Prop} (hr : mw_rc a = 7) (h8 : (st.map mw_cat).sum ≤ 8) : mw_WP d 45 118 [l0, l1, l2, l3] (jR a :: st) σ Q ↔ mw_Call d 50 [jR a] σ (fun r1 s1 => mw_WP d 45 121 [l0, l1, l2, l3] (r1.toList ++ st) s1 Q) := WP_inv (as := []) mq45 dd45_118 (by decide) mq50 rfl hr h8
theorem dd45_121 : decode cX7_readText 121 = .ok (.goto 23, 3) := by decide +kernel
theorem ww45_121 {d : Nat} {l0 l1 l2 l3 : Option mw_V} {st : List mw_V} {σ : mw_S} {Q : Option mw_V → mw_S → Prop} : mw_WP d 45 121 [l0, l1, l2, l3] st σ Q ↔ mw_WP d 45 144 [l0, l1, l2, l3] st σ Q := WP_goto mq45 dd45_121 (by decide)
theorem dd45_124 : decode cX7_readText 124 = .ok (.aload_n 0, 1) := by decide +kernel
theorem ww45_124 {d : Nat} {l1 l2 l3 : Option mw_V} {x : Nat} {st : List mw_V} {σ : mw_S} {Q : Option mw_V → mw_S → Prop} : mw_WP d 45 124 [some (jR x), l1, l2, l3] st σ Q ↔ mw_WP d 45 125 [some (jR x), l1, l2, l3] (jR x :: st) σ Q := WP_aload_n mq45 dd45_124 rfl
theorem dd45_125 : decode cX7_readText 125 = .ok (.ldc 81, 2) := by decide +kernel
theorem ww45_125 {d : Nat} {l0 l1 l2 l3 : Option mw_V} {st : List mw_V} {σ : mw_S} {Q : Option mw_V → mw_S → Prop} : mw_WP d 45 125 [l0, l1, l2, l3] st σ Q ↔ mw_WP d 45 127 [l0, l1, l2, l3] (jR 1025 :: st) σ Q := WP_ldcS (n := 25) mq45 dd45_125 (by decide) (by decide) rfl
theorem dd45_127 : decode cX7_readText 127 = .ok (.invokevirtual 58, 3) := by decide +kernel
theorem ww45_127 {d : Nat} {l0 l1 l2 l3 : Option mw_V} {v0 : mw_V} {a : Nat} {st : List mw_V} {σ : mw_S} {Q : Option mw_V → mw_S → Prop} (hr : mw_rc a = 7) (h8 : (st.map mw_cat).sum ≤ 8) : mw_WP d 45 127 [l0, l1, l2, l3] (v0 :: jR a :: st) σ Q ↔ mw_Call d 66 [jR a, v0] σ (fun r1 s1 => mw_WP d 45 130 [l0, l1, l2, l3] (r1.toList ++ st) s1 Q) := WP_inv (as := [v0]) mq45 dd45_127 (by decide) mq66 rfl hr h8
theorem dd45_130 : decode cX7_readText 130 = .ok (.ifCond .eq 10, 3) := by decide +kernel
theorem ww45_130 {d : Nat} {l0 l1 l2 l3 : Option mw_V} {x : Int} {st : List mw_V} {σ : mw_S} {Q : Option mw_V → mw_S → Prop} : mw_WP d 45 130 [l0, l1, l2, l3] (jI x :: st) σ Q ↔ (if x = 0 then mw_WP d 45 140 [l0, l1, l2, l3] st σ Q else mw_WP d 45 133 [l0, l1, l2, l3] st σ Q) := WP_if_eq mq45 dd45_130 (by decide)
theorem dd45_133 : decode cX7_readText 133 = .ok (.aload_n 0, 1) := by decide +kernel
theorem ww45_133 {d : Nat} {l1 l2 l3 : Option mw_V} {x : Nat} {st : List mw_V} {σ : mw_S} {Q : Option mw_V → mw_S → Prop} : mw_WP d 45 133 [some (jR x), l1, l2, l3] st σ Q ↔ mw_WP d 45 134 [some (jR x), l1, l2, l3] (jR x :: st) σ Q := WP_aload_n mq45 dd45_133 rfl
theorem dd45_134 : decode cX7_readText 134 = .ok (.invokevirtual 83, 3) := by decide +kernel
theorem ww45_134 {d : Nat} {l0 l1 l2 l3 : Option mw_V} {a : Nat} {st : List mw_V} {σ : mw_S} {Q : Option mw_V → mw_S → Prop} (hr : mw_rc a = 7) (h8 : (st.map mw_cat).sum ≤ 8) : mw_WP d 45 134 [l0, l1, l2, l3] (jR a :: st) σ Q ↔ mw_Call d 49 [jR a] σ (fun r1 s1 => mw_WP d 45 137 [l0, l1, l2, l3] (r1.toList ++ st) s1 Q) := WP_inv (as := []) mq45 dd45_134 (by decide) mq49 rfl hr h8
theorem dd45_137 : decode cX7_readText 137 = .ok (.goto 7, 3) := by decide +kernel
theorem ww45_137 {d : Nat} {l0 l1 l2 l3 : Option mw_V} {st : List mw_V} {σ : mw_S} {Q : Option mw_V → mw_S → Prop} : mw_WP d 45 137 [l0, l1, l2, l3] st σ Q ↔ mw_WP d 45 144 [l0, l1, l2, l3] st σ Q := WP_goto mq45 dd45_137 (by decide)
theorem dd45_140 : decode cX7_readText 140 = .ok (.aload_n 0, 1) := by decide +kernel
theorem ww45_140 {d : Nat} {l1 l2 l3 : Option mw_V} {x : Nat} {st : List mw_V} {σ : mw_S} {Q : Option mw_V → mw_S → Prop} : mw_WP d 45 140 [some (jR x), l1, l2, l3] st σ Q ↔ mw_WP d 45 141 [some (jR x), l1, l2, l3] (jR x :: st) σ Q := WP_aload_n mq45 dd45_140 rfl
theorem dd45_141 : decode cX7_readText 141 = .ok (.invokevirtual 86, 3) := by decide +kernel
theorem ww45_141 {d : Nat} {l0 l1 l2 l3 : Option mw_V} {a : Nat} {st : List mw_V} {σ : mw_S} {Q : Option mw_V → mw_S → Prop} (hr : mw_rc a = 7) (h8 : (st.map mw_cat).sum ≤ 8) : mw_WP d 45 141 [l0, l1, l2, l3] (jR a :: st) σ Q ↔ mw_Call d 70 [jR a] σ (fun r1 s1 => mw_WP d 45 144 [l0, l1, l2, l3] (r1.toList ++ st) s1 Q) := WP_inv (as := []) mq45 dd45_141 (by decide) mq70 rfl hr h8
theorem dd45_144 : decode cX7_readText 144 = .ok (.istore_n 3, 1) := by decide +kernel
theorem ww45_144 {d : Nat} {l0 l1 l2 l3 : Option mw_V} {x : Int} {st : List mw_V} {σ : mw_S} {Q : Option mw_V → mw_S → Prop} (h : mw_nlo l2 = true) : mw_WP d 45 144 [l0, l1, l2, l3] (jI x :: st) σ Q ↔ mw_WP d 45 145 [l0, l1, l2, some (jI x)] st σ Q := WP_istore_n mq45 dd45_144 (Nat.le_of_ble_eq_true rfl) (mw_nl_of (i := 2) rfl h) rfl
theorem dd45_145 : decode cX7_readText 145 = .ok (.iload_n 3, 1) := by decide +kernel
theorem ww45_145 {d : Nat} {l0 l1 l2 : Option mw_V} {x : Int} {st : List mw_V} {σ : mw_S} {Q : Option mw_V → mw_S → Prop} : mw_WP d 45 145 [l0, l1, l2, some (jI x)] st σ Q ↔ mw_WP d 45 146 [l0, l1, l2, some (jI x)] (jI x :: st) σ Q := WP_iload_n mq45 dd45_145 rfl
theorem dd45_146 : decode cX7_readText 146 = .ok (.ifCond .eq 12, 3) := by decide +kernel
theorem ww45_146 {d : Nat} {l0 l1 l2 l3 : Option mw_V} {x : Int} {st : List mw_V} {σ : mw_S} {Q : Option mw_V → mw_S → Prop} : mw_WP d 45 146 [l0, l1, l2, l3] (jI x :: st) σ Q ↔ (if x = 0 then mw_WP d 45 158 [l0, l1, l2, l3] st σ Q else mw_WP d 45 149 [l0, l1, l2, l3] st σ Q) := WP_if_eq mq45 dd45_146 (by decide)
theorem dd45_149 : decode cX7_readText 149 = .ok (.aload_n 0, 1) := by decide +kernel
theorem ww45_149 {d : Nat} {l1 l2 l3 : Option mw_V} {x : Nat} {st : List mw_V} {σ : mw_S} {Q : Option mw_V → mw_S → Prop} : mw_WP d 45 149 [some (jR x), l1, l2, l3] st σ Q ↔ mw_WP d 45 150 [some (jR x), l1, l2, l3] (jR x :: st) σ Q := WP_aload_n mq45 dd45_149 rfl
theorem dd45_150 : decode cX7_readText 150 = .ok (.bipush 59, 2) := by decide +kernel
theorem ww45_150 {d : Nat} {l0 l1 l2 l3 : Option mw_V} {st : List mw_V} {σ : mw_S} {Q : Option mw_V → mw_S → Prop} : mw_WP d 45 150 [l0, l1, l2, l3] st σ Q ↔ mw_WP d 45 152 [l0, l1, l2, l3] (jI (59) :: st) σ Q := WP_bipush mq45 dd45_150 (by decide)
theorem dd45_152 : decode cX7_readText 152 = .ok (.invokevirtual 89, 3) := by decide +kernel
theorem ww45_152 {d : Nat} {l0 l1 l2 l3 : Option mw_V} {v0 : mw_V} {a : Nat} {st : List mw_V} {σ : mw_S} {Q : Option mw_V → mw_S → Prop} (hr : mw_rc a = 7) (h8 : (st.map mw_cat).sum ≤ 8) : mw_WP d 45 152 [l0, l1, l2, l3] (v0 :: jR a :: st) σ Q ↔ mw_Call d 68 [jR a, v0] σ (fun r1 s1 => mw_WP d 45 155 [l0, l1, l2, l3] (r1.toList ++ st) s1 Q) := WP_inv (as := [v0]) mq45 dd45_152 (by decide) mq68 rfl hr h8
theorem dd45_155 : decode cX7_readText 155 = .ok (.ifCond .ne 5, 3) := by decide +kernel
theorem ww45_155 {d : Nat} {l0 l1 l2 l3 : Option mw_V} {x : Int} {st : List mw_V} {σ : mw_S} {Q : Option mw_V → mw_S → Prop} : mw_WP d 45 155 [l0, l1, l2, l3] (jI x :: st) σ Q ↔ (if ¬ x = 0 then mw_WP d 45 160 [l0, l1, l2, l3] st σ Q else mw_WP d 45 158 [l0, l1, l2, l3] st σ Q) := WP_if_ne mq45 dd45_155 (by decide)
theorem dd45_158 : decode cX7_readText 158 = .ok (.iconst 0, 1) := by decide +kernel
theorem ww45_158 {d : Nat} {l0 l1 l2 l3 : Option mw_V} {st : List mw_V} {σ : mw_S} {Q : Option mw_V → mw_S → Prop} : mw_WP d 45 158 [l0, l1, l2, l3] st σ Q ↔ mw_WP d 45 159 [l0, l1, l2, l3] (jI (0) :: st) σ Q := WP_iconst mq45 dd45_158 (by decide)
theorem dd45_159 : decode cX7_readText 159 = .ok (.ireturn, 1) := by decide +kernel
theorem ww45_159 {d : Nat} {l0 l1 l2 l3 : Option mw_V} {z : Int} {σ : mw_S} {Q : Option mw_V → mw_S → Prop} (h : z = 0 ∨ z = 1) : mw_WP d 45 159 [l0, l1, l2, l3] [jI z] σ Q ↔ Q (some (jI z)) σ := WP_ireturn (ty := .boolean) mq45 dd45_159 rfl (by rcases h with rfl | rfl <;> decide)
theorem dd45_160 : decode cX7_readText 160 = .ok (.aload_n 0, 1) := by decide +kernel
theorem ww45_160 {d : Nat} {l1 l2 l3 : Option mw_V} {x : Nat} {st : List mw_V} {σ : mw_S} {Q : Option mw_V → mw_S → Prop} : mw_WP d 45 160 [some (jR x), l1, l2, l3] st σ Q ↔ mw_WP d 45 161 [some (jR x), l1, l2, l3] (jR x :: st) σ Q := WP_aload_n mq45 dd45_160 rfl
theorem dd45_161 : decode cX7_readText 161 = .ok (.getfield 18, 3) := by decide +kernel
theorem ww45_161 {d : Nat} {l0 l1 l2 l3 : Option mw_V} {st : List mw_V} {σ : mw_S} {Q : Option mw_V → mw_S → Prop} : mw_WP d 45 161 [l0, l1, l2, l3] (jR 1 :: st) σ Q ↔ mw_WP d 45 164 [l0, l1, l2, l3] (jR 3 :: st) σ Q := WP_getR (ci := 6) (k := 1) mq45 dd45_161 (by decide) rfl
theorem dd45_164 : decode cX7_readText 164 = .ok (.dup, 1) := by decide +kernel
theorem ww45_164 {d : Nat} {l0 l1 l2 l3 : Option mw_V} {v : mw_V} {st : List mw_V} {σ : mw_S} {Q : Option mw_V → mw_S → Prop} (h : mw_cat v = 1) : mw_WP d 45 164 [l0, l1, l2, l3] (v :: st) σ Q ↔ mw_WP d 45 165 [l0, l1, l2, l3] (v :: v :: st) σ Q := WP_dup mq45 dd45_164 h
theorem dd45_165 : decode cX7_readText 165 = .ok (.getfield 93, 3) := by decide +kernel
theorem ww45_165i3 {d : Nat} {l0 l1 l2 l3 : Option mw_V} {st : List mw_V} {σ : mw_S} {Q : Option mw_V → mw_S → Prop} : mw_WP d 45 165 [l0, l1, l2, l3] (jR 3 :: st) σ Q ↔ mw_WP d 45 168 [l0, l1, l2, l3] (jI (σ 3 5) :: st) σ Q := WP_getI (ci := 0) (k := 5) mq45 dd45_165 (by decide) (Or.inl rfl)
theorem ww45_165i13 {d : Nat} {l0 l1 l2 l3 : Option mw_V} {st : List mw_V} {σ : mw_S} {Q : Option mw_V → mw_S → Prop} : mw_WP d 45 165 [l0, l1, l2, l3] (jR 13 :: st) σ Q ↔ mw_WP d 45 168 [l0, l1, l2, l3] (jI (σ 13 5) :: st) σ Q := WP_getI (ci := 0) (k := 5) mq45 dd45_165 (by decide) (Or.inl rfl)
theorem ww45_165i77 {d : Nat} {l0 l1 l2 l3 : Option mw_V} {st : List mw_V} {σ : mw_S} {Q : Option mw_V → mw_S → Prop} : mw_WP d 45 165 [l0, l1, l2, l3] (jR 77 :: st) σ Q ↔ mw_WP d 45 168 [l0, l1, l2, l3] (jI (σ 77 5) :: st) σ Q := WP_getI (ci := 0) (k := 5) mq45 dd45_165 (by decide) (Or.inl rfl)
theorem ww45_165i88 {d : Nat} {l0 l1 l2 l3 : Option mw_V} {st : List mw_V} {σ : mw_S} {Q : Option mw_V → mw_S → Prop} : mw_WP d 45 165 [l0, l1, l2, l3] (jR 88 :: st) σ Q ↔ mw_WP d 45 168 [l0, l1, l2, l3] (jI (σ 88 5) :: st) σ Q := WP_getI (ci := 0) (k := 5) mq45 dd45_165 (by decide) (Or.inl rfl)
theorem dd45_168 : decode cX7_readText 168 = .ok (.iconst 1, 1) := by decide +kernel
theorem ww45_168 {d : Nat} {l0 l1 l2 l3 : Option mw_V} {st : List mw_V} {σ : mw_S} {Q : Option mw_V → mw_S → Prop} : mw_WP d 45 168 [l0, l1, l2, l3] st σ Q ↔ mw_WP d 45 169 [l0, l1, l2, l3] (jI (1) :: st) σ Q := WP_iconst mq45 dd45_168 (by decide)
theorem dd45_169 : decode cX7_readText 169 = .ok (.iadd, 1) := by decide +kernel
theorem ww45_169 {d : Nat} {l0 l1 l2 l3 : Option mw_V} {x y : Int} {st : List mw_V} {σ : mw_S} {Q : Option mw_V → mw_S → Prop} : mw_WP d 45 169 [l0, l1, l2, l3] (jI y :: jI x :: st) σ Q ↔ mw_WP d 45 170 [l0, l1, l2, l3] (jI (w32 (x + y)) :: st) σ Q := WP_iadd mq45 dd45_169
theorem dd45_170 : decode cX7_readText 170 = .ok (.putfield 93, 3) := by decide +kernel
theorem ww45_170i3 {d : Nat} {l0 l1 l2 l3 : Option mw_V} {v : Int} {st : List mw_V} {σ : mw_S} {Q : Option mw_V → mw_S → Prop} : mw_WP d 45 170 [l0, l1, l2, l3] (jI v :: jR 3 :: st) σ Q ↔ mw_WP d 45 173 [l0, l1, l2, l3] st (upS σ 3 5 v) Q := WP_putI (ci := 0) (k := 5) mq45 dd45_170 (by decide) rfl
theorem ww45_170i13 {d : Nat} {l0 l1 l2 l3 : Option mw_V} {v : Int} {st : List mw_V} {σ : mw_S} {Q : Option mw_V → mw_S → Prop} : mw_WP d 45 170 [l0, l1, l2, l3] (jI v :: jR 13 :: st) σ Q ↔ mw_WP d 45 173 [l0, l1, l2, l3] st (upS σ 13 5 v) Q := WP_putI (ci := 0) (k := 5) mq45 dd45_170 (by decide) rfl
theorem ww45_170i77 {d : Nat} {l0 l1 l2 l3 : Option mw_V} {v : Int} {st : List mw_V} {σ : mw_S} {Q : Option mw_V → mw_S → Prop} : mw_WP d 45 170 [l0, l1, l2, l3] (jI v :: jR 77 :: st) σ Q ↔ mw_WP d 45 173 [l0, l1, l2, l3] st (upS σ 77 5 v) Q := WP_putI (ci := 0) (k := 5) mq45 dd45_170 (by decide) rfl
theorem ww45_170i88 {d : Nat} {l0 l1 l2 l3 : Option mw_V} {v : Int} {st : List mw_V} {σ : mw_S} {Q : Option mw_V → mw_S → Prop} : mw_WP d 45 170 [l0, l1, l2, l3] (jI v :: jR 88 :: st) σ Q ↔ mw_WP d 45 173 [l0, l1, l2, l3] st (upS σ 88 5 v) Q := WP_putI (ci := 0) (k := 5) mq45 dd45_170 (by decide) rfl
theorem dd45_173 : decode cX7_readText 173 = .ok (.iinc 2 1, 3) := by decide +kernel
theorem ww45_173 {d : Nat} {l0 l1 l3 : Option mw_V} {x : Int} {st : List mw_V} {σ : mw_S} {Q : Option mw_V → mw_S → Prop} (h : mw_nlo l1 = true) : mw_WP d 45 173 [l0, l1, some (jI x), l3] st σ Q ↔ mw_WP d 45 176 [l0, l1, some (jI (w32 (x + (1)))), l3] st σ Q := WP_iinc mq45 dd45_173 rfl (Nat.le_of_ble_eq_true rfl) (mw_nl_of (i := 1) rfl h) rfl
theorem dd45_176 : decode cX7_readText 176 = .ok (.goto (-131), 3) := by decide +kernel
theorem ww45_176 {d : Nat} {l0 l1 l2 l3 : Option mw_V} {st : List mw_V} {σ : mw_S} {Q : Option mw_V → mw_S → Prop} : mw_WP d 45 176 [l0, l1, l2, l3] st σ Q ↔ mw_WP d 45 45 [l0, l1, l2, l3] st σ Q := WP_goto mq45 dd45_176 (by decide)
theorem dd45_179 : decode cX7_readText 179 = .ok (.iconst 1, 1) := by decide +kernel
theorem ww45_179 {d : Nat} {l0 l1 l2 l3 : Option mw_V} {st : List mw_V} {σ : mw_S} {Q : Option mw_V → mw_S → Prop} : mw_WP d 45 179 [l0, l1, l2, l3] st σ Q ↔ mw_WP d 45 180 [l0, l1, l2, l3] (jI (1) :: st) σ Q := WP_iconst mq45 dd45_179 (by decide)
theorem dd45_180 : decode cX7_readText 180 = .ok (.ireturn, 1) := by decide +kernel
theorem ww45_180 {d : Nat} {l0 l1 l2 l3 : Option mw_V} {z : Int} {σ : mw_S} {Q : Option mw_V → mw_S → Prop} (h : z = 0 ∨ z = 1) : mw_WP d 45 180 [l0, l1, l2, l3] [jI z] σ Q ↔ Q (some (jI z)) σ := WP_ireturn (ty := .boolean) mq45 dd45_180 rfl (by rcases h with rfl | rfl <;> decide)
theorem ee46 {d : Nat} {a : Nat} {σ : mw_S} {Q : Option mw_V → mw_S → Prop} : mw_Call (d + 1) 46 [jR a] σ Q ↔ mw_WP d 46 0 [some (jR a)] [] σ Q := CL_u mq46 (Nat.le_of_ble_eq_true rfl) rfl
theorem dd46_0 : decode cX7_readDeep 0 = .ok (.aload_n 0, 1) := by decide +kernel
theorem ww46_0 {d : Nat} {x : Nat} {st : List mw_V} {σ : mw_S} {Q : Option mw_V → mw_S → Prop} : mw_WP d 46 0 [some (jR x)] st σ Q ↔ mw_WP d 46 1 [some (jR x)] (jR x :: st) σ Q := WP_aload_n mq46 dd46_0 rfl
theorem dd46_1 : decode cX7_readDeep 1 = .ok (.getfield 18, 3) := by decide +kernel
theorem ww46_1 {d : Nat} {l0 : Option mw_V} {st : List mw_V} {σ : mw_S} {Q : Option mw_V → mw_S → Prop} : mw_WP d 46 1 [l0] (jR 1 :: st) σ Q ↔ mw_WP d 46 4 [l0] (jR 3 :: st) σ Q := WP_getR (ci := 6) (k := 1) mq46 dd46_1 (by decide) rfl
theorem dd46_4 : decode cX7_readDeep 4 = .ok (.getfield 96, 3) := by decide +kernel
theorem ww46_4i3 {d : Nat} {l0 : Option mw_V} {st : List mw_V} {σ : mw_S} {Q : Option mw_V → mw_S → Prop} : mw_WP d 46 4 [l0] (jR 3 :: st) σ Q ↔ mw_WP d 46 7 [l0] (jI (σ 3 1) :: st) σ Q := WP_getI (ci := 0) (k := 1) mq46 dd46_4 (by decide) (Or.inl rfl)
theorem ww46_4i13 {d : Nat} {l0 : Option mw_V} {st : List mw_V} {σ : mw_S} {Q : Option mw_V → mw_S → Prop} : mw_WP d 46 4 [l0] (jR 13 :: st) σ Q ↔ mw_WP d 46 7 [l0] (jI (σ 13 1) :: st) σ Q := WP_getI (ci := 0) (k := 1) mq46 dd46_4 (by decide) (Or.inl rfl)
theorem ww46_4i77 {d : Nat} {l0 : Option mw_V} {st : List mw_V} {σ : mw_S} {Q : Option mw_V → mw_S → Prop} : mw_WP d 46 4 [l0] (jR 77 :: st) σ Q ↔ mw_WP d 46 7 [l0] (jI (σ 77 1) :: st) σ Q := WP_getI (ci := 0) (k := 1) mq46 dd46_4 (by decide) (Or.inl rfl)
theorem ww46_4i88 {d : Nat} {l0 : Option mw_V} {st : List mw_V} {σ : mw_S} {Q : Option mw_V → mw_S → Prop} : mw_WP d 46 4 [l0] (jR 88 :: st) σ Q ↔ mw_WP d 46 7 [l0] (jI (σ 88 1) :: st) σ Q := WP_getI (ci := 0) (k := 1) mq46 dd46_4 (by decide) (Or.inl rfl)
theorem dd46_7 : decode cX7_readDeep 7 = .ok (.ifCond .gt 13, 3) := by decide +kernel
theorem ww46_7 {d : Nat} {l0 : Option mw_V} {x : Int} {st : List mw_V} {σ : mw_S} {Q : Option mw_V → mw_S → Prop} : mw_WP d 46 7 [l0] (jI x :: st) σ Q ↔ (if 0 < x then mw_WP d 46 20 [l0] st σ Q else mw_WP d 46 10 [l0] st σ Q) := WP_if_gt mq46 dd46_7 (by decide)
theorem dd46_10 : decode cX7_readDeep 10 = .ok (.aload_n 0, 1) := by decide +kernel
theorem ww46_10 {d : Nat} {x : Nat} {st : List mw_V} {σ : mw_S} {Q : Option mw_V → mw_S → Prop} : mw_WP d 46 10 [some (jR x)] st σ Q ↔ mw_WP d 46 11 [some (jR x)] (jR x :: st) σ Q := WP_aload_n mq46 dd46_10 rfl
theorem dd46_11 : decode cX7_readDeep 11 = .ok (.getfield 18, 3) := by decide +kernel
theorem ww46_11 {d : Nat} {l0 : Option mw_V} {st : List mw_V} {σ : mw_S} {Q : Option mw_V → mw_S → Prop} : mw_WP d 46 11 [l0] (jR 1 :: st) σ Q ↔ mw_WP d 46 14 [l0] (jR 3 :: st) σ Q := WP_getR (ci := 6) (k := 1) mq46 dd46_11 (by decide) rfl
theorem dd46_14 : decode cX7_readDeep 14 = .ok (.getfield 99, 3) := by decide +kernel
theorem ww46_14i3 {d : Nat} {l0 : Option mw_V} {st : List mw_V} {σ : mw_S} {Q : Option mw_V → mw_S → Prop} : mw_WP d 46 14 [l0] (jR 3 :: st) σ Q ↔ mw_WP d 46 17 [l0] (jI (σ 3 2) :: st) σ Q := WP_getI (ci := 0) (k := 2) mq46 dd46_14 (by decide) (Or.inl rfl)
theorem ww46_14i13 {d : Nat} {l0 : Option mw_V} {st : List mw_V} {σ : mw_S} {Q : Option mw_V → mw_S → Prop} : mw_WP d 46 14 [l0] (jR 13 :: st) σ Q ↔ mw_WP d 46 17 [l0] (jI (σ 13 2) :: st) σ Q := WP_getI (ci := 0) (k := 2) mq46 dd46_14 (by decide) (Or.inl rfl)
theorem ww46_14i77 {d : Nat} {l0 : Option mw_V} {st : List mw_V} {σ : mw_S} {Q : Option mw_V → mw_S → Prop} : mw_WP d 46 14 [l0] (jR 77 :: st) σ Q ↔ mw_WP d 46 17 [l0] (jI (σ 77 2) :: st) σ Q := WP_getI (ci := 0) (k := 2) mq46 dd46_14 (by decide) (Or.inl rfl)
theorem ww46_14i88 {d : Nat} {l0 : Option mw_V} {st : List mw_V} {σ : mw_S} {Q : Option mw_V → mw_S → Prop} : mw_WP d 46 14 [l0] (jR 88 :: st) σ Q ↔ mw_WP d 46 17 [l0] (jI (σ 88 2) :: st) σ Q := WP_getI (ci := 0) (k := 2) mq46 dd46_14 (by decide) (Or.inl rfl)
theorem dd46_17 : decode cX7_readDeep 17 = .ok (.ifCond .le 9, 3) := by decide +kernel
theorem ww46_17 {d : Nat} {l0 : Option mw_V} {x : Int} {st : List mw_V} {σ : mw_S} {Q : Option mw_V → mw_S → Prop} : mw_WP d 46 17 [l0] (jI x :: st) σ Q ↔ (if x ≤ 0 then mw_WP d 46 26 [l0] st σ Q else mw_WP d 46 20 [l0] st σ Q) := WP_if_le mq46 dd46_17 (by decide)
theorem dd46_20 : decode cX7_readDeep 20 = .ok (.aload_n 0, 1) := by decide +kernel
theorem ww46_20 {d : Nat} {x : Nat} {st : List mw_V} {σ : mw_S} {Q : Option mw_V → mw_S → Prop} : mw_WP d 46 20 [some (jR x)] st σ Q ↔ mw_WP d 46 21 [some (jR x)] (jR x :: st) σ Q := WP_aload_n mq46 dd46_20 rfl
theorem dd46_21 : decode cX7_readDeep 21 = .ok (.iconst 2, 1) := by decide +kernel
theorem ww46_21 {d : Nat} {l0 : Option mw_V} {st : List mw_V} {σ : mw_S} {Q : Option mw_V → mw_S → Prop} : mw_WP d 46 21 [l0] st σ Q ↔ mw_WP d 46 22 [l0] (jI (2) :: st) σ Q := WP_iconst mq46 dd46_21 (by decide)
theorem dd46_22 : decode cX7_readDeep 22 = .ok (.invokevirtual 102, 3) := by decide +kernel
theorem ww46_22 {d : Nat} {l0 : Option mw_V} {v0 : mw_V} {a : Nat} {st : List mw_V} {σ : mw_S} {Q : Option mw_V → mw_S → Prop} (hr : mw_rc a = 7) (h8 : (st.map mw_cat).sum ≤ 8) : mw_WP d 46 22 [l0] (v0 :: jR a :: st) σ Q ↔ mw_Call d 71 [jR a, v0] σ (fun r1 s1 => mw_WP d 46 25 [l0] (r1.toList ++ st) s1 Q) := WP_inv (as := [v0]) mq46 dd46_22 (by decide) mq71 rfl hr h8
theorem dd46_25 : decode cX7_readDeep 25 = .ok (.ireturn, 1) := by decide +kernel
theorem ww46_25 {d : Nat} {l0 : Option mw_V} {z : Int} {σ : mw_S} {Q : Option mw_V → mw_S → Prop} (h : z = 0 ∨ z = 1) : mw_WP d 46 25 [l0] [jI z] σ Q ↔ Q (some (jI z)) σ := WP_ireturn (ty := .boolean) mq46 dd46_25 rfl (by rcases h with rfl | rfl <;> decide)
theorem dd46_26 : decode cX7_readDeep 26 = .ok (.aload_n 0, 1) := by decide +kernel
theorem ww46_26 {d : Nat} {x : Nat} {st : List mw_V} {σ : mw_S} {Q : Option mw_V → mw_S → Prop} : mw_WP d 46 26 [some (jR x)] st σ Q ↔ mw_WP d 46 27 [some (jR x)] (jR x :: st) σ Q := WP_aload_n mq46 dd46_26 rfl
theorem dd46_27 : decode cX7_readDeep 27 = .ok (.invokevirtual 50, 3) := by decide +kernel
theorem ww46_27 {d : Nat} {l0 : Option mw_V} {a : Nat} {st : List mw_V} {σ : mw_S} {Q : Option mw_V → mw_S → Prop} (hr : mw_rc a = 7) (h8 : (st.map mw_cat).sum ≤ 8) : mw_WP d 46 27 [l0] (jR a :: st) σ Q ↔ mw_Call d 72 [jR a] σ (fun r1 s1 => mw_WP d 46 30 [l0] (r1.toList ++ st) s1 Q) := WP_inv (as := []) mq46 dd46_27 (by decide) mq72 rfl hr h8
theorem dd46_30 : decode cX7_readDeep 30 = .ok (.aload_n 0, 1) := by decide +kernel
theorem ww46_30 {d : Nat} {x : Nat} {st : List mw_V} {σ : mw_S} {Q : Option mw_V → mw_S → Prop} : mw_WP d 46 30 [some (jR x)] st σ Q ↔ mw_WP d 46 31 [some (jR x)] (jR x :: st) σ Q := WP_aload_n mq46 dd46_30 rfl
theorem dd46_31 : decode cX7_readDeep 31 = .ok (.iconst 2, 1) := by decide +kernel
theorem ww46_31 {d : Nat} {l0 : Option mw_V} {st : List mw_V} {σ : mw_S} {Q : Option mw_V → mw_S → Prop} : mw_WP d 46 31 [l0] st σ Q ↔ mw_WP d 46 32 [l0] (jI (2) :: st) σ Q := WP_iconst mq46 dd46_31 (by decide)
theorem dd46_32 : decode cX7_readDeep 32 = .ok (.bipush 9, 2) := by decide +kernel
theorem ww46_32 {d : Nat} {l0 : Option mw_V} {st : List mw_V} {σ : mw_S} {Q : Option mw_V → mw_S → Prop} : mw_WP d 46 32 [l0] st σ Q ↔ mw_WP d 46 34 [l0] (jI (9) :: st) σ Q := WP_bipush mq46 dd46_32 (by decide)
theorem dd46_34 : decode cX7_readDeep 34 = .ok (.invokevirtual 106, 3) := by decide +kernel
theorem ww46_34 {d : Nat} {l0 : Option mw_V} {v0 v1 : mw_V} {a : Nat} {st : List mw_V} {σ : mw_S} {Q : Option mw_V → mw_S → Prop} (hr : mw_rc a = 7) (h8 : (st.map mw_cat).sum ≤ 8) : mw_WP d 46 34 [l0] (v1 :: v0 :: jR a :: st) σ Q ↔ mw_Call d 69 [jR a, v0, v1] σ (fun r1 s1 => mw_WP d 46 37 [l0] (r1.toList ++ st) s1 Q) := WP_inv (as := [v1, v0]) mq46 dd46_34 (by decide) mq69 rfl hr h8
theorem dd46_37 : decode cX7_readDeep 37 = .ok (.ifCond .ne 5, 3) := by decide +kernel
theorem ww46_37 {d : Nat} {l0 : Option mw_V} {x : Int} {st : List mw_V} {σ : mw_S} {Q : Option mw_V → mw_S → Prop} : mw_WP d 46 37 [l0] (jI x :: st) σ Q ↔ (if ¬ x = 0 then mw_WP d 46 42 [l0] st σ Q else mw_WP d 46 40 [l0] st σ Q) := WP_if_ne mq46 dd46_37 (by decide)
theorem dd46_40 : decode cX7_readDeep 40 = .ok (.iconst 0, 1) := by decide +kernel
theorem ww46_40 {d : Nat} {l0 : Option mw_V} {st : List mw_V} {σ : mw_S} {Q : Option mw_V → mw_S → Prop} : mw_WP d 46 40 [l0] st σ Q ↔ mw_WP d 46 41 [l0] (jI (0) :: st) σ Q := WP_iconst mq46 dd46_40 (by decide)
theorem dd46_41 : decode cX7_readDeep 41 = .ok (.ireturn, 1) := by decide +kernel
theorem ww46_41 {d : Nat} {l0 : Option mw_V} {z : Int} {σ : mw_S} {Q : Option mw_V → mw_S → Prop} (h : z = 0 ∨ z = 1) : mw_WP d 46 41 [l0] [jI z] σ Q ↔ Q (some (jI z)) σ := WP_ireturn (ty := .boolean) mq46 dd46_41 rfl (by rcases h with rfl | rfl <;> decide)
theorem dd46_42 : decode cX7_readDeep 42 = .ok (.aload_n 0, 1) := by decide +kernel
theorem ww46_42 {d : Nat} {x : Nat} {st : List mw_V} {σ : mw_S} {Q : Option mw_V → mw_S → Prop} : mw_WP d 46 42 [some (jR x)] st σ Q ↔ mw_WP d 46 43 [some (jR x)] (jR x :: st) σ Q := WP_aload_n mq46 dd46_42 rfl
theorem dd46_43 : decode cX7_readDeep 43 = .ok (.getfield 18, 3) := by decide +kernel
theorem ww46_43 {d : Nat} {l0 : Option mw_V} {st : List mw_V} {σ : mw_S} {Q : Option mw_V → mw_S → Prop} : mw_WP d 46 43 [l0] (jR 1 :: st) σ Q ↔ mw_WP d 46 46 [l0] (jR 3 :: st) σ Q := WP_getR (ci := 6) (k := 1) mq46 dd46_43 (by decide) rfl
theorem dd46_46 : decode cX7_readDeep 46 = .ok (.aload_n 0, 1) := by decide +kernel
theorem ww46_46 {d : Nat} {x : Nat} {st : List mw_V} {σ : mw_S} {Q : Option mw_V → mw_S → Prop} : mw_WP d 46 46 [some (jR x)] st σ Q ↔ mw_WP d 46 47 [some (jR x)] (jR x :: st) σ Q := WP_aload_n mq46 dd46_46 rfl
theorem dd46_47 : decode cX7_readDeep 47 = .ok (.getfield 110, 3) := by decide +kernel
theorem ww46_47 {d : Nat} {l0 : Option mw_V} {st : List mw_V} {σ : mw_S} {Q : Option mw_V → mw_S → Prop} : mw_WP d 46 47 [l0] (jR 1 :: st) σ Q ↔ mw_WP d 46 50 [l0] (jI (σ 1 9) :: st) σ Q := WP_getI (ci := 6) (k := 9) mq46 dd46_47 (by decide) (Or.inl rfl)
theorem dd46_50 : decode cX7_readDeep 50 = .ok (.putfield 113, 3) := by decide +kernel
theorem ww46_50i3 {d : Nat} {l0 : Option mw_V} {v : Int} {st : List mw_V} {σ : mw_S} {Q : Option mw_V → mw_S → Prop} : mw_WP d 46 50 [l0] (jI v :: jR 3 :: st) σ Q ↔ mw_WP d 46 53 [l0] st (upS σ 3 0 v) Q := WP_putI (ci := 0) (k := 0) mq46 dd46_50 (by decide) rfl
theorem ww46_50i13 {d : Nat} {l0 : Option mw_V} {v : Int} {st : List mw_V} {σ : mw_S} {Q : Option mw_V → mw_S → Prop} : mw_WP d 46 50 [l0] (jI v :: jR 13 :: st) σ Q ↔ mw_WP d 46 53 [l0] st (upS σ 13 0 v) Q := WP_putI (ci := 0) (k := 0) mq46 dd46_50 (by decide) rfl
theorem ww46_50i77 {d : Nat} {l0 : Option mw_V} {v : Int} {st : List mw_V} {σ : mw_S} {Q : Option mw_V → mw_S → Prop} : mw_WP d 46 50 [l0] (jI v :: jR 77 :: st) σ Q ↔ mw_WP d 46 53 [l0] st (upS σ 77 0 v) Q := WP_putI (ci := 0) (k := 0) mq46 dd46_50 (by decide) rfl
theorem ww46_50i88 {d : Nat} {l0 : Option mw_V} {v : Int} {st : List mw_V} {σ : mw_S} {Q : Option mw_V → mw_S → Prop} : mw_WP d 46 50 [l0] (jI v :: jR 88 :: st) σ Q ↔ mw_WP d 46 53 [l0] st (upS σ 88 0 v) Q := WP_putI (ci := 0) (k := 0) mq46 dd46_50 (by decide) rfl
theorem dd46_53 : decode cX7_readDeep 53 = .ok (.aload_n 0, 1) := by decide +kernel
theorem ww46_53 {d : Nat} {x : Nat} {st : List mw_V} {σ : mw_S} {Q : Option mw_V → mw_S → Prop} : mw_WP d 46 53 [some (jR x)] st σ Q ↔ mw_WP d 46 54 [some (jR x)] (jR x :: st) σ Q := WP_aload_n mq46 dd46_53 rfl
theorem dd46_54 : decode cX7_readDeep 54 = .ok (.invokevirtual 50, 3) := by decide +kernel
theorem ww46_54 {d : Nat} {l0 : Option mw_V} {a : Nat} {st : List mw_V} {σ : mw_S} {Q : Option mw_V → mw_S → Prop} (hr : mw_rc a = 7) (h8 : (st.map mw_cat).sum ≤ 8) : mw_WP d 46 54 [l0] (jR a :: st) σ Q ↔ mw_Call d 72 [jR a] σ (fun r1 s1 => mw_WP d 46 57 [l0] (r1.toList ++ st) s1 Q) := WP_inv (as := []) mq46 dd46_54 (by decide) mq72 rfl hr h8
theorem dd46_57 : decode cX7_readDeep 57 = .ok (.iconst 1, 1) := by decide +kernel
theorem ww46_57 {d : Nat} {l0 : Option mw_V} {st : List mw_V} {σ : mw_S} {Q : Option mw_V → mw_S → Prop} : mw_WP d 46 57 [l0] st σ Q ↔ mw_WP d 46 58 [l0] (jI (1) :: st) σ Q := WP_iconst mq46 dd46_57 (by decide)
theorem dd46_58 : decode cX7_readDeep 58 = .ok (.ireturn, 1) := by decide +kernel
theorem ww46_58 {d : Nat} {l0 : Option mw_V} {z : Int} {σ : mw_S} {Q : Option mw_V → mw_S → Prop} (h : z = 0 ∨ z = 1) : mw_WP d 46 58 [l0] [jI z] σ Q ↔ Q (some (jI z)) σ := WP_ireturn (ty := .boolean) mq46 dd46_58 rfl (by rcases h with rfl | rfl <;> decide)
theorem ee47 {d : Nat} {a : Nat} {σ : mw_S} {Q : Option mw_V → mw_S → Prop} : mw_Call (d + 1) 47 [jR a] σ Q ↔ mw_WP d 47 0 [some (jR a), none, none] [] σ Q := CL_u mq47 (Nat.le_of_ble_eq_true rfl) rfl
theorem dd47_0 : decode cX7_readPerson 0 = .ok (.aload_n 0, 1) := by decide +kernel
theorem ww47_0 {d : Nat} {l1 l2 : Option mw_V} {x : Nat} {st : List mw_V} {σ : mw_S} {Q : Option mw_V → mw_S → Prop} : mw_WP d 47 0 [some (jR x), l1, l2] st σ Q ↔ mw_WP d 47 1 [some (jR x), l1, l2] (jR x :: st) σ Q := WP_aload_n mq47 dd47_0 rfl
theorem dd47_1 : decode cX7_readPerson 1 = .ok (.getfield 18, 3) := by decide +kernel
theorem ww47_1 {d : Nat} {l0 l1 l2 : Option mw_V} {st : List mw_V} {σ : mw_S} {Q : Option mw_V → mw_S → Prop} : mw_WP d 47 1 [l0, l1, l2] (jR 1 :: st) σ Q ↔ mw_WP d 47 4 [l0, l1, l2] (jR 3 :: st) σ Q := WP_getR (ci := 6) (k := 1) mq47 dd47_1 (by decide) rfl
theorem dd47_4 : decode cX7_readPerson 4 = .ok (.getfield 96, 3) := by decide +kernel
theorem ww47_4i3 {d : Nat} {l0 l1 l2 : Option mw_V} {st : List mw_V} {σ : mw_S} {Q : Option mw_V → mw_S → Prop} : mw_WP d 47 4 [l0, l1, l2] (jR 3 :: st) σ Q ↔ mw_WP d 47 7 [l0, l1, l2] (jI (σ 3 1) :: st) σ Q := WP_getI (ci := 0) (k := 1) mq47 dd47_4 (by decide) (Or.inl rfl)
theorem ww47_4i13 {d : Nat} {l0 l1 l2 : Option mw_V} {st : List mw_V} {σ : mw_S} {Q : Option mw_V → mw_S → Prop} : mw_WP d 47 4 [l0, l1, l2] (jR 13 :: st) σ Q ↔ mw_WP d 47 7 [l0, l1, l2] (jI (σ 13 1) :: st) σ Q := WP_getI (ci := 0) (k := 1) mq47 dd47_4 (by decide) (Or.inl rfl)
theorem ww47_4i77 {d : Nat} {l0 l1 l2 : Option mw_V} {st : List mw_V} {σ : mw_S} {Q : Option mw_V → mw_S → Prop} : mw_WP d 47 4 [l0, l1, l2] (jR 77 :: st) σ Q ↔ mw_WP d 47 7 [l0, l1, l2] (jI (σ 77 1) :: st) σ Q := WP_getI (ci := 0) (k := 1) mq47 dd47_4 (by decide) (Or.inl rfl)
theorem ww47_4i88 {d : Nat} {l0 l1 l2 : Option mw_V} {st : List mw_V} {σ : mw_S} {Q : Option mw_V → mw_S → Prop} : mw_WP d 47 4 [l0, l1, l2] (jR 88 :: st) σ Q ↔ mw_WP d 47 7 [l0, l1, l2] (jI (σ 88 1) :: st) σ Q := WP_getI (ci := 0) (k := 1) mq47 dd47_4 (by decide) (Or.inl rfl)
theorem dd47_7 : decode cX7_readPerson 7 = .ok (.iconst 3, 1) := by decide +kernel
theorem ww47_7 {d : Nat} {l0 l1 l2 : Option mw_V} {st : List mw_V} {σ : mw_S} {Q : Option mw_V → mw_S → Prop} : mw_WP d 47 7 [l0, l1, l2] st σ Q ↔ mw_WP d 47 8 [l0, l1, l2] (jI (3) :: st) σ Q := WP_iconst mq47 dd47_7 (by decide)
theorem dd47_8 : decode cX7_readPerson 8 = .ok (.if_icmp .lt 9, 3) := by decide +kernel
theorem ww47_8 {d : Nat} {l0 l1 l2 : Option mw_V} {x y : Int} {st : List mw_V} {σ : mw_S} {Q : Option mw_V → mw_S → Prop} : mw_WP d 47 8 [l0, l1, l2] (jI y :: jI x :: st) σ Q ↔ (if x < y then mw_WP d 47 17 [l0, l1, l2] st σ Q else mw_WP d 47 11 [l0, l1, l2] st σ Q) := WP_icmp_lt mq47 dd47_8 (by decide)
theorem dd47_11 : decode cX7_readPerson 11 = .ok (.aload_n 0, 1) := by decide +kernel
theorem ww47_11 {d : Nat} {l1 l2 : Option mw_V} {x : Nat} {st : List mw_V} {σ : mw_S} {Q : Option mw_V → mw_S → Prop} : mw_WP d 47 11 [some (jR x), l1, l2] st σ Q ↔ mw_WP d 47 12 [some (jR x), l1, l2] (jR x :: st) σ Q := WP_aload_n mq47 dd47_11 rfl
theorem dd47_12 : decode cX7_readPerson 12 = .ok (.iconst 4, 1) := by decide +kernel
theorem ww47_12 {d : Nat} {l0 l1 l2 : Option mw_V} {st : List mw_V} {σ : mw_S} {Q : Option mw_V → mw_S → Prop} : mw_WP d 47 12 [l0, l1, l2] st σ Q ↔ mw_WP d 47 13 [l0, l1, l2] (jI (4) :: st) σ Q := WP_iconst mq47 dd47_12 (by decide)
theorem dd47_13 : decode cX7_readPerson 13 = .ok (.invokevirtual 102, 3) := by decide +kernel
theorem ww47_13 {d : Nat} {l0 l1 l2 : Option mw_V} {v0 : mw_V} {a : Nat} {st : List mw_V} {σ : mw_S} {Q : Option mw_V → mw_S → Prop} (hr : mw_rc a = 7) (h8 : (st.map mw_cat).sum ≤ 8) : mw_WP d 47 13 [l0, l1, l2] (v0 :: jR a :: st) σ Q ↔ mw_Call d 71 [jR a, v0] σ (fun r1 s1 => mw_WP d 47 16 [l0, l1, l2] (r1.toList ++ st) s1 Q) := WP_inv (as := [v0]) mq47 dd47_13 (by decide) mq71 rfl hr h8
theorem dd47_16 : decode cX7_readPerson 16 = .ok (.ireturn, 1) := by decide +kernel
theorem ww47_16 {d : Nat} {l0 l1 l2 : Option mw_V} {z : Int} {σ : mw_S} {Q : Option mw_V → mw_S → Prop} (h : z = 0 ∨ z = 1) : mw_WP d 47 16 [l0, l1, l2] [jI z] σ Q ↔ Q (some (jI z)) σ := WP_ireturn (ty := .boolean) mq47 dd47_16 rfl (by rcases h with rfl | rfl <;> decide)
theorem dd47_17 : decode cX7_readPerson 17 = .ok (.aload_n 0, 1) := by decide +kernel
theorem ww47_17 {d : Nat} {l1 l2 : Option mw_V} {x : Nat} {st : List mw_V} {σ : mw_S} {Q : Option mw_V → mw_S → Prop} : mw_WP d 47 17 [some (jR x), l1, l2] st σ Q ↔ mw_WP d 47 18 [some (jR x), l1, l2] (jR x :: st) σ Q := WP_aload_n mq47 dd47_17 rfl
theorem dd47_18 : decode cX7_readPerson 18 = .ok (.invokevirtual 50, 3) := by decide +kernel
theorem ww47_18 {d : Nat} {l0 l1 l2 : Option mw_V} {a : Nat} {st : List mw_V} {σ : mw_S} {Q : Option mw_V → mw_S → Prop} (hr : mw_rc a = 7) (h8 : (st.map mw_cat).sum ≤ 8) : mw_WP d 47 18 [l0, l1, l2] (jR a :: st) σ Q ↔ mw_Call d 72 [jR a] σ (fun r1 s1 => mw_WP d 47 21 [l0, l1, l2] (r1.toList ++ st) s1 Q) := WP_inv (as := []) mq47 dd47_18 (by decide) mq72 rfl hr h8
theorem dd47_21 : decode cX7_readPerson 21 = .ok (.aload_n 0, 1) := by decide +kernel
theorem ww47_21 {d : Nat} {l1 l2 : Option mw_V} {x : Nat} {st : List mw_V} {σ : mw_S} {Q : Option mw_V → mw_S → Prop} : mw_WP d 47 21 [some (jR x), l1, l2] st σ Q ↔ mw_WP d 47 22 [some (jR x), l1, l2] (jR x :: st) σ Q := WP_aload_n mq47 dd47_21 rfl
theorem dd47_22 : decode cX7_readPerson 22 = .ok (.iconst 0, 1) := by decide +kernel
theorem ww47_22 {d : Nat} {l0 l1 l2 : Option mw_V} {st : List mw_V} {σ : mw_S} {Q : Option mw_V → mw_S → Prop} : mw_WP d 47 22 [l0, l1, l2] st σ Q ↔ mw_WP d 47 23 [l0, l1, l2] (jI (0) :: st) σ Q := WP_iconst mq47 dd47_22 (by decide)
theorem dd47_23 : decode cX7_readPerson 23 = .ok (.aload_n 0, 1) := by decide +kernel
theorem ww47_23 {d : Nat} {l1 l2 : Option mw_V} {x : Nat} {st : List mw_V} {σ : mw_S} {Q : Option mw_V → mw_S → Prop} : mw_WP d 47 23 [some (jR x), l1, l2] st σ Q ↔ mw_WP d 47 24 [some (jR x), l1, l2] (jR x :: st) σ Q := WP_aload_n mq47 dd47_23 rfl
theorem dd47_24 : decode cX7_readPerson 24 = .ok (.getfield 18, 3) := by decide +kernel
theorem ww47_24 {d : Nat} {l0 l1 l2 : Option mw_V} {st : List mw_V} {σ : mw_S} {Q : Option mw_V → mw_S → Prop} : mw_WP d 47 24 [l0, l1, l2] (jR 1 :: st) σ Q ↔ mw_WP d 47 27 [l0, l1, l2] (jR 3 :: st) σ Q := WP_getR (ci := 6) (k := 1) mq47 dd47_24 (by decide) rfl
theorem dd47_27 : decode cX7_readPerson 27 = .ok (.getfield 113, 3) := by decide +kernel
theorem ww47_27i3 {d : Nat} {l0 l1 l2 : Option mw_V} {st : List mw_V} {σ : mw_S} {Q : Option mw_V → mw_S → Prop} : mw_WP d 47 27 [l0, l1, l2] (jR 3 :: st) σ Q ↔ mw_WP d 47 30 [l0, l1, l2] (jI (σ 3 0) :: st) σ Q := WP_getI (ci := 0) (k := 0) mq47 dd47_27 (by decide) (Or.inl rfl)
theorem ww47_27i13 {d : Nat} {l0 l1 l2 : Option mw_V} {st : List mw_V} {σ : mw_S} {Q : Option mw_V → mw_S → Prop} : mw_WP d 47 27 [l0, l1, l2] (jR 13 :: st) σ Q ↔ mw_WP d 47 30 [l0, l1, l2] (jI (σ 13 0) :: st) σ Q := WP_getI (ci := 0) (k := 0) mq47 dd47_27 (by decide) (Or.inl rfl)
theorem ww47_27i77 {d : Nat} {l0 l1 l2 : Option mw_V} {st : List mw_V} {σ : mw_S} {Q : Option mw_V → mw_S → Prop} : mw_WP d 47 27 [l0, l1, l2] (jR 77 :: st) σ Q ↔ mw_WP d 47 30 [l0, l1, l2] (jI (σ 77 0) :: st) σ Q := WP_getI (ci := 0) (k := 0) mq47 dd47_27 (by decide) (Or.inl rfl)
theorem ww47_27i88 {d : Nat} {l0 l1 l2 : Option mw_V} {st : List mw_V} {σ : mw_S} {Q : Option mw_V → mw_S → Prop} : mw_WP d 47 27 [l0, l1, l2] (jR 88 :: st) σ Q ↔ mw_WP d 47 30 [l0, l1, l2] (jI (σ 88 0) :: st) σ Q := WP_getI (ci := 0) (k := 0) mq47 dd47_27 (by decide) (Or.inl rfl)
theorem dd47_30 : decode cX7_readPerson 30 = .ok (.iconst 1, 1) := by decide +kernel
theorem ww47_30 {d : Nat} {l0 l1 l2 : Option mw_V} {st : List mw_V} {σ : mw_S} {Q : Option mw_V → mw_S → Prop} : mw_WP d 47 30 [l0, l1, l2] st σ Q ↔ mw_WP d 47 31 [l0, l1, l2] (jI (1) :: st) σ Q := WP_iconst mq47 dd47_30 (by decide)
theorem dd47_31 : decode cX7_readPerson 31 = .ok (.isub, 1) := by decide +kernel
theorem ww47_31 {d : Nat} {l0 l1 l2 : Option mw_V} {x y : Int} {st : List mw_V} {σ : mw_S} {Q : Option mw_V → mw_S → Prop} : mw_WP d 47 31 [l0, l1, l2] (jI y :: jI x :: st) σ Q ↔ mw_WP d 47 32 [l0, l1, l2] (jI (w32 (x - y)) :: st) σ Q := WP_isub mq47 dd47_31
theorem dd47_32 : decode cX7_readPerson 32 = .ok (.invokevirtual 106, 3) := by decide +kernel
theorem ww47_32 {d : Nat} {l0 l1 l2 : Option mw_V} {v0 v1 : mw_V} {a : Nat} {st : List mw_V} {σ : mw_S} {Q : Option mw_V → mw_S → Prop} (hr : mw_rc a = 7) (h8 : (st.map mw_cat).sum ≤ 8) : mw_WP d 47 32 [l0, l1, l2] (v1 :: v0 :: jR a :: st) σ Q ↔ mw_Call d 69 [jR a, v0, v1] σ (fun r1 s1 => mw_WP d 47 35 [l0, l1, l2] (r1.toList ++ st) s1 Q) := WP_inv (as := [v1, v0]) mq47 dd47_32 (by decide) mq69 rfl hr h8
theorem dd47_35 : decode cX7_readPerson 35 = .ok (.ifCond .ne 5, 3) := by decide +kernel
theorem ww47_35 {d : Nat} {l0 l1 l2 : Option mw_V} {x : Int} {st : List mw_V} {σ : mw_S} {Q : Option mw_V → mw_S → Prop} : mw_WP d 47 35 [l0, l1, l2] (jI x :: st) σ Q ↔ (if ¬ x = 0 then mw_WP d 47 40 [l0, l1, l2] st σ Q else mw_WP d 47 38 [l0, l1, l2] st σ Q) := WP_if_ne mq47 dd47_35 (by decide)
theorem dd47_38 : decode cX7_readPerson 38 = .ok (.iconst 0, 1) := by decide +kernel
theorem ww47_38 {d : Nat} {l0 l1 l2 : Option mw_V} {st : List mw_V} {σ : mw_S} {Q : Option mw_V → mw_S → Prop} : mw_WP d 47 38 [l0, l1, l2] st σ Q ↔ mw_WP d 47 39 [l0, l1, l2] (jI (0) :: st) σ Q := WP_iconst mq47 dd47_38 (by decide)
theorem dd47_39 : decode cX7_readPerson 39 = .ok (.ireturn, 1) := by decide +kernel
theorem ww47_39 {d : Nat} {l0 l1 l2 : Option mw_V} {z : Int} {σ : mw_S} {Q : Option mw_V → mw_S → Prop} (h : z = 0 ∨ z = 1) : mw_WP d 47 39 [l0, l1, l2] [jI z] σ Q ↔ Q (some (jI z)) σ := WP_ireturn (ty := .boolean) mq47 dd47_39 rfl (by rcases h with rfl | rfl <;> decide)
theorem dd47_40 : decode cX7_readPerson 40 = .ok (.aload_n 0, 1) := by decide +kernel
theorem ww47_40 {d : Nat} {l1 l2 : Option mw_V} {x : Nat} {st : List mw_V} {σ : mw_S} {Q : Option mw_V → mw_S → Prop} : mw_WP d 47 40 [some (jR x), l1, l2] st σ Q ↔ mw_WP d 47 41 [some (jR x), l1, l2] (jR x :: st) σ Q := WP_aload_n mq47 dd47_40 rfl
theorem dd47_41 : decode cX7_readPerson 41 = .ok (.getfield 110, 3) := by decide +kernel
theorem ww47_41 {d : Nat} {l0 l1 l2 : Option mw_V} {st : List mw_V} {σ : mw_S} {Q : Option mw_V → mw_S → Prop} : mw_WP d 47 41 [l0, l1, l2] (jR 1 :: st) σ Q ↔ mw_WP d 47 44 [l0, l1, l2] (jI (σ 1 9) :: st) σ Q := WP_getI (ci := 6) (k := 9) mq47 dd47_41 (by decide) (Or.inl rfl)
theorem dd47_44 : decode cX7_readPerson 44 = .ok (.istore_n 1, 1) := by decide +kernel
theorem ww47_44 {d : Nat} {l0 l1 l2 : Option mw_V} {x : Int} {st : List mw_V} {σ : mw_S} {Q : Option mw_V → mw_S → Prop} (h : mw_nlo l0 = true) : mw_WP d 47 44 [l0, l1, l2] (jI x :: st) σ Q ↔ mw_WP d 47 45 [l0, some (jI x), l2] st σ Q := WP_istore_n mq47 dd47_44 (Nat.le_of_ble_eq_true rfl) (mw_nl_of (i := 0) rfl h) rfl
theorem dd47_45 : decode cX7_readPerson 45 = .ok (.iconst 1, 1) := by decide +kernel
theorem ww47_45 {d : Nat} {l0 l1 l2 : Option mw_V} {st : List mw_V} {σ : mw_S} {Q : Option mw_V → mw_S → Prop} : mw_WP d 47 45 [l0, l1, l2] st σ Q ↔ mw_WP d 47 46 [l0, l1, l2] (jI (1) :: st) σ Q := WP_iconst mq47 dd47_45 (by decide)
theorem dd47_46 : decode cX7_readPerson 46 = .ok (.istore_n 2, 1) := by decide +kernel
theorem ww47_46 {d : Nat} {l0 l1 l2 : Option mw_V} {x : Int} {st : List mw_V} {σ : mw_S} {Q : Option mw_V → mw_S → Prop} (h : mw_nlo l1 = true) : mw_WP d 47 46 [l0, l1, l2] (jI x :: st) σ Q ↔ mw_WP d 47 47 [l0, l1, some (jI x)] st σ Q := WP_istore_n mq47 dd47_46 (Nat.le_of_ble_eq_true rfl) (mw_nl_of (i := 1) rfl h) rfl
theorem dd47_47 : decode cX7_readPerson 47 = .ok (.aload_n 0, 1) := by decide +kernel
theorem ww47_47 {d : Nat} {l1 l2 : Option mw_V} {x : Nat} {st : List mw_V} {σ : mw_S} {Q : Option mw_V → mw_S → Prop} : mw_WP d 47 47 [some (jR x), l1, l2] st σ Q ↔ mw_WP d 47 48 [some (jR x), l1, l2] (jR x :: st) σ Q := WP_aload_n mq47 dd47_47 rfl
theorem dd47_48 : decode cX7_readPerson 48 = .ok (.invokevirtual 50, 3) := by decide +kernel
theorem ww47_48 {d : Nat} {l0 l1 l2 : Option mw_V} {a : Nat} {st : List mw_V} {σ : mw_S} {Q : Option mw_V → mw_S → Prop} (hr : mw_rc a = 7) (h8 : (st.map mw_cat).sum ≤ 8) : mw_WP d 47 48 [l0, l1, l2] (jR a :: st) σ Q ↔ mw_Call d 72 [jR a] σ (fun r1 s1 => mw_WP d 47 51 [l0, l1, l2] (r1.toList ++ st) s1 Q) := WP_inv (as := []) mq47 dd47_48 (by decide) mq72 rfl hr h8
theorem dd47_51 : decode cX7_readPerson 51 = .ok (.aload_n 0, 1) := by decide +kernel
theorem ww47_51 {d : Nat} {l1 l2 : Option mw_V} {x : Nat} {st : List mw_V} {σ : mw_S} {Q : Option mw_V → mw_S → Prop} : mw_WP d 47 51 [some (jR x), l1, l2] st σ Q ↔ mw_WP d 47 52 [some (jR x), l1, l2] (jR x :: st) σ Q := WP_aload_n mq47 dd47_51 rfl
theorem dd47_52 : decode cX7_readPerson 52 = .ok (.ldc 115, 2) := by decide +kernel
theorem ww47_52 {d : Nat} {l0 l1 l2 : Option mw_V} {st : List mw_V} {σ : mw_S} {Q : Option mw_V → mw_S → Prop} : mw_WP d 47 52 [l0, l1, l2] st σ Q ↔ mw_WP d 47 54 [l0, l1, l2] (jR 1003 :: st) σ Q := WP_ldcS (n := 3) mq47 dd47_52 (by decide) (by decide) rfl
theorem dd47_54 : decode cX7_readPerson 54 = .ok (.invokevirtual 58, 3) := by decide +kernel
theorem ww47_54 {d : Nat} {l0 l1 l2 : Option mw_V} {v0 : mw_V} {a : Nat} {st : List mw_V} {σ : mw_S} {Q : Option mw_V → mw_S → Prop} (hr : mw_rc a = 7) (h8 : (st.map mw_cat).sum ≤ 8) : mw_WP d 47 54 [l0, l1, l2] (v0 :: jR a :: st) σ Q ↔ mw_Call d 66 [jR a, v0] σ (fun r1 s1 => mw_WP d 47 57 [l0, l1, l2] (r1.toList ++ st) s1 Q) := WP_inv (as := [v0]) mq47 dd47_54 (by decide) mq66 rfl hr h8
theorem dd47_57 : decode cX7_readPerson 57 = .ok (.ifCond .eq 27, 3) := by decide +kernel
theorem ww47_57 {d : Nat} {l0 l1 l2 : Option mw_V} {x : Int} {st : List mw_V} {σ : mw_S} {Q : Option mw_V → mw_S → Prop} : mw_WP d 47 57 [l0, l1, l2] (jI x :: st) σ Q ↔ (if x = 0 then mw_WP d 47 84 [l0, l1, l2] st σ Q else mw_WP d 47 60 [l0, l1, l2] st σ Q) := WP_if_eq mq47 dd47_57 (by decide)
theorem dd47_60 : decode cX7_readPerson 60 = .ok (.aload_n 0, 1) := by decide +kernel
theorem ww47_60 {d : Nat} {l1 l2 : Option mw_V} {x : Nat} {st : List mw_V} {σ : mw_S} {Q : Option mw_V → mw_S → Prop} : mw_WP d 47 60 [some (jR x), l1, l2] st σ Q ↔ mw_WP d 47 61 [some (jR x), l1, l2] (jR x :: st) σ Q := WP_aload_n mq47 dd47_60 rfl
theorem dd47_61 : decode cX7_readPerson 61 = .ok (.invokevirtual 50, 3) := by decide +kernel
theorem ww47_61 {d : Nat} {l0 l1 l2 : Option mw_V} {a : Nat} {st : List mw_V} {σ : mw_S} {Q : Option mw_V → mw_S → Prop} (hr : mw_rc a = 7) (h8 : (st.map mw_cat).sum ≤ 8) : mw_WP d 47 61 [l0, l1, l2] (jR a :: st) σ Q ↔ mw_Call d 72 [jR a] σ (fun r1 s1 => mw_WP d 47 64 [l0, l1, l2] (r1.toList ++ st) s1 Q) := WP_inv (as := []) mq47 dd47_61 (by decide) mq72 rfl hr h8
theorem dd47_64 : decode cX7_readPerson 64 = .ok (.aload_n 0, 1) := by decide +kernel
theorem ww47_64 {d : Nat} {l1 l2 : Option mw_V} {x : Nat} {st : List mw_V} {σ : mw_S} {Q : Option mw_V → mw_S → Prop} : mw_WP d 47 64 [some (jR x), l1, l2] st σ Q ↔ mw_WP d 47 65 [some (jR x), l1, l2] (jR x :: st) σ Q := WP_aload_n mq47 dd47_64 rfl
theorem dd47_65 : decode cX7_readPerson 65 = .ok (.iconst 0, 1) := by decide +kernel
theorem ww47_65 {d : Nat} {l0 l1 l2 : Option mw_V} {st : List mw_V} {σ : mw_S} {Q : Option mw_V → mw_S → Prop} : mw_WP d 47 65 [l0, l1, l2] st σ Q ↔ mw_WP d 47 66 [l0, l1, l2] (jI (0) :: st) σ Q := WP_iconst mq47 dd47_65 (by decide)
theorem dd47_66 : decode cX7_readPerson 66 = .ok (.iconst 4, 1) := by decide +kernel
theorem ww47_66 {d : Nat} {l0 l1 l2 : Option mw_V} {st : List mw_V} {σ : mw_S} {Q : Option mw_V → mw_S → Prop} : mw_WP d 47 66 [l0, l1, l2] st σ Q ↔ mw_WP d 47 67 [l0, l1, l2] (jI (4) :: st) σ Q := WP_iconst mq47 dd47_66 (by decide)
theorem dd47_67 : decode cX7_readPerson 67 = .ok (.invokevirtual 106, 3) := by decide +kernel
theorem ww47_67 {d : Nat} {l0 l1 l2 : Option mw_V} {v0 v1 : mw_V} {a : Nat} {st : List mw_V} {σ : mw_S} {Q : Option mw_V → mw_S → Prop} (hr : mw_rc a = 7) (h8 : (st.map mw_cat).sum ≤ 8) : mw_WP d 47 67 [l0, l1, l2] (v1 :: v0 :: jR a :: st) σ Q ↔ mw_Call d 69 [jR a, v0, v1] σ (fun r1 s1 => mw_WP d 47 70 [l0, l1, l2] (r1.toList ++ st) s1 Q) := WP_inv (as := [v1, v0]) mq47 dd47_67 (by decide) mq69 rfl hr h8
theorem dd47_70 : decode cX7_readPerson 70 = .ok (.ifCond .ne 5, 3) := by decide +kernel
theorem ww47_70 {d : Nat} {l0 l1 l2 : Option mw_V} {x : Int} {st : List mw_V} {σ : mw_S} {Q : Option mw_V → mw_S → Prop} : mw_WP d 47 70 [l0, l1, l2] (jI x :: st) σ Q ↔ (if ¬ x = 0 then mw_WP d 47 75 [l0, l1, l2] st σ Q else mw_WP d 47 73 [l0, l1, l2] st σ Q) := WP_if_ne mq47 dd47_70 (by decide)
theorem dd47_73 : decode cX7_readPerson 73 = .ok (.iconst 0, 1) := by decide +kernel
theorem ww47_73 {d : Nat} {l0 l1 l2 : Option mw_V} {st : List mw_V} {σ : mw_S} {Q : Option mw_V → mw_S → Prop} : mw_WP d 47 73 [l0, l1, l2] st σ Q ↔ mw_WP d 47 74 [l0, l1, l2] (jI (0) :: st) σ Q := WP_iconst mq47 dd47_73 (by decide)
theorem dd47_74 : decode cX7_readPerson 74 = .ok (.ireturn, 1) := by decide +kernel
theorem ww47_74 {d : Nat} {l0 l1 l2 : Option mw_V} {z : Int} {σ : mw_S} {Q : Option mw_V → mw_S → Prop} (h : z = 0 ∨ z = 1) : mw_WP d 47 74 [l0, l1, l2] [jI z] σ Q ↔ Q (some (jI z)) σ := WP_ireturn (ty := .boolean) mq47 dd47_74 rfl (by rcases h with rfl | rfl <;> decide)
theorem dd47_75 : decode cX7_readPerson 75 = .ok (.aload_n 0, 1) := by decide +kernel
theorem ww47_75 {d : Nat} {l1 l2 : Option mw_V} {x : Nat} {st : List mw_V} {σ : mw_S} {Q : Option mw_V → mw_S → Prop} : mw_WP d 47 75 [some (jR x), l1, l2] st σ Q ↔ mw_WP d 47 76 [some (jR x), l1, l2] (jR x :: st) σ Q := WP_aload_n mq47 dd47_75 rfl
theorem dd47_76 : decode cX7_readPerson 76 = .ok (.getfield 110, 3) := by decide +kernel
theorem ww47_76 {d : Nat} {l0 l1 l2 : Option mw_V} {st : List mw_V} {σ : mw_S} {Q : Option mw_V → mw_S → Prop} : mw_WP d 47 76 [l0, l1, l2] (jR 1 :: st) σ Q ↔ mw_WP d 47 79 [l0, l1, l2] (jI (σ 1 9) :: st) σ Q := WP_getI (ci := 6) (k := 9) mq47 dd47_76 (by decide) (Or.inl rfl)
theorem dd47_79 : decode cX7_readPerson 79 = .ok (.istore_n 2, 1) := by decide +kernel
theorem ww47_79 {d : Nat} {l0 l1 l2 : Option mw_V} {x : Int} {st : List mw_V} {σ : mw_S} {Q : Option mw_V → mw_S → Prop} (h : mw_nlo l1 = true) : mw_WP d 47 79 [l0, l1, l2] (jI x :: st) σ Q ↔ mw_WP d 47 80 [l0, l1, some (jI x)] st σ Q := WP_istore_n mq47 dd47_79 (Nat.le_of_ble_eq_true rfl) (mw_nl_of (i := 1) rfl h) rfl
theorem dd47_80 : decode cX7_readPerson 80 = .ok (.aload_n 0, 1) := by decide +kernel
theorem ww47_80 {d : Nat} {l1 l2 : Option mw_V} {x : Nat} {st : List mw_V} {σ : mw_S} {Q : Option mw_V → mw_S → Prop} : mw_WP d 47 80 [some (jR x), l1, l2] st σ Q ↔ mw_WP d 47 81 [some (jR x), l1, l2] (jR x :: st) σ Q := WP_aload_n mq47 dd47_80 rfl
theorem dd47_81 : decode cX7_readPerson 81 = .ok (.invokevirtual 50, 3) := by decide +kernel
theorem ww47_81 {d : Nat} {l0 l1 l2 : Option mw_V} {a : Nat} {st : List mw_V} {σ : mw_S} {Q : Option mw_V → mw_S → Prop} (hr : mw_rc a = 7) (h8 : (st.map mw_cat).sum ≤ 8) : mw_WP d 47 81 [l0, l1, l2] (jR a :: st) σ Q ↔ mw_Call d 72 [jR a] σ (fun r1 s1 => mw_WP d 47 84 [l0, l1, l2] (r1.toList ++ st) s1 Q) := WP_inv (as := []) mq47 dd47_81 (by decide) mq72 rfl hr h8
theorem dd47_84 : decode cX7_readPerson 84 = .ok (.aload_n 0, 1) := by decide +kernel
theorem ww47_84 {d : Nat} {l1 l2 : Option mw_V} {x : Nat} {st : List mw_V} {σ : mw_S} {Q : Option mw_V → mw_S → Prop} : mw_WP d 47 84 [some (jR x), l1, l2] st σ Q ↔ mw_WP d 47 85 [some (jR x), l1, l2] (jR x :: st) σ Q := WP_aload_n mq47 dd47_84 rfl
theorem dd47_85 : decode cX7_readPerson 85 = .ok (.getfield 18, 3) := by decide +kernel
theorem ww47_85 {d : Nat} {l0 l1 l2 : Option mw_V} {st : List mw_V} {σ : mw_S} {Q : Option mw_V → mw_S → Prop} : mw_WP d 47 85 [l0, l1, l2] (jR 1 :: st) σ Q ↔ mw_WP d 47 88 [l0, l1, l2] (jR 3 :: st) σ Q := WP_getR (ci := 6) (k := 1) mq47 dd47_85 (by decide) rfl
theorem dd47_88 : decode cX7_readPerson 88 = .ok (.iload_n 1, 1) := by decide +kernel
theorem ww47_88 {d : Nat} {l0 l2 : Option mw_V} {x : Int} {st : List mw_V} {σ : mw_S} {Q : Option mw_V → mw_S → Prop} : mw_WP d 47 88 [l0, some (jI x), l2] st σ Q ↔ mw_WP d 47 89 [l0, some (jI x), l2] (jI x :: st) σ Q := WP_iload_n mq47 dd47_88 rfl
theorem dd47_89 : decode cX7_readPerson 89 = .ok (.iload_n 2, 1) := by decide +kernel
theorem ww47_89 {d : Nat} {l0 l1 : Option mw_V} {x : Int} {st : List mw_V} {σ : mw_S} {Q : Option mw_V → mw_S → Prop} : mw_WP d 47 89 [l0, l1, some (jI x)] st σ Q ↔ mw_WP d 47 90 [l0, l1, some (jI x)] (jI x :: st) σ Q := WP_iload_n mq47 dd47_89 rfl
theorem dd47_90 : decode cX7_readPerson 90 = .ok (.invokevirtual 117, 3) := by decide +kernel
theorem ww47_90 {d : Nat} {l0 l1 l2 : Option mw_V} {v0 v1 : mw_V} {a : Nat} {st : List mw_V} {σ : mw_S} {Q : Option mw_V → mw_S → Prop} (hr : mw_rc a = 1) (h8 : (st.map mw_cat).sum ≤ 8) : mw_WP d 47 90 [l0, l1, l2] (v1 :: v0 :: jR a :: st) σ Q ↔ mw_Call d 3 [jR a, v0, v1] σ (fun r1 s1 => mw_WP d 47 93 [l0, l1, l2] (r1.toList ++ st) s1 Q) := WP_inv (as := [v1, v0]) mq47 dd47_90 (by decide) mq3 rfl hr h8
theorem dd47_93 : decode cX7_readPerson 93 = .ok (.iconst 1, 1) := by decide +kernel
theorem ww47_93 {d : Nat} {l0 l1 l2 : Option mw_V} {st : List mw_V} {σ : mw_S} {Q : Option mw_V → mw_S → Prop} : mw_WP d 47 93 [l0, l1, l2] st σ Q ↔ mw_WP d 47 94 [l0, l1, l2] (jI (1) :: st) σ Q := WP_iconst mq47 dd47_93 (by decide)
theorem dd47_94 : decode cX7_readPerson 94 = .ok (.ireturn, 1) := by decide +kernel
theorem ww47_94 {d : Nat} {l0 l1 l2 : Option mw_V} {z : Int} {σ : mw_S} {Q : Option mw_V → mw_S → Prop} (h : z = 0 ∨ z = 1) : mw_WP d 47 94 [l0, l1, l2] [jI z] σ Q ↔ Q (some (jI z)) σ := WP_ireturn (ty := .boolean) mq47 dd47_94 rfl (by rcases h with rfl | rfl <;> decide)
theorem ee48 {d : Nat} {a : Nat} {σ : mw_S} {Q : Option mw_V → mw_S → Prop} : mw_Call (d + 1) 48 [jR a] σ Q ↔ mw_WP d 48 0 [some (jR a), none] [] σ Q := CL_u mq48 (Nat.le_of_ble_eq_true rfl) rfl
theorem dd48_0 : decode cX7_readThing 0 = .ok (.aload_n 0, 1) := by decide +kernel
theorem ww48_0 {d : Nat} {l1 : Option mw_V} {x : Nat} {st : List mw_V} {σ : mw_S} {Q : Option mw_V → mw_S → Prop} : mw_WP d 48 0 [some (jR x), l1] st σ Q ↔ mw_WP d 48 1 [some (jR x), l1] (jR x :: st) σ Q := WP_aload_n mq48 dd48_0 rfl
theorem dd48_1 : decode cX7_readThing 1 = .ok (.getfield 18, 3) := by decide +kernel
theorem ww48_1 {d : Nat} {l0 l1 : Option mw_V} {st : List mw_V} {σ : mw_S} {Q : Option mw_V → mw_S → Prop} : mw_WP d 48 1 [l0, l1] (jR 1 :: st) σ Q ↔ mw_WP d 48 4 [l0, l1] (jR 3 :: st) σ Q := WP_getR (ci := 6) (k := 1) mq48 dd48_1 (by decide) rfl
theorem dd48_4 : decode cX7_readThing 4 = .ok (.getfield 99, 3) := by decide +kernel
theorem ww48_4i3 {d : Nat} {l0 l1 : Option mw_V} {st : List mw_V} {σ : mw_S} {Q : Option mw_V → mw_S → Prop} : mw_WP d 48 4 [l0, l1] (jR 3 :: st) σ Q ↔ mw_WP d 48 7 [l0, l1] (jI (σ 3 2) :: st) σ Q := WP_getI (ci := 0) (k := 2) mq48 dd48_4 (by decide) (Or.inl rfl)
theorem ww48_4i13 {d : Nat} {l0 l1 : Option mw_V} {st : List mw_V} {σ : mw_S} {Q : Option mw_V → mw_S → Prop} : mw_WP d 48 4 [l0, l1] (jR 13 :: st) σ Q ↔ mw_WP d 48 7 [l0, l1] (jI (σ 13 2) :: st) σ Q := WP_getI (ci := 0) (k := 2) mq48 dd48_4 (by decide) (Or.inl rfl)
theorem ww48_4i77 {d : Nat} {l0 l1 : Option mw_V} {st : List mw_V} {σ : mw_S} {Q : Option mw_V → mw_S → Prop} : mw_WP d 48 4 [l0, l1] (jR 77 :: st) σ Q ↔ mw_WP d 48 7 [l0, l1] (jI (σ 77 2) :: st) σ Q := WP_getI (ci := 0) (k := 2) mq48 dd48_4 (by decide) (Or.inl rfl)
theorem ww48_4i88 {d : Nat} {l0 l1 : Option mw_V} {st : List mw_V} {σ : mw_S} {Q : Option mw_V → mw_S → Prop} : mw_WP d 48 4 [l0, l1] (jR 88 :: st) σ Q ↔ mw_WP d 48 7 [l0, l1] (jI (σ 88 2) :: st) σ Q := WP_getI (ci := 0) (k := 2) mq48 dd48_4 (by decide) (Or.inl rfl)
theorem dd48_7 : decode cX7_readThing 7 = .ok (.iconst 4, 1) := by decide +kernel
theorem ww48_7 {d : Nat} {l0 l1 : Option mw_V} {st : List mw_V} {σ : mw_S} {Q : Option mw_V → mw_S → Prop} : mw_WP d 48 7 [l0, l1] st σ Q ↔ mw_WP d 48 8 [l0, l1] (jI (4) :: st) σ Q := WP_iconst mq48 dd48_7 (by decide)
theorem dd48_8 : decode cX7_readThing 8 = .ok (.if_icmp .lt 9, 3) := by decide +kernel
theorem ww48_8 {d : Nat} {l0 l1 : Option mw_V} {x y : Int} {st : List mw_V} {σ : mw_S} {Q : Option mw_V → mw_S → Prop} : mw_WP d 48 8 [l0, l1] (jI y :: jI x :: st) σ Q ↔ (if x < y then mw_WP d 48 17 [l0, l1] st σ Q else mw_WP d 48 11 [l0, l1] st σ Q) := WP_icmp_lt mq48 dd48_8 (by decide)
theorem dd48_11 : decode cX7_readThing 11 = .ok (.aload_n 0, 1) := by decide +kernel
theorem ww48_11 {d : Nat} {l1 : Option mw_V} {x : Nat} {st : List mw_V} {σ : mw_S} {Q : Option mw_V → mw_S → Prop} : mw_WP d 48 11 [some (jR x), l1] st σ Q ↔ mw_WP d 48 12 [some (jR x), l1] (jR x :: st) σ Q := WP_aload_n mq48 dd48_11 rfl
theorem dd48_12 : decode cX7_readThing 12 = .ok (.iconst 4, 1) := by decide +kernel
theorem ww48_12 {d : Nat} {l0 l1 : Option mw_V} {st : List mw_V} {σ : mw_S} {Q : Option mw_V → mw_S → Prop} : mw_WP d 48 12 [l0, l1] st σ Q ↔ mw_WP d 48 13 [l0, l1] (jI (4) :: st) σ Q := WP_iconst mq48 dd48_12 (by decide)
theorem dd48_13 : decode cX7_readThing 13 = .ok (.invokevirtual 102, 3) := by decide +kernel
theorem ww48_13 {d : Nat} {l0 l1 : Option mw_V} {v0 : mw_V} {a : Nat} {st : List mw_V} {σ : mw_S} {Q : Option mw_V → mw_S → Prop} (hr : mw_rc a = 7) (h8 : (st.map mw_cat).sum ≤ 8) : mw_WP d 48 13 [l0, l1] (v0 :: jR a :: st) σ Q ↔ mw_Call d 71 [jR a, v0] σ (fun r1 s1 => mw_WP d 48 16 [l0, l1] (r1.toList ++ st) s1 Q) := WP_inv (as := [v0]) mq48 dd48_13 (by decide) mq71 rfl hr h8
theorem dd48_16 : decode cX7_readThing 16 = .ok (.ireturn, 1) := by decide +kernel
theorem ww48_16 {d : Nat} {l0 l1 : Option mw_V} {z : Int} {σ : mw_S} {Q : Option mw_V → mw_S → Prop} (h : z = 0 ∨ z = 1) : mw_WP d 48 16 [l0, l1] [jI z] σ Q ↔ Q (some (jI z)) σ := WP_ireturn (ty := .boolean) mq48 dd48_16 rfl (by rcases h with rfl | rfl <;> decide)
theorem dd48_17 : decode cX7_readThing 17 = .ok (.aload_n 0, 1) := by decide +kernel
theorem ww48_17 {d : Nat} {l1 : Option mw_V} {x : Nat} {st : List mw_V} {σ : mw_S} {Q : Option mw_V → mw_S → Prop} : mw_WP d 48 17 [some (jR x), l1] st σ Q ↔ mw_WP d 48 18 [some (jR x), l1] (jR x :: st) σ Q := WP_aload_n mq48 dd48_17 rfl
theorem dd48_18 : decode cX7_readThing 18 = .ok (.invokevirtual 50, 3) := by decide +kernel
theorem ww48_18 {d : Nat} {l0 l1 : Option mw_V} {a : Nat} {st : List mw_V} {σ : mw_S} {Q : Option mw_V → mw_S → Prop} (hr : mw_rc a = 7) (h8 : (st.map mw_cat).sum ≤ 8) : mw_WP d 48 18 [l0, l1] (jR a :: st) σ Q ↔ mw_Call d 72 [jR a] σ (fun r1 s1 => mw_WP d 48 21 [l0, l1] (r1.toList ++ st) s1 Q) := WP_inv (as := []) mq48 dd48_18 (by decide) mq72 rfl hr h8
theorem dd48_21 : decode cX7_readThing 21 = .ok (.aload_n 0, 1) := by decide +kernel
theorem ww48_21 {d : Nat} {l1 : Option mw_V} {x : Nat} {st : List mw_V} {σ : mw_S} {Q : Option mw_V → mw_S → Prop} : mw_WP d 48 21 [some (jR x), l1] st σ Q ↔ mw_WP d 48 22 [some (jR x), l1] (jR x :: st) σ Q := WP_aload_n mq48 dd48_21 rfl
theorem dd48_22 : decode cX7_readThing 22 = .ok (.iconst 0, 1) := by decide +kernel
theorem ww48_22 {d : Nat} {l0 l1 : Option mw_V} {st : List mw_V} {σ : mw_S} {Q : Option mw_V → mw_S → Prop} : mw_WP d 48 22 [l0, l1] st σ Q ↔ mw_WP d 48 23 [l0, l1] (jI (0) :: st) σ Q := WP_iconst mq48 dd48_22 (by decide)
theorem dd48_23 : decode cX7_readThing 23 = .ok (.aload_n 0, 1) := by decide +kernel
theorem ww48_23 {d : Nat} {l1 : Option mw_V} {x : Nat} {st : List mw_V} {σ : mw_S} {Q : Option mw_V → mw_S → Prop} : mw_WP d 48 23 [some (jR x), l1] st σ Q ↔ mw_WP d 48 24 [some (jR x), l1] (jR x :: st) σ Q := WP_aload_n mq48 dd48_23 rfl
theorem dd48_24 : decode cX7_readThing 24 = .ok (.getfield 18, 3) := by decide +kernel
theorem ww48_24 {d : Nat} {l0 l1 : Option mw_V} {st : List mw_V} {σ : mw_S} {Q : Option mw_V → mw_S → Prop} : mw_WP d 48 24 [l0, l1] (jR 1 :: st) σ Q ↔ mw_WP d 48 27 [l0, l1] (jR 3 :: st) σ Q := WP_getR (ci := 6) (k := 1) mq48 dd48_24 (by decide) rfl
theorem dd48_27 : decode cX7_readThing 27 = .ok (.getfield 113, 3) := by decide +kernel
theorem ww48_27i3 {d : Nat} {l0 l1 : Option mw_V} {st : List mw_V} {σ : mw_S} {Q : Option mw_V → mw_S → Prop} : mw_WP d 48 27 [l0, l1] (jR 3 :: st) σ Q ↔ mw_WP d 48 30 [l0, l1] (jI (σ 3 0) :: st) σ Q := WP_getI (ci := 0) (k := 0) mq48 dd48_27 (by decide) (Or.inl rfl)
theorem ww48_27i13 {d : Nat} {l0 l1 : Option mw_V} {st : List mw_V} {σ : mw_S} {Q : Option mw_V → mw_S → Prop} : mw_WP d 48 27 [l0, l1] (jR 13 :: st) σ Q ↔ mw_WP d 48 30 [l0, l1] (jI (σ 13 0) :: st) σ Q := WP_getI (ci := 0) (k := 0) mq48 dd48_27 (by decide) (Or.inl rfl)
theorem ww48_27i77 {d : Nat} {l0 l1 : Option mw_V} {st : List mw_V} {σ : mw_S} {Q : Option mw_V → mw_S → Prop} : mw_WP d 48 27 [l0, l1] (jR 77 :: st) σ Q ↔ mw_WP d 48 30 [l0, l1] (jI (σ 77 0) :: st) σ Q := WP_getI (ci := 0) (k := 0) mq48 dd48_27 (by decide) (Or.inl rfl)
theorem ww48_27i88 {d : Nat} {l0 l1 : Option mw_V} {st : List mw_V} {σ : mw_S} {Q : Option mw_V → mw_S → Prop} : mw_WP d 48 27 [l0, l1] (jR 88 :: st) σ Q ↔ mw_WP d 48 30 [l0, l1] (jI (σ 88 0) :: st) σ Q := WP_getI (ci := 0) (k := 0) mq48 dd48_27 (by decide) (Or.inl rfl)
theorem dd48_30 : decode cX7_readThing 30 = .ok (.iconst 1, 1) := by decide +kernel
theorem ww48_30 {d : Nat} {l0 l1 : Option mw_V} {st : List mw_V} {σ : mw_S} {Q : Option mw_V → mw_S → Prop} : mw_WP d 48 30 [l0, l1] st σ Q ↔ mw_WP d 48 31 [l0, l1] (jI (1) :: st) σ Q := WP_iconst mq48 dd48_30 (by decide)
theorem dd48_31 : decode cX7_readThing 31 = .ok (.isub, 1) := by decide +kernel
theorem ww48_31 {d : Nat} {l0 l1 : Option mw_V} {x y : Int} {st : List mw_V} {σ : mw_S} {Q : Option mw_V → mw_S → Prop} : mw_WP d 48 31 [l0, l1] (jI y :: jI x :: st) σ Q ↔ mw_WP d 48 32 [l0, l1] (jI (w32 (x - y)) :: st) σ Q := WP_isub mq48 dd48_31
theorem dd48_32 : decode cX7_readThing 32 = .ok (.invokevirtual 106, 3) := by decide +kernel
theorem ww48_32 {d : Nat} {l0 l1 : Option mw_V} {v0 v1 : mw_V} {a : Nat} {st : List mw_V} {σ : mw_S} {Q : Option mw_V → mw_S → Prop} (hr : mw_rc a = 7) (h8 : (st.map mw_cat).sum ≤ 8) : mw_WP d 48 32 [l0, l1] (v1 :: v0 :: jR a :: st) σ Q ↔ mw_Call d 69 [jR a, v0, v1] σ (fun r1 s1 => mw_WP d 48 35 [l0, l1] (r1.toList ++ st) s1 Q) := WP_inv (as := [v1, v0]) mq48 dd48_32 (by decide) mq69 rfl hr h8
theorem dd48_35 : decode cX7_readThing 35 = .ok (.ifCond .ne 5, 3) := by decide +kernel
theorem ww48_35 {d : Nat} {l0 l1 : Option mw_V} {x : Int} {st : List mw_V} {σ : mw_S} {Q : Option mw_V → mw_S → Prop} : mw_WP d 48 35 [l0, l1] (jI x :: st) σ Q ↔ (if ¬ x = 0 then mw_WP d 48 40 [l0, l1] st σ Q else mw_WP d 48 38 [l0, l1] st σ Q) := WP_if_ne mq48 dd48_35 (by decide)
theorem dd48_38 : decode cX7_readThing 38 = .ok (.iconst 0, 1) := by decide +kernel
theorem ww48_38 {d : Nat} {l0 l1 : Option mw_V} {st : List mw_V} {σ : mw_S} {Q : Option mw_V → mw_S → Prop} : mw_WP d 48 38 [l0, l1] st σ Q ↔ mw_WP d 48 39 [l0, l1] (jI (0) :: st) σ Q := WP_iconst mq48 dd48_38 (by decide)
theorem dd48_39 : decode cX7_readThing 39 = .ok (.ireturn, 1) := by decide +kernel
theorem ww48_39 {d : Nat} {l0 l1 : Option mw_V} {z : Int} {σ : mw_S} {Q : Option mw_V → mw_S → Prop} (h : z = 0 ∨ z = 1) : mw_WP d 48 39 [l0, l1] [jI z] σ Q ↔ Q (some (jI z)) σ := WP_ireturn (ty := .boolean) mq48 dd48_39 rfl (by rcases h with rfl | rfl <;> decide)
theorem dd48_40 : decode cX7_readThing 40 = .ok (.aload_n 0, 1) := by decide +kernel
theorem ww48_40 {d : Nat} {l1 : Option mw_V} {x : Nat} {st : List mw_V} {σ : mw_S} {Q : Option mw_V → mw_S → Prop} : mw_WP d 48 40 [some (jR x), l1] st σ Q ↔ mw_WP d 48 41 [some (jR x), l1] (jR x :: st) σ Q := WP_aload_n mq48 dd48_40 rfl
theorem dd48_41 : decode cX7_readThing 41 = .ok (.getfield 110, 3) := by decide +kernel
theorem ww48_41 {d : Nat} {l0 l1 : Option mw_V} {st : List mw_V} {σ : mw_S} {Q : Option mw_V → mw_S → Prop} : mw_WP d 48 41 [l0, l1] (jR 1 :: st) σ Q ↔ mw_WP d 48 44 [l0, l1] (jI (σ 1 9) :: st) σ Q := WP_getI (ci := 6) (k := 9) mq48 dd48_41 (by decide) (Or.inl rfl)
theorem dd48_44 : decode cX7_readThing 44 = .ok (.istore_n 1, 1) := by decide +kernel
theorem ww48_44 {d : Nat} {l0 l1 : Option mw_V} {x : Int} {st : List mw_V} {σ : mw_S} {Q : Option mw_V → mw_S → Prop} (h : mw_nlo l0 = true) : mw_WP d 48 44 [l0, l1] (jI x :: st) σ Q ↔ mw_WP d 48 45 [l0, some (jI x)] st σ Q := WP_istore_n mq48 dd48_44 (Nat.le_of_ble_eq_true rfl) (mw_nl_of (i := 0) rfl h) rfl
theorem dd48_45 : decode cX7_readThing 45 = .ok (.aload_n 0, 1) := by decide +kernel
theorem ww48_45 {d : Nat} {l1 : Option mw_V} {x : Nat} {st : List mw_V} {σ : mw_S} {Q : Option mw_V → mw_S → Prop} : mw_WP d 48 45 [some (jR x), l1] st σ Q ↔ mw_WP d 48 46 [some (jR x), l1] (jR x :: st) σ Q := WP_aload_n mq48 dd48_45 rfl
theorem dd48_46 : decode cX7_readThing 46 = .ok (.invokevirtual 50, 3) := by decide +kernel
theorem ww48_46 {d : Nat} {l0 l1 : Option mw_V} {a : Nat} {st : List mw_V} {σ : mw_S} {Q : Option mw_V → mw_S → Prop} (hr : mw_rc a = 7) (h8 : (st.map mw_cat).sum ≤ 8) : mw_WP d 48 46 [l0, l1] (jR a :: st) σ Q ↔ mw_Call d 72 [jR a] σ (fun r1 s1 => mw_WP d 48 49 [l0, l1] (r1.toList ++ st) s1 Q) := WP_inv (as := []) mq48 dd48_46 (by decide) mq72 rfl hr h8
theorem dd48_49 : decode cX7_readThing 49 = .ok (.aload_n 0, 1) := by decide +kernel
theorem ww48_49 {d : Nat} {l1 : Option mw_V} {x : Nat} {st : List mw_V} {σ : mw_S} {Q : Option mw_V → mw_S → Prop} : mw_WP d 48 49 [some (jR x), l1] st σ Q ↔ mw_WP d 48 50 [some (jR x), l1] (jR x :: st) σ Q := WP_aload_n mq48 dd48_49 rfl
theorem dd48_50 : decode cX7_readThing 50 = .ok (.ldc 121, 2) := by decide +kernel
theorem ww48_50 {d : Nat} {l0 l1 : Option mw_V} {st : List mw_V} {σ : mw_S} {Q : Option mw_V → mw_S → Prop} : mw_WP d 48 50 [l0, l1] st σ Q ↔ mw_WP d 48 52 [l0, l1] (jR 1005 :: st) σ Q := WP_ldcS (n := 5) mq48 dd48_50 (by decide) (by decide) rfl
theorem dd48_52 : decode cX7_readThing 52 = .ok (.invokevirtual 58, 3) := by decide +kernel
theorem ww48_52 {d : Nat} {l0 l1 : Option mw_V} {v0 : mw_V} {a : Nat} {st : List mw_V} {σ : mw_S} {Q : Option mw_V → mw_S → Prop} (hr : mw_rc a = 7) (h8 : (st.map mw_cat).sum ≤ 8) : mw_WP d 48 52 [l0, l1] (v0 :: jR a :: st) σ Q ↔ mw_Call d 66 [jR a, v0] σ (fun r1 s1 => mw_WP d 48 55 [l0, l1] (r1.toList ++ st) s1 Q) := WP_inv (as := [v0]) mq48 dd48_52 (by decide) mq66 rfl hr h8
theorem dd48_55 : decode cX7_readThing 55 = .ok (.ifCond .eq 10, 3) := by decide +kernel
theorem ww48_55 {d : Nat} {l0 l1 : Option mw_V} {x : Int} {st : List mw_V} {σ : mw_S} {Q : Option mw_V → mw_S → Prop} : mw_WP d 48 55 [l0, l1] (jI x :: st) σ Q ↔ (if x = 0 then mw_WP d 48 65 [l0, l1] st σ Q else mw_WP d 48 58 [l0, l1] st σ Q) := WP_if_eq mq48 dd48_55 (by decide)
theorem dd48_58 : decode cX7_readThing 58 = .ok (.iinc 1 10, 3) := by decide +kernel
theorem ww48_58 {d : Nat} {l0 : Option mw_V} {x : Int} {st : List mw_V} {σ : mw_S} {Q : Option mw_V → mw_S → Prop} (h : mw_nlo l0 = true) : mw_WP d 48 58 [l0, some (jI x)] st σ Q ↔ mw_WP d 48 61 [l0, some (jI (w32 (x + (10))))] st σ Q := WP_iinc mq48 dd48_58 rfl (Nat.le_of_ble_eq_true rfl) (mw_nl_of (i := 0) rfl h) rfl
theorem dd48_61 : decode cX7_readThing 61 = .ok (.aload_n 0, 1) := by decide +kernel
theorem ww48_61 {d : Nat} {l1 : Option mw_V} {x : Nat} {st : List mw_V} {σ : mw_S} {Q : Option mw_V → mw_S → Prop} : mw_WP d 48 61 [some (jR x), l1] st σ Q ↔ mw_WP d 48 62 [some (jR x), l1] (jR x :: st) σ Q := WP_aload_n mq48 dd48_61 rfl
theorem dd48_62 : decode cX7_readThing 62 = .ok (.invokevirtual 50, 3) := by decide +kernel
theorem ww48_62 {d : Nat} {l0 l1 : Option mw_V} {a : Nat} {st : List mw_V} {σ : mw_S} {Q : Option mw_V → mw_S → Prop} (hr : mw_rc a = 7) (h8 : (st.map mw_cat).sum ≤ 8) : mw_WP d 48 62 [l0, l1] (jR a :: st) σ Q ↔ mw_Call d 72 [jR a] σ (fun r1 s1 => mw_WP d 48 65 [l0, l1] (r1.toList ++ st) s1 Q) := WP_inv (as := []) mq48 dd48_62 (by decide) mq72 rfl hr h8
theorem dd48_65 : decode cX7_readThing 65 = .ok (.aload_n 0, 1) := by decide +kernel
theorem ww48_65 {d : Nat} {l1 : Option mw_V} {x : Nat} {st : List mw_V} {σ : mw_S} {Q : Option mw_V → mw_S → Prop} : mw_WP d 48 65 [some (jR x), l1] st σ Q ↔ mw_WP d 48 66 [some (jR x), l1] (jR x :: st) σ Q := WP_aload_n mq48 dd48_65 rfl
theorem dd48_66 : decode cX7_readThing 66 = .ok (.getfield 18, 3) := by decide +kernel
theorem ww48_66 {d : Nat} {l0 l1 : Option mw_V} {st : List mw_V} {σ : mw_S} {Q : Option mw_V → mw_S → Prop} : mw_WP d 48 66 [l0, l1] (jR 1 :: st) σ Q ↔ mw_WP d 48 69 [l0, l1] (jR 3 :: st) σ Q := WP_getR (ci := 6) (k := 1) mq48 dd48_66 (by decide) rfl
theorem dd48_69 : decode cX7_readThing 69 = .ok (.iload_n 1, 1) := by decide +kernel
theorem ww48_69 {d : Nat} {l0 : Option mw_V} {x : Int} {st : List mw_V} {σ : mw_S} {Q : Option mw_V → mw_S → Prop} : mw_WP d 48 69 [l0, some (jI x)] st σ Q ↔ mw_WP d 48 70 [l0, some (jI x)] (jI x :: st) σ Q := WP_iload_n mq48 dd48_69 rfl
theorem dd48_70 : decode cX7_readThing 70 = .ok (.invokevirtual 123, 3) := by decide +kernel
theorem ww48_70 {d : Nat} {l0 l1 : Option mw_V} {v0 : mw_V} {a : Nat} {st : List mw_V} {σ : mw_S} {Q : Option mw_V → mw_S → Prop} (hr : mw_rc a = 1) (h8 : (st.map mw_cat).sum ≤ 8) : mw_WP d 48 70 [l0, l1] (v0 :: jR a :: st) σ Q ↔ mw_Call d 4 [jR a, v0] σ (fun r1 s1 => mw_WP d 48 73 [l0, l1] (r1.toList ++ st) s1 Q) := WP_inv (as := [v0]) mq48 dd48_70 (by decide) mq4 rfl hr h8
theorem dd48_73 : decode cX7_readThing 73 = .ok (.iconst 1, 1) := by decide +kernel
theorem ww48_73 {d : Nat} {l0 l1 : Option mw_V} {st : List mw_V} {σ : mw_S} {Q : Option mw_V → mw_S → Prop} : mw_WP d 48 73 [l0, l1] st σ Q ↔ mw_WP d 48 74 [l0, l1] (jI (1) :: st) σ Q := WP_iconst mq48 dd48_73 (by decide)
theorem dd48_74 : decode cX7_readThing 74 = .ok (.ireturn, 1) := by decide +kernel
theorem ww48_74 {d : Nat} {l0 l1 : Option mw_V} {z : Int} {σ : mw_S} {Q : Option mw_V → mw_S → Prop} (h : z = 0 ∨ z = 1) : mw_WP d 48 74 [l0, l1] [jI z] σ Q ↔ Q (some (jI z)) σ := WP_ireturn (ty := .boolean) mq48 dd48_74 rfl (by rcases h with rfl | rfl <;> decide)
theorem ee49 {d : Nat} {a : Nat} {σ : mw_S} {Q : Option mw_V → mw_S → Prop} : mw_Call (d + 1) 49 [jR a] σ Q ↔ mw_WP d 49 0 [some (jR a)] [] σ Q := CL_u mq49 (Nat.le_of_ble_eq_true rfl) rfl
theorem dd49_0 : decode cX7_readMiss 0 = .ok (.aload_n 0, 1) := by decide +kernel
theorem ww49_0 {d : Nat} {x : Nat} {st : List mw_V} {σ : mw_S} {Q : Option mw_V → mw_S → Prop} : mw_WP d 49 0 [some (jR x)] st σ Q ↔ mw_WP d 49 1 [some (jR x)] (jR x :: st) σ Q := WP_aload_n mq49 dd49_0 rfl
theorem dd49_1 : decode cX7_readMiss 1 = .ok (.invokevirtual 50, 3) := by decide +kernel
theorem ww49_1 {d : Nat} {l0 : Option mw_V} {a : Nat} {st : List mw_V} {σ : mw_S} {Q : Option mw_V → mw_S → Prop} (hr : mw_rc a = 7) (h8 : (st.map mw_cat).sum ≤ 8) : mw_WP d 49 1 [l0] (jR a :: st) σ Q ↔ mw_Call d 72 [jR a] σ (fun r1 s1 => mw_WP d 49 4 [l0] (r1.toList ++ st) s1 Q) := WP_inv (as := []) mq49 dd49_1 (by decide) mq72 rfl hr h8
theorem dd49_4 : decode cX7_readMiss 4 = .ok (.aload_n 0, 1) := by decide +kernel
theorem ww49_4 {d : Nat} {x : Nat} {st : List mw_V} {σ : mw_S} {Q : Option mw_V → mw_S → Prop} : mw_WP d 49 4 [some (jR x)] st σ Q ↔ mw_WP d 49 5 [some (jR x)] (jR x :: st) σ Q := WP_aload_n mq49 dd49_4 rfl
theorem dd49_5 : decode cX7_readMiss 5 = .ok (.iconst 0, 1) := by decide +kernel
theorem ww49_5 {d : Nat} {l0 : Option mw_V} {st : List mw_V} {σ : mw_S} {Q : Option mw_V → mw_S → Prop} : mw_WP d 49 5 [l0] st σ Q ↔ mw_WP d 49 6 [l0] (jI (0) :: st) σ Q := WP_iconst mq49 dd49_5 (by decide)
theorem dd49_6 : decode cX7_readMiss 6 = .ok (.bipush 9, 2) := by decide +kernel
theorem ww49_6 {d : Nat} {l0 : Option mw_V} {st : List mw_V} {σ : mw_S} {Q : Option mw_V → mw_S → Prop} : mw_WP d 49 6 [l0] st σ Q ↔ mw_WP d 49 8 [l0] (jI (9) :: st) σ Q := WP_bipush mq49 dd49_6 (by decide)
theorem dd49_8 : decode cX7_readMiss 8 = .ok (.invokevirtual 106, 3) := by decide +kernel
theorem ww49_8 {d : Nat} {l0 : Option mw_V} {v0 v1 : mw_V} {a : Nat} {st : List mw_V} {σ : mw_S} {Q : Option mw_V → mw_S → Prop} (hr : mw_rc a = 7) (h8 : (st.map mw_cat).sum ≤ 8) : mw_WP d 49 8 [l0] (v1 :: v0 :: jR a :: st) σ Q ↔ mw_Call d 69 [jR a, v0, v1] σ (fun r1 s1 => mw_WP d 49 11 [l0] (r1.toList ++ st) s1 Q) := WP_inv (as := [v1, v0]) mq49 dd49_8 (by decide) mq69 rfl hr h8
theorem dd49_11 : decode cX7_readMiss 11 = .ok (.ifCond .ne 5, 3) := by decide +kernel
theorem ww49_11 {d : Nat} {l0 : Option mw_V} {x : Int} {st : List mw_V} {σ : mw_S} {Q : Option mw_V → mw_S → Prop} : mw_WP d 49 11 [l0] (jI x :: st) σ Q ↔ (if ¬ x = 0 then mw_WP d 49 16 [l0] st σ Q else mw_WP d 49 14 [l0] st σ Q) := WP_if_ne mq49 dd49_11 (by decide)
theorem dd49_14 : decode cX7_readMiss 14 = .ok (.iconst 0, 1) := by decide +kernel
theorem ww49_14 {d : Nat} {l0 : Option mw_V} {st : List mw_V} {σ : mw_S} {Q : Option mw_V → mw_S → Prop} : mw_WP d 49 14 [l0] st σ Q ↔ mw_WP d 49 15 [l0] (jI (0) :: st) σ Q := WP_iconst mq49 dd49_14 (by decide)
theorem dd49_15 : decode cX7_readMiss 15 = .ok (.ireturn, 1) := by decide +kernel
theorem ww49_15 {d : Nat} {l0 : Option mw_V} {z : Int} {σ : mw_S} {Q : Option mw_V → mw_S → Prop} (h : z = 0 ∨ z = 1) : mw_WP d 49 15 [l0] [jI z] σ Q ↔ Q (some (jI z)) σ := WP_ireturn (ty := .boolean) mq49 dd49_15 rfl (by rcases h with rfl | rfl <;> decide)
theorem dd49_16 : decode cX7_readMiss 16 = .ok (.aload_n 0, 1) := by decide +kernel
theorem ww49_16 {d : Nat} {x : Nat} {st : List mw_V} {σ : mw_S} {Q : Option mw_V → mw_S → Prop} : mw_WP d 49 16 [some (jR x)] st σ Q ↔ mw_WP d 49 17 [some (jR x)] (jR x :: st) σ Q := WP_aload_n mq49 dd49_16 rfl
theorem dd49_17 : decode cX7_readMiss 17 = .ok (.getfield 18, 3) := by decide +kernel
theorem ww49_17 {d : Nat} {l0 : Option mw_V} {st : List mw_V} {σ : mw_S} {Q : Option mw_V → mw_S → Prop} : mw_WP d 49 17 [l0] (jR 1 :: st) σ Q ↔ mw_WP d 49 20 [l0] (jR 3 :: st) σ Q := WP_getR (ci := 6) (k := 1) mq49 dd49_17 (by decide) rfl
theorem dd49_20 : decode cX7_readMiss 20 = .ok (.aload_n 0, 1) := by decide +kernel
theorem ww49_20 {d : Nat} {x : Nat} {st : List mw_V} {σ : mw_S} {Q : Option mw_V → mw_S → Prop} : mw_WP d 49 20 [some (jR x)] st σ Q ↔ mw_WP d 49 21 [some (jR x)] (jR x :: st) σ Q := WP_aload_n mq49 dd49_20 rfl
theorem dd49_21 : decode cX7_readMiss 21 = .ok (.getfield 110, 3) := by decide +kernel
theorem ww49_21 {d : Nat} {l0 : Option mw_V} {st : List mw_V} {σ : mw_S} {Q : Option mw_V → mw_S → Prop} : mw_WP d 49 21 [l0] (jR 1 :: st) σ Q ↔ mw_WP d 49 24 [l0] (jI (σ 1 9) :: st) σ Q := WP_getI (ci := 6) (k := 9) mq49 dd49_21 (by decide) (Or.inl rfl)
theorem dd49_24 : decode cX7_readMiss 24 = .ok (.putfield 127, 3) := by decide +kernel
theorem ww49_24i3 {d : Nat} {l0 : Option mw_V} {v : Int} {st : List mw_V} {σ : mw_S} {Q : Option mw_V → mw_S → Prop} : mw_WP d 49 24 [l0] (jI v :: jR 3 :: st) σ Q ↔ mw_WP d 49 27 [l0] st (upS σ 3 4 v) Q := WP_putI (ci := 0) (k := 4) mq49 dd49_24 (by decide) rfl
theorem ww49_24i13 {d : Nat} {l0 : Option mw_V} {v : Int} {st : List mw_V} {σ : mw_S} {Q : Option mw_V → mw_S → Prop} : mw_WP d 49 24 [l0] (jI v :: jR 13 :: st) σ Q ↔ mw_WP d 49 27 [l0] st (upS σ 13 4 v) Q := WP_putI (ci := 0) (k := 4) mq49 dd49_24 (by decide) rfl
theorem ww49_24i77 {d : Nat} {l0 : Option mw_V} {v : Int} {st : List mw_V} {σ : mw_S} {Q : Option mw_V → mw_S → Prop} : mw_WP d 49 24 [l0] (jI v :: jR 77 :: st) σ Q ↔ mw_WP d 49 27 [l0] st (upS σ 77 4 v) Q := WP_putI (ci := 0) (k := 4) mq49 dd49_24 (by decide) rfl
theorem ww49_24i88 {d : Nat} {l0 : Option mw_V} {v : Int} {st : List mw_V} {σ : mw_S} {Q : Option mw_V → mw_S → Prop} : mw_WP d 49 24 [l0] (jI v :: jR 88 :: st) σ Q ↔ mw_WP d 49 27 [l0] st (upS σ 88 4 v) Q := WP_putI (ci := 0) (k := 4) mq49 dd49_24 (by decide) rfl
theorem dd49_27 : decode cX7_readMiss 27 = .ok (.aload_n 0, 1) := by decide +kernel
theorem ww49_27 {d : Nat} {x : Nat} {st : List mw_V} {σ : mw_S} {Q : Option mw_V → mw_S → Prop} : mw_WP d 49 27 [some (jR x)] st σ Q ↔ mw_WP d 49 28 [some (jR x)] (jR x :: st) σ Q := WP_aload_n mq49 dd49_27 rfl
theorem dd49_28 : decode cX7_readMiss 28 = .ok (.invokevirtual 50, 3) := by decide +kernel
theorem ww49_28 {d : Nat} {l0 : Option mw_V} {a : Nat} {st : List mw_V} {σ : mw_S} {Q : Option mw_V → mw_S → Prop} (hr : mw_rc a = 7) (h8 : (st.map mw_cat).sum ≤ 8) : mw_WP d 49 28 [l0] (jR a :: st) σ Q ↔ mw_Call d 72 [jR a] σ (fun r1 s1 => mw_WP d 49 31 [l0] (r1.toList ++ st) s1 Q) := WP_inv (as := []) mq49 dd49_28 (by decide) mq72 rfl hr h8
theorem dd49_31 : decode cX7_readMiss 31 = .ok (.iconst 1, 1) := by decide +kernel
theorem ww49_31 {d : Nat} {l0 : Option mw_V} {st : List mw_V} {σ : mw_S} {Q : Option mw_V → mw_S → Prop} : mw_WP d 49 31 [l0] st σ Q ↔ mw_WP d 49 32 [l0] (jI (1) :: st) σ Q := WP_iconst mq49 dd49_31 (by decide)
theorem dd49_32 : decode cX7_readMiss 32 = .ok (.ireturn, 1) := by decide +kernel
theorem ww49_32 {d : Nat} {l0 : Option mw_V} {z : Int} {σ : mw_S} {Q : Option mw_V → mw_S → Prop} (h : z = 0 ∨ z = 1) : mw_WP d 49 32 [l0] [jI z] σ Q ↔ Q (some (jI z)) σ := WP_ireturn (ty := .boolean) mq49 dd49_32 rfl (by rcases h with rfl | rfl <;> decide)
theorem ee50 {d : Nat} {a : Nat} {σ : mw_S} {Q : Option mw_V → mw_S → Prop} : mw_Call (d + 1) 50 [jR a] σ Q ↔ mw_WP d 50 0 [some (jR a), none, none, none] [] σ Q := CL_u mq50 (Nat.le_of_ble_eq_true rfl) rfl
theorem dd50_0 : decode cX7_readRule 0 = .ok (.aload_n 0, 1) := by decide +kernel
theorem ww50_0 {d : Nat} {l1 l2 l3 : Option mw_V} {x : Nat} {st : List mw_V} {σ : mw_S} {Q : Option mw_V → mw_S → Prop} : mw_WP d 50 0 [some (jR x), l1, l2, l3] st σ Q ↔ mw_WP d 50 1 [some (jR x), l1, l2, l3] (jR x :: st) σ Q := WP_aload_n mq50 dd50_0 rfl
theorem dd50_1 : decode cX7_readRule 1 = .ok (.getfield 18, 3) := by decide +kernel
theorem ww50_1 {d : Nat} {l0 l1 l2 l3 : Option mw_V} {st : List mw_V} {σ : mw_S} {Q : Option mw_V → mw_S → Prop} : mw_WP d 50 1 [l0, l1, l2, l3] (jR 1 :: st) σ Q ↔ mw_WP d 50 4 [l0, l1, l2, l3] (jR 3 :: st) σ Q := WP_getR (ci := 6) (k := 1) mq50 dd50_1 (by decide) rfl
theorem dd50_4 : decode cX7_readRule 4 = .ok (.getfield 129, 3) := by decide +kernel
theorem ww50_4i3 {d : Nat} {l0 l1 l2 l3 : Option mw_V} {st : List mw_V} {σ : mw_S} {Q : Option mw_V → mw_S → Prop} : mw_WP d 50 4 [l0, l1, l2, l3] (jR 3 :: st) σ Q ↔ mw_WP d 50 7 [l0, l1, l2, l3] (jI (σ 3 3) :: st) σ Q := WP_getI (ci := 0) (k := 3) mq50 dd50_4 (by decide) (Or.inl rfl)
theorem ww50_4i13 {d : Nat} {l0 l1 l2 l3 : Option mw_V} {st : List mw_V} {σ : mw_S} {Q : Option mw_V → mw_S → Prop} : mw_WP d 50 4 [l0, l1, l2, l3] (jR 13 :: st) σ Q ↔ mw_WP d 50 7 [l0, l1, l2, l3] (jI (σ 13 3) :: st) σ Q := WP_getI (ci := 0) (k := 3) mq50 dd50_4 (by decide) (Or.inl rfl)
theorem ww50_4i77 {d : Nat} {l0 l1 l2 l3 : Option mw_V} {st : List mw_V} {σ : mw_S} {Q : Option mw_V → mw_S → Prop} : mw_WP d 50 4 [l0, l1, l2, l3] (jR 77 :: st) σ Q ↔ mw_WP d 50 7 [l0, l1, l2, l3] (jI (σ 77 3) :: st) σ Q := WP_getI (ci := 0) (k := 3) mq50 dd50_4 (by decide) (Or.inl rfl)
theorem ww50_4i88 {d : Nat} {l0 l1 l2 l3 : Option mw_V} {st : List mw_V} {σ : mw_S} {Q : Option mw_V → mw_S → Prop} : mw_WP d 50 4 [l0, l1, l2, l3] (jR 88 :: st) σ Q ↔ mw_WP d 50 7 [l0, l1, l2, l3] (jI (σ 88 3) :: st) σ Q := WP_getI (ci := 0) (k := 3) mq50 dd50_4 (by decide) (Or.inl rfl)
theorem dd50_7 : decode cX7_readRule 7 = .ok (.bipush 8, 2) := by decide +kernel
theorem ww50_7 {d : Nat} {l0 l1 l2 l3 : Option mw_V} {st : List mw_V} {σ : mw_S} {Q : Option mw_V → mw_S → Prop} : mw_WP d 50 7 [l0, l1, l2, l3] st σ Q ↔ mw_WP d 50 9 [l0, l1, l2, l3] (jI (8) :: st) σ Q := WP_bipush mq50 dd50_7 (by decide)
theorem dd50_9 : decode cX7_readRule 9 = .ok (.if_icmp .lt 9, 3) := by decide +kernel
theorem ww50_9 {d : Nat} {l0 l1 l2 l3 : Option mw_V} {x y : Int} {st : List mw_V} {σ : mw_S} {Q : Option mw_V → mw_S → Prop} : mw_WP d 50 9 [l0, l1, l2, l3] (jI y :: jI x :: st) σ Q ↔ (if x < y then mw_WP d 50 18 [l0, l1, l2, l3] st σ Q else mw_WP d 50 12 [l0, l1, l2, l3] st σ Q) := WP_icmp_lt mq50 dd50_9 (by decide)
theorem dd50_12 : decode cX7_readRule 12 = .ok (.aload_n 0, 1) := by decide +kernel
theorem ww50_12 {d : Nat} {l1 l2 l3 : Option mw_V} {x : Nat} {st : List mw_V} {σ : mw_S} {Q : Option mw_V → mw_S → Prop} : mw_WP d 50 12 [some (jR x), l1, l2, l3] st σ Q ↔ mw_WP d 50 13 [some (jR x), l1, l2, l3] (jR x :: st) σ Q := WP_aload_n mq50 dd50_12 rfl
theorem dd50_13 : decode cX7_readRule 13 = .ok (.iconst 4, 1) := by decide +kernel
theorem ww50_13 {d : Nat} {l0 l1 l2 l3 : Option mw_V} {st : List mw_V} {σ : mw_S} {Q : Option mw_V → mw_S → Prop} : mw_WP d 50 13 [l0, l1, l2, l3] st σ Q ↔ mw_WP d 50 14 [l0, l1, l2, l3] (jI (4) :: st) σ Q := WP_iconst mq50 dd50_13 (by decide)
theorem dd50_14 : decode cX7_readRule 14 = .ok (.invokevirtual 102, 3) := by decide +kernel
theorem ww50_14 {d : Nat} {l0 l1 l2 l3 : Option mw_V} {v0 : mw_V} {a : Nat} {st : List mw_V} {σ : mw_S} {Q : Option mw_V → mw_S → Prop} (hr : mw_rc a = 7) (h8 : (st.map mw_cat).sum ≤ 8) : mw_WP d 50 14 [l0, l1, l2, l3] (v0 :: jR a :: st) σ Q ↔ mw_Call d 71 [jR a, v0] σ (fun r1 s1 => mw_WP d 50 17 [l0, l1, l2, l3] (r1.toList ++ st) s1 Q) := WP_inv (as := [v0]) mq50 dd50_14 (by decide) mq71 rfl hr h8
theorem dd50_17 : decode cX7_readRule 17 = .ok (.ireturn, 1) := by decide +kernel
theorem ww50_17 {d : Nat} {l0 l1 l2 l3 : Option mw_V} {z : Int} {σ : mw_S} {Q : Option mw_V → mw_S → Prop} (h : z = 0 ∨ z = 1) : mw_WP d 50 17 [l0, l1, l2, l3] [jI z] σ Q ↔ Q (some (jI z)) σ := WP_ireturn (ty := .boolean) mq50 dd50_17 rfl (by rcases h with rfl | rfl <;> decide)
theorem dd50_18 : decode cX7_readRule 18 = .ok (.aload_n 0, 1) := by decide +kernel
theorem ww50_18 {d : Nat} {l1 l2 l3 : Option mw_V} {x : Nat} {st : List mw_V} {σ : mw_S} {Q : Option mw_V → mw_S → Prop} : mw_WP d 50 18 [some (jR x), l1, l2, l3] st σ Q ↔ mw_WP d 50 19 [some (jR x), l1, l2, l3] (jR x :: st) σ Q := WP_aload_n mq50 dd50_18 rfl
theorem dd50_19 : decode cX7_readRule 19 = .ok (.invokevirtual 50, 3) := by decide +kernel
theorem ww50_19 {d : Nat} {l0 l1 l2 l3 : Option mw_V} {a : Nat} {st : List mw_V} {σ : mw_S} {Q : Option mw_V → mw_S → Prop} (hr : mw_rc a = 7) (h8 : (st.map mw_cat).sum ≤ 8) : mw_WP d 50 19 [l0, l1, l2, l3] (jR a :: st) σ Q ↔ mw_Call d 72 [jR a] σ (fun r1 s1 => mw_WP d 50 22 [l0, l1, l2, l3] (r1.toList ++ st) s1 Q) := WP_inv (as := []) mq50 dd50_19 (by decide) mq72 rfl hr h8
theorem dd50_22 : decode cX7_readRule 22 = .ok (.iconst (-1), 1) := by decide +kernel
theorem ww50_22 {d : Nat} {l0 l1 l2 l3 : Option mw_V} {st : List mw_V} {σ : mw_S} {Q : Option mw_V → mw_S → Prop} : mw_WP d 50 22 [l0, l1, l2, l3] st σ Q ↔ mw_WP d 50 23 [l0, l1, l2, l3] (jI (-1) :: st) σ Q := WP_iconst mq50 dd50_22 (by decide)
theorem dd50_23 : decode cX7_readRule 23 = .ok (.istore_n 1, 1) := by decide +kernel
theorem ww50_23 {d : Nat} {l0 l1 l2 l3 : Option mw_V} {x : Int} {st : List mw_V} {σ : mw_S} {Q : Option mw_V → mw_S → Prop} (h : mw_nlo l0 = true) : mw_WP d 50 23 [l0, l1, l2, l3] (jI x :: st) σ Q ↔ mw_WP d 50 24 [l0, some (jI x), l2, l3] st σ Q := WP_istore_n mq50 dd50_23 (Nat.le_of_ble_eq_true rfl) (mw_nl_of (i := 0) rfl h) rfl
theorem dd50_24 : decode cX7_readRule 24 = .ok (.aload_n 0, 1) := by decide +kernel
theorem ww50_24 {d : Nat} {l1 l2 l3 : Option mw_V} {x : Nat} {st : List mw_V} {σ : mw_S} {Q : Option mw_V → mw_S → Prop} : mw_WP d 50 24 [some (jR x), l1, l2, l3] st σ Q ↔ mw_WP d 50 25 [some (jR x), l1, l2, l3] (jR x :: st) σ Q := WP_aload_n mq50 dd50_24 rfl
theorem dd50_25 : decode cX7_readRule 25 = .ok (.getfield 53, 3) := by decide +kernel
theorem ww50_25 {d : Nat} {l0 l1 l2 l3 : Option mw_V} {st : List mw_V} {σ : mw_S} {Q : Option mw_V → mw_S → Prop} : mw_WP d 50 25 [l0, l1, l2, l3] (jR 1 :: st) σ Q ↔ mw_WP d 50 28 [l0, l1, l2, l3] (jI (σ 1 8) :: st) σ Q := WP_getI (ci := 6) (k := 8) mq50 dd50_25 (by decide) (Or.inl rfl)
theorem dd50_28 : decode cX7_readRule 28 = .ok (.iconst 3, 1) := by decide +kernel
theorem ww50_28 {d : Nat} {l0 l1 l2 l3 : Option mw_V} {st : List mw_V} {σ : mw_S} {Q : Option mw_V → mw_S → Prop} : mw_WP d 50 28 [l0, l1, l2, l3] st σ Q ↔ mw_WP d 50 29 [l0, l1, l2, l3] (jI (3) :: st) σ Q := WP_iconst mq50 dd50_28 (by decide)
theorem dd50_29 : decode cX7_readRule 29 = .ok (.if_icmp .ne 31, 3) := by decide +kernel
theorem ww50_29 {d : Nat} {l0 l1 l2 l3 : Option mw_V} {x y : Int} {st : List mw_V} {σ : mw_S} {Q : Option mw_V → mw_S → Prop} : mw_WP d 50 29 [l0, l1, l2, l3] (jI y :: jI x :: st) σ Q ↔ (if ¬ x = y then mw_WP d 50 60 [l0, l1, l2, l3] st σ Q else mw_WP d 50 32 [l0, l1, l2, l3] st σ Q) := WP_icmp_ne mq50 dd50_29 (by decide)
theorem dd50_32 : decode cX7_readRule 32 = .ok (.aload_n 0, 1) := by decide +kernel
theorem ww50_32 {d : Nat} {l1 l2 l3 : Option mw_V} {x : Nat} {st : List mw_V} {σ : mw_S} {Q : Option mw_V → mw_S → Prop} : mw_WP d 50 32 [some (jR x), l1, l2, l3] st σ Q ↔ mw_WP d 50 33 [some (jR x), l1, l2, l3] (jR x :: st) σ Q := WP_aload_n mq50 dd50_32 rfl
theorem dd50_33 : decode cX7_readRule 33 = .ok (.iconst 0, 1) := by decide +kernel
theorem ww50_33 {d : Nat} {l0 l1 l2 l3 : Option mw_V} {st : List mw_V} {σ : mw_S} {Q : Option mw_V → mw_S → Prop} : mw_WP d 50 33 [l0, l1, l2, l3] st σ Q ↔ mw_WP d 50 34 [l0, l1, l2, l3] (jI (0) :: st) σ Q := WP_iconst mq50 dd50_33 (by decide)
theorem dd50_34 : decode cX7_readRule 34 = .ok (.aload_n 0, 1) := by decide +kernel
theorem ww50_34 {d : Nat} {l1 l2 l3 : Option mw_V} {x : Nat} {st : List mw_V} {σ : mw_S} {Q : Option mw_V → mw_S → Prop} : mw_WP d 50 34 [some (jR x), l1, l2, l3] st σ Q ↔ mw_WP d 50 35 [some (jR x), l1, l2, l3] (jR x :: st) σ Q := WP_aload_n mq50 dd50_34 rfl
theorem dd50_35 : decode cX7_readRule 35 = .ok (.getfield 18, 3) := by decide +kernel
theorem ww50_35 {d : Nat} {l0 l1 l2 l3 : Option mw_V} {st : List mw_V} {σ : mw_S} {Q : Option mw_V → mw_S → Prop} : mw_WP d 50 35 [l0, l1, l2, l3] (jR 1 :: st) σ Q ↔ mw_WP d 50 38 [l0, l1, l2, l3] (jR 3 :: st) σ Q := WP_getR (ci := 6) (k := 1) mq50 dd50_35 (by decide) rfl
theorem dd50_38 : decode cX7_readRule 38 = .ok (.getfield 96, 3) := by decide +kernel
theorem ww50_38i3 {d : Nat} {l0 l1 l2 l3 : Option mw_V} {st : List mw_V} {σ : mw_S} {Q : Option mw_V → mw_S → Prop} : mw_WP d 50 38 [l0, l1, l2, l3] (jR 3 :: st) σ Q ↔ mw_WP d 50 41 [l0, l1, l2, l3] (jI (σ 3 1) :: st) σ Q := WP_getI (ci := 0) (k := 1) mq50 dd50_38 (by decide) (Or.inl rfl)
theorem ww50_38i13 {d : Nat} {l0 l1 l2 l3 : Option mw_V} {st : List mw_V} {σ : mw_S} {Q : Option mw_V → mw_S → Prop} : mw_WP d 50 38 [l0, l1, l2, l3] (jR 13 :: st) σ Q ↔ mw_WP d 50 41 [l0, l1, l2, l3] (jI (σ 13 1) :: st) σ Q := WP_getI (ci := 0) (k := 1) mq50 dd50_38 (by decide) (Or.inl rfl)
theorem ww50_38i77 {d : Nat} {l0 l1 l2 l3 : Option mw_V} {st : List mw_V} {σ : mw_S} {Q : Option mw_V → mw_S → Prop} : mw_WP d 50 38 [l0, l1, l2, l3] (jR 77 :: st) σ Q ↔ mw_WP d 50 41 [l0, l1, l2, l3] (jI (σ 77 1) :: st) σ Q := WP_getI (ci := 0) (k := 1) mq50 dd50_38 (by decide) (Or.inl rfl)
theorem ww50_38i88 {d : Nat} {l0 l1 l2 l3 : Option mw_V} {st : List mw_V} {σ : mw_S} {Q : Option mw_V → mw_S → Prop} : mw_WP d 50 38 [l0, l1, l2, l3] (jR 88 :: st) σ Q ↔ mw_WP d 50 41 [l0, l1, l2, l3] (jI (σ 88 1) :: st) σ Q := WP_getI (ci := 0) (k := 1) mq50 dd50_38 (by decide) (Or.inl rfl)
theorem dd50_41 : decode cX7_readRule 41 = .ok (.iconst 1, 1) := by decide +kernel
theorem ww50_41 {d : Nat} {l0 l1 l2 l3 : Option mw_V} {st : List mw_V} {σ : mw_S} {Q : Option mw_V → mw_S → Prop} : mw_WP d 50 41 [l0, l1, l2, l3] st σ Q ↔ mw_WP d 50 42 [l0, l1, l2, l3] (jI (1) :: st) σ Q := WP_iconst mq50 dd50_41 (by decide)
theorem dd50_42 : decode cX7_readRule 42 = .ok (.isub, 1) := by decide +kernel
theorem ww50_42 {d : Nat} {l0 l1 l2 l3 : Option mw_V} {x y : Int} {st : List mw_V} {σ : mw_S} {Q : Option mw_V → mw_S → Prop} : mw_WP d 50 42 [l0, l1, l2, l3] (jI y :: jI x :: st) σ Q ↔ mw_WP d 50 43 [l0, l1, l2, l3] (jI (w32 (x - y)) :: st) σ Q := WP_isub mq50 dd50_42
theorem dd50_43 : decode cX7_readRule 43 = .ok (.invokevirtual 106, 3) := by decide +kernel
theorem ww50_43 {d : Nat} {l0 l1 l2 l3 : Option mw_V} {v0 v1 : mw_V} {a : Nat} {st : List mw_V} {σ : mw_S} {Q : Option mw_V → mw_S → Prop} (hr : mw_rc a = 7) (h8 : (st.map mw_cat).sum ≤ 8) : mw_WP d 50 43 [l0, l1, l2, l3] (v1 :: v0 :: jR a :: st) σ Q ↔ mw_Call d 69 [jR a, v0, v1] σ (fun r1 s1 => mw_WP d 50 46 [l0, l1, l2, l3] (r1.toList ++ st) s1 Q) := WP_inv (as := [v1, v0]) mq50 dd50_43 (by decide) mq69 rfl hr h8
theorem dd50_46 : decode cX7_readRule 46 = .ok (.ifCond .ne 5, 3) := by decide +kernel
theorem ww50_46 {d : Nat} {l0 l1 l2 l3 : Option mw_V} {x : Int} {st : List mw_V} {σ : mw_S} {Q : Option mw_V → mw_S → Prop} : mw_WP d 50 46 [l0, l1, l2, l3] (jI x :: st) σ Q ↔ (if ¬ x = 0 then mw_WP d 50 51 [l0, l1, l2, l3] st σ Q else mw_WP d 50 49 [l0, l1, l2, l3] st σ Q) := WP_if_ne mq50 dd50_46 (by decide)
theorem dd50_49 : decode cX7_readRule 49 = .ok (.iconst 0, 1) := by decide +kernel
theorem ww50_49 {d : Nat} {l0 l1 l2 l3 : Option mw_V} {st : List mw_V} {σ : mw_S} {Q : Option mw_V → mw_S → Prop} : mw_WP d 50 49 [l0, l1, l2, l3] st σ Q ↔ mw_WP d 50 50 [l0, l1, l2, l3] (jI (0) :: st) σ Q := WP_iconst mq50 dd50_49 (by decide)
theorem dd50_50 : decode cX7_readRule 50 = .ok (.ireturn, 1) := by decide +kernel
theorem ww50_50 {d : Nat} {l0 l1 l2 l3 : Option mw_V} {z : Int} {σ : mw_S} {Q : Option mw_V → mw_S → Prop} (h : z = 0 ∨ z = 1) : mw_WP d 50 50 [l0, l1, l2, l3] [jI z] σ Q ↔ Q (some (jI z)) σ := WP_ireturn (ty := .boolean) mq50 dd50_50 rfl (by rcases h with rfl | rfl <;> decide)
theorem dd50_51 : decode cX7_readRule 51 = .ok (.aload_n 0, 1) := by decide +kernel
theorem ww50_51 {d : Nat} {l1 l2 l3 : Option mw_V} {x : Nat} {st : List mw_V} {σ : mw_S} {Q : Option mw_V → mw_S → Prop} : mw_WP d 50 51 [some (jR x), l1, l2, l3] st σ Q ↔ mw_WP d 50 52 [some (jR x), l1, l2, l3] (jR x :: st) σ Q := WP_aload_n mq50 dd50_51 rfl
theorem dd50_52 : decode cX7_readRule 52 = .ok (.getfield 110, 3) := by decide +kernel
theorem ww50_52 {d : Nat} {l0 l1 l2 l3 : Option mw_V} {st : List mw_V} {σ : mw_S} {Q : Option mw_V → mw_S → Prop} : mw_WP d 50 52 [l0, l1, l2, l3] (jR 1 :: st) σ Q ↔ mw_WP d 50 55 [l0, l1, l2, l3] (jI (σ 1 9) :: st) σ Q := WP_getI (ci := 6) (k := 9) mq50 dd50_52 (by decide) (Or.inl rfl)
theorem dd50_55 : decode cX7_readRule 55 = .ok (.istore_n 1, 1) := by decide +kernel
theorem ww50_55 {d : Nat} {l0 l1 l2 l3 : Option mw_V} {x : Int} {st : List mw_V} {σ : mw_S} {Q : Option mw_V → mw_S → Prop} (h : mw_nlo l0 = true) : mw_WP d 50 55 [l0, l1, l2, l3] (jI x :: st) σ Q ↔ mw_WP d 50 56 [l0, some (jI x), l2, l3] st σ Q := WP_istore_n mq50 dd50_55 (Nat.le_of_ble_eq_true rfl) (mw_nl_of (i := 0) rfl h) rfl
theorem dd50_56 : decode cX7_readRule 56 = .ok (.aload_n 0, 1) := by decide +kernel
theorem ww50_56 {d : Nat} {l1 l2 l3 : Option mw_V} {x : Nat} {st : List mw_V} {σ : mw_S} {Q : Option mw_V → mw_S → Prop} : mw_WP d 50 56 [some (jR x), l1, l2, l3] st σ Q ↔ mw_WP d 50 57 [some (jR x), l1, l2, l3] (jR x :: st) σ Q := WP_aload_n mq50 dd50_56 rfl
theorem dd50_57 : decode cX7_readRule 57 = .ok (.invokevirtual 50, 3) := by decide +kernel
theorem ww50_57 {d : Nat} {l0 l1 l2 l3 : Option mw_V} {a : Nat} {st : List mw_V} {σ : mw_S} {Q : Option mw_V → mw_S → Prop} (hr : mw_rc a = 7) (h8 : (st.map mw_cat).sum ≤ 8) : mw_WP d 50 57 [l0, l1, l2, l3] (jR a :: st) σ Q ↔ mw_Call d 72 [jR a] σ (fun r1 s1 => mw_WP d 50 60 [l0, l1, l2, l3] (r1.toList ++ st) s1 Q) := WP_inv (as := []) mq50 dd50_57 (by decide) mq72 rfl hr h8
theorem dd50_60 : decode cX7_readRule 60 = .ok (.aload_n 0, 1) := by decide +kernel
theorem ww50_60 {d : Nat} {l1 l2 l3 : Option mw_V} {x : Nat} {st : List mw_V} {σ : mw_S} {Q : Option mw_V → mw_S → Prop} : mw_WP d 50 60 [some (jR x), l1, l2, l3] st σ Q ↔ mw_WP d 50 61 [some (jR x), l1, l2, l3] (jR x :: st) σ Q := WP_aload_n mq50 dd50_60 rfl
theorem dd50_61 : decode cX7_readRule 61 = .ok (.getfield 18, 3) := by decide +kernel
theorem ww50_61 {d : Nat} {l0 l1 l2 l3 : Option mw_V} {st : List mw_V} {σ : mw_S} {Q : Option mw_V → mw_S → Prop} : mw_WP d 50 61 [l0, l1, l2, l3] (jR 1 :: st) σ Q ↔ mw_WP d 50 64 [l0, l1, l2, l3] (jR 3 :: st) σ Q := WP_getR (ci := 6) (k := 1) mq50 dd50_61 (by decide) rfl
theorem dd50_64 : decode cX7_readRule 64 = .ok (.getfield 132, 3) := by decide +kernel
theorem ww50_64i3 {d : Nat} {l0 l1 l2 l3 : Option mw_V} {st : List mw_V} {σ : mw_S} {Q : Option mw_V → mw_S → Prop} : mw_WP d 50 64 [l0, l1, l2, l3] (jR 3 :: st) σ Q ↔ mw_WP d 50 67 [l0, l1, l2, l3] (jI (σ 3 6) :: st) σ Q := WP_getI (ci := 0) (k := 6) mq50 dd50_64 (by decide) (Or.inl rfl)
theorem ww50_64i13 {d : Nat} {l0 l1 l2 l3 : Option mw_V} {st : List mw_V} {σ : mw_S} {Q : Option mw_V → mw_S → Prop} : mw_WP d 50 64 [l0, l1, l2, l3] (jR 13 :: st) σ Q ↔ mw_WP d 50 67 [l0, l1, l2, l3] (jI (σ 13 6) :: st) σ Q := WP_getI (ci := 0) (k := 6) mq50 dd50_64 (by decide) (Or.inl rfl)
theorem ww50_64i77 {d : Nat} {l0 l1 l2 l3 : Option mw_V} {st : List mw_V} {σ : mw_S} {Q : Option mw_V → mw_S → Prop} : mw_WP d 50 64 [l0, l1, l2, l3] (jR 77 :: st) σ Q ↔ mw_WP d 50 67 [l0, l1, l2, l3] (jI (σ 77 6) :: st) σ Q := WP_getI (ci := 0) (k := 6) mq50 dd50_64 (by decide) (Or.inl rfl)
theorem ww50_64i88 {d : Nat} {l0 l1 l2 l3 : Option mw_V} {st : List mw_V} {σ : mw_S} {Q : Option mw_V → mw_S → Prop} : mw_WP d 50 64 [l0, l1, l2, l3] (jR 88 :: st) σ Q ↔ mw_WP d 50 67 [l0, l1, l2, l3] (jI (σ 88 6) :: st) σ Q := WP_getI (ci := 0) (k := 6) mq50 dd50_64 (by decide) (Or.inl rfl)
theorem dd50_67 : decode cX7_readRule 67 = .ok (.istore_n 2, 1) := by decide +kernel
theorem ww50_67 {d : Nat} {l0 l1 l2 l3 : Option mw_V} {x : Int} {st : List mw_V} {σ : mw_S} {Q : Option mw_V → mw_S → Prop} (h : mw_nlo l1 = true) : mw_WP d 50 67 [l0, l1, l2, l3] (jI x :: st) σ Q ↔ mw_WP d 50 68 [l0, l1, some (jI x), l3] st σ Q := WP_istore_n mq50 dd50_67 (Nat.le_of_ble_eq_true rfl) (mw_nl_of (i := 1) rfl h) rfl
theorem dd50_68 : decode cX7_readRule 68 = .ok (.aload_n 0, 1) := by decide +kernel
theorem ww50_68 {d : Nat} {l1 l2 l3 : Option mw_V} {x : Nat} {st : List mw_V} {σ : mw_S} {Q : Option mw_V → mw_S → Prop} : mw_WP d 50 68 [some (jR x), l1, l2, l3] st σ Q ↔ mw_WP d 50 69 [some (jR x), l1, l2, l3] (jR x :: st) σ Q := WP_aload_n mq50 dd50_68 rfl
theorem dd50_69 : decode cX7_readRule 69 = .ok (.bipush 58, 2) := by decide +kernel
theorem ww50_69 {d : Nat} {l0 l1 l2 l3 : Option mw_V} {st : List mw_V} {σ : mw_S} {Q : Option mw_V → mw_S → Prop} : mw_WP d 50 69 [l0, l1, l2, l3] st σ Q ↔ mw_WP d 50 71 [l0, l1, l2, l3] (jI (58) :: st) σ Q := WP_bipush mq50 dd50_69 (by decide)
theorem dd50_71 : decode cX7_readRule 71 = .ok (.invokevirtual 89, 3) := by decide +kernel
theorem ww50_71 {d : Nat} {l0 l1 l2 l3 : Option mw_V} {v0 : mw_V} {a : Nat} {st : List mw_V} {σ : mw_S} {Q : Option mw_V → mw_S → Prop} (hr : mw_rc a = 7) (h8 : (st.map mw_cat).sum ≤ 8) : mw_WP d 50 71 [l0, l1, l2, l3] (v0 :: jR a :: st) σ Q ↔ mw_Call d 68 [jR a, v0] σ (fun r1 s1 => mw_WP d 50 74 [l0, l1, l2, l3] (r1.toList ++ st) s1 Q) := WP_inv (as := [v0]) mq50 dd50_71 (by decide) mq68 rfl hr h8
theorem dd50_74 : decode cX7_readRule 74 = .ok (.ifCond .eq 10, 3) := by decide +kernel
theorem ww50_74 {d : Nat} {l0 l1 l2 l3 : Option mw_V} {x : Int} {st : List mw_V} {σ : mw_S} {Q : Option mw_V → mw_S → Prop} : mw_WP d 50 74 [l0, l1, l2, l3] (jI x :: st) σ Q ↔ (if x = 0 then mw_WP d 50 84 [l0, l1, l2, l3] st σ Q else mw_WP d 50 77 [l0, l1, l2, l3] st σ Q) := WP_if_eq mq50 dd50_74 (by decide)
theorem dd50_77 : decode cX7_readRule 77 = .ok (.aload_n 0, 1) := by decide +kernel
theorem ww50_77 {d : Nat} {l1 l2 l3 : Option mw_V} {x : Nat} {st : List mw_V} {σ : mw_S} {Q : Option mw_V → mw_S → Prop} : mw_WP d 50 77 [some (jR x), l1, l2, l3] st σ Q ↔ mw_WP d 50 78 [some (jR x), l1, l2, l3] (jR x :: st) σ Q := WP_aload_n mq50 dd50_77 rfl
theorem dd50_78 : decode cX7_readRule 78 = .ok (.invokevirtual 135, 3) := by decide +kernel
theorem ww50_78 {d : Nat} {l0 l1 l2 l3 : Option mw_V} {a : Nat} {st : List mw_V} {σ : mw_S} {Q : Option mw_V → mw_S → Prop} (hr : mw_rc a = 7) (h8 : (st.map mw_cat).sum ≤ 8) : mw_WP d 50 78 [l0, l1, l2, l3] (jR a :: st) σ Q ↔ mw_Call d 51 [jR a] σ (fun r1 s1 => mw_WP d 50 81 [l0, l1, l2, l3] (r1.toList ++ st) s1 Q) := WP_inv (as := []) mq50 dd50_78 (by decide) mq51 rfl hr h8
theorem dd50_81 : decode cX7_readRule 81 = .ok (.ifCond .ne 5, 3) := by decide +kernel
theorem ww50_81 {d : Nat} {l0 l1 l2 l3 : Option mw_V} {x : Int} {st : List mw_V} {σ : mw_S} {Q : Option mw_V → mw_S → Prop} : mw_WP d 50 81 [l0, l1, l2, l3] (jI x :: st) σ Q ↔ (if ¬ x = 0 then mw_WP d 50 86 [l0, l1, l2, l3] st σ Q else mw_WP d 50 84 [l0, l1, l2, l3] st σ Q) := WP_if_ne mq50 dd50_81 (by decide)
theorem dd50_84 : decode cX7_readRule 84 = .ok (.iconst 0, 1) := by decide +kernel
theorem ww50_84 {d : Nat} {l0 l1 l2 l3 : Option mw_V} {st : List mw_V} {σ : mw_S} {Q : Option mw_V → mw_S → Prop} : mw_WP d 50 84 [l0, l1, l2, l3] st σ Q ↔ mw_WP d 50 85 [l0, l1, l2, l3] (jI (0) :: st) σ Q := WP_iconst mq50 dd50_84 (by decide)
theorem dd50_85 : decode cX7_readRule 85 = .ok (.ireturn, 1) := by decide +kernel
theorem ww50_85 {d : Nat} {l0 l1 l2 l3 : Option mw_V} {z : Int} {σ : mw_S} {Q : Option mw_V → mw_S → Prop} (h : z = 0 ∨ z = 1) : mw_WP d 50 85 [l0, l1, l2, l3] [jI z] σ Q ↔ Q (some (jI z)) σ := WP_ireturn (ty := .boolean) mq50 dd50_85 rfl (by rcases h with rfl | rfl <;> decide)
theorem dd50_86 : decode cX7_readRule 86 = .ok (.aload_n 0, 1) := by decide +kernel
theorem ww50_86 {d : Nat} {l1 l2 l3 : Option mw_V} {x : Nat} {st : List mw_V} {σ : mw_S} {Q : Option mw_V → mw_S → Prop} : mw_WP d 50 86 [some (jR x), l1, l2, l3] st σ Q ↔ mw_WP d 50 87 [some (jR x), l1, l2, l3] (jR x :: st) σ Q := WP_aload_n mq50 dd50_86 rfl
theorem dd50_87 : decode cX7_readRule 87 = .ok (.invokevirtual 50, 3) := by decide +kernel
theorem ww50_87 {d : Nat} {l0 l1 l2 l3 : Option mw_V} {a : Nat} {st : List mw_V} {σ : mw_S} {Q : Option mw_V → mw_S → Prop} (hr : mw_rc a = 7) (h8 : (st.map mw_cat).sum ≤ 8) : mw_WP d 50 87 [l0, l1, l2, l3] (jR a :: st) σ Q ↔ mw_Call d 72 [jR a] σ (fun r1 s1 => mw_WP d 50 90 [l0, l1, l2, l3] (r1.toList ++ st) s1 Q) := WP_inv (as := []) mq50 dd50_87 (by decide) mq72 rfl hr h8
theorem dd50_90 : decode cX7_readRule 90 = .ok (.aload_n 0, 1) := by decide +kernel
theorem ww50_90 {d : Nat} {l1 l2 l3 : Option mw_V} {x : Nat} {st : List mw_V} {σ : mw_S} {Q : Option mw_V → mw_S → Prop} : mw_WP d 50 90 [some (jR x), l1, l2, l3] st σ Q ↔ mw_WP d 50 91 [some (jR x), l1, l2, l3] (jR x :: st) σ Q := WP_aload_n mq50 dd50_90 rfl
theorem dd50_91 : decode cX7_readRule 91 = .ok (.invokevirtual 138, 3) := by decide +kernel
theorem ww50_91 {d : Nat} {l0 l1 l2 l3 : Option mw_V} {a : Nat} {st : List mw_V} {σ : mw_S} {Q : Option mw_V → mw_S → Prop} (hr : mw_rc a = 7) (h8 : (st.map mw_cat).sum ≤ 8) : mw_WP d 50 91 [l0, l1, l2, l3] (jR a :: st) σ Q ↔ mw_Call d 65 [jR a] σ (fun r1 s1 => mw_WP d 50 94 [l0, l1, l2, l3] (r1.toList ++ st) s1 Q) := WP_inv (as := []) mq50 dd50_91 (by decide) mq65 rfl hr h8
theorem dd50_94 : decode cX7_readRule 94 = .ok (.istore_n 3, 1) := by decide +kernel
theorem ww50_94 {d : Nat} {l0 l1 l2 l3 : Option mw_V} {x : Int} {st : List mw_V} {σ : mw_S} {Q : Option mw_V → mw_S → Prop} (h : mw_nlo l2 = true) : mw_WP d 50 94 [l0, l1, l2, l3] (jI x :: st) σ Q ↔ mw_WP d 50 95 [l0, l1, l2, some (jI x)] st σ Q := WP_istore_n mq50 dd50_94 (Nat.le_of_ble_eq_true rfl) (mw_nl_of (i := 2) rfl h) rfl
theorem dd50_95 : decode cX7_readRule 95 = .ok (.iload_n 3, 1) := by decide +kernel
theorem ww50_95 {d : Nat} {l0 l1 l2 : Option mw_V} {x : Int} {st : List mw_V} {σ : mw_S} {Q : Option mw_V → mw_S → Prop} : mw_WP d 50 95 [l0, l1, l2, some (jI x)] st σ Q ↔ mw_WP d 50 96 [l0, l1, l2, some (jI x)] (jI x :: st) σ Q := WP_iload_n mq50 dd50_95 rfl
theorem dd50_96 : decode cX7_readRule 96 = .ok (.iconst (-1), 1) := by decide +kernel
theorem ww50_96 {d : Nat} {l0 l1 l2 l3 : Option mw_V} {st : List mw_V} {σ : mw_S} {Q : Option mw_V → mw_S → Prop} : mw_WP d 50 96 [l0, l1, l2, l3] st σ Q ↔ mw_WP d 50 97 [l0, l1, l2, l3] (jI (-1) :: st) σ Q := WP_iconst mq50 dd50_96 (by decide)
theorem dd50_97 : decode cX7_readRule 97 = .ok (.if_icmp .ne 8, 3) := by decide +kernel
theorem ww50_97 {d : Nat} {l0 l1 l2 l3 : Option mw_V} {x y : Int} {st : List mw_V} {σ : mw_S} {Q : Option mw_V → mw_S → Prop} : mw_WP d 50 97 [l0, l1, l2, l3] (jI y :: jI x :: st) σ Q ↔ (if ¬ x = y then mw_WP d 50 105 [l0, l1, l2, l3] st σ Q else mw_WP d 50 100 [l0, l1, l2, l3] st σ Q) := WP_icmp_ne mq50 dd50_97 (by decide)
theorem dd50_100 : decode cX7_readRule 100 = .ok (.aload_n 0, 1) := by decide +kernel
theorem ww50_100 {d : Nat} {l1 l2 l3 : Option mw_V} {x : Nat} {st : List mw_V} {σ : mw_S} {Q : Option mw_V → mw_S → Prop} : mw_WP d 50 100 [some (jR x), l1, l2, l3] st σ Q ↔ mw_WP d 50 101 [some (jR x), l1, l2, l3] (jR x :: st) σ Q := WP_aload_n mq50 dd50_100 rfl
theorem dd50_101 : decode cX7_readRule 101 = .ok (.invokevirtual 86, 3) := by decide +kernel
theorem ww50_101 {d : Nat} {l0 l1 l2 l3 : Option mw_V} {a : Nat} {st : List mw_V} {σ : mw_S} {Q : Option mw_V → mw_S → Prop} (hr : mw_rc a = 7) (h8 : (st.map mw_cat).sum ≤ 8) : mw_WP d 50 101 [l0, l1, l2, l3] (jR a :: st) σ Q ↔ mw_Call d 70 [jR a] σ (fun r1 s1 => mw_WP d 50 104 [l0, l1, l2, l3] (r1.toList ++ st) s1 Q) := WP_inv (as := []) mq50 dd50_101 (by decide) mq70 rfl hr h8
theorem dd50_104 : decode cX7_readRule 104 = .ok (.ireturn, 1) := by decide +kernel
theorem ww50_104 {d : Nat} {l0 l1 l2 l3 : Option mw_V} {z : Int} {σ : mw_S} {Q : Option mw_V → mw_S → Prop} (h : z = 0 ∨ z = 1) : mw_WP d 50 104 [l0, l1, l2, l3] [jI z] σ Q ↔ Q (some (jI z)) σ := WP_ireturn (ty := .boolean) mq50 dd50_104 rfl (by rcases h with rfl | rfl <;> decide)
theorem dd50_105 : decode cX7_readRule 105 = .ok (.aload_n 0, 1) := by decide +kernel
theorem ww50_105 {d : Nat} {l1 l2 l3 : Option mw_V} {x : Nat} {st : List mw_V} {σ : mw_S} {Q : Option mw_V → mw_S → Prop} : mw_WP d 50 105 [some (jR x), l1, l2, l3] st σ Q ↔ mw_WP d 50 106 [some (jR x), l1, l2, l3] (jR x :: st) σ Q := WP_aload_n mq50 dd50_105 rfl
theorem dd50_106 : decode cX7_readRule 106 = .ok (.invokevirtual 50, 3) := by decide +kernel
theorem ww50_106 {d : Nat} {l0 l1 l2 l3 : Option mw_V} {a : Nat} {st : List mw_V} {σ : mw_S} {Q : Option mw_V → mw_S → Prop} (hr : mw_rc a = 7) (h8 : (st.map mw_cat).sum ≤ 8) : mw_WP d 50 106 [l0, l1, l2, l3] (jR a :: st) σ Q ↔ mw_Call d 72 [jR a] σ (fun r1 s1 => mw_WP d 50 109 [l0, l1, l2, l3] (r1.toList ++ st) s1 Q) := WP_inv (as := []) mq50 dd50_106 (by decide) mq72 rfl hr h8
theorem dd50_109 : decode cX7_readRule 109 = .ok (.aload_n 0, 1) := by decide +kernel
theorem ww50_109 {d : Nat} {l1 l2 l3 : Option mw_V} {x : Nat} {st : List mw_V} {σ : mw_S} {Q : Option mw_V → mw_S → Prop} : mw_WP d 50 109 [some (jR x), l1, l2, l3] st σ Q ↔ mw_WP d 50 110 [some (jR x), l1, l2, l3] (jR x :: st) σ Q := WP_aload_n mq50 dd50_109 rfl
theorem dd50_110 : decode cX7_readRule 110 = .ok (.getfield 18, 3) := by decide +kernel
theorem ww50_110 {d : Nat} {l0 l1 l2 l3 : Option mw_V} {st : List mw_V} {σ : mw_S} {Q : Option mw_V → mw_S → Prop} : mw_WP d 50 110 [l0, l1, l2, l3] (jR 1 :: st) σ Q ↔ mw_WP d 50 113 [l0, l1, l2, l3] (jR 3 :: st) σ Q := WP_getR (ci := 6) (k := 1) mq50 dd50_110 (by decide) rfl
theorem dd50_113 : decode cX7_readRule 113 = .ok (.iload_n 1, 1) := by decide +kernel
theorem ww50_113 {d : Nat} {l0 l2 l3 : Option mw_V} {x : Int} {st : List mw_V} {σ : mw_S} {Q : Option mw_V → mw_S → Prop} : mw_WP d 50 113 [l0, some (jI x), l2, l3] st σ Q ↔ mw_WP d 50 114 [l0, some (jI x), l2, l3] (jI x :: st) σ Q := WP_iload_n mq50 dd50_113 rfl
theorem dd50_114 : decode cX7_readRule 114 = .ok (.iload_n 2, 1) := by decide +kernel
theorem ww50_114 {d : Nat} {l0 l1 l3 : Option mw_V} {x : Int} {st : List mw_V} {σ : mw_S} {Q : Option mw_V → mw_S → Prop} : mw_WP d 50 114 [l0, l1, some (jI x), l3] st σ Q ↔ mw_WP d 50 115 [l0, l1, some (jI x), l3] (jI x :: st) σ Q := WP_iload_n mq50 dd50_114 rfl
theorem dd50_115 : decode cX7_readRule 115 = .ok (.iload_n 3, 1) := by decide +kernel
theorem ww50_115 {d : Nat} {l0 l1 l2 : Option mw_V} {x : Int} {st : List mw_V} {σ : mw_S} {Q : Option mw_V → mw_S → Prop} : mw_WP d 50 115 [l0, l1, l2, some (jI x)] st σ Q ↔ mw_WP d 50 116 [l0, l1, l2, some (jI x)] (jI x :: st) σ Q := WP_iload_n mq50 dd50_115 rfl
theorem dd50_116 : decode cX7_readRule 116 = .ok (.invokevirtual 142, 3) := by decide +kernel
theorem ww50_116 {d : Nat} {l0 l1 l2 l3 : Option mw_V} {v0 v1 v2 : mw_V} {a : Nat} {st : List mw_V} {σ : mw_S} {Q : Option mw_V → mw_S → Prop} (hr : mw_rc a = 1) (h8 : (st.map mw_cat).sum ≤ 8) : mw_WP d 50 116 [l0, l1, l2, l3] (v2 :: v1 :: v0 :: jR a :: st) σ Q ↔ mw_Call d 5 [jR a, v0, v1, v2] σ (fun r1 s1 => mw_WP d 50 119 [l0, l1, l2, l3] (r1.toList ++ st) s1 Q) := WP_inv (as := [v2, v1, v0]) mq50 dd50_116 (by decide) mq5 rfl hr h8
theorem dd50_119 : decode cX7_readRule 119 = .ok (.iconst 1, 1) := by decide +kernel
theorem ww50_119 {d : Nat} {l0 l1 l2 l3 : Option mw_V} {st : List mw_V} {σ : mw_S} {Q : Option mw_V → mw_S → Prop} : mw_WP d 50 119 [l0, l1, l2, l3] st σ Q ↔ mw_WP d 50 120 [l0, l1, l2, l3] (jI (1) :: st) σ Q := WP_iconst mq50 dd50_119 (by decide)
theorem dd50_120 : decode cX7_readRule 120 = .ok (.ireturn, 1) := by decide +kernel
theorem ww50_120 {d : Nat} {l0 l1 l2 l3 : Option mw_V} {z : Int} {σ : mw_S} {Q : Option mw_V → mw_S → Prop} (h : z = 0 ∨ z = 1) : mw_WP d 50 120 [l0, l1, l2, l3] [jI z] σ Q ↔ Q (some (jI z)) σ := WP_ireturn (ty := .boolean) mq50 dd50_120 rfl (by rcases h with rfl | rfl <;> decide)
theorem ee51 {d : Nat} {a : Nat} {σ : mw_S} {Q : Option mw_V → mw_S → Prop} : mw_Call (d + 1) 51 [jR a] σ Q ↔ mw_WP d 51 0 [some (jR a), none, none] [] σ Q := CL_u mq51 (Nat.le_of_ble_eq_true rfl) rfl
theorem dd51_0 : decode cX7_readTruth 0 = .ok (.aload_n 0, 1) := by decide +kernel
theorem ww51_0 {d : Nat} {l1 l2 : Option mw_V} {x : Nat} {st : List mw_V} {σ : mw_S} {Q : Option mw_V → mw_S → Prop} : mw_WP d 51 0 [some (jR x), l1, l2] st σ Q ↔ mw_WP d 51 1 [some (jR x), l1, l2] (jR x :: st) σ Q := WP_aload_n mq51 dd51_0 rfl
theorem dd51_1 : decode cX7_readTruth 1 = .ok (.iconst 0, 1) := by decide +kernel
theorem ww51_1 {d : Nat} {l0 l1 l2 : Option mw_V} {st : List mw_V} {σ : mw_S} {Q : Option mw_V → mw_S → Prop} : mw_WP d 51 1 [l0, l1, l2] st σ Q ↔ mw_WP d 51 2 [l0, l1, l2] (jI (0) :: st) σ Q := WP_iconst mq51 dd51_1 (by decide)
theorem dd51_2 : decode cX7_readTruth 2 = .ok (.putfield 146, 3) := by decide +kernel
theorem ww51_2 {d : Nat} {l0 l1 l2 : Option mw_V} {v : Int} {st : List mw_V} {σ : mw_S} {Q : Option mw_V → mw_S → Prop} : mw_WP d 51 2 [l0, l1, l2] (jI v :: jR 1 :: st) σ Q ↔ mw_WP d 51 5 [l0, l1, l2] st (upS σ 1 11 v) Q := WP_putI (ci := 6) (k := 11) mq51 dd51_2 (by decide) rfl
theorem dd51_5 : decode cX7_readTruth 5 = .ok (.aload_n 0, 1) := by decide +kernel
theorem ww51_5 {d : Nat} {l1 l2 : Option mw_V} {x : Nat} {st : List mw_V} {σ : mw_S} {Q : Option mw_V → mw_S → Prop} : mw_WP d 51 5 [some (jR x), l1, l2] st σ Q ↔ mw_WP d 51 6 [some (jR x), l1, l2] (jR x :: st) σ Q := WP_aload_n mq51 dd51_5 rfl
theorem dd51_6 : decode cX7_readTruth 6 = .ok (.iconst 0, 1) := by decide +kernel
theorem ww51_6 {d : Nat} {l0 l1 l2 : Option mw_V} {st : List mw_V} {σ : mw_S} {Q : Option mw_V → mw_S → Prop} : mw_WP d 51 6 [l0, l1, l2] st σ Q ↔ mw_WP d 51 7 [l0, l1, l2] (jI (0) :: st) σ Q := WP_iconst mq51 dd51_6 (by decide)
theorem dd51_7 : decode cX7_readTruth 7 = .ok (.putfield 149, 3) := by decide +kernel
theorem ww51_7 {d : Nat} {l0 l1 l2 : Option mw_V} {v : Int} {st : List mw_V} {σ : mw_S} {Q : Option mw_V → mw_S → Prop} : mw_WP d 51 7 [l0, l1, l2] (jI v :: jR 1 :: st) σ Q ↔ mw_WP d 51 10 [l0, l1, l2] st (upS σ 1 12 v) Q := WP_putI (ci := 6) (k := 12) mq51 dd51_7 (by decide) rfl
theorem dd51_10 : decode cX7_readTruth 10 = .ok (.aload_n 0, 1) := by decide +kernel
theorem ww51_10 {d : Nat} {l1 l2 : Option mw_V} {x : Nat} {st : List mw_V} {σ : mw_S} {Q : Option mw_V → mw_S → Prop} : mw_WP d 51 10 [some (jR x), l1, l2] st σ Q ↔ mw_WP d 51 11 [some (jR x), l1, l2] (jR x :: st) σ Q := WP_aload_n mq51 dd51_10 rfl
theorem dd51_11 : decode cX7_readTruth 11 = .ok (.iconst 0, 1) := by decide +kernel
theorem ww51_11 {d : Nat} {l0 l1 l2 : Option mw_V} {st : List mw_V} {σ : mw_S} {Q : Option mw_V → mw_S → Prop} : mw_WP d 51 11 [l0, l1, l2] st σ Q ↔ mw_WP d 51 12 [l0, l1, l2] (jI (0) :: st) σ Q := WP_iconst mq51 dd51_11 (by decide)
theorem dd51_12 : decode cX7_readTruth 12 = .ok (.putfield 152, 3) := by decide +kernel
theorem ww51_12 {d : Nat} {l0 l1 l2 : Option mw_V} {v : Int} {st : List mw_V} {σ : mw_S} {Q : Option mw_V → mw_S → Prop} : mw_WP d 51 12 [l0, l1, l2] (jI v :: jR 1 :: st) σ Q ↔ mw_WP d 51 15 [l0, l1, l2] st (upS σ 1 13 v) Q := WP_putI (ci := 6) (k := 13) mq51 dd51_12 (by decide) rfl
theorem dd51_15 : decode cX7_readTruth 15 = .ok (.aload_n 0, 1) := by decide +kernel
theorem ww51_15 {d : Nat} {l1 l2 : Option mw_V} {x : Nat} {st : List mw_V} {σ : mw_S} {Q : Option mw_V → mw_S → Prop} : mw_WP d 51 15 [some (jR x), l1, l2] st σ Q ↔ mw_WP d 51 16 [some (jR x), l1, l2] (jR x :: st) σ Q := WP_aload_n mq51 dd51_15 rfl
theorem dd51_16 : decode cX7_readTruth 16 = .ok (.iconst 0, 1) := by decide +kernel
theorem ww51_16 {d : Nat} {l0 l1 l2 : Option mw_V} {st : List mw_V} {σ : mw_S} {Q : Option mw_V → mw_S → Prop} : mw_WP d 51 16 [l0, l1, l2] st σ Q ↔ mw_WP d 51 17 [l0, l1, l2] (jI (0) :: st) σ Q := WP_iconst mq51 dd51_16 (by decide)
theorem dd51_17 : decode cX7_readTruth 17 = .ok (.putfield 155, 3) := by decide +kernel
theorem ww51_17 {d : Nat} {l0 l1 l2 : Option mw_V} {v : Int} {st : List mw_V} {σ : mw_S} {Q : Option mw_V → mw_S → Prop} : mw_WP d 51 17 [l0, l1, l2] (jI v :: jR 1 :: st) σ Q ↔ mw_WP d 51 20 [l0, l1, l2] st (upS σ 1 14 v) Q := WP_putI (ci := 6) (k := 14) mq51 dd51_17 (by decide) rfl
theorem dd51_20 : decode cX7_readTruth 20 = .ok (.aload_n 0, 1) := by decide +kernel
theorem ww51_20 {d : Nat} {l1 l2 : Option mw_V} {x : Nat} {st : List mw_V} {σ : mw_S} {Q : Option mw_V → mw_S → Prop} : mw_WP d 51 20 [some (jR x), l1, l2] st σ Q ↔ mw_WP d 51 21 [some (jR x), l1, l2] (jR x :: st) σ Q := WP_aload_n mq51 dd51_20 rfl
theorem dd51_21 : decode cX7_readTruth 21 = .ok (.invokevirtual 158, 3) := by decide +kernel
theorem ww51_21 {d : Nat} {l0 l1 l2 : Option mw_V} {a : Nat} {st : List mw_V} {σ : mw_S} {Q : Option mw_V → mw_S → Prop} (hr : mw_rc a = 7) (h8 : (st.map mw_cat).sum ≤ 8) : mw_WP d 51 21 [l0, l1, l2] (jR a :: st) σ Q ↔ mw_Call d 52 [jR a] σ (fun r1 s1 => mw_WP d 51 24 [l0, l1, l2] (r1.toList ++ st) s1 Q) := WP_inv (as := []) mq51 dd51_21 (by decide) mq52 rfl hr h8
theorem dd51_24 : decode cX7_readTruth 24 = .ok (.iconst 1, 1) := by decide +kernel
theorem ww51_24 {d : Nat} {l0 l1 l2 : Option mw_V} {st : List mw_V} {σ : mw_S} {Q : Option mw_V → mw_S → Prop} : mw_WP d 51 24 [l0, l1, l2] st σ Q ↔ mw_WP d 51 25 [l0, l1, l2] (jI (1) :: st) σ Q := WP_iconst mq51 dd51_24 (by decide)
theorem dd51_25 : decode cX7_readTruth 25 = .ok (.istore_n 1, 1) := by decide +kernel
theorem ww51_25 {d : Nat} {l0 l1 l2 : Option mw_V} {x : Int} {st : List mw_V} {σ : mw_S} {Q : Option mw_V → mw_S → Prop} (h : mw_nlo l0 = true) : mw_WP d 51 25 [l0, l1, l2] (jI x :: st) σ Q ↔ mw_WP d 51 26 [l0, some (jI x), l2] st σ Q := WP_istore_n mq51 dd51_25 (Nat.le_of_ble_eq_true rfl) (mw_nl_of (i := 0) rfl h) rfl
theorem dd51_26 : decode cX7_readTruth 26 = .ok (.iconst 0, 1) := by decide +kernel
theorem ww51_26 {d : Nat} {l0 l1 l2 : Option mw_V} {st : List mw_V} {σ : mw_S} {Q : Option mw_V → mw_S → Prop} : mw_WP d 51 26 [l0, l1, l2] st σ Q ↔ mw_WP d 51 27 [l0, l1, l2] (jI (0) :: st) σ Q := WP_iconst mq51 dd51_26 (by decide)
theorem dd51_27 : decode cX7_readTruth 27 = .ok (.istore_n 2, 1) := by decide +kernel
theorem ww51_27 {d : Nat} {l0 l1 l2 : Option mw_V} {x : Int} {st : List mw_V} {σ : mw_S} {Q : Option mw_V → mw_S → Prop} (h : mw_nlo l1 = true) : mw_WP d 51 27 [l0, l1, l2] (jI x :: st) σ Q ↔ mw_WP d 51 28 [l0, l1, some (jI x)] st σ Q := WP_istore_n mq51 dd51_27 (Nat.le_of_ble_eq_true rfl) (mw_nl_of (i := 1) rfl h) rfl
theorem dd51_28 : decode cX7_readTruth 28 = .ok (.iload_n 2, 1) := by decide +kernel
theorem ww51_28 {d : Nat} {l0 l1 : Option mw_V} {x : Int} {st : List mw_V} {σ : mw_S} {Q : Option mw_V → mw_S → Prop} : mw_WP d 51 28 [l0, l1, some (jI x)] st σ Q ↔ mw_WP d 51 29 [l0, l1, some (jI x)] (jI x :: st) σ Q := WP_iload_n mq51 dd51_28 rfl
theorem dd51_29 : decode cX7_readTruth 29 = .ok (.aload_n 0, 1) := by decide +kernel
theorem ww51_29 {d : Nat} {l1 l2 : Option mw_V} {x : Nat} {st : List mw_V} {σ : mw_S} {Q : Option mw_V → mw_S → Prop} : mw_WP d 51 29 [some (jR x), l1, l2] st σ Q ↔ mw_WP d 51 30 [some (jR x), l1, l2] (jR x :: st) σ Q := WP_aload_n mq51 dd51_29 rfl
theorem dd51_30 : decode cX7_readTruth 30 = .ok (.getfield 38, 3) := by decide +kernel
theorem ww51_30 {d : Nat} {l0 l1 l2 : Option mw_V} {st : List mw_V} {σ : mw_S} {Q : Option mw_V → mw_S → Prop} : mw_WP d 51 30 [l0, l1, l2] (jR 1 :: st) σ Q ↔ mw_WP d 51 33 [l0, l1, l2] (jI (σ 1 5) :: st) σ Q := WP_getI (ci := 6) (k := 5) mq51 dd51_30 (by decide) (Or.inl rfl)
theorem dd51_33 : decode cX7_readTruth 33 = .ok (.if_icmp .gt 99, 3) := by decide +kernel
theorem ww51_33 {d : Nat} {l0 l1 l2 : Option mw_V} {x y : Int} {st : List mw_V} {σ : mw_S} {Q : Option mw_V → mw_S → Prop} : mw_WP d 51 33 [l0, l1, l2] (jI y :: jI x :: st) σ Q ↔ (if y < x then mw_WP d 51 132 [l0, l1, l2] st σ Q else mw_WP d 51 36 [l0, l1, l2] st σ Q) := WP_icmp_gt mq51 dd51_33 (by decide)
theorem dd51_36 : decode cX7_readTruth 36 = .ok (.iload_n 1, 1) := by decide +kernel
theorem ww51_36 {d : Nat} {l0 l2 : Option mw_V} {x : Int} {st : List mw_V} {σ : mw_S} {Q : Option mw_V → mw_S → Prop} : mw_WP d 51 36 [l0, some (jI x), l2] st σ Q ↔ mw_WP d 51 37 [l0, some (jI x), l2] (jI x :: st) σ Q := WP_iload_n mq51 dd51_36 rfl
theorem dd51_37 : decode cX7_readTruth 37 = .ok (.ifCond .eq 95, 3) := by decide +kernel
theorem ww51_37 {d : Nat} {l0 l1 l2 : Option mw_V} {x : Int} {st : List mw_V} {σ : mw_S} {Q : Option mw_V → mw_S → Prop} : mw_WP d 51 37 [l0, l1, l2] (jI x :: st) σ Q ↔ (if x = 0 then mw_WP d 51 132 [l0, l1, l2] st σ Q else mw_WP d 51 40 [l0, l1, l2] st σ Q) := WP_if_eq mq51 dd51_37 (by decide)
theorem dd51_40 : decode cX7_readTruth 40 = .ok (.aload_n 0, 1) := by decide +kernel
theorem ww51_40 {d : Nat} {l1 l2 : Option mw_V} {x : Nat} {st : List mw_V} {σ : mw_S} {Q : Option mw_V → mw_S → Prop} : mw_WP d 51 40 [some (jR x), l1, l2] st σ Q ↔ mw_WP d 51 41 [some (jR x), l1, l2] (jR x :: st) σ Q := WP_aload_n mq51 dd51_40 rfl
theorem dd51_41 : decode cX7_readTruth 41 = .ok (.getfield 161, 3) := by decide +kernel
theorem ww51_41 {d : Nat} {l0 l1 l2 : Option mw_V} {st : List mw_V} {σ : mw_S} {Q : Option mw_V → mw_S → Prop} : mw_WP d 51 41 [l0, l1, l2] (jR 1 :: st) σ Q ↔ mw_WP d 51 44 [l0, l1, l2] (jI (σ 1 15) :: st) σ Q := WP_getI (ci := 6) (k := 15) mq51 dd51_41 (by decide) (Or.inr rfl)
theorem dd51_44 : decode cX7_readTruth 44 = .ok (.ifCond .ne 33, 3) := by decide +kernel
theorem ww51_44 {d : Nat} {l0 l1 l2 : Option mw_V} {x : Int} {st : List mw_V} {σ : mw_S} {Q : Option mw_V → mw_S → Prop} : mw_WP d 51 44 [l0, l1, l2] (jI x :: st) σ Q ↔ (if ¬ x = 0 then mw_WP d 51 77 [l0, l1, l2] st σ Q else mw_WP d 51 47 [l0, l1, l2] st σ Q) := WP_if_ne mq51 dd51_44 (by decide)
theorem dd51_47 : decode cX7_readTruth 47 = .ok (.aload_n 0, 1) := by decide +kernel
theorem ww51_47 {d : Nat} {l1 l2 : Option mw_V} {x : Nat} {st : List mw_V} {σ : mw_S} {Q : Option mw_V → mw_S → Prop} : mw_WP d 51 47 [some (jR x), l1, l2] st σ Q ↔ mw_WP d 51 48 [some (jR x), l1, l2] (jR x :: st) σ Q := WP_aload_n mq51 dd51_47 rfl
theorem dd51_48 : decode cX7_readTruth 48 = .ok (.ldc 165, 2) := by decide +kernel
theorem ww51_48 {d : Nat} {l0 l1 l2 : Option mw_V} {st : List mw_V} {σ : mw_S} {Q : Option mw_V → mw_S → Prop} : mw_WP d 51 48 [l0, l1, l2] st σ Q ↔ mw_WP d 51 50 [l0, l1, l2] (jR 1007 :: st) σ Q := WP_ldcS (n := 7) mq51 dd51_48 (by decide) (by decide) rfl
theorem dd51_50 : decode cX7_readTruth 50 = .ok (.invokevirtual 58, 3) := by decide +kernel
theorem ww51_50 {d : Nat} {l0 l1 l2 : Option mw_V} {v0 : mw_V} {a : Nat} {st : List mw_V} {σ : mw_S} {Q : Option mw_V → mw_S → Prop} (hr : mw_rc a = 7) (h8 : (st.map mw_cat).sum ≤ 8) : mw_WP d 51 50 [l0, l1, l2] (v0 :: jR a :: st) σ Q ↔ mw_Call d 66 [jR a, v0] σ (fun r1 s1 => mw_WP d 51 53 [l0, l1, l2] (r1.toList ++ st) s1 Q) := WP_inv (as := [v0]) mq51 dd51_50 (by decide) mq66 rfl hr h8
theorem dd51_53 : decode cX7_readTruth 53 = .ok (.ifCond .eq 24, 3) := by decide +kernel
theorem ww51_53 {d : Nat} {l0 l1 l2 : Option mw_V} {x : Int} {st : List mw_V} {σ : mw_S} {Q : Option mw_V → mw_S → Prop} : mw_WP d 51 53 [l0, l1, l2] (jI x :: st) σ Q ↔ (if x = 0 then mw_WP d 51 77 [l0, l1, l2] st σ Q else mw_WP d 51 56 [l0, l1, l2] st σ Q) := WP_if_eq mq51 dd51_53 (by decide)
theorem dd51_56 : decode cX7_readTruth 56 = .ok (.aload_n 0, 1) := by decide +kernel
theorem ww51_56 {d : Nat} {l1 l2 : Option mw_V} {x : Nat} {st : List mw_V} {σ : mw_S} {Q : Option mw_V → mw_S → Prop} : mw_WP d 51 56 [some (jR x), l1, l2] st σ Q ↔ mw_WP d 51 57 [some (jR x), l1, l2] (jR x :: st) σ Q := WP_aload_n mq51 dd51_56 rfl
theorem dd51_57 : decode cX7_readTruth 57 = .ok (.invokevirtual 167, 3) := by decide +kernel
theorem ww51_57 {d : Nat} {l0 l1 l2 : Option mw_V} {a : Nat} {st : List mw_V} {σ : mw_S} {Q : Option mw_V → mw_S → Prop} (hr : mw_rc a = 7) (h8 : (st.map mw_cat).sum ≤ 8) : mw_WP d 51 57 [l0, l1, l2] (jR a :: st) σ Q ↔ mw_Call d 53 [jR a] σ (fun r1 s1 => mw_WP d 51 60 [l0, l1, l2] (r1.toList ++ st) s1 Q) := WP_inv (as := []) mq51 dd51_57 (by decide) mq53 rfl hr h8
theorem dd51_60 : decode cX7_readTruth 60 = .ok (.ifCond .eq 17, 3) := by decide +kernel
theorem ww51_60 {d : Nat} {l0 l1 l2 : Option mw_V} {x : Int} {st : List mw_V} {σ : mw_S} {Q : Option mw_V → mw_S → Prop} : mw_WP d 51 60 [l0, l1, l2] (jI x :: st) σ Q ↔ (if x = 0 then mw_WP d 51 77 [l0, l1, l2] st σ Q else mw_WP d 51 63 [l0, l1, l2] st σ Q) := WP_if_eq mq51 dd51_60 (by decide)
theorem dd51_63 : decode cX7_readTruth 63 = .ok (.aload_n 0, 1) := by decide +kernel
theorem ww51_63 {d : Nat} {l1 l2 : Option mw_V} {x : Nat} {st : List mw_V} {σ : mw_S} {Q : Option mw_V → mw_S → Prop} : mw_WP d 51 63 [some (jR x), l1, l2] st σ Q ↔ mw_WP d 51 64 [some (jR x), l1, l2] (jR x :: st) σ Q := WP_aload_n mq51 dd51_63 rfl
theorem dd51_64 : decode cX7_readTruth 64 = .ok (.getfield 155, 3) := by decide +kernel
theorem ww51_64 {d : Nat} {l0 l1 l2 : Option mw_V} {st : List mw_V} {σ : mw_S} {Q : Option mw_V → mw_S → Prop} : mw_WP d 51 64 [l0, l1, l2] (jR 1 :: st) σ Q ↔ mw_WP d 51 67 [l0, l1, l2] (jI (σ 1 14) :: st) σ Q := WP_getI (ci := 6) (k := 14) mq51 dd51_64 (by decide) (Or.inl rfl)
theorem dd51_67 : decode cX7_readTruth 67 = .ok (.ifCond .ne 10, 3) := by decide +kernel
theorem ww51_67 {d : Nat} {l0 l1 l2 : Option mw_V} {x : Int} {st : List mw_V} {σ : mw_S} {Q : Option mw_V → mw_S → Prop} : mw_WP d 51 67 [l0, l1, l2] (jI x :: st) σ Q ↔ (if ¬ x = 0 then mw_WP d 51 77 [l0, l1, l2] st σ Q else mw_WP d 51 70 [l0, l1, l2] st σ Q) := WP_if_ne mq51 dd51_67 (by decide)
theorem dd51_70 : decode cX7_readTruth 70 = .ok (.aload_n 0, 1) := by decide +kernel
theorem ww51_70 {d : Nat} {l1 l2 : Option mw_V} {x : Nat} {st : List mw_V} {σ : mw_S} {Q : Option mw_V → mw_S → Prop} : mw_WP d 51 70 [some (jR x), l1, l2] st σ Q ↔ mw_WP d 51 71 [some (jR x), l1, l2] (jR x :: st) σ Q := WP_aload_n mq51 dd51_70 rfl
theorem dd51_71 : decode cX7_readTruth 71 = .ok (.iconst (-1), 1) := by decide +kernel
theorem ww51_71 {d : Nat} {l0 l1 l2 : Option mw_V} {st : List mw_V} {σ : mw_S} {Q : Option mw_V → mw_S → Prop} : mw_WP d 51 71 [l0, l1, l2] st σ Q ↔ mw_WP d 51 72 [l0, l1, l2] (jI (-1) :: st) σ Q := WP_iconst mq51 dd51_71 (by decide)
theorem dd51_72 : decode cX7_readTruth 72 = .ok (.invokevirtual 170, 3) := by decide +kernel
theorem ww51_72 {d : Nat} {l0 l1 l2 : Option mw_V} {v0 : mw_V} {a : Nat} {st : List mw_V} {σ : mw_S} {Q : Option mw_V → mw_S → Prop} (hr : mw_rc a = 7) (h8 : (st.map mw_cat).sum ≤ 8) : mw_WP d 51 72 [l0, l1, l2] (v0 :: jR a :: st) σ Q ↔ mw_Call d 60 [jR a, v0] σ (fun r1 s1 => mw_WP d 51 75 [l0, l1, l2] (r1.toList ++ st) s1 Q) := WP_inv (as := [v0]) mq51 dd51_72 (by decide) mq60 rfl hr h8
theorem dd51_75 : decode cX7_readTruth 75 = .ok (.iconst 1, 1) := by decide +kernel
theorem ww51_75 {d : Nat} {l0 l1 l2 : Option mw_V} {st : List mw_V} {σ : mw_S} {Q : Option mw_V → mw_S → Prop} : mw_WP d 51 75 [l0, l1, l2] st σ Q ↔ mw_WP d 51 76 [l0, l1, l2] (jI (1) :: st) σ Q := WP_iconst mq51 dd51_75 (by decide)
theorem dd51_76 : decode cX7_readTruth 76 = .ok (.ireturn, 1) := by decide +kernel
theorem ww51_76 {d : Nat} {l0 l1 l2 : Option mw_V} {z : Int} {σ : mw_S} {Q : Option mw_V → mw_S → Prop} (h : z = 0 ∨ z = 1) : mw_WP d 51 76 [l0, l1, l2] [jI z] σ Q ↔ Q (some (jI z)) σ := WP_ireturn (ty := .boolean) mq51 dd51_76 rfl (by rcases h with rfl | rfl <;> decide)
theorem dd51_77 : decode cX7_readTruth 77 = .ok (.aload_n 0, 1) := by decide +kernel
theorem ww51_77 {d : Nat} {l1 l2 : Option mw_V} {x : Nat} {st : List mw_V} {σ : mw_S} {Q : Option mw_V → mw_S → Prop} : mw_WP d 51 77 [some (jR x), l1, l2] st σ Q ↔ mw_WP d 51 78 [some (jR x), l1, l2] (jR x :: st) σ Q := WP_aload_n mq51 dd51_77 rfl
theorem dd51_78 : decode cX7_readTruth 78 = .ok (.getfield 161, 3) := by decide +kernel
theorem ww51_78 {d : Nat} {l0 l1 l2 : Option mw_V} {st : List mw_V} {σ : mw_S} {Q : Option mw_V → mw_S → Prop} : mw_WP d 51 78 [l0, l1, l2] (jR 1 :: st) σ Q ↔ mw_WP d 51 81 [l0, l1, l2] (jI (σ 1 15) :: st) σ Q := WP_getI (ci := 6) (k := 15) mq51 dd51_78 (by decide) (Or.inr rfl)
theorem dd51_81 : decode cX7_readTruth 81 = .ok (.ifCond .eq 10, 3) := by decide +kernel
theorem ww51_81 {d : Nat} {l0 l1 l2 : Option mw_V} {x : Int} {st : List mw_V} {σ : mw_S} {Q : Option mw_V → mw_S → Prop} : mw_WP d 51 81 [l0, l1, l2] (jI x :: st) σ Q ↔ (if x = 0 then mw_WP d 51 91 [l0, l1, l2] st σ Q else mw_WP d 51 84 [l0, l1, l2] st σ Q) := WP_if_eq mq51 dd51_81 (by decide)
theorem dd51_84 : decode cX7_readTruth 84 = .ok (.aload_n 0, 1) := by decide +kernel
theorem ww51_84 {d : Nat} {l1 l2 : Option mw_V} {x : Nat} {st : List mw_V} {σ : mw_S} {Q : Option mw_V → mw_S → Prop} : mw_WP d 51 84 [some (jR x), l1, l2] st σ Q ↔ mw_WP d 51 85 [some (jR x), l1, l2] (jR x :: st) σ Q := WP_aload_n mq51 dd51_84 rfl
theorem dd51_85 : decode cX7_readTruth 85 = .ok (.invokevirtual 173, 3) := by decide +kernel
theorem ww51_85 {d : Nat} {l0 l1 l2 : Option mw_V} {a : Nat} {st : List mw_V} {σ : mw_S} {Q : Option mw_V → mw_S → Prop} (hr : mw_rc a = 7) (h8 : (st.map mw_cat).sum ≤ 8) : mw_WP d 51 85 [l0, l1, l2] (jR a :: st) σ Q ↔ mw_Call d 54 [jR a] σ (fun r1 s1 => mw_WP d 51 88 [l0, l1, l2] (r1.toList ++ st) s1 Q) := WP_inv (as := []) mq51 dd51_85 (by decide) mq54 rfl hr h8
theorem dd51_88 : decode cX7_readTruth 88 = .ok (.goto 29, 3) := by decide +kernel
theorem ww51_88 {d : Nat} {l0 l1 l2 : Option mw_V} {st : List mw_V} {σ : mw_S} {Q : Option mw_V → mw_S → Prop} : mw_WP d 51 88 [l0, l1, l2] st σ Q ↔ mw_WP d 51 117 [l0, l1, l2] st σ Q := WP_goto mq51 dd51_88 (by decide)
theorem dd51_91 : decode cX7_readTruth 91 = .ok (.aload_n 0, 1) := by decide +kernel
theorem ww51_91 {d : Nat} {l1 l2 : Option mw_V} {x : Nat} {st : List mw_V} {σ : mw_S} {Q : Option mw_V → mw_S → Prop} : mw_WP d 51 91 [some (jR x), l1, l2] st σ Q ↔ mw_WP d 51 92 [some (jR x), l1, l2] (jR x :: st) σ Q := WP_aload_n mq51 dd51_91 rfl
theorem dd51_92 : decode cX7_readTruth 92 = .ok (.invokevirtual 176, 3) := by decide +kernel
theorem ww51_92 {d : Nat} {l0 l1 l2 : Option mw_V} {a : Nat} {st : List mw_V} {σ : mw_S} {Q : Option mw_V → mw_S → Prop} (hr : mw_rc a = 7) (h8 : (st.map mw_cat).sum ≤ 8) : mw_WP d 51 92 [l0, l1, l2] (jR a :: st) σ Q ↔ mw_Call d 56 [jR a] σ (fun r1 s1 => mw_WP d 51 95 [l0, l1, l2] (r1.toList ++ st) s1 Q) := WP_inv (as := []) mq51 dd51_92 (by decide) mq56 rfl hr h8
theorem dd51_95 : decode cX7_readTruth 95 = .ok (.ifCond .ne 17, 3) := by decide +kernel
theorem ww51_95 {d : Nat} {l0 l1 l2 : Option mw_V} {x : Int} {st : List mw_V} {σ : mw_S} {Q : Option mw_V → mw_S → Prop} : mw_WP d 51 95 [l0, l1, l2] (jI x :: st) σ Q ↔ (if ¬ x = 0 then mw_WP d 51 112 [l0, l1, l2] st σ Q else mw_WP d 51 98 [l0, l1, l2] st σ Q) := WP_if_ne mq51 dd51_95 (by decide)
theorem dd51_98 : decode cX7_readTruth 98 = .ok (.aload_n 0, 1) := by decide +kernel
theorem ww51_98 {d : Nat} {l1 l2 : Option mw_V} {x : Nat} {st : List mw_V} {σ : mw_S} {Q : Option mw_V → mw_S → Prop} : mw_WP d 51 98 [some (jR x), l1, l2] st σ Q ↔ mw_WP d 51 99 [some (jR x), l1, l2] (jR x :: st) σ Q := WP_aload_n mq51 dd51_98 rfl
theorem dd51_99 : decode cX7_readTruth 99 = .ok (.invokevirtual 179, 3) := by decide +kernel
theorem ww51_99 {d : Nat} {l0 l1 l2 : Option mw_V} {a : Nat} {st : List mw_V} {σ : mw_S} {Q : Option mw_V → mw_S → Prop} (hr : mw_rc a = 7) (h8 : (st.map mw_cat).sum ≤ 8) : mw_WP d 51 99 [l0, l1, l2] (jR a :: st) σ Q ↔ mw_Call d 57 [jR a] σ (fun r1 s1 => mw_WP d 51 102 [l0, l1, l2] (r1.toList ++ st) s1 Q) := WP_inv (as := []) mq51 dd51_99 (by decide) mq57 rfl hr h8
theorem dd51_102 : decode cX7_readTruth 102 = .ok (.ifCond .ne 10, 3) := by decide +kernel
theorem ww51_102 {d : Nat} {l0 l1 l2 : Option mw_V} {x : Int} {st : List mw_V} {σ : mw_S} {Q : Option mw_V → mw_S → Prop} : mw_WP d 51 102 [l0, l1, l2] (jI x :: st) σ Q ↔ (if ¬ x = 0 then mw_WP d 51 112 [l0, l1, l2] st σ Q else mw_WP d 51 105 [l0, l1, l2] st σ Q) := WP_if_ne mq51 dd51_102 (by decide)
theorem dd51_105 : decode cX7_readTruth 105 = .ok (.aload_n 0, 1) := by decide +kernel
theorem ww51_105 {d : Nat} {l1 l2 : Option mw_V} {x : Nat} {st : List mw_V} {σ : mw_S} {Q : Option mw_V → mw_S → Prop} : mw_WP d 51 105 [some (jR x), l1, l2] st σ Q ↔ mw_WP d 51 106 [some (jR x), l1, l2] (jR x :: st) σ Q := WP_aload_n mq51 dd51_105 rfl
theorem dd51_106 : decode cX7_readTruth 106 = .ok (.invokevirtual 86, 3) := by decide +kernel
theorem ww51_106 {d : Nat} {l0 l1 l2 : Option mw_V} {a : Nat} {st : List mw_V} {σ : mw_S} {Q : Option mw_V → mw_S → Prop} (hr : mw_rc a = 7) (h8 : (st.map mw_cat).sum ≤ 8) : mw_WP d 51 106 [l0, l1, l2] (jR a :: st) σ Q ↔ mw_Call d 70 [jR a] σ (fun r1 s1 => mw_WP d 51 109 [l0, l1, l2] (r1.toList ++ st) s1 Q) := WP_inv (as := []) mq51 dd51_106 (by decide) mq70 rfl hr h8
theorem dd51_109 : decode cX7_readTruth 109 = .ok (.ifCond .eq 7, 3) := by decide +kernel
theorem ww51_109 {d : Nat} {l0 l1 l2 : Option mw_V} {x : Int} {st : List mw_V} {σ : mw_S} {Q : Option mw_V → mw_S → Prop} : mw_WP d 51 109 [l0, l1, l2] (jI x :: st) σ Q ↔ (if x = 0 then mw_WP d 51 116 [l0, l1, l2] st σ Q else mw_WP d 51 112 [l0, l1, l2] st σ Q) := WP_if_eq mq51 dd51_109 (by decide)
theorem dd51_112 : decode cX7_readTruth 112 = .ok (.iconst 1, 1) := by decide +kernel
theorem ww51_112 {d : Nat} {l0 l1 l2 : Option mw_V} {st : List mw_V} {σ : mw_S} {Q : Option mw_V → mw_S → Prop} : mw_WP d 51 112 [l0, l1, l2] st σ Q ↔ mw_WP d 51 113 [l0, l1, l2] (jI (1) :: st) σ Q := WP_iconst mq51 dd51_112 (by decide)
theorem dd51_113 : decode cX7_readTruth 113 = .ok (.goto 4, 3) := by decide +kernel
theorem ww51_113 {d : Nat} {l0 l1 l2 : Option mw_V} {st : List mw_V} {σ : mw_S} {Q : Option mw_V → mw_S → Prop} : mw_WP d 51 113 [l0, l1, l2] st σ Q ↔ mw_WP d 51 117 [l0, l1, l2] st σ Q := WP_goto mq51 dd51_113 (by decide)
theorem dd51_116 : decode cX7_readTruth 116 = .ok (.iconst 0, 1) := by decide +kernel
theorem ww51_116 {d : Nat} {l0 l1 l2 : Option mw_V} {st : List mw_V} {σ : mw_S} {Q : Option mw_V → mw_S → Prop} : mw_WP d 51 116 [l0, l1, l2] st σ Q ↔ mw_WP d 51 117 [l0, l1, l2] (jI (0) :: st) σ Q := WP_iconst mq51 dd51_116 (by decide)
theorem dd51_117 : decode cX7_readTruth 117 = .ok (.istore_n 1, 1) := by decide +kernel
theorem ww51_117 {d : Nat} {l0 l1 l2 : Option mw_V} {x : Int} {st : List mw_V} {σ : mw_S} {Q : Option mw_V → mw_S → Prop} (h : mw_nlo l0 = true) : mw_WP d 51 117 [l0, l1, l2] (jI x :: st) σ Q ↔ mw_WP d 51 118 [l0, some (jI x), l2] st σ Q := WP_istore_n mq51 dd51_117 (Nat.le_of_ble_eq_true rfl) (mw_nl_of (i := 0) rfl h) rfl
theorem dd51_118 : decode cX7_readTruth 118 = .ok (.iload_n 1, 1) := by decide +kernel
theorem ww51_118 {d : Nat} {l0 l2 : Option mw_V} {x : Int} {st : List mw_V} {σ : mw_S} {Q : Option mw_V → mw_S → Prop} : mw_WP d 51 118 [l0, some (jI x), l2] st σ Q ↔ mw_WP d 51 119 [l0, some (jI x), l2] (jI x :: st) σ Q := WP_iload_n mq51 dd51_118 rfl
theorem dd51_119 : decode cX7_readTruth 119 = .ok (.ifCond .eq 7, 3) := by decide +kernel
theorem ww51_119 {d : Nat} {l0 l1 l2 : Option mw_V} {x : Int} {st : List mw_V} {σ : mw_S} {Q : Option mw_V → mw_S → Prop} : mw_WP d 51 119 [l0, l1, l2] (jI x :: st) σ Q ↔ (if x = 0 then mw_WP d 51 126 [l0, l1, l2] st σ Q else mw_WP d 51 122 [l0, l1, l2] st σ Q) := WP_if_eq mq51 dd51_119 (by decide)
theorem dd51_122 : decode cX7_readTruth 122 = .ok (.aload_n 0, 1) := by decide +kernel
theorem ww51_122 {d : Nat} {l1 l2 : Option mw_V} {x : Nat} {st : List mw_V} {σ : mw_S} {Q : Option mw_V → mw_S → Prop} : mw_WP d 51 122 [some (jR x), l1, l2] st σ Q ↔ mw_WP d 51 123 [some (jR x), l1, l2] (jR x :: st) σ Q := WP_aload_n mq51 dd51_122 rfl
theorem dd51_123 : decode cX7_readTruth 123 = .ok (.invokevirtual 50, 3) := by decide +kernel
theorem ww51_123 {d : Nat} {l0 l1 l2 : Option mw_V} {a : Nat} {st : List mw_V} {σ : mw_S} {Q : Option mw_V → mw_S → Prop} (hr : mw_rc a = 7) (h8 : (st.map mw_cat).sum ≤ 8) : mw_WP d 51 123 [l0, l1, l2] (jR a :: st) σ Q ↔ mw_Call d 72 [jR a] σ (fun r1 s1 => mw_WP d 51 126 [l0, l1, l2] (r1.toList ++ st) s1 Q) := WP_inv (as := []) mq51 dd51_123 (by decide) mq72 rfl hr h8
theorem dd51_126 : decode cX7_readTruth 126 = .ok (.iinc 2 1, 3) := by decide +kernel
theorem ww51_126 {d : Nat} {l0 l1 : Option mw_V} {x : Int} {st : List mw_V} {σ : mw_S} {Q : Option mw_V → mw_S → Prop} (h : mw_nlo l1 = true) : mw_WP d 51 126 [l0, l1, some (jI x)] st σ Q ↔ mw_WP d 51 129 [l0, l1, some (jI (w32 (x + (1))))] st σ Q := WP_iinc mq51 dd51_126 rfl (Nat.le_of_ble_eq_true rfl) (mw_nl_of (i := 1) rfl h) rfl
theorem dd51_129 : decode cX7_readTruth 129 = .ok (.goto (-101), 3) := by decide +kernel
theorem ww51_129 {d : Nat} {l0 l1 l2 : Option mw_V} {st : List mw_V} {σ : mw_S} {Q : Option mw_V → mw_S → Prop} : mw_WP d 51 129 [l0, l1, l2] st σ Q ↔ mw_WP d 51 28 [l0, l1, l2] st σ Q := WP_goto mq51 dd51_129 (by decide)
theorem dd51_132 : decode cX7_readTruth 132 = .ok (.iconst 0, 1) := by decide +kernel
theorem ww51_132 {d : Nat} {l0 l1 l2 : Option mw_V} {st : List mw_V} {σ : mw_S} {Q : Option mw_V → mw_S → Prop} : mw_WP d 51 132 [l0, l1, l2] st σ Q ↔ mw_WP d 51 133 [l0, l1, l2] (jI (0) :: st) σ Q := WP_iconst mq51 dd51_132 (by decide)
theorem dd51_133 : decode cX7_readTruth 133 = .ok (.ireturn, 1) := by decide +kernel
theorem ww51_133 {d : Nat} {l0 l1 l2 : Option mw_V} {z : Int} {σ : mw_S} {Q : Option mw_V → mw_S → Prop} (h : z = 0 ∨ z = 1) : mw_WP d 51 133 [l0, l1, l2] [jI z] σ Q ↔ Q (some (jI z)) σ := WP_ireturn (ty := .boolean) mq51 dd51_133 rfl (by rcases h with rfl | rfl <;> decide)
theorem ee52 {d : Nat} {a : Nat} {σ : mw_S} {Q : Option mw_V → mw_S → Prop} : mw_Call (d + 1) 52 [jR a] σ Q ↔ mw_WP d 52 0 [some (jR a)] [] σ Q := CL_u mq52 (Nat.le_of_ble_eq_true rfl) rfl
theorem dd52_0 : decode cX7_startUnit 0 = .ok (.aload_n 0, 1) := by decide +kernel
theorem ww52_0 {d : Nat} {x : Nat} {st : List mw_V} {σ : mw_S} {Q : Option mw_V → mw_S → Prop} : mw_WP d 52 0 [some (jR x)] st σ Q ↔ mw_WP d 52 1 [some (jR x)] (jR x :: st) σ Q := WP_aload_n mq52 dd52_0 rfl
theorem dd52_1 : decode cX7_startUnit 1 = .ok (.iconst 1, 1) := by decide +kernel
theorem ww52_1 {d : Nat} {l0 : Option mw_V} {st : List mw_V} {σ : mw_S} {Q : Option mw_V → mw_S → Prop} : mw_WP d 52 1 [l0] st σ Q ↔ mw_WP d 52 2 [l0] (jI (1) :: st) σ Q := WP_iconst mq52 dd52_1 (by decide)
theorem dd52_2 : decode cX7_startUnit 2 = .ok (.putfield 161, 3) := by decide +kernel
theorem ww52_2 {d : Nat} {l0 : Option mw_V} {v : Int} {st : List mw_V} {σ : mw_S} {Q : Option mw_V → mw_S → Prop} : mw_WP d 52 2 [l0] (jI v :: jR 1 :: st) σ Q ↔ ((v = 0 ∨ v = 1) ∧ mw_WP d 52 5 [l0] st (upS σ 1 15 v) Q) := WP_putZ (ci := 6) (k := 15) mq52 dd52_2 (by decide) rfl
theorem dd52_5 : decode cX7_startUnit 5 = .ok (.aload_n 0, 1) := by decide +kernel
theorem ww52_5 {d : Nat} {x : Nat} {st : List mw_V} {σ : mw_S} {Q : Option mw_V → mw_S → Prop} : mw_WP d 52 5 [some (jR x)] st σ Q ↔ mw_WP d 52 6 [some (jR x)] (jR x :: st) σ Q := WP_aload_n mq52 dd52_5 rfl
theorem dd52_6 : decode cX7_startUnit 6 = .ok (.iconst 1, 1) := by decide +kernel
theorem ww52_6 {d : Nat} {l0 : Option mw_V} {st : List mw_V} {σ : mw_S} {Q : Option mw_V → mw_S → Prop} : mw_WP d 52 6 [l0] st σ Q ↔ mw_WP d 52 7 [l0] (jI (1) :: st) σ Q := WP_iconst mq52 dd52_6 (by decide)
theorem dd52_7 : decode cX7_startUnit 7 = .ok (.putfield 182, 3) := by decide +kernel
theorem ww52_7 {d : Nat} {l0 : Option mw_V} {v : Int} {st : List mw_V} {σ : mw_S} {Q : Option mw_V → mw_S → Prop} : mw_WP d 52 7 [l0] (jI v :: jR 1 :: st) σ Q ↔ ((v = 0 ∨ v = 1) ∧ mw_WP d 52 10 [l0] st (upS σ 1 16 v) Q) := WP_putZ (ci := 6) (k := 16) mq52 dd52_7 (by decide) rfl
theorem dd52_10 : decode cX7_startUnit 10 = .ok (.aload_n 0, 1) := by decide +kernel
theorem ww52_10 {d : Nat} {x : Nat} {st : List mw_V} {σ : mw_S} {Q : Option mw_V → mw_S → Prop} : mw_WP d 52 10 [some (jR x)] st σ Q ↔ mw_WP d 52 11 [some (jR x)] (jR x :: st) σ Q := WP_aload_n mq52 dd52_10 rfl
theorem dd52_11 : decode cX7_startUnit 11 = .ok (.iconst 0, 1) := by decide +kernel
theorem ww52_11 {d : Nat} {l0 : Option mw_V} {st : List mw_V} {σ : mw_S} {Q : Option mw_V → mw_S → Prop} : mw_WP d 52 11 [l0] st σ Q ↔ mw_WP d 52 12 [l0] (jI (0) :: st) σ Q := WP_iconst mq52 dd52_11 (by decide)
theorem dd52_12 : decode cX7_startUnit 12 = .ok (.putfield 185, 3) := by decide +kernel
theorem ww52_12 {d : Nat} {l0 : Option mw_V} {v : Int} {st : List mw_V} {σ : mw_S} {Q : Option mw_V → mw_S → Prop} : mw_WP d 52 12 [l0] (jI v :: jR 1 :: st) σ Q ↔ ((v = 0 ∨ v = 1) ∧ mw_WP d 52 15 [l0] st (upS σ 1 17 v) Q) := WP_putZ (ci := 6) (k := 17) mq52 dd52_12 (by decide) rfl
theorem dd52_15 : decode cX7_startUnit 15 = .ok (.aload_n 0, 1) := by decide +kernel
theorem ww52_15 {d : Nat} {x : Nat} {st : List mw_V} {σ : mw_S} {Q : Option mw_V → mw_S → Prop} : mw_WP d 52 15 [some (jR x)] st σ Q ↔ mw_WP d 52 16 [some (jR x)] (jR x :: st) σ Q := WP_aload_n mq52 dd52_15 rfl
theorem dd52_16 : decode cX7_startUnit 16 = .ok (.iconst 0, 1) := by decide +kernel
theorem ww52_16 {d : Nat} {l0 : Option mw_V} {st : List mw_V} {σ : mw_S} {Q : Option mw_V → mw_S → Prop} : mw_WP d 52 16 [l0] st σ Q ↔ mw_WP d 52 17 [l0] (jI (0) :: st) σ Q := WP_iconst mq52 dd52_16 (by decide)
theorem dd52_17 : decode cX7_startUnit 17 = .ok (.putfield 188, 3) := by decide +kernel
theorem ww52_17 {d : Nat} {l0 : Option mw_V} {v : Int} {st : List mw_V} {σ : mw_S} {Q : Option mw_V → mw_S → Prop} : mw_WP d 52 17 [l0] (jI v :: jR 1 :: st) σ Q ↔ ((v = 0 ∨ v = 1) ∧ mw_WP d 52 20 [l0] st (upS σ 1 18 v) Q) := WP_putZ (ci := 6) (k := 18) mq52 dd52_17 (by decide) rfl
theorem dd52_20 : decode cX7_startUnit 20 = .ok (.return_, 1) := by decide +kernel
theorem ww52_20 {d : Nat} {l0 : Option mw_V} {σ : mw_S} {Q : Option mw_V → mw_S → Prop} : mw_WP d 52 20 [l0] [] σ Q ↔ Q none σ := WP_return mq52 dd52_20 rfl
theorem ee53 {d : Nat} {a : Nat} {σ : mw_S} {Q : Option mw_V → mw_S → Prop} : mw_Call (d + 1) 53 [jR a] σ Q ↔ mw_WP d 53 0 [some (jR a)] [] σ Q := CL_u mq53 (Nat.le_of_ble_eq_true rfl) rfl
theorem dd53_0 : decode cX7_isUnitWhole 0 = .ok (.aload_n 0, 1) := by decide +kernel
theorem ww53_0 {d : Nat} {x : Nat} {st : List mw_V} {σ : mw_S} {Q : Option mw_V → mw_S → Prop} : mw_WP d 53 0 [some (jR x)] st σ Q ↔ mw_WP d 53 1 [some (jR x)] (jR x :: st) σ Q := WP_aload_n mq53 dd53_0 rfl
theorem dd53_1 : decode cX7_isUnitWhole 1 = .ok (.getfield 188, 3) := by decide +kernel
theorem ww53_1 {d : Nat} {l0 : Option mw_V} {st : List mw_V} {σ : mw_S} {Q : Option mw_V → mw_S → Prop} : mw_WP d 53 1 [l0] (jR 1 :: st) σ Q ↔ mw_WP d 53 4 [l0] (jI (σ 1 18) :: st) σ Q := WP_getI (ci := 6) (k := 18) mq53 dd53_1 (by decide) (Or.inr rfl)
theorem dd53_4 : decode cX7_isUnitWhole 4 = .ok (.ifCond .ne 17, 3) := by decide +kernel
theorem ww53_4 {d : Nat} {l0 : Option mw_V} {x : Int} {st : List mw_V} {σ : mw_S} {Q : Option mw_V → mw_S → Prop} : mw_WP d 53 4 [l0] (jI x :: st) σ Q ↔ (if ¬ x = 0 then mw_WP d 53 21 [l0] st σ Q else mw_WP d 53 7 [l0] st σ Q) := WP_if_ne mq53 dd53_4 (by decide)
theorem dd53_7 : decode cX7_isUnitWhole 7 = .ok (.aload_n 0, 1) := by decide +kernel
theorem ww53_7 {d : Nat} {x : Nat} {st : List mw_V} {σ : mw_S} {Q : Option mw_V → mw_S → Prop} : mw_WP d 53 7 [some (jR x)] st σ Q ↔ mw_WP d 53 8 [some (jR x)] (jR x :: st) σ Q := WP_aload_n mq53 dd53_7 rfl
theorem dd53_8 : decode cX7_isUnitWhole 8 = .ok (.getfield 185, 3) := by decide +kernel
theorem ww53_8 {d : Nat} {l0 : Option mw_V} {st : List mw_V} {σ : mw_S} {Q : Option mw_V → mw_S → Prop} : mw_WP d 53 8 [l0] (jR 1 :: st) σ Q ↔ mw_WP d 53 11 [l0] (jI (σ 1 17) :: st) σ Q := WP_getI (ci := 6) (k := 17) mq53 dd53_8 (by decide) (Or.inr rfl)
theorem dd53_11 : decode cX7_isUnitWhole 11 = .ok (.ifCond .eq 14, 3) := by decide +kernel
theorem ww53_11 {d : Nat} {l0 : Option mw_V} {x : Int} {st : List mw_V} {σ : mw_S} {Q : Option mw_V → mw_S → Prop} : mw_WP d 53 11 [l0] (jI x :: st) σ Q ↔ (if x = 0 then mw_WP d 53 25 [l0] st σ Q else mw_WP d 53 14 [l0] st σ Q) := WP_if_eq mq53 dd53_11 (by decide)
theorem dd53_14 : decode cX7_isUnitWhole 14 = .ok (.aload_n 0, 1) := by decide +kernel
theorem ww53_14 {d : Nat} {x : Nat} {st : List mw_V} {σ : mw_S} {Q : Option mw_V → mw_S → Prop} : mw_WP d 53 14 [some (jR x)] st σ Q ↔ mw_WP d 53 15 [some (jR x)] (jR x :: st) σ Q := WP_aload_n mq53 dd53_14 rfl
theorem dd53_15 : decode cX7_isUnitWhole 15 = .ok (.getfield 152, 3) := by decide +kernel
theorem ww53_15 {d : Nat} {l0 : Option mw_V} {st : List mw_V} {σ : mw_S} {Q : Option mw_V → mw_S → Prop} : mw_WP d 53 15 [l0] (jR 1 :: st) σ Q ↔ mw_WP d 53 18 [l0] (jI (σ 1 13) :: st) σ Q := WP_getI (ci := 6) (k := 13) mq53 dd53_15 (by decide) (Or.inl rfl)
theorem dd53_18 : decode cX7_isUnitWhole 18 = .ok (.ifCond .ne 7, 3) := by decide +kernel
theorem ww53_18 {d : Nat} {l0 : Option mw_V} {x : Int} {st : List mw_V} {σ : mw_S} {Q : Option mw_V → mw_S → Prop} : mw_WP d 53 18 [l0] (jI x :: st) σ Q ↔ (if ¬ x = 0 then mw_WP d 53 25 [l0] st σ Q else mw_WP d 53 21 [l0] st σ Q) := WP_if_ne mq53 dd53_18 (by decide)
theorem dd53_21 : decode cX7_isUnitWhole 21 = .ok (.iconst 1, 1) := by decide +kernel
theorem ww53_21 {d : Nat} {l0 : Option mw_V} {st : List mw_V} {σ : mw_S} {Q : Option mw_V → mw_S → Prop} : mw_WP d 53 21 [l0] st σ Q ↔ mw_WP d 53 22 [l0] (jI (1) :: st) σ Q := WP_iconst mq53 dd53_21 (by decide)
theorem dd53_22 : decode cX7_isUnitWhole 22 = .ok (.goto 4, 3) := by decide +kernel
theorem ww53_22 {d : Nat} {l0 : Option mw_V} {st : List mw_V} {σ : mw_S} {Q : Option mw_V → mw_S → Prop} : mw_WP d 53 22 [l0] st σ Q ↔ mw_WP d 53 26 [l0] st σ Q := WP_goto mq53 dd53_22 (by decide)
theorem dd53_25 : decode cX7_isUnitWhole 25 = .ok (.iconst 0, 1) := by decide +kernel
theorem ww53_25 {d : Nat} {l0 : Option mw_V} {st : List mw_V} {σ : mw_S} {Q : Option mw_V → mw_S → Prop} : mw_WP d 53 25 [l0] st σ Q ↔ mw_WP d 53 26 [l0] (jI (0) :: st) σ Q := WP_iconst mq53 dd53_25 (by decide)
theorem dd53_26 : decode cX7_isUnitWhole 26 = .ok (.ireturn, 1) := by decide +kernel
theorem ww53_26 {d : Nat} {l0 : Option mw_V} {z : Int} {σ : mw_S} {Q : Option mw_V → mw_S → Prop} (h : z = 0 ∨ z = 1) : mw_WP d 53 26 [l0] [jI z] σ Q ↔ Q (some (jI z)) σ := WP_ireturn (ty := .boolean) mq53 dd53_26 rfl (by rcases h with rfl | rfl <;> decide)
theorem ee54 {d : Nat} {a : Nat} {σ : mw_S} {Q : Option mw_V → mw_S → Prop} : mw_Call (d + 1) 54 [jR a] σ Q ↔ mw_WP d 54 0 [some (jR a), none] [] σ Q := CL_u mq54 (Nat.le_of_ble_eq_true rfl) rfl
theorem dd54_0 : decode cX7_readOperand 0 = .ok (.aload_n 0, 1) := by decide +kernel
theorem ww54_0 {d : Nat} {l1 : Option mw_V} {x : Nat} {st : List mw_V} {σ : mw_S} {Q : Option mw_V → mw_S → Prop} : mw_WP d 54 0 [some (jR x), l1] st σ Q ↔ mw_WP d 54 1 [some (jR x), l1] (jR x :: st) σ Q := WP_aload_n mq54 dd54_0 rfl
theorem dd54_1 : decode cX7_readOperand 1 = .ok (.bipush 40, 2) := by decide +kernel
theorem ww54_1 {d : Nat} {l0 l1 : Option mw_V} {st : List mw_V} {σ : mw_S} {Q : Option mw_V → mw_S → Prop} : mw_WP d 54 1 [l0, l1] st σ Q ↔ mw_WP d 54 3 [l0, l1] (jI (40) :: st) σ Q := WP_bipush mq54 dd54_1 (by decide)
theorem dd54_3 : decode cX7_readOperand 3 = .ok (.invokevirtual 191, 3) := by decide +kernel
theorem ww54_3 {d : Nat} {l0 l1 : Option mw_V} {v0 : mw_V} {a : Nat} {st : List mw_V} {σ : mw_S} {Q : Option mw_V → mw_S → Prop} (hr : mw_rc a = 7) (h8 : (st.map mw_cat).sum ≤ 8) : mw_WP d 54 3 [l0, l1] (v0 :: jR a :: st) σ Q ↔ mw_Call d 67 [jR a, v0] σ (fun r1 s1 => mw_WP d 54 6 [l0, l1] (r1.toList ++ st) s1 Q) := WP_inv (as := [v0]) mq54 dd54_3 (by decide) mq67 rfl hr h8
theorem dd54_6 : decode cX7_readOperand 6 = .ok (.ifCond .eq 26, 3) := by decide +kernel
theorem ww54_6 {d : Nat} {l0 l1 : Option mw_V} {x : Int} {st : List mw_V} {σ : mw_S} {Q : Option mw_V → mw_S → Prop} : mw_WP d 54 6 [l0, l1] (jI x :: st) σ Q ↔ (if x = 0 then mw_WP d 54 32 [l0, l1] st σ Q else mw_WP d 54 9 [l0, l1] st σ Q) := WP_if_eq mq54 dd54_6 (by decide)
theorem dd54_9 : decode cX7_readOperand 9 = .ok (.aload_n 0, 1) := by decide +kernel
theorem ww54_9 {d : Nat} {l1 : Option mw_V} {x : Nat} {st : List mw_V} {σ : mw_S} {Q : Option mw_V → mw_S → Prop} : mw_WP d 54 9 [some (jR x), l1] st σ Q ↔ mw_WP d 54 10 [some (jR x), l1] (jR x :: st) σ Q := WP_aload_n mq54 dd54_9 rfl
theorem dd54_10 : decode cX7_readOperand 10 = .ok (.iconst 0, 1) := by decide +kernel
theorem ww54_10 {d : Nat} {l0 l1 : Option mw_V} {st : List mw_V} {σ : mw_S} {Q : Option mw_V → mw_S → Prop} : mw_WP d 54 10 [l0, l1] st σ Q ↔ mw_WP d 54 11 [l0, l1] (jI (0) :: st) σ Q := WP_iconst mq54 dd54_10 (by decide)
theorem dd54_11 : decode cX7_readOperand 11 = .ok (.putfield 182, 3) := by decide +kernel
theorem ww54_11 {d : Nat} {l0 l1 : Option mw_V} {v : Int} {st : List mw_V} {σ : mw_S} {Q : Option mw_V → mw_S → Prop} : mw_WP d 54 11 [l0, l1] (jI v :: jR 1 :: st) σ Q ↔ ((v = 0 ∨ v = 1) ∧ mw_WP d 54 14 [l0, l1] st (upS σ 1 16 v) Q) := WP_putZ (ci := 6) (k := 16) mq54 dd54_11 (by decide) rfl
theorem dd54_14 : decode cX7_readOperand 14 = .ok (.aload_n 0, 1) := by decide +kernel
theorem ww54_14 {d : Nat} {l1 : Option mw_V} {x : Nat} {st : List mw_V} {σ : mw_S} {Q : Option mw_V → mw_S → Prop} : mw_WP d 54 14 [some (jR x), l1] st σ Q ↔ mw_WP d 54 15 [some (jR x), l1] (jR x :: st) σ Q := WP_aload_n mq54 dd54_14 rfl
theorem dd54_15 : decode cX7_readOperand 15 = .ok (.dup, 1) := by decide +kernel
theorem ww54_15 {d : Nat} {l0 l1 : Option mw_V} {v : mw_V} {st : List mw_V} {σ : mw_S} {Q : Option mw_V → mw_S → Prop} (h : mw_cat v = 1) : mw_WP d 54 15 [l0, l1] (v :: st) σ Q ↔ mw_WP d 54 16 [l0, l1] (v :: v :: st) σ Q := WP_dup mq54 dd54_15 h
theorem dd54_16 : decode cX7_readOperand 16 = .ok (.getfield 152, 3) := by decide +kernel
theorem ww54_16 {d : Nat} {l0 l1 : Option mw_V} {st : List mw_V} {σ : mw_S} {Q : Option mw_V → mw_S → Prop} : mw_WP d 54 16 [l0, l1] (jR 1 :: st) σ Q ↔ mw_WP d 54 19 [l0, l1] (jI (σ 1 13) :: st) σ Q := WP_getI (ci := 6) (k := 13) mq54 dd54_16 (by decide) (Or.inl rfl)
theorem dd54_19 : decode cX7_readOperand 19 = .ok (.iconst 1, 1) := by decide +kernel
theorem ww54_19 {d : Nat} {l0 l1 : Option mw_V} {st : List mw_V} {σ : mw_S} {Q : Option mw_V → mw_S → Prop} : mw_WP d 54 19 [l0, l1] st σ Q ↔ mw_WP d 54 20 [l0, l1] (jI (1) :: st) σ Q := WP_iconst mq54 dd54_19 (by decide)
theorem dd54_20 : decode cX7_readOperand 20 = .ok (.iadd, 1) := by decide +kernel
theorem ww54_20 {d : Nat} {l0 l1 : Option mw_V} {x y : Int} {st : List mw_V} {σ : mw_S} {Q : Option mw_V → mw_S → Prop} : mw_WP d 54 20 [l0, l1] (jI y :: jI x :: st) σ Q ↔ mw_WP d 54 21 [l0, l1] (jI (w32 (x + y)) :: st) σ Q := WP_iadd mq54 dd54_20
theorem dd54_21 : decode cX7_readOperand 21 = .ok (.putfield 152, 3) := by decide +kernel
theorem ww54_21 {d : Nat} {l0 l1 : Option mw_V} {v : Int} {st : List mw_V} {σ : mw_S} {Q : Option mw_V → mw_S → Prop} : mw_WP d 54 21 [l0, l1] (jI v :: jR 1 :: st) σ Q ↔ mw_WP d 54 24 [l0, l1] st (upS σ 1 13 v) Q := WP_putI (ci := 6) (k := 13) mq54 dd54_21 (by decide) rfl
theorem dd54_24 : decode cX7_readOperand 24 = .ok (.aload_n 0, 1) := by decide +kernel
theorem ww54_24 {d : Nat} {l1 : Option mw_V} {x : Nat} {st : List mw_V} {σ : mw_S} {Q : Option mw_V → mw_S → Prop} : mw_WP d 54 24 [some (jR x), l1] st σ Q ↔ mw_WP d 54 25 [some (jR x), l1] (jR x :: st) σ Q := WP_aload_n mq54 dd54_24 rfl
theorem dd54_25 : decode cX7_readOperand 25 = .ok (.sipush 1019, 3) := by decide +kernel
theorem ww54_25 {d : Nat} {l0 l1 : Option mw_V} {st : List mw_V} {σ : mw_S} {Q : Option mw_V → mw_S → Prop} : mw_WP d 54 25 [l0, l1] st σ Q ↔ mw_WP d 54 28 [l0, l1] (jI (1019) :: st) σ Q := WP_sipush mq54 dd54_25 (by decide)
theorem dd54_28 : decode cX7_readOperand 28 = .ok (.invokevirtual 194, 3) := by decide +kernel
theorem ww54_28 {d : Nat} {l0 l1 : Option mw_V} {v0 : mw_V} {a : Nat} {st : List mw_V} {σ : mw_S} {Q : Option mw_V → mw_S → Prop} (hr : mw_rc a = 7) (h8 : (st.map mw_cat).sum ≤ 8) : mw_WP d 54 28 [l0, l1] (v0 :: jR a :: st) σ Q ↔ mw_Call d 55 [jR a, v0] σ (fun r1 s1 => mw_WP d 54 31 [l0, l1] (r1.toList ++ st) s1 Q) := WP_inv (as := [v0]) mq54 dd54_28 (by decide) mq55 rfl hr h8
theorem dd54_31 : decode cX7_readOperand 31 = .ok (.ireturn, 1) := by decide +kernel
theorem ww54_31 {d : Nat} {l0 l1 : Option mw_V} {z : Int} {σ : mw_S} {Q : Option mw_V → mw_S → Prop} (h : z = 0 ∨ z = 1) : mw_WP d 54 31 [l0, l1] [jI z] σ Q ↔ Q (some (jI z)) σ := WP_ireturn (ty := .boolean) mq54 dd54_31 rfl (by rcases h with rfl | rfl <;> decide)
theorem dd54_32 : decode cX7_readOperand 32 = .ok (.aload_n 0, 1) := by decide +kernel
theorem ww54_32 {d : Nat} {l1 : Option mw_V} {x : Nat} {st : List mw_V} {σ : mw_S} {Q : Option mw_V → mw_S → Prop} : mw_WP d 54 32 [some (jR x), l1] st σ Q ↔ mw_WP d 54 33 [some (jR x), l1] (jR x :: st) σ Q := WP_aload_n mq54 dd54_32 rfl
theorem dd54_33 : decode cX7_readOperand 33 = .ok (.getfield 182, 3) := by decide +kernel
theorem ww54_33 {d : Nat} {l0 l1 : Option mw_V} {st : List mw_V} {σ : mw_S} {Q : Option mw_V → mw_S → Prop} : mw_WP d 54 33 [l0, l1] (jR 1 :: st) σ Q ↔ mw_WP d 54 36 [l0, l1] (jI (σ 1 16) :: st) σ Q := WP_getI (ci := 6) (k := 16) mq54 dd54_33 (by decide) (Or.inr rfl)
theorem dd54_36 : decode cX7_readOperand 36 = .ok (.ifCond .eq 30, 3) := by decide +kernel
theorem ww54_36 {d : Nat} {l0 l1 : Option mw_V} {x : Int} {st : List mw_V} {σ : mw_S} {Q : Option mw_V → mw_S → Prop} : mw_WP d 54 36 [l0, l1] (jI x :: st) σ Q ↔ (if x = 0 then mw_WP d 54 66 [l0, l1] st σ Q else mw_WP d 54 39 [l0, l1] st σ Q) := WP_if_eq mq54 dd54_36 (by decide)
theorem dd54_39 : decode cX7_readOperand 39 = .ok (.aload_n 0, 1) := by decide +kernel
theorem ww54_39 {d : Nat} {l1 : Option mw_V} {x : Nat} {st : List mw_V} {σ : mw_S} {Q : Option mw_V → mw_S → Prop} : mw_WP d 54 39 [some (jR x), l1] st σ Q ↔ mw_WP d 54 40 [some (jR x), l1] (jR x :: st) σ Q := WP_aload_n mq54 dd54_39 rfl
theorem dd54_40 : decode cX7_readOperand 40 = .ok (.bipush 91, 2) := by decide +kernel
theorem ww54_40 {d : Nat} {l0 l1 : Option mw_V} {st : List mw_V} {σ : mw_S} {Q : Option mw_V → mw_S → Prop} : mw_WP d 54 40 [l0, l1] st σ Q ↔ mw_WP d 54 42 [l0, l1] (jI (91) :: st) σ Q := WP_bipush mq54 dd54_40 (by decide)
theorem dd54_42 : decode cX7_readOperand 42 = .ok (.invokevirtual 191, 3) := by decide +kernel
theorem ww54_42 {d : Nat} {l0 l1 : Option mw_V} {v0 : mw_V} {a : Nat} {st : List mw_V} {σ : mw_S} {Q : Option mw_V → mw_S → Prop} (hr : mw_rc a = 7) (h8 : (st.map mw_cat).sum ≤ 8) : mw_WP d 54 42 [l0, l1] (v0 :: jR a :: st) σ Q ↔ mw_Call d 67 [jR a, v0] σ (fun r1 s1 => mw_WP d 54 45 [l0, l1] (r1.toList ++ st) s1 Q) := WP_inv (as := [v0]) mq54 dd54_42 (by decide) mq67 rfl hr h8
theorem dd54_45 : decode cX7_readOperand 45 = .ok (.ifCond .eq 21, 3) := by decide +kernel
theorem ww54_45 {d : Nat} {l0 l1 : Option mw_V} {x : Int} {st : List mw_V} {σ : mw_S} {Q : Option mw_V → mw_S → Prop} : mw_WP d 54 45 [l0, l1] (jI x :: st) σ Q ↔ (if x = 0 then mw_WP d 54 66 [l0, l1] st σ Q else mw_WP d 54 48 [l0, l1] st σ Q) := WP_if_eq mq54 dd54_45 (by decide)
theorem dd54_48 : decode cX7_readOperand 48 = .ok (.aload_n 0, 1) := by decide +kernel
theorem ww54_48 {d : Nat} {l1 : Option mw_V} {x : Nat} {st : List mw_V} {σ : mw_S} {Q : Option mw_V → mw_S → Prop} : mw_WP d 54 48 [some (jR x), l1] st σ Q ↔ mw_WP d 54 49 [some (jR x), l1] (jR x :: st) σ Q := WP_aload_n mq54 dd54_48 rfl
theorem dd54_49 : decode cX7_readOperand 49 = .ok (.dup, 1) := by decide +kernel
theorem ww54_49 {d : Nat} {l0 l1 : Option mw_V} {v : mw_V} {st : List mw_V} {σ : mw_S} {Q : Option mw_V → mw_S → Prop} (h : mw_cat v = 1) : mw_WP d 54 49 [l0, l1] (v :: st) σ Q ↔ mw_WP d 54 50 [l0, l1] (v :: v :: st) σ Q := WP_dup mq54 dd54_49 h
theorem dd54_50 : decode cX7_readOperand 50 = .ok (.getfield 155, 3) := by decide +kernel
theorem ww54_50 {d : Nat} {l0 l1 : Option mw_V} {st : List mw_V} {σ : mw_S} {Q : Option mw_V → mw_S → Prop} : mw_WP d 54 50 [l0, l1] (jR 1 :: st) σ Q ↔ mw_WP d 54 53 [l0, l1] (jI (σ 1 14) :: st) σ Q := WP_getI (ci := 6) (k := 14) mq54 dd54_50 (by decide) (Or.inl rfl)
theorem dd54_53 : decode cX7_readOperand 53 = .ok (.iconst 1, 1) := by decide +kernel
theorem ww54_53 {d : Nat} {l0 l1 : Option mw_V} {st : List mw_V} {σ : mw_S} {Q : Option mw_V → mw_S → Prop} : mw_WP d 54 53 [l0, l1] st σ Q ↔ mw_WP d 54 54 [l0, l1] (jI (1) :: st) σ Q := WP_iconst mq54 dd54_53 (by decide)
theorem dd54_54 : decode cX7_readOperand 54 = .ok (.iadd, 1) := by decide +kernel
theorem ww54_54 {d : Nat} {l0 l1 : Option mw_V} {x y : Int} {st : List mw_V} {σ : mw_S} {Q : Option mw_V → mw_S → Prop} : mw_WP d 54 54 [l0, l1] (jI y :: jI x :: st) σ Q ↔ mw_WP d 54 55 [l0, l1] (jI (w32 (x + y)) :: st) σ Q := WP_iadd mq54 dd54_54
theorem dd54_55 : decode cX7_readOperand 55 = .ok (.putfield 155, 3) := by decide +kernel
theorem ww54_55 {d : Nat} {l0 l1 : Option mw_V} {v : Int} {st : List mw_V} {σ : mw_S} {Q : Option mw_V → mw_S → Prop} : mw_WP d 54 55 [l0, l1] (jI v :: jR 1 :: st) σ Q ↔ mw_WP d 54 58 [l0, l1] st (upS σ 1 14 v) Q := WP_putI (ci := 6) (k := 14) mq54 dd54_55 (by decide) rfl
theorem dd54_58 : decode cX7_readOperand 58 = .ok (.aload_n 0, 1) := by decide +kernel
theorem ww54_58 {d : Nat} {l1 : Option mw_V} {x : Nat} {st : List mw_V} {σ : mw_S} {Q : Option mw_V → mw_S → Prop} : mw_WP d 54 58 [some (jR x), l1] st σ Q ↔ mw_WP d 54 59 [some (jR x), l1] (jR x :: st) σ Q := WP_aload_n mq54 dd54_58 rfl
theorem dd54_59 : decode cX7_readOperand 59 = .ok (.sipush 1020, 3) := by decide +kernel
theorem ww54_59 {d : Nat} {l0 l1 : Option mw_V} {st : List mw_V} {σ : mw_S} {Q : Option mw_V → mw_S → Prop} : mw_WP d 54 59 [l0, l1] st σ Q ↔ mw_WP d 54 62 [l0, l1] (jI (1020) :: st) σ Q := WP_sipush mq54 dd54_59 (by decide)
theorem dd54_62 : decode cX7_readOperand 62 = .ok (.invokevirtual 194, 3) := by decide +kernel
theorem ww54_62 {d : Nat} {l0 l1 : Option mw_V} {v0 : mw_V} {a : Nat} {st : List mw_V} {σ : mw_S} {Q : Option mw_V → mw_S → Prop} (hr : mw_rc a = 7) (h8 : (st.map mw_cat).sum ≤ 8) : mw_WP d 54 62 [l0, l1] (v0 :: jR a :: st) σ Q ↔ mw_Call d 55 [jR a, v0] σ (fun r1 s1 => mw_WP d 54 65 [l0, l1] (r1.toList ++ st) s1 Q) := WP_inv (as := [v0]) mq54 dd54_62 (by decide) mq55 rfl hr h8
theorem dd54_65 : decode cX7_readOperand 65 = .ok (.ireturn, 1) := by decide +kernel
theorem ww54_65 {d : Nat} {l0 l1 : Option mw_V} {z : Int} {σ : mw_S} {Q : Option mw_V → mw_S → Prop} (h : z = 0 ∨ z = 1) : mw_WP d 54 65 [l0, l1] [jI z] σ Q ↔ Q (some (jI z)) σ := WP_ireturn (ty := .boolean) mq54 dd54_65 rfl (by rcases h with rfl | rfl <;> decide)
theorem dd54_66 : decode cX7_readOperand 66 = .ok (.aload_n 0, 1) := by decide +kernel
theorem ww54_66 {d : Nat} {l1 : Option mw_V} {x : Nat} {st : List mw_V} {σ : mw_S} {Q : Option mw_V → mw_S → Prop} : mw_WP d 54 66 [some (jR x), l1] st σ Q ↔ mw_WP d 54 67 [some (jR x), l1] (jR x :: st) σ Q := WP_aload_n mq54 dd54_66 rfl
theorem dd54_67 : decode cX7_readOperand 67 = .ok (.getfield 182, 3) := by decide +kernel
theorem ww54_67 {d : Nat} {l0 l1 : Option mw_V} {st : List mw_V} {σ : mw_S} {Q : Option mw_V → mw_S → Prop} : mw_WP d 54 67 [l0, l1] (jR 1 :: st) σ Q ↔ mw_WP d 54 70 [l0, l1] (jI (σ 1 16) :: st) σ Q := WP_getI (ci := 6) (k := 16) mq54 dd54_67 (by decide) (Or.inr rfl)
theorem dd54_70 : decode cX7_readOperand 70 = .ok (.ifCond .eq 20, 3) := by decide +kernel
theorem ww54_70 {d : Nat} {l0 l1 : Option mw_V} {x : Int} {st : List mw_V} {σ : mw_S} {Q : Option mw_V → mw_S → Prop} : mw_WP d 54 70 [l0, l1] (jI x :: st) σ Q ↔ (if x = 0 then mw_WP d 54 90 [l0, l1] st σ Q else mw_WP d 54 73 [l0, l1] st σ Q) := WP_if_eq mq54 dd54_70 (by decide)
theorem dd54_73 : decode cX7_readOperand 73 = .ok (.aload_n 0, 1) := by decide +kernel
theorem ww54_73 {d : Nat} {l1 : Option mw_V} {x : Nat} {st : List mw_V} {σ : mw_S} {Q : Option mw_V → mw_S → Prop} : mw_WP d 54 73 [some (jR x), l1] st σ Q ↔ mw_WP d 54 74 [some (jR x), l1] (jR x :: st) σ Q := WP_aload_n mq54 dd54_73 rfl
theorem dd54_74 : decode cX7_readOperand 74 = .ok (.ldc 197, 2) := by decide +kernel
theorem ww54_74 {d : Nat} {l0 l1 : Option mw_V} {st : List mw_V} {σ : mw_S} {Q : Option mw_V → mw_S → Prop} : mw_WP d 54 74 [l0, l1] st σ Q ↔ mw_WP d 54 76 [l0, l1] (jR 1008 :: st) σ Q := WP_ldcS (n := 8) mq54 dd54_74 (by decide) (by decide) rfl
theorem dd54_76 : decode cX7_readOperand 76 = .ok (.invokevirtual 58, 3) := by decide +kernel
theorem ww54_76 {d : Nat} {l0 l1 : Option mw_V} {v0 : mw_V} {a : Nat} {st : List mw_V} {σ : mw_S} {Q : Option mw_V → mw_S → Prop} (hr : mw_rc a = 7) (h8 : (st.map mw_cat).sum ≤ 8) : mw_WP d 54 76 [l0, l1] (v0 :: jR a :: st) σ Q ↔ mw_Call d 66 [jR a, v0] σ (fun r1 s1 => mw_WP d 54 79 [l0, l1] (r1.toList ++ st) s1 Q) := WP_inv (as := [v0]) mq54 dd54_76 (by decide) mq66 rfl hr h8
theorem dd54_79 : decode cX7_readOperand 79 = .ok (.ifCond .eq 11, 3) := by decide +kernel
theorem ww54_79 {d : Nat} {l0 l1 : Option mw_V} {x : Int} {st : List mw_V} {σ : mw_S} {Q : Option mw_V → mw_S → Prop} : mw_WP d 54 79 [l0, l1] (jI x :: st) σ Q ↔ (if x = 0 then mw_WP d 54 90 [l0, l1] st σ Q else mw_WP d 54 82 [l0, l1] st σ Q) := WP_if_eq mq54 dd54_79 (by decide)
theorem dd54_82 : decode cX7_readOperand 82 = .ok (.aload_n 0, 1) := by decide +kernel
theorem ww54_82 {d : Nat} {l1 : Option mw_V} {x : Nat} {st : List mw_V} {σ : mw_S} {Q : Option mw_V → mw_S → Prop} : mw_WP d 54 82 [some (jR x), l1] st σ Q ↔ mw_WP d 54 83 [some (jR x), l1] (jR x :: st) σ Q := WP_aload_n mq54 dd54_82 rfl
theorem dd54_83 : decode cX7_readOperand 83 = .ok (.sipush 1010, 3) := by decide +kernel
theorem ww54_83 {d : Nat} {l0 l1 : Option mw_V} {st : List mw_V} {σ : mw_S} {Q : Option mw_V → mw_S → Prop} : mw_WP d 54 83 [l0, l1] st σ Q ↔ mw_WP d 54 86 [l0, l1] (jI (1010) :: st) σ Q := WP_sipush mq54 dd54_83 (by decide)
theorem dd54_86 : decode cX7_readOperand 86 = .ok (.invokevirtual 194, 3) := by decide +kernel
theorem ww54_86 {d : Nat} {l0 l1 : Option mw_V} {v0 : mw_V} {a : Nat} {st : List mw_V} {σ : mw_S} {Q : Option mw_V → mw_S → Prop} (hr : mw_rc a = 7) (h8 : (st.map mw_cat).sum ≤ 8) : mw_WP d 54 86 [l0, l1] (v0 :: jR a :: st) σ Q ↔ mw_Call d 55 [jR a, v0] σ (fun r1 s1 => mw_WP d 54 89 [l0, l1] (r1.toList ++ st) s1 Q) := WP_inv (as := [v0]) mq54 dd54_86 (by decide) mq55 rfl hr h8
theorem dd54_89 : decode cX7_readOperand 89 = .ok (.ireturn, 1) := by decide +kernel
theorem ww54_89 {d : Nat} {l0 l1 : Option mw_V} {z : Int} {σ : mw_S} {Q : Option mw_V → mw_S → Prop} (h : z = 0 ∨ z = 1) : mw_WP d 54 89 [l0, l1] [jI z] σ Q ↔ Q (some (jI z)) σ := WP_ireturn (ty := .boolean) mq54 dd54_89 rfl (by rcases h with rfl | rfl <;> decide)
theorem dd54_90 : decode cX7_readOperand 90 = .ok (.aload_n 0, 1) := by decide +kernel
theorem ww54_90 {d : Nat} {l1 : Option mw_V} {x : Nat} {st : List mw_V} {σ : mw_S} {Q : Option mw_V → mw_S → Prop} : mw_WP d 54 90 [some (jR x), l1] st σ Q ↔ mw_WP d 54 91 [some (jR x), l1] (jR x :: st) σ Q := WP_aload_n mq54 dd54_90 rfl
theorem dd54_91 : decode cX7_readOperand 91 = .ok (.getfield 53, 3) := by decide +kernel
theorem ww54_91 {d : Nat} {l0 l1 : Option mw_V} {st : List mw_V} {σ : mw_S} {Q : Option mw_V → mw_S → Prop} : mw_WP d 54 91 [l0, l1] (jR 1 :: st) σ Q ↔ mw_WP d 54 94 [l0, l1] (jI (σ 1 8) :: st) σ Q := WP_getI (ci := 6) (k := 8) mq54 dd54_91 (by decide) (Or.inl rfl)
theorem dd54_94 : decode cX7_readOperand 94 = .ok (.iconst 3, 1) := by decide +kernel
theorem ww54_94 {d : Nat} {l0 l1 : Option mw_V} {st : List mw_V} {σ : mw_S} {Q : Option mw_V → mw_S → Prop} : mw_WP d 54 94 [l0, l1] st σ Q ↔ mw_WP d 54 95 [l0, l1] (jI (3) :: st) σ Q := WP_iconst mq54 dd54_94 (by decide)
theorem dd54_95 : decode cX7_readOperand 95 = .ok (.if_icmp .ne 10, 3) := by decide +kernel
theorem ww54_95 {d : Nat} {l0 l1 : Option mw_V} {x y : Int} {st : List mw_V} {σ : mw_S} {Q : Option mw_V → mw_S → Prop} : mw_WP d 54 95 [l0, l1] (jI y :: jI x :: st) σ Q ↔ (if ¬ x = y then mw_WP d 54 105 [l0, l1] st σ Q else mw_WP d 54 98 [l0, l1] st σ Q) := WP_icmp_ne mq54 dd54_95 (by decide)
theorem dd54_98 : decode cX7_readOperand 98 = .ok (.aload_n 0, 1) := by decide +kernel
theorem ww54_98 {d : Nat} {l1 : Option mw_V} {x : Nat} {st : List mw_V} {σ : mw_S} {Q : Option mw_V → mw_S → Prop} : mw_WP d 54 98 [some (jR x), l1] st σ Q ↔ mw_WP d 54 99 [some (jR x), l1] (jR x :: st) σ Q := WP_aload_n mq54 dd54_98 rfl
theorem dd54_99 : decode cX7_readOperand 99 = .ok (.getfield 110, 3) := by decide +kernel
theorem ww54_99 {d : Nat} {l0 l1 : Option mw_V} {st : List mw_V} {σ : mw_S} {Q : Option mw_V → mw_S → Prop} : mw_WP d 54 99 [l0, l1] (jR 1 :: st) σ Q ↔ mw_WP d 54 102 [l0, l1] (jI (σ 1 9) :: st) σ Q := WP_getI (ci := 6) (k := 9) mq54 dd54_99 (by decide) (Or.inl rfl)
theorem dd54_102 : decode cX7_readOperand 102 = .ok (.goto 7, 3) := by decide +kernel
theorem ww54_102 {d : Nat} {l0 l1 : Option mw_V} {st : List mw_V} {σ : mw_S} {Q : Option mw_V → mw_S → Prop} : mw_WP d 54 102 [l0, l1] st σ Q ↔ mw_WP d 54 109 [l0, l1] st σ Q := WP_goto mq54 dd54_102 (by decide)
theorem dd54_105 : decode cX7_readOperand 105 = .ok (.aload_n 0, 1) := by decide +kernel
theorem ww54_105 {d : Nat} {l1 : Option mw_V} {x : Nat} {st : List mw_V} {σ : mw_S} {Q : Option mw_V → mw_S → Prop} : mw_WP d 54 105 [some (jR x), l1] st σ Q ↔ mw_WP d 54 106 [some (jR x), l1] (jR x :: st) σ Q := WP_aload_n mq54 dd54_105 rfl
theorem dd54_106 : decode cX7_readOperand 106 = .ok (.invokevirtual 199, 3) := by decide +kernel
theorem ww54_106 {d : Nat} {l0 l1 : Option mw_V} {a : Nat} {st : List mw_V} {σ : mw_S} {Q : Option mw_V → mw_S → Prop} (hr : mw_rc a = 7) (h8 : (st.map mw_cat).sum ≤ 8) : mw_WP d 54 106 [l0, l1] (jR a :: st) σ Q ↔ mw_Call d 64 [jR a] σ (fun r1 s1 => mw_WP d 54 109 [l0, l1] (r1.toList ++ st) s1 Q) := WP_inv (as := []) mq54 dd54_106 (by decide) mq64 rfl hr h8
theorem dd54_109 : decode cX7_readOperand 109 = .ok (.istore_n 1, 1) := by decide +kernel
theorem ww54_109 {d : Nat} {l0 l1 : Option mw_V} {x : Int} {st : List mw_V} {σ : mw_S} {Q : Option mw_V → mw_S → Prop} (h : mw_nlo l0 = true) : mw_WP d 54 109 [l0, l1] (jI x :: st) σ Q ↔ mw_WP d 54 110 [l0, some (jI x)] st σ Q := WP_istore_n mq54 dd54_109 (Nat.le_of_ble_eq_true rfl) (mw_nl_of (i := 0) rfl h) rfl
theorem dd54_110 : decode cX7_readOperand 110 = .ok (.iload_n 1, 1) := by decide +kernel
theorem ww54_110 {d : Nat} {l0 : Option mw_V} {x : Int} {st : List mw_V} {σ : mw_S} {Q : Option mw_V → mw_S → Prop} : mw_WP d 54 110 [l0, some (jI x)] st σ Q ↔ mw_WP d 54 111 [l0, some (jI x)] (jI x :: st) σ Q := WP_iload_n mq54 dd54_110 rfl
theorem dd54_111 : decode cX7_readOperand 111 = .ok (.iconst (-1), 1) := by decide +kernel
theorem ww54_111 {d : Nat} {l0 l1 : Option mw_V} {st : List mw_V} {σ : mw_S} {Q : Option mw_V → mw_S → Prop} : mw_WP d 54 111 [l0, l1] st σ Q ↔ mw_WP d 54 112 [l0, l1] (jI (-1) :: st) σ Q := WP_iconst mq54 dd54_111 (by decide)
theorem dd54_112 : decode cX7_readOperand 112 = .ok (.if_icmp .ne 8, 3) := by decide +kernel
theorem ww54_112 {d : Nat} {l0 l1 : Option mw_V} {x y : Int} {st : List mw_V} {σ : mw_S} {Q : Option mw_V → mw_S → Prop} : mw_WP d 54 112 [l0, l1] (jI y :: jI x :: st) σ Q ↔ (if ¬ x = y then mw_WP d 54 120 [l0, l1] st σ Q else mw_WP d 54 115 [l0, l1] st σ Q) := WP_icmp_ne mq54 dd54_112 (by decide)
theorem dd54_115 : decode cX7_readOperand 115 = .ok (.aload_n 0, 1) := by decide +kernel
theorem ww54_115 {d : Nat} {l1 : Option mw_V} {x : Nat} {st : List mw_V} {σ : mw_S} {Q : Option mw_V → mw_S → Prop} : mw_WP d 54 115 [some (jR x), l1] st σ Q ↔ mw_WP d 54 116 [some (jR x), l1] (jR x :: st) σ Q := WP_aload_n mq54 dd54_115 rfl
theorem dd54_116 : decode cX7_readOperand 116 = .ok (.invokevirtual 86, 3) := by decide +kernel
theorem ww54_116 {d : Nat} {l0 l1 : Option mw_V} {a : Nat} {st : List mw_V} {σ : mw_S} {Q : Option mw_V → mw_S → Prop} (hr : mw_rc a = 7) (h8 : (st.map mw_cat).sum ≤ 8) : mw_WP d 54 116 [l0, l1] (jR a :: st) σ Q ↔ mw_Call d 70 [jR a] σ (fun r1 s1 => mw_WP d 54 119 [l0, l1] (r1.toList ++ st) s1 Q) := WP_inv (as := []) mq54 dd54_116 (by decide) mq70 rfl hr h8
theorem dd54_119 : decode cX7_readOperand 119 = .ok (.ireturn, 1) := by decide +kernel
theorem ww54_119 {d : Nat} {l0 l1 : Option mw_V} {z : Int} {σ : mw_S} {Q : Option mw_V → mw_S → Prop} (h : z = 0 ∨ z = 1) : mw_WP d 54 119 [l0, l1] [jI z] σ Q ↔ Q (some (jI z)) σ := WP_ireturn (ty := .boolean) mq54 dd54_119 rfl (by rcases h with rfl | rfl <;> decide)
theorem dd54_120 : decode cX7_readOperand 120 = .ok (.aload_n 0, 1) := by decide +kernel
theorem ww54_120 {d : Nat} {l1 : Option mw_V} {x : Nat} {st : List mw_V} {σ : mw_S} {Q : Option mw_V → mw_S → Prop} : mw_WP d 54 120 [some (jR x), l1] st σ Q ↔ mw_WP d 54 121 [some (jR x), l1] (jR x :: st) σ Q := WP_aload_n mq54 dd54_120 rfl
theorem dd54_121 : decode cX7_readOperand 121 = .ok (.getfield 18, 3) := by decide +kernel
theorem ww54_121 {d : Nat} {l0 l1 : Option mw_V} {st : List mw_V} {σ : mw_S} {Q : Option mw_V → mw_S → Prop} : mw_WP d 54 121 [l0, l1] (jR 1 :: st) σ Q ↔ mw_WP d 54 124 [l0, l1] (jR 3 :: st) σ Q := WP_getR (ci := 6) (k := 1) mq54 dd54_121 (by decide) rfl
theorem dd54_124 : decode cX7_readOperand 124 = .ok (.iload_n 1, 1) := by decide +kernel
theorem ww54_124 {d : Nat} {l0 : Option mw_V} {x : Int} {st : List mw_V} {σ : mw_S} {Q : Option mw_V → mw_S → Prop} : mw_WP d 54 124 [l0, some (jI x)] st σ Q ↔ mw_WP d 54 125 [l0, some (jI x)] (jI x :: st) σ Q := WP_iload_n mq54 dd54_124 rfl
theorem dd54_125 : decode cX7_readOperand 125 = .ok (.invokevirtual 202, 3) := by decide +kernel
theorem ww54_125 {d : Nat} {l0 l1 : Option mw_V} {v0 : mw_V} {a : Nat} {st : List mw_V} {σ : mw_S} {Q : Option mw_V → mw_S → Prop} (hr : mw_rc a = 1) (h8 : (st.map mw_cat).sum ≤ 8) : mw_WP d 54 125 [l0, l1] (v0 :: jR a :: st) σ Q ↔ mw_Call d 6 [jR a, v0] σ (fun r1 s1 => mw_WP d 54 128 [l0, l1] (r1.toList ++ st) s1 Q) := WP_inv (as := [v0]) mq54 dd54_125 (by decide) mq6 rfl hr h8
theorem dd54_128 : decode cX7_readOperand 128 = .ok (.aload_n 0, 1) := by decide +kernel
theorem ww54_128 {d : Nat} {l1 : Option mw_V} {x : Nat} {st : List mw_V} {σ : mw_S} {Q : Option mw_V → mw_S → Prop} : mw_WP d 54 128 [some (jR x), l1] st σ Q ↔ mw_WP d 54 129 [some (jR x), l1] (jR x :: st) σ Q := WP_aload_n mq54 dd54_128 rfl
theorem dd54_129 : decode cX7_readOperand 129 = .ok (.iconst 0, 1) := by decide +kernel
theorem ww54_129 {d : Nat} {l0 l1 : Option mw_V} {st : List mw_V} {σ : mw_S} {Q : Option mw_V → mw_S → Prop} : mw_WP d 54 129 [l0, l1] st σ Q ↔ mw_WP d 54 130 [l0, l1] (jI (0) :: st) σ Q := WP_iconst mq54 dd54_129 (by decide)
theorem dd54_130 : decode cX7_readOperand 130 = .ok (.putfield 182, 3) := by decide +kernel
theorem ww54_130 {d : Nat} {l0 l1 : Option mw_V} {v : Int} {st : List mw_V} {σ : mw_S} {Q : Option mw_V → mw_S → Prop} : mw_WP d 54 130 [l0, l1] (jI v :: jR 1 :: st) σ Q ↔ ((v = 0 ∨ v = 1) ∧ mw_WP d 54 133 [l0, l1] st (upS σ 1 16 v) Q) := WP_putZ (ci := 6) (k := 16) mq54 dd54_130 (by decide) rfl
theorem dd54_133 : decode cX7_readOperand 133 = .ok (.aload_n 0, 1) := by decide +kernel
theorem ww54_133 {d : Nat} {l1 : Option mw_V} {x : Nat} {st : List mw_V} {σ : mw_S} {Q : Option mw_V → mw_S → Prop} : mw_WP d 54 133 [some (jR x), l1] st σ Q ↔ mw_WP d 54 134 [some (jR x), l1] (jR x :: st) σ Q := WP_aload_n mq54 dd54_133 rfl
theorem dd54_134 : decode cX7_readOperand 134 = .ok (.iconst 0, 1) := by decide +kernel
theorem ww54_134 {d : Nat} {l0 l1 : Option mw_V} {st : List mw_V} {σ : mw_S} {Q : Option mw_V → mw_S → Prop} : mw_WP d 54 134 [l0, l1] st σ Q ↔ mw_WP d 54 135 [l0, l1] (jI (0) :: st) σ Q := WP_iconst mq54 dd54_134 (by decide)
theorem dd54_135 : decode cX7_readOperand 135 = .ok (.putfield 161, 3) := by decide +kernel
theorem ww54_135 {d : Nat} {l0 l1 : Option mw_V} {v : Int} {st : List mw_V} {σ : mw_S} {Q : Option mw_V → mw_S → Prop} : mw_WP d 54 135 [l0, l1] (jI v :: jR 1 :: st) σ Q ↔ ((v = 0 ∨ v = 1) ∧ mw_WP d 54 138 [l0, l1] st (upS σ 1 15 v) Q) := WP_putZ (ci := 6) (k := 15) mq54 dd54_135 (by decide) rfl
theorem dd54_138 : decode cX7_readOperand 138 = .ok (.iconst 1, 1) := by decide +kernel
theorem ww54_138 {d : Nat} {l0 l1 : Option mw_V} {st : List mw_V} {σ : mw_S} {Q : Option mw_V → mw_S → Prop} : mw_WP d 54 138 [l0, l1] st σ Q ↔ mw_WP d 54 139 [l0, l1] (jI (1) :: st) σ Q := WP_iconst mq54 dd54_138 (by decide)
theorem dd54_139 : decode cX7_readOperand 139 = .ok (.ireturn, 1) := by decide +kernel
theorem ww54_139 {d : Nat} {l0 l1 : Option mw_V} {z : Int} {σ : mw_S} {Q : Option mw_V → mw_S → Prop} (h : z = 0 ∨ z = 1) : mw_WP d 54 139 [l0, l1] [jI z] σ Q ↔ Q (some (jI z)) σ := WP_ireturn (ty := .boolean) mq54 dd54_139 rfl (by rcases h with rfl | rfl <;> decide)
theorem ee55 {d : Nat} {a : Nat} {z0 : Int} {σ : mw_S} {Q : Option mw_V → mw_S → Prop} : mw_Call (d + 1) 55 [jR a, jI z0] σ Q ↔ mw_WP d 55 0 [some (jR a), some (jI z0)] [] σ Q := CL_u mq55 (Nat.le_of_ble_eq_true rfl) rfl
theorem dd55_0 : decode cX7_goWithin 0 = .ok (.aload_n 0, 1) := by decide +kernel
theorem ww55_0 {d : Nat} {l1 : Option mw_V} {x : Nat} {st : List mw_V} {σ : mw_S} {Q : Option mw_V → mw_S → Prop} : mw_WP d 55 0 [some (jR x), l1] st σ Q ↔ mw_WP d 55 1 [some (jR x), l1] (jR x :: st) σ Q := WP_aload_n mq55 dd55_0 rfl
theorem dd55_1 : decode cX7_goWithin 1 = .ok (.getfield 149, 3) := by decide +kernel
theorem ww55_1 {d : Nat} {l0 l1 : Option mw_V} {st : List mw_V} {σ : mw_S} {Q : Option mw_V → mw_S → Prop} : mw_WP d 55 1 [l0, l1] (jR 1 :: st) σ Q ↔ mw_WP d 55 4 [l0, l1] (jI (σ 1 12) :: st) σ Q := WP_getI (ci := 6) (k := 12) mq55 dd55_1 (by decide) (Or.inl rfl)
theorem dd55_4 : decode cX7_goWithin 4 = .ok (.bipush 6, 2) := by decide +kernel
theorem ww55_4 {d : Nat} {l0 l1 : Option mw_V} {st : List mw_V} {σ : mw_S} {Q : Option mw_V → mw_S → Prop} : mw_WP d 55 4 [l0, l1] st σ Q ↔ mw_WP d 55 6 [l0, l1] (jI (6) :: st) σ Q := WP_bipush mq55 dd55_4 (by decide)
theorem dd55_6 : decode cX7_goWithin 6 = .ok (.if_icmp .lt 9, 3) := by decide +kernel
theorem ww55_6 {d : Nat} {l0 l1 : Option mw_V} {x y : Int} {st : List mw_V} {σ : mw_S} {Q : Option mw_V → mw_S → Prop} : mw_WP d 55 6 [l0, l1] (jI y :: jI x :: st) σ Q ↔ (if x < y then mw_WP d 55 15 [l0, l1] st σ Q else mw_WP d 55 9 [l0, l1] st σ Q) := WP_icmp_lt mq55 dd55_6 (by decide)
theorem dd55_9 : decode cX7_goWithin 9 = .ok (.aload_n 0, 1) := by decide +kernel
theorem ww55_9 {d : Nat} {l1 : Option mw_V} {x : Nat} {st : List mw_V} {σ : mw_S} {Q : Option mw_V → mw_S → Prop} : mw_WP d 55 9 [some (jR x), l1] st σ Q ↔ mw_WP d 55 10 [some (jR x), l1] (jR x :: st) σ Q := WP_aload_n mq55 dd55_9 rfl
theorem dd55_10 : decode cX7_goWithin 10 = .ok (.iconst 4, 1) := by decide +kernel
theorem ww55_10 {d : Nat} {l0 l1 : Option mw_V} {st : List mw_V} {σ : mw_S} {Q : Option mw_V → mw_S → Prop} : mw_WP d 55 10 [l0, l1] st σ Q ↔ mw_WP d 55 11 [l0, l1] (jI (4) :: st) σ Q := WP_iconst mq55 dd55_10 (by decide)
theorem dd55_11 : decode cX7_goWithin 11 = .ok (.invokevirtual 102, 3) := by decide +kernel
theorem ww55_11 {d : Nat} {l0 l1 : Option mw_V} {v0 : mw_V} {a : Nat} {st : List mw_V} {σ : mw_S} {Q : Option mw_V → mw_S → Prop} (hr : mw_rc a = 7) (h8 : (st.map mw_cat).sum ≤ 8) : mw_WP d 55 11 [l0, l1] (v0 :: jR a :: st) σ Q ↔ mw_Call d 71 [jR a, v0] σ (fun r1 s1 => mw_WP d 55 14 [l0, l1] (r1.toList ++ st) s1 Q) := WP_inv (as := [v0]) mq55 dd55_11 (by decide) mq71 rfl hr h8
theorem dd55_14 : decode cX7_goWithin 14 = .ok (.ireturn, 1) := by decide +kernel
theorem ww55_14 {d : Nat} {l0 l1 : Option mw_V} {z : Int} {σ : mw_S} {Q : Option mw_V → mw_S → Prop} (h : z = 0 ∨ z = 1) : mw_WP d 55 14 [l0, l1] [jI z] σ Q ↔ Q (some (jI z)) σ := WP_ireturn (ty := .boolean) mq55 dd55_14 rfl (by rcases h with rfl | rfl <;> decide)
theorem dd55_15 : decode cX7_goWithin 15 = .ok (.aload_n 0, 1) := by decide +kernel
theorem ww55_15 {d : Nat} {l1 : Option mw_V} {x : Nat} {st : List mw_V} {σ : mw_S} {Q : Option mw_V → mw_S → Prop} : mw_WP d 55 15 [some (jR x), l1] st σ Q ↔ mw_WP d 55 16 [some (jR x), l1] (jR x :: st) σ Q := WP_aload_n mq55 dd55_15 rfl
theorem dd55_16 : decode cX7_goWithin 16 = .ok (.dup, 1) := by decide +kernel
theorem ww55_16 {d : Nat} {l0 l1 : Option mw_V} {v : mw_V} {st : List mw_V} {σ : mw_S} {Q : Option mw_V → mw_S → Prop} (h : mw_cat v = 1) : mw_WP d 55 16 [l0, l1] (v :: st) σ Q ↔ mw_WP d 55 17 [l0, l1] (v :: v :: st) σ Q := WP_dup mq55 dd55_16 h
theorem dd55_17 : decode cX7_goWithin 17 = .ok (.getfield 149, 3) := by decide +kernel
theorem ww55_17 {d : Nat} {l0 l1 : Option mw_V} {st : List mw_V} {σ : mw_S} {Q : Option mw_V → mw_S → Prop} : mw_WP d 55 17 [l0, l1] (jR 1 :: st) σ Q ↔ mw_WP d 55 20 [l0, l1] (jI (σ 1 12) :: st) σ Q := WP_getI (ci := 6) (k := 12) mq55 dd55_17 (by decide) (Or.inl rfl)
theorem dd55_20 : decode cX7_goWithin 20 = .ok (.iconst 1, 1) := by decide +kernel
theorem ww55_20 {d : Nat} {l0 l1 : Option mw_V} {st : List mw_V} {σ : mw_S} {Q : Option mw_V → mw_S → Prop} : mw_WP d 55 20 [l0, l1] st σ Q ↔ mw_WP d 55 21 [l0, l1] (jI (1) :: st) σ Q := WP_iconst mq55 dd55_20 (by decide)
theorem dd55_21 : decode cX7_goWithin 21 = .ok (.iadd, 1) := by decide +kernel
theorem ww55_21 {d : Nat} {l0 l1 : Option mw_V} {x y : Int} {st : List mw_V} {σ : mw_S} {Q : Option mw_V → mw_S → Prop} : mw_WP d 55 21 [l0, l1] (jI y :: jI x :: st) σ Q ↔ mw_WP d 55 22 [l0, l1] (jI (w32 (x + y)) :: st) σ Q := WP_iadd mq55 dd55_21
theorem dd55_22 : decode cX7_goWithin 22 = .ok (.putfield 149, 3) := by decide +kernel
theorem ww55_22 {d : Nat} {l0 l1 : Option mw_V} {v : Int} {st : List mw_V} {σ : mw_S} {Q : Option mw_V → mw_S → Prop} : mw_WP d 55 22 [l0, l1] (jI v :: jR 1 :: st) σ Q ↔ mw_WP d 55 25 [l0, l1] st (upS σ 1 12 v) Q := WP_putI (ci := 6) (k := 12) mq55 dd55_22 (by decide) rfl
theorem dd55_25 : decode cX7_goWithin 25 = .ok (.aload_n 0, 1) := by decide +kernel
theorem ww55_25 {d : Nat} {l1 : Option mw_V} {x : Nat} {st : List mw_V} {σ : mw_S} {Q : Option mw_V → mw_S → Prop} : mw_WP d 55 25 [some (jR x), l1] st σ Q ↔ mw_WP d 55 26 [some (jR x), l1] (jR x :: st) σ Q := WP_aload_n mq55 dd55_25 rfl
theorem dd55_26 : decode cX7_goWithin 26 = .ok (.iload_n 1, 1) := by decide +kernel
theorem ww55_26 {d : Nat} {l0 : Option mw_V} {x : Int} {st : List mw_V} {σ : mw_S} {Q : Option mw_V → mw_S → Prop} : mw_WP d 55 26 [l0, some (jI x)] st σ Q ↔ mw_WP d 55 27 [l0, some (jI x)] (jI x :: st) σ Q := WP_iload_n mq55 dd55_26 rfl
theorem dd55_27 : decode cX7_goWithin 27 = .ok (.invokevirtual 205, 3) := by decide +kernel
theorem ww55_27 {d : Nat} {l0 l1 : Option mw_V} {v0 : mw_V} {a : Nat} {st : List mw_V} {σ : mw_S} {Q : Option mw_V → mw_S → Prop} (hr : mw_rc a = 7) (h8 : (st.map mw_cat).sum ≤ 8) : mw_WP d 55 27 [l0, l1] (v0 :: jR a :: st) σ Q ↔ mw_Call d 59 [jR a, v0] σ (fun r1 s1 => mw_WP d 55 30 [l0, l1] (r1.toList ++ st) s1 Q) := WP_inv (as := [v0]) mq55 dd55_27 (by decide) mq59 rfl hr h8
theorem dd55_30 : decode cX7_goWithin 30 = .ok (.iconst 1, 1) := by decide +kernel
theorem ww55_30 {d : Nat} {l0 l1 : Option mw_V} {st : List mw_V} {σ : mw_S} {Q : Option mw_V → mw_S → Prop} : mw_WP d 55 30 [l0, l1] st σ Q ↔ mw_WP d 55 31 [l0, l1] (jI (1) :: st) σ Q := WP_iconst mq55 dd55_30 (by decide)
theorem dd55_31 : decode cX7_goWithin 31 = .ok (.ireturn, 1) := by decide +kernel
theorem ww55_31 {d : Nat} {l0 l1 : Option mw_V} {z : Int} {σ : mw_S} {Q : Option mw_V → mw_S → Prop} (h : z = 0 ∨ z = 1) : mw_WP d 55 31 [l0, l1] [jI z] σ Q ↔ Q (some (jI z)) σ := WP_ireturn (ty := .boolean) mq55 dd55_31 rfl (by rcases h with rfl | rfl <;> decide)
theorem ee56 {d : Nat} {a : Nat} {σ : mw_S} {Q : Option mw_V → mw_S → Prop} : mw_Call (d + 1) 56 [jR a] σ Q ↔ mw_WP d 56 0 [some (jR a), none, none] [] σ Q := CL_u mq56 (Nat.le_of_ble_eq_true rfl) rfl
theorem dd56_0 : decode cX7_readSumSign 0 = .ok (.aload_n 0, 1) := by decide +kernel
theorem ww56_0 {d : Nat} {l1 l2 : Option mw_V} {x : Nat} {st : List mw_V} {σ : mw_S} {Q : Option mw_V → mw_S → Prop} : mw_WP d 56 0 [some (jR x), l1, l2] st σ Q ↔ mw_WP d 56 1 [some (jR x), l1, l2] (jR x :: st) σ Q := WP_aload_n mq56 dd56_0 rfl
theorem dd56_1 : decode cX7_readSumSign 1 = .ok (.getfield 188, 3) := by decide +kernel
theorem ww56_1 {d : Nat} {l0 l1 l2 : Option mw_V} {st : List mw_V} {σ : mw_S} {Q : Option mw_V → mw_S → Prop} : mw_WP d 56 1 [l0, l1, l2] (jR 1 :: st) σ Q ↔ mw_WP d 56 4 [l0, l1, l2] (jI (σ 1 18) :: st) σ Q := WP_getI (ci := 6) (k := 18) mq56 dd56_1 (by decide) (Or.inr rfl)
theorem dd56_4 : decode cX7_readSumSign 4 = .ok (.ifCond .ne 11, 3) := by decide +kernel
theorem ww56_4 {d : Nat} {l0 l1 l2 : Option mw_V} {x : Int} {st : List mw_V} {σ : mw_S} {Q : Option mw_V → mw_S → Prop} : mw_WP d 56 4 [l0, l1, l2] (jI x :: st) σ Q ↔ (if ¬ x = 0 then mw_WP d 56 15 [l0, l1, l2] st σ Q else mw_WP d 56 7 [l0, l1, l2] st σ Q) := WP_if_ne mq56 dd56_4 (by decide)
theorem dd56_7 : decode cX7_readSumSign 7 = .ok (.aload_n 0, 1) := by decide +kernel
theorem ww56_7 {d : Nat} {l1 l2 : Option mw_V} {x : Nat} {st : List mw_V} {σ : mw_S} {Q : Option mw_V → mw_S → Prop} : mw_WP d 56 7 [some (jR x), l1, l2] st σ Q ↔ mw_WP d 56 8 [some (jR x), l1, l2] (jR x :: st) σ Q := WP_aload_n mq56 dd56_7 rfl
theorem dd56_8 : decode cX7_readSumSign 8 = .ok (.getfield 53, 3) := by decide +kernel
theorem ww56_8 {d : Nat} {l0 l1 l2 : Option mw_V} {st : List mw_V} {σ : mw_S} {Q : Option mw_V → mw_S → Prop} : mw_WP d 56 8 [l0, l1, l2] (jR 1 :: st) σ Q ↔ mw_WP d 56 11 [l0, l1, l2] (jI (σ 1 8) :: st) σ Q := WP_getI (ci := 6) (k := 8) mq56 dd56_8 (by decide) (Or.inl rfl)
theorem dd56_11 : decode cX7_readSumSign 11 = .ok (.iconst 4, 1) := by decide +kernel
theorem ww56_11 {d : Nat} {l0 l1 l2 : Option mw_V} {st : List mw_V} {σ : mw_S} {Q : Option mw_V → mw_S → Prop} : mw_WP d 56 11 [l0, l1, l2] st σ Q ↔ mw_WP d 56 12 [l0, l1, l2] (jI (4) :: st) σ Q := WP_iconst mq56 dd56_11 (by decide)
theorem dd56_12 : decode cX7_readSumSign 12 = .ok (.if_icmp .eq 5, 3) := by decide +kernel
theorem ww56_12 {d : Nat} {l0 l1 l2 : Option mw_V} {x y : Int} {st : List mw_V} {σ : mw_S} {Q : Option mw_V → mw_S → Prop} : mw_WP d 56 12 [l0, l1, l2] (jI y :: jI x :: st) σ Q ↔ (if x = y then mw_WP d 56 17 [l0, l1, l2] st σ Q else mw_WP d 56 15 [l0, l1, l2] st σ Q) := WP_icmp_eq mq56 dd56_12 (by decide)
theorem dd56_15 : decode cX7_readSumSign 15 = .ok (.iconst 0, 1) := by decide +kernel
theorem ww56_15 {d : Nat} {l0 l1 l2 : Option mw_V} {st : List mw_V} {σ : mw_S} {Q : Option mw_V → mw_S → Prop} : mw_WP d 56 15 [l0, l1, l2] st σ Q ↔ mw_WP d 56 16 [l0, l1, l2] (jI (0) :: st) σ Q := WP_iconst mq56 dd56_15 (by decide)
theorem dd56_16 : decode cX7_readSumSign 16 = .ok (.ireturn, 1) := by decide +kernel
theorem ww56_16 {d : Nat} {l0 l1 l2 : Option mw_V} {z : Int} {σ : mw_S} {Q : Option mw_V → mw_S → Prop} (h : z = 0 ∨ z = 1) : mw_WP d 56 16 [l0, l1, l2] [jI z] σ Q ↔ Q (some (jI z)) σ := WP_ireturn (ty := .boolean) mq56 dd56_16 rfl (by rcases h with rfl | rfl <;> decide)
theorem dd56_17 : decode cX7_readSumSign 17 = .ok (.aload_n 0, 1) := by decide +kernel
theorem ww56_17 {d : Nat} {l1 l2 : Option mw_V} {x : Nat} {st : List mw_V} {σ : mw_S} {Q : Option mw_V → mw_S → Prop} : mw_WP d 56 17 [some (jR x), l1, l2] st σ Q ↔ mw_WP d 56 18 [some (jR x), l1, l2] (jR x :: st) σ Q := WP_aload_n mq56 dd56_17 rfl
theorem dd56_18 : decode cX7_readSumSign 18 = .ok (.getfield 110, 3) := by decide +kernel
theorem ww56_18 {d : Nat} {l0 l1 l2 : Option mw_V} {st : List mw_V} {σ : mw_S} {Q : Option mw_V → mw_S → Prop} : mw_WP d 56 18 [l0, l1, l2] (jR 1 :: st) σ Q ↔ mw_WP d 56 21 [l0, l1, l2] (jI (σ 1 9) :: st) σ Q := WP_getI (ci := 6) (k := 9) mq56 dd56_18 (by decide) (Or.inl rfl)
theorem dd56_21 : decode cX7_readSumSign 21 = .ok (.bipush 41, 2) := by decide +kernel
theorem ww56_21 {d : Nat} {l0 l1 l2 : Option mw_V} {st : List mw_V} {σ : mw_S} {Q : Option mw_V → mw_S → Prop} : mw_WP d 56 21 [l0, l1, l2] st σ Q ↔ mw_WP d 56 23 [l0, l1, l2] (jI (41) :: st) σ Q := WP_bipush mq56 dd56_21 (by decide)
theorem dd56_23 : decode cX7_readSumSign 23 = .ok (.if_icmp .ne 29, 3) := by decide +kernel
theorem ww56_23 {d : Nat} {l0 l1 l2 : Option mw_V} {x y : Int} {st : List mw_V} {σ : mw_S} {Q : Option mw_V → mw_S → Prop} : mw_WP d 56 23 [l0, l1, l2] (jI y :: jI x :: st) σ Q ↔ (if ¬ x = y then mw_WP d 56 52 [l0, l1, l2] st σ Q else mw_WP d 56 26 [l0, l1, l2] st σ Q) := WP_icmp_ne mq56 dd56_23 (by decide)
theorem dd56_26 : decode cX7_readSumSign 26 = .ok (.aload_n 0, 1) := by decide +kernel
theorem ww56_26 {d : Nat} {l1 l2 : Option mw_V} {x : Nat} {st : List mw_V} {σ : mw_S} {Q : Option mw_V → mw_S → Prop} : mw_WP d 56 26 [some (jR x), l1, l2] st σ Q ↔ mw_WP d 56 27 [some (jR x), l1, l2] (jR x :: st) σ Q := WP_aload_n mq56 dd56_26 rfl
theorem dd56_27 : decode cX7_readSumSign 27 = .ok (.getfield 152, 3) := by decide +kernel
theorem ww56_27 {d : Nat} {l0 l1 l2 : Option mw_V} {st : List mw_V} {σ : mw_S} {Q : Option mw_V → mw_S → Prop} : mw_WP d 56 27 [l0, l1, l2] (jR 1 :: st) σ Q ↔ mw_WP d 56 30 [l0, l1, l2] (jI (σ 1 13) :: st) σ Q := WP_getI (ci := 6) (k := 13) mq56 dd56_27 (by decide) (Or.inl rfl)
theorem dd56_30 : decode cX7_readSumSign 30 = .ok (.ifCond .le 22, 3) := by decide +kernel
theorem ww56_30 {d : Nat} {l0 l1 l2 : Option mw_V} {x : Int} {st : List mw_V} {σ : mw_S} {Q : Option mw_V → mw_S → Prop} : mw_WP d 56 30 [l0, l1, l2] (jI x :: st) σ Q ↔ (if x ≤ 0 then mw_WP d 56 52 [l0, l1, l2] st σ Q else mw_WP d 56 33 [l0, l1, l2] st σ Q) := WP_if_le mq56 dd56_30 (by decide)
theorem dd56_33 : decode cX7_readSumSign 33 = .ok (.aload_n 0, 1) := by decide +kernel
theorem ww56_33 {d : Nat} {l1 l2 : Option mw_V} {x : Nat} {st : List mw_V} {σ : mw_S} {Q : Option mw_V → mw_S → Prop} : mw_WP d 56 33 [some (jR x), l1, l2] st σ Q ↔ mw_WP d 56 34 [some (jR x), l1, l2] (jR x :: st) σ Q := WP_aload_n mq56 dd56_33 rfl
theorem dd56_34 : decode cX7_readSumSign 34 = .ok (.sipush 1019, 3) := by decide +kernel
theorem ww56_34 {d : Nat} {l0 l1 l2 : Option mw_V} {st : List mw_V} {σ : mw_S} {Q : Option mw_V → mw_S → Prop} : mw_WP d 56 34 [l0, l1, l2] st σ Q ↔ mw_WP d 56 37 [l0, l1, l2] (jI (1019) :: st) σ Q := WP_sipush mq56 dd56_34 (by decide)
theorem dd56_37 : decode cX7_readSumSign 37 = .ok (.invokevirtual 170, 3) := by decide +kernel
theorem ww56_37 {d : Nat} {l0 l1 l2 : Option mw_V} {v0 : mw_V} {a : Nat} {st : List mw_V} {σ : mw_S} {Q : Option mw_V → mw_S → Prop} (hr : mw_rc a = 7) (h8 : (st.map mw_cat).sum ≤ 8) : mw_WP d 56 37 [l0, l1, l2] (v0 :: jR a :: st) σ Q ↔ mw_Call d 60 [jR a, v0] σ (fun r1 s1 => mw_WP d 56 40 [l0, l1, l2] (r1.toList ++ st) s1 Q) := WP_inv (as := [v0]) mq56 dd56_37 (by decide) mq60 rfl hr h8
theorem dd56_40 : decode cX7_readSumSign 40 = .ok (.aload_n 0, 1) := by decide +kernel
theorem ww56_40 {d : Nat} {l1 l2 : Option mw_V} {x : Nat} {st : List mw_V} {σ : mw_S} {Q : Option mw_V → mw_S → Prop} : mw_WP d 56 40 [some (jR x), l1, l2] st σ Q ↔ mw_WP d 56 41 [some (jR x), l1, l2] (jR x :: st) σ Q := WP_aload_n mq56 dd56_40 rfl
theorem dd56_41 : decode cX7_readSumSign 41 = .ok (.dup, 1) := by decide +kernel
theorem ww56_41 {d : Nat} {l0 l1 l2 : Option mw_V} {v : mw_V} {st : List mw_V} {σ : mw_S} {Q : Option mw_V → mw_S → Prop} (h : mw_cat v = 1) : mw_WP d 56 41 [l0, l1, l2] (v :: st) σ Q ↔ mw_WP d 56 42 [l0, l1, l2] (v :: v :: st) σ Q := WP_dup mq56 dd56_41 h
theorem dd56_42 : decode cX7_readSumSign 42 = .ok (.getfield 152, 3) := by decide +kernel
theorem ww56_42 {d : Nat} {l0 l1 l2 : Option mw_V} {st : List mw_V} {σ : mw_S} {Q : Option mw_V → mw_S → Prop} : mw_WP d 56 42 [l0, l1, l2] (jR 1 :: st) σ Q ↔ mw_WP d 56 45 [l0, l1, l2] (jI (σ 1 13) :: st) σ Q := WP_getI (ci := 6) (k := 13) mq56 dd56_42 (by decide) (Or.inl rfl)
theorem dd56_45 : decode cX7_readSumSign 45 = .ok (.iconst 1, 1) := by decide +kernel
theorem ww56_45 {d : Nat} {l0 l1 l2 : Option mw_V} {st : List mw_V} {σ : mw_S} {Q : Option mw_V → mw_S → Prop} : mw_WP d 56 45 [l0, l1, l2] st σ Q ↔ mw_WP d 56 46 [l0, l1, l2] (jI (1) :: st) σ Q := WP_iconst mq56 dd56_45 (by decide)
theorem dd56_46 : decode cX7_readSumSign 46 = .ok (.isub, 1) := by decide +kernel
theorem ww56_46 {d : Nat} {l0 l1 l2 : Option mw_V} {x y : Int} {st : List mw_V} {σ : mw_S} {Q : Option mw_V → mw_S → Prop} : mw_WP d 56 46 [l0, l1, l2] (jI y :: jI x :: st) σ Q ↔ mw_WP d 56 47 [l0, l1, l2] (jI (w32 (x - y)) :: st) σ Q := WP_isub mq56 dd56_46
theorem dd56_47 : decode cX7_readSumSign 47 = .ok (.putfield 152, 3) := by decide +kernel
theorem ww56_47 {d : Nat} {l0 l1 l2 : Option mw_V} {v : Int} {st : List mw_V} {σ : mw_S} {Q : Option mw_V → mw_S → Prop} : mw_WP d 56 47 [l0, l1, l2] (jI v :: jR 1 :: st) σ Q ↔ mw_WP d 56 50 [l0, l1, l2] st (upS σ 1 13 v) Q := WP_putI (ci := 6) (k := 13) mq56 dd56_47 (by decide) rfl
theorem dd56_50 : decode cX7_readSumSign 50 = .ok (.iconst 1, 1) := by decide +kernel
theorem ww56_50 {d : Nat} {l0 l1 l2 : Option mw_V} {st : List mw_V} {σ : mw_S} {Q : Option mw_V → mw_S → Prop} : mw_WP d 56 50 [l0, l1, l2] st σ Q ↔ mw_WP d 56 51 [l0, l1, l2] (jI (1) :: st) σ Q := WP_iconst mq56 dd56_50 (by decide)
theorem dd56_51 : decode cX7_readSumSign 51 = .ok (.ireturn, 1) := by decide +kernel
theorem ww56_51 {d : Nat} {l0 l1 l2 : Option mw_V} {z : Int} {σ : mw_S} {Q : Option mw_V → mw_S → Prop} (h : z = 0 ∨ z = 1) : mw_WP d 56 51 [l0, l1, l2] [jI z] σ Q ↔ Q (some (jI z)) σ := WP_ireturn (ty := .boolean) mq56 dd56_51 rfl (by rcases h with rfl | rfl <;> decide)
theorem dd56_52 : decode cX7_readSumSign 52 = .ok (.aload_n 0, 1) := by decide +kernel
theorem ww56_52 {d : Nat} {l1 l2 : Option mw_V} {x : Nat} {st : List mw_V} {σ : mw_S} {Q : Option mw_V → mw_S → Prop} : mw_WP d 56 52 [some (jR x), l1, l2] st σ Q ↔ mw_WP d 56 53 [some (jR x), l1, l2] (jR x :: st) σ Q := WP_aload_n mq56 dd56_52 rfl
theorem dd56_53 : decode cX7_readSumSign 53 = .ok (.invokevirtual 208, 3) := by decide +kernel
theorem ww56_53 {d : Nat} {l0 l1 l2 : Option mw_V} {a : Nat} {st : List mw_V} {σ : mw_S} {Q : Option mw_V → mw_S → Prop} (hr : mw_rc a = 7) (h8 : (st.map mw_cat).sum ≤ 8) : mw_WP d 56 53 [l0, l1, l2] (jR a :: st) σ Q ↔ mw_Call d 63 [jR a] σ (fun r1 s1 => mw_WP d 56 56 [l0, l1, l2] (r1.toList ++ st) s1 Q) := WP_inv (as := []) mq56 dd56_53 (by decide) mq63 rfl hr h8
theorem dd56_56 : decode cX7_readSumSign 56 = .ok (.istore_n 1, 1) := by decide +kernel
theorem ww56_56 {d : Nat} {l0 l1 l2 : Option mw_V} {x : Int} {st : List mw_V} {σ : mw_S} {Q : Option mw_V → mw_S → Prop} (h : mw_nlo l0 = true) : mw_WP d 56 56 [l0, l1, l2] (jI x :: st) σ Q ↔ mw_WP d 56 57 [l0, some (jI x), l2] st σ Q := WP_istore_n mq56 dd56_56 (Nat.le_of_ble_eq_true rfl) (mw_nl_of (i := 0) rfl h) rfl
theorem dd56_57 : decode cX7_readSumSign 57 = .ok (.iload_n 1, 1) := by decide +kernel
theorem ww56_57 {d : Nat} {l0 l2 : Option mw_V} {x : Int} {st : List mw_V} {σ : mw_S} {Q : Option mw_V → mw_S → Prop} : mw_WP d 56 57 [l0, some (jI x), l2] st σ Q ↔ mw_WP d 56 58 [l0, some (jI x), l2] (jI x :: st) σ Q := WP_iload_n mq56 dd56_57 rfl
theorem dd56_58 : decode cX7_readSumSign 58 = .ok (.sipush 1014, 3) := by decide +kernel
theorem ww56_58 {d : Nat} {l0 l1 l2 : Option mw_V} {st : List mw_V} {σ : mw_S} {Q : Option mw_V → mw_S → Prop} : mw_WP d 56 58 [l0, l1, l2] st σ Q ↔ mw_WP d 56 61 [l0, l1, l2] (jI (1014) :: st) σ Q := WP_sipush mq56 dd56_58 (by decide)
theorem dd56_61 : decode cX7_readSumSign 61 = .ok (.if_icmp .eq 17, 3) := by decide +kernel
theorem ww56_61 {d : Nat} {l0 l1 l2 : Option mw_V} {x y : Int} {st : List mw_V} {σ : mw_S} {Q : Option mw_V → mw_S → Prop} : mw_WP d 56 61 [l0, l1, l2] (jI y :: jI x :: st) σ Q ↔ (if x = y then mw_WP d 56 78 [l0, l1, l2] st σ Q else mw_WP d 56 64 [l0, l1, l2] st σ Q) := WP_icmp_eq mq56 dd56_61 (by decide)
theorem dd56_64 : decode cX7_readSumSign 64 = .ok (.iload_n 1, 1) := by decide +kernel
theorem ww56_64 {d : Nat} {l0 l2 : Option mw_V} {x : Int} {st : List mw_V} {σ : mw_S} {Q : Option mw_V → mw_S → Prop} : mw_WP d 56 64 [l0, some (jI x), l2] st σ Q ↔ mw_WP d 56 65 [l0, some (jI x), l2] (jI x :: st) σ Q := WP_iload_n mq56 dd56_64 rfl
theorem dd56_65 : decode cX7_readSumSign 65 = .ok (.sipush 1015, 3) := by decide +kernel
theorem ww56_65 {d : Nat} {l0 l1 l2 : Option mw_V} {st : List mw_V} {σ : mw_S} {Q : Option mw_V → mw_S → Prop} : mw_WP d 56 65 [l0, l1, l2] st σ Q ↔ mw_WP d 56 68 [l0, l1, l2] (jI (1015) :: st) σ Q := WP_sipush mq56 dd56_65 (by decide)
theorem dd56_68 : decode cX7_readSumSign 68 = .ok (.if_icmp .eq 10, 3) := by decide +kernel
theorem ww56_68 {d : Nat} {l0 l1 l2 : Option mw_V} {x y : Int} {st : List mw_V} {σ : mw_S} {Q : Option mw_V → mw_S → Prop} : mw_WP d 56 68 [l0, l1, l2] (jI y :: jI x :: st) σ Q ↔ (if x = y then mw_WP d 56 78 [l0, l1, l2] st σ Q else mw_WP d 56 71 [l0, l1, l2] st σ Q) := WP_icmp_eq mq56 dd56_68 (by decide)
theorem dd56_71 : decode cX7_readSumSign 71 = .ok (.iload_n 1, 1) := by decide +kernel
theorem ww56_71 {d : Nat} {l0 l2 : Option mw_V} {x : Int} {st : List mw_V} {σ : mw_S} {Q : Option mw_V → mw_S → Prop} : mw_WP d 56 71 [l0, some (jI x), l2] st σ Q ↔ mw_WP d 56 72 [l0, some (jI x), l2] (jI x :: st) σ Q := WP_iload_n mq56 dd56_71 rfl
theorem dd56_72 : decode cX7_readSumSign 72 = .ok (.sipush 1016, 3) := by decide +kernel
theorem ww56_72 {d : Nat} {l0 l1 l2 : Option mw_V} {st : List mw_V} {σ : mw_S} {Q : Option mw_V → mw_S → Prop} : mw_WP d 56 72 [l0, l1, l2] st σ Q ↔ mw_WP d 56 75 [l0, l1, l2] (jI (1016) :: st) σ Q := WP_sipush mq56 dd56_72 (by decide)
theorem dd56_75 : decode cX7_readSumSign 75 = .ok (.if_icmp .ne 7, 3) := by decide +kernel
theorem ww56_75 {d : Nat} {l0 l1 l2 : Option mw_V} {x y : Int} {st : List mw_V} {σ : mw_S} {Q : Option mw_V → mw_S → Prop} : mw_WP d 56 75 [l0, l1, l2] (jI y :: jI x :: st) σ Q ↔ (if ¬ x = y then mw_WP d 56 82 [l0, l1, l2] st σ Q else mw_WP d 56 78 [l0, l1, l2] st σ Q) := WP_icmp_ne mq56 dd56_75 (by decide)
theorem dd56_78 : decode cX7_readSumSign 78 = .ok (.iconst 1, 1) := by decide +kernel
theorem ww56_78 {d : Nat} {l0 l1 l2 : Option mw_V} {st : List mw_V} {σ : mw_S} {Q : Option mw_V → mw_S → Prop} : mw_WP d 56 78 [l0, l1, l2] st σ Q ↔ mw_WP d 56 79 [l0, l1, l2] (jI (1) :: st) σ Q := WP_iconst mq56 dd56_78 (by decide)
theorem dd56_79 : decode cX7_readSumSign 79 = .ok (.goto 4, 3) := by decide +kernel
theorem ww56_79 {d : Nat} {l0 l1 l2 : Option mw_V} {st : List mw_V} {σ : mw_S} {Q : Option mw_V → mw_S → Prop} : mw_WP d 56 79 [l0, l1, l2] st σ Q ↔ mw_WP d 56 83 [l0, l1, l2] st σ Q := WP_goto mq56 dd56_79 (by decide)
theorem dd56_82 : decode cX7_readSumSign 82 = .ok (.iconst 0, 1) := by decide +kernel
theorem ww56_82 {d : Nat} {l0 l1 l2 : Option mw_V} {st : List mw_V} {σ : mw_S} {Q : Option mw_V → mw_S → Prop} : mw_WP d 56 82 [l0, l1, l2] st σ Q ↔ mw_WP d 56 83 [l0, l1, l2] (jI (0) :: st) σ Q := WP_iconst mq56 dd56_82 (by decide)
theorem dd56_83 : decode cX7_readSumSign 83 = .ok (.istore_n 2, 1) := by decide +kernel
theorem ww56_83 {d : Nat} {l0 l1 l2 : Option mw_V} {x : Int} {st : List mw_V} {σ : mw_S} {Q : Option mw_V → mw_S → Prop} (h : mw_nlo l1 = true) : mw_WP d 56 83 [l0, l1, l2] (jI x :: st) σ Q ↔ mw_WP d 56 84 [l0, l1, some (jI x)] st σ Q := WP_istore_n mq56 dd56_83 (Nat.le_of_ble_eq_true rfl) (mw_nl_of (i := 1) rfl h) rfl
theorem dd56_84 : decode cX7_readSumSign 84 = .ok (.iload_n 1, 1) := by decide +kernel
theorem ww56_84 {d : Nat} {l0 l2 : Option mw_V} {x : Int} {st : List mw_V} {σ : mw_S} {Q : Option mw_V → mw_S → Prop} : mw_WP d 56 84 [l0, some (jI x), l2] st σ Q ↔ mw_WP d 56 85 [l0, some (jI x), l2] (jI x :: st) σ Q := WP_iload_n mq56 dd56_84 rfl
theorem dd56_85 : decode cX7_readSumSign 85 = .ok (.iconst (-1), 1) := by decide +kernel
theorem ww56_85 {d : Nat} {l0 l1 l2 : Option mw_V} {st : List mw_V} {σ : mw_S} {Q : Option mw_V → mw_S → Prop} : mw_WP d 56 85 [l0, l1, l2] st σ Q ↔ mw_WP d 56 86 [l0, l1, l2] (jI (-1) :: st) σ Q := WP_iconst mq56 dd56_85 (by decide)
theorem dd56_86 : decode cX7_readSumSign 86 = .ok (.if_icmp .eq 21, 3) := by decide +kernel
theorem ww56_86 {d : Nat} {l0 l1 l2 : Option mw_V} {x y : Int} {st : List mw_V} {σ : mw_S} {Q : Option mw_V → mw_S → Prop} : mw_WP d 56 86 [l0, l1, l2] (jI y :: jI x :: st) σ Q ↔ (if x = y then mw_WP d 56 107 [l0, l1, l2] st σ Q else mw_WP d 56 89 [l0, l1, l2] st σ Q) := WP_icmp_eq mq56 dd56_86 (by decide)
theorem dd56_89 : decode cX7_readSumSign 89 = .ok (.iload_n 2, 1) := by decide +kernel
theorem ww56_89 {d : Nat} {l0 l1 : Option mw_V} {x : Int} {st : List mw_V} {σ : mw_S} {Q : Option mw_V → mw_S → Prop} : mw_WP d 56 89 [l0, l1, some (jI x)] st σ Q ↔ mw_WP d 56 90 [l0, l1, some (jI x)] (jI x :: st) σ Q := WP_iload_n mq56 dd56_89 rfl
theorem dd56_90 : decode cX7_readSumSign 90 = .ok (.ifCond .eq 19, 3) := by decide +kernel
theorem ww56_90 {d : Nat} {l0 l1 l2 : Option mw_V} {x : Int} {st : List mw_V} {σ : mw_S} {Q : Option mw_V → mw_S → Prop} : mw_WP d 56 90 [l0, l1, l2] (jI x :: st) σ Q ↔ (if x = 0 then mw_WP d 56 109 [l0, l1, l2] st σ Q else mw_WP d 56 93 [l0, l1, l2] st σ Q) := WP_if_eq mq56 dd56_90 (by decide)
theorem dd56_93 : decode cX7_readSumSign 93 = .ok (.aload_n 0, 1) := by decide +kernel
theorem ww56_93 {d : Nat} {l1 l2 : Option mw_V} {x : Nat} {st : List mw_V} {σ : mw_S} {Q : Option mw_V → mw_S → Prop} : mw_WP d 56 93 [some (jR x), l1, l2] st σ Q ↔ mw_WP d 56 94 [some (jR x), l1, l2] (jR x :: st) σ Q := WP_aload_n mq56 dd56_93 rfl
theorem dd56_94 : decode cX7_readSumSign 94 = .ok (.getfield 185, 3) := by decide +kernel
theorem ww56_94 {d : Nat} {l0 l1 l2 : Option mw_V} {st : List mw_V} {σ : mw_S} {Q : Option mw_V → mw_S → Prop} : mw_WP d 56 94 [l0, l1, l2] (jR 1 :: st) σ Q ↔ mw_WP d 56 97 [l0, l1, l2] (jI (σ 1 17) :: st) σ Q := WP_getI (ci := 6) (k := 17) mq56 dd56_94 (by decide) (Or.inr rfl)
theorem dd56_97 : decode cX7_readSumSign 97 = .ok (.ifCond .ne 10, 3) := by decide +kernel
theorem ww56_97 {d : Nat} {l0 l1 l2 : Option mw_V} {x : Int} {st : List mw_V} {σ : mw_S} {Q : Option mw_V → mw_S → Prop} : mw_WP d 56 97 [l0, l1, l2] (jI x :: st) σ Q ↔ (if ¬ x = 0 then mw_WP d 56 107 [l0, l1, l2] st σ Q else mw_WP d 56 100 [l0, l1, l2] st σ Q) := WP_if_ne mq56 dd56_97 (by decide)
theorem dd56_100 : decode cX7_readSumSign 100 = .ok (.aload_n 0, 1) := by decide +kernel
theorem ww56_100 {d : Nat} {l1 l2 : Option mw_V} {x : Nat} {st : List mw_V} {σ : mw_S} {Q : Option mw_V → mw_S → Prop} : mw_WP d 56 100 [some (jR x), l1, l2] st σ Q ↔ mw_WP d 56 101 [some (jR x), l1, l2] (jR x :: st) σ Q := WP_aload_n mq56 dd56_100 rfl
theorem dd56_101 : decode cX7_readSumSign 101 = .ok (.getfield 152, 3) := by decide +kernel
theorem ww56_101 {d : Nat} {l0 l1 l2 : Option mw_V} {st : List mw_V} {σ : mw_S} {Q : Option mw_V → mw_S → Prop} : mw_WP d 56 101 [l0, l1, l2] (jR 1 :: st) σ Q ↔ mw_WP d 56 104 [l0, l1, l2] (jI (σ 1 13) :: st) σ Q := WP_getI (ci := 6) (k := 13) mq56 dd56_101 (by decide) (Or.inl rfl)
theorem dd56_104 : decode cX7_readSumSign 104 = .ok (.ifCond .le 5, 3) := by decide +kernel
theorem ww56_104 {d : Nat} {l0 l1 l2 : Option mw_V} {x : Int} {st : List mw_V} {σ : mw_S} {Q : Option mw_V → mw_S → Prop} : mw_WP d 56 104 [l0, l1, l2] (jI x :: st) σ Q ↔ (if x ≤ 0 then mw_WP d 56 109 [l0, l1, l2] st σ Q else mw_WP d 56 107 [l0, l1, l2] st σ Q) := WP_if_le mq56 dd56_104 (by decide)
theorem dd56_107 : decode cX7_readSumSign 107 = .ok (.iconst 0, 1) := by decide +kernel
theorem ww56_107 {d : Nat} {l0 l1 l2 : Option mw_V} {st : List mw_V} {σ : mw_S} {Q : Option mw_V → mw_S → Prop} : mw_WP d 56 107 [l0, l1, l2] st σ Q ↔ mw_WP d 56 108 [l0, l1, l2] (jI (0) :: st) σ Q := WP_iconst mq56 dd56_107 (by decide)
theorem dd56_108 : decode cX7_readSumSign 108 = .ok (.ireturn, 1) := by decide +kernel
theorem ww56_108 {d : Nat} {l0 l1 l2 : Option mw_V} {z : Int} {σ : mw_S} {Q : Option mw_V → mw_S → Prop} (h : z = 0 ∨ z = 1) : mw_WP d 56 108 [l0, l1, l2] [jI z] σ Q ↔ Q (some (jI z)) σ := WP_ireturn (ty := .boolean) mq56 dd56_108 rfl (by rcases h with rfl | rfl <;> decide)
theorem dd56_109 : decode cX7_readSumSign 109 = .ok (.aload_n 0, 1) := by decide +kernel
theorem ww56_109 {d : Nat} {l1 l2 : Option mw_V} {x : Nat} {st : List mw_V} {σ : mw_S} {Q : Option mw_V → mw_S → Prop} : mw_WP d 56 109 [some (jR x), l1, l2] st σ Q ↔ mw_WP d 56 110 [some (jR x), l1, l2] (jR x :: st) σ Q := WP_aload_n mq56 dd56_109 rfl
theorem dd56_110 : decode cX7_readSumSign 110 = .ok (.aload_n 0, 1) := by decide +kernel
theorem ww56_110 {d : Nat} {l1 l2 : Option mw_V} {x : Nat} {st : List mw_V} {σ : mw_S} {Q : Option mw_V → mw_S → Prop} : mw_WP d 56 110 [some (jR x), l1, l2] st σ Q ↔ mw_WP d 56 111 [some (jR x), l1, l2] (jR x :: st) σ Q := WP_aload_n mq56 dd56_110 rfl
theorem dd56_111 : decode cX7_readSumSign 111 = .ok (.getfield 185, 3) := by decide +kernel
theorem ww56_111 {d : Nat} {l0 l1 l2 : Option mw_V} {st : List mw_V} {σ : mw_S} {Q : Option mw_V → mw_S → Prop} : mw_WP d 56 111 [l0, l1, l2] (jR 1 :: st) σ Q ↔ mw_WP d 56 114 [l0, l1, l2] (jI (σ 1 17) :: st) σ Q := WP_getI (ci := 6) (k := 17) mq56 dd56_111 (by decide) (Or.inr rfl)
theorem dd56_114 : decode cX7_readSumSign 114 = .ok (.ifCond .ne 7, 3) := by decide +kernel
theorem ww56_114 {d : Nat} {l0 l1 l2 : Option mw_V} {x : Int} {st : List mw_V} {σ : mw_S} {Q : Option mw_V → mw_S → Prop} : mw_WP d 56 114 [l0, l1, l2] (jI x :: st) σ Q ↔ (if ¬ x = 0 then mw_WP d 56 121 [l0, l1, l2] st σ Q else mw_WP d 56 117 [l0, l1, l2] st σ Q) := WP_if_ne mq56 dd56_114 (by decide)
theorem dd56_117 : decode cX7_readSumSign 117 = .ok (.iload_n 2, 1) := by decide +kernel
theorem ww56_117 {d : Nat} {l0 l1 : Option mw_V} {x : Int} {st : List mw_V} {σ : mw_S} {Q : Option mw_V → mw_S → Prop} : mw_WP d 56 117 [l0, l1, some (jI x)] st σ Q ↔ mw_WP d 56 118 [l0, l1, some (jI x)] (jI x :: st) σ Q := WP_iload_n mq56 dd56_117 rfl
theorem dd56_118 : decode cX7_readSumSign 118 = .ok (.ifCond .eq 7, 3) := by decide +kernel
theorem ww56_118 {d : Nat} {l0 l1 l2 : Option mw_V} {x : Int} {st : List mw_V} {σ : mw_S} {Q : Option mw_V → mw_S → Prop} : mw_WP d 56 118 [l0, l1, l2] (jI x :: st) σ Q ↔ (if x = 0 then mw_WP d 56 125 [l0, l1, l2] st σ Q else mw_WP d 56 121 [l0, l1, l2] st σ Q) := WP_if_eq mq56 dd56_118 (by decide)
theorem dd56_121 : decode cX7_readSumSign 121 = .ok (.iconst 1, 1) := by decide +kernel
theorem ww56_121 {d : Nat} {l0 l1 l2 : Option mw_V} {st : List mw_V} {σ : mw_S} {Q : Option mw_V → mw_S → Prop} : mw_WP d 56 121 [l0, l1, l2] st σ Q ↔ mw_WP d 56 122 [l0, l1, l2] (jI (1) :: st) σ Q := WP_iconst mq56 dd56_121 (by decide)
theorem dd56_122 : decode cX7_readSumSign 122 = .ok (.goto 4, 3) := by decide +kernel
theorem ww56_122 {d : Nat} {l0 l1 l2 : Option mw_V} {st : List mw_V} {σ : mw_S} {Q : Option mw_V → mw_S → Prop} : mw_WP d 56 122 [l0, l1, l2] st σ Q ↔ mw_WP d 56 126 [l0, l1, l2] st σ Q := WP_goto mq56 dd56_122 (by decide)
theorem dd56_125 : decode cX7_readSumSign 125 = .ok (.iconst 0, 1) := by decide +kernel
theorem ww56_125 {d : Nat} {l0 l1 l2 : Option mw_V} {st : List mw_V} {σ : mw_S} {Q : Option mw_V → mw_S → Prop} : mw_WP d 56 125 [l0, l1, l2] st σ Q ↔ mw_WP d 56 126 [l0, l1, l2] (jI (0) :: st) σ Q := WP_iconst mq56 dd56_125 (by decide)
theorem dd56_126 : decode cX7_readSumSign 126 = .ok (.putfield 185, 3) := by decide +kernel
theorem ww56_126 {d : Nat} {l0 l1 l2 : Option mw_V} {v : Int} {st : List mw_V} {σ : mw_S} {Q : Option mw_V → mw_S → Prop} : mw_WP d 56 126 [l0, l1, l2] (jI v :: jR 1 :: st) σ Q ↔ ((v = 0 ∨ v = 1) ∧ mw_WP d 56 129 [l0, l1, l2] st (upS σ 1 17 v) Q) := WP_putZ (ci := 6) (k := 17) mq56 dd56_126 (by decide) rfl
theorem dd56_129 : decode cX7_readSumSign 129 = .ok (.aload_n 0, 1) := by decide +kernel
theorem ww56_129 {d : Nat} {l1 l2 : Option mw_V} {x : Nat} {st : List mw_V} {σ : mw_S} {Q : Option mw_V → mw_S → Prop} : mw_WP d 56 129 [some (jR x), l1, l2] st σ Q ↔ mw_WP d 56 130 [some (jR x), l1, l2] (jR x :: st) σ Q := WP_aload_n mq56 dd56_129 rfl
theorem dd56_130 : decode cX7_readSumSign 130 = .ok (.iload_n 1, 1) := by decide +kernel
theorem ww56_130 {d : Nat} {l0 l2 : Option mw_V} {x : Int} {st : List mw_V} {σ : mw_S} {Q : Option mw_V → mw_S → Prop} : mw_WP d 56 130 [l0, some (jI x), l2] st σ Q ↔ mw_WP d 56 131 [l0, some (jI x), l2] (jI x :: st) σ Q := WP_iload_n mq56 dd56_130 rfl
theorem dd56_131 : decode cX7_readSumSign 131 = .ok (.invokevirtual 211, 3) := by decide +kernel
theorem ww56_131 {d : Nat} {l0 l1 l2 : Option mw_V} {v0 : mw_V} {a : Nat} {st : List mw_V} {σ : mw_S} {Q : Option mw_V → mw_S → Prop} (hr : mw_rc a = 7) (h8 : (st.map mw_cat).sum ≤ 8) : mw_WP d 56 131 [l0, l1, l2] (v0 :: jR a :: st) σ Q ↔ mw_Call d 58 [jR a, v0] σ (fun r1 s1 => mw_WP d 56 134 [l0, l1, l2] (r1.toList ++ st) s1 Q) := WP_inv (as := [v0]) mq56 dd56_131 (by decide) mq58 rfl hr h8
theorem dd56_134 : decode cX7_readSumSign 134 = .ok (.aload_n 0, 1) := by decide +kernel
theorem ww56_134 {d : Nat} {l1 l2 : Option mw_V} {x : Nat} {st : List mw_V} {σ : mw_S} {Q : Option mw_V → mw_S → Prop} : mw_WP d 56 134 [some (jR x), l1, l2] st σ Q ↔ mw_WP d 56 135 [some (jR x), l1, l2] (jR x :: st) σ Q := WP_aload_n mq56 dd56_134 rfl
theorem dd56_135 : decode cX7_readSumSign 135 = .ok (.iconst 1, 1) := by decide +kernel
theorem ww56_135 {d : Nat} {l0 l1 l2 : Option mw_V} {st : List mw_V} {σ : mw_S} {Q : Option mw_V → mw_S → Prop} : mw_WP d 56 135 [l0, l1, l2] st σ Q ↔ mw_WP d 56 136 [l0, l1, l2] (jI (1) :: st) σ Q := WP_iconst mq56 dd56_135 (by decide)
theorem dd56_136 : decode cX7_readSumSign 136 = .ok (.putfield 161, 3) := by decide +kernel
theorem ww56_136 {d : Nat} {l0 l1 l2 : Option mw_V} {v : Int} {st : List mw_V} {σ : mw_S} {Q : Option mw_V → mw_S → Prop} : mw_WP d 56 136 [l0, l1, l2] (jI v :: jR 1 :: st) σ Q ↔ ((v = 0 ∨ v = 1) ∧ mw_WP d 56 139 [l0, l1, l2] st (upS σ 1 15 v) Q) := WP_putZ (ci := 6) (k := 15) mq56 dd56_136 (by decide) rfl
theorem dd56_139 : decode cX7_readSumSign 139 = .ok (.iconst 1, 1) := by decide +kernel
theorem ww56_139 {d : Nat} {l0 l1 l2 : Option mw_V} {st : List mw_V} {σ : mw_S} {Q : Option mw_V → mw_S → Prop} : mw_WP d 56 139 [l0, l1, l2] st σ Q ↔ mw_WP d 56 140 [l0, l1, l2] (jI (1) :: st) σ Q := WP_iconst mq56 dd56_139 (by decide)
theorem dd56_140 : decode cX7_readSumSign 140 = .ok (.ireturn, 1) := by decide +kernel
theorem ww56_140 {d : Nat} {l0 l1 l2 : Option mw_V} {z : Int} {σ : mw_S} {Q : Option mw_V → mw_S → Prop} (h : z = 0 ∨ z = 1) : mw_WP d 56 140 [l0, l1, l2] [jI z] σ Q ↔ Q (some (jI z)) σ := WP_ireturn (ty := .boolean) mq56 dd56_140 rfl (by rcases h with rfl | rfl <;> decide)
theorem ee57 {d : Nat} {a : Nat} {σ : mw_S} {Q : Option mw_V → mw_S → Prop} : mw_Call (d + 1) 57 [jR a] σ Q ↔ mw_WP d 57 0 [some (jR a), none] [] σ Q := CL_u mq57 (Nat.le_of_ble_eq_true rfl) rfl
theorem dd57_0 : decode cX7_readTruthSign 0 = .ok (.aload_n 0, 1) := by decide +kernel
theorem ww57_0 {d : Nat} {l1 : Option mw_V} {x : Nat} {st : List mw_V} {σ : mw_S} {Q : Option mw_V → mw_S → Prop} : mw_WP d 57 0 [some (jR x), l1] st σ Q ↔ mw_WP d 57 1 [some (jR x), l1] (jR x :: st) σ Q := WP_aload_n mq57 dd57_0 rfl
theorem dd57_1 : decode cX7_readTruthSign 1 = .ok (.invokevirtual 167, 3) := by decide +kernel
theorem ww57_1 {d : Nat} {l0 l1 : Option mw_V} {a : Nat} {st : List mw_V} {σ : mw_S} {Q : Option mw_V → mw_S → Prop} (hr : mw_rc a = 7) (h8 : (st.map mw_cat).sum ≤ 8) : mw_WP d 57 1 [l0, l1] (jR a :: st) σ Q ↔ mw_Call d 53 [jR a] σ (fun r1 s1 => mw_WP d 57 4 [l0, l1] (r1.toList ++ st) s1 Q) := WP_inv (as := []) mq57 dd57_1 (by decide) mq53 rfl hr h8
theorem dd57_4 : decode cX7_readTruthSign 4 = .ok (.ifCond .ne 5, 3) := by decide +kernel
theorem ww57_4 {d : Nat} {l0 l1 : Option mw_V} {x : Int} {st : List mw_V} {σ : mw_S} {Q : Option mw_V → mw_S → Prop} : mw_WP d 57 4 [l0, l1] (jI x :: st) σ Q ↔ (if ¬ x = 0 then mw_WP d 57 9 [l0, l1] st σ Q else mw_WP d 57 7 [l0, l1] st σ Q) := WP_if_ne mq57 dd57_4 (by decide)
theorem dd57_7 : decode cX7_readTruthSign 7 = .ok (.iconst 0, 1) := by decide +kernel
theorem ww57_7 {d : Nat} {l0 l1 : Option mw_V} {st : List mw_V} {σ : mw_S} {Q : Option mw_V → mw_S → Prop} : mw_WP d 57 7 [l0, l1] st σ Q ↔ mw_WP d 57 8 [l0, l1] (jI (0) :: st) σ Q := WP_iconst mq57 dd57_7 (by decide)
theorem dd57_8 : decode cX7_readTruthSign 8 = .ok (.ireturn, 1) := by decide +kernel
theorem ww57_8 {d : Nat} {l0 l1 : Option mw_V} {z : Int} {σ : mw_S} {Q : Option mw_V → mw_S → Prop} (h : z = 0 ∨ z = 1) : mw_WP d 57 8 [l0, l1] [jI z] σ Q ↔ Q (some (jI z)) σ := WP_ireturn (ty := .boolean) mq57 dd57_8 rfl (by rcases h with rfl | rfl <;> decide)
theorem dd57_9 : decode cX7_readTruthSign 9 = .ok (.aload_n 0, 1) := by decide +kernel
theorem ww57_9 {d : Nat} {l1 : Option mw_V} {x : Nat} {st : List mw_V} {σ : mw_S} {Q : Option mw_V → mw_S → Prop} : mw_WP d 57 9 [some (jR x), l1] st σ Q ↔ mw_WP d 57 10 [some (jR x), l1] (jR x :: st) σ Q := WP_aload_n mq57 dd57_9 rfl
theorem dd57_10 : decode cX7_readTruthSign 10 = .ok (.bipush 93, 2) := by decide +kernel
theorem ww57_10 {d : Nat} {l0 l1 : Option mw_V} {st : List mw_V} {σ : mw_S} {Q : Option mw_V → mw_S → Prop} : mw_WP d 57 10 [l0, l1] st σ Q ↔ mw_WP d 57 12 [l0, l1] (jI (93) :: st) σ Q := WP_bipush mq57 dd57_10 (by decide)
theorem dd57_12 : decode cX7_readTruthSign 12 = .ok (.invokevirtual 191, 3) := by decide +kernel
theorem ww57_12 {d : Nat} {l0 l1 : Option mw_V} {v0 : mw_V} {a : Nat} {st : List mw_V} {σ : mw_S} {Q : Option mw_V → mw_S → Prop} (hr : mw_rc a = 7) (h8 : (st.map mw_cat).sum ≤ 8) : mw_WP d 57 12 [l0, l1] (v0 :: jR a :: st) σ Q ↔ mw_Call d 67 [jR a, v0] σ (fun r1 s1 => mw_WP d 57 15 [l0, l1] (r1.toList ++ st) s1 Q) := WP_inv (as := [v0]) mq57 dd57_12 (by decide) mq67 rfl hr h8
theorem dd57_15 : decode cX7_readTruthSign 15 = .ok (.ifCond .eq 34, 3) := by decide +kernel
theorem ww57_15 {d : Nat} {l0 l1 : Option mw_V} {x : Int} {st : List mw_V} {σ : mw_S} {Q : Option mw_V → mw_S → Prop} : mw_WP d 57 15 [l0, l1] (jI x :: st) σ Q ↔ (if x = 0 then mw_WP d 57 49 [l0, l1] st σ Q else mw_WP d 57 18 [l0, l1] st σ Q) := WP_if_eq mq57 dd57_15 (by decide)
theorem dd57_18 : decode cX7_readTruthSign 18 = .ok (.aload_n 0, 1) := by decide +kernel
theorem ww57_18 {d : Nat} {l1 : Option mw_V} {x : Nat} {st : List mw_V} {σ : mw_S} {Q : Option mw_V → mw_S → Prop} : mw_WP d 57 18 [some (jR x), l1] st σ Q ↔ mw_WP d 57 19 [some (jR x), l1] (jR x :: st) σ Q := WP_aload_n mq57 dd57_18 rfl
theorem dd57_19 : decode cX7_readTruthSign 19 = .ok (.getfield 155, 3) := by decide +kernel
theorem ww57_19 {d : Nat} {l0 l1 : Option mw_V} {st : List mw_V} {σ : mw_S} {Q : Option mw_V → mw_S → Prop} : mw_WP d 57 19 [l0, l1] (jR 1 :: st) σ Q ↔ mw_WP d 57 22 [l0, l1] (jI (σ 1 14) :: st) σ Q := WP_getI (ci := 6) (k := 14) mq57 dd57_19 (by decide) (Or.inl rfl)
theorem dd57_22 : decode cX7_readTruthSign 22 = .ok (.ifCond .le 27, 3) := by decide +kernel
theorem ww57_22 {d : Nat} {l0 l1 : Option mw_V} {x : Int} {st : List mw_V} {σ : mw_S} {Q : Option mw_V → mw_S → Prop} : mw_WP d 57 22 [l0, l1] (jI x :: st) σ Q ↔ (if x ≤ 0 then mw_WP d 57 49 [l0, l1] st σ Q else mw_WP d 57 25 [l0, l1] st σ Q) := WP_if_le mq57 dd57_22 (by decide)
theorem dd57_25 : decode cX7_readTruthSign 25 = .ok (.aload_n 0, 1) := by decide +kernel
theorem ww57_25 {d : Nat} {l1 : Option mw_V} {x : Nat} {st : List mw_V} {σ : mw_S} {Q : Option mw_V → mw_S → Prop} : mw_WP d 57 25 [some (jR x), l1] st σ Q ↔ mw_WP d 57 26 [some (jR x), l1] (jR x :: st) σ Q := WP_aload_n mq57 dd57_25 rfl
theorem dd57_26 : decode cX7_readTruthSign 26 = .ok (.sipush 1020, 3) := by decide +kernel
theorem ww57_26 {d : Nat} {l0 l1 : Option mw_V} {st : List mw_V} {σ : mw_S} {Q : Option mw_V → mw_S → Prop} : mw_WP d 57 26 [l0, l1] st σ Q ↔ mw_WP d 57 29 [l0, l1] (jI (1020) :: st) σ Q := WP_sipush mq57 dd57_26 (by decide)
theorem dd57_29 : decode cX7_readTruthSign 29 = .ok (.invokevirtual 170, 3) := by decide +kernel
theorem ww57_29 {d : Nat} {l0 l1 : Option mw_V} {v0 : mw_V} {a : Nat} {st : List mw_V} {σ : mw_S} {Q : Option mw_V → mw_S → Prop} (hr : mw_rc a = 7) (h8 : (st.map mw_cat).sum ≤ 8) : mw_WP d 57 29 [l0, l1] (v0 :: jR a :: st) σ Q ↔ mw_Call d 60 [jR a, v0] σ (fun r1 s1 => mw_WP d 57 32 [l0, l1] (r1.toList ++ st) s1 Q) := WP_inv (as := [v0]) mq57 dd57_29 (by decide) mq60 rfl hr h8
theorem dd57_32 : decode cX7_readTruthSign 32 = .ok (.aload_n 0, 1) := by decide +kernel
theorem ww57_32 {d : Nat} {l1 : Option mw_V} {x : Nat} {st : List mw_V} {σ : mw_S} {Q : Option mw_V → mw_S → Prop} : mw_WP d 57 32 [some (jR x), l1] st σ Q ↔ mw_WP d 57 33 [some (jR x), l1] (jR x :: st) σ Q := WP_aload_n mq57 dd57_32 rfl
theorem dd57_33 : decode cX7_readTruthSign 33 = .ok (.dup, 1) := by decide +kernel
theorem ww57_33 {d : Nat} {l0 l1 : Option mw_V} {v : mw_V} {st : List mw_V} {σ : mw_S} {Q : Option mw_V → mw_S → Prop} (h : mw_cat v = 1) : mw_WP d 57 33 [l0, l1] (v :: st) σ Q ↔ mw_WP d 57 34 [l0, l1] (v :: v :: st) σ Q := WP_dup mq57 dd57_33 h
theorem dd57_34 : decode cX7_readTruthSign 34 = .ok (.getfield 155, 3) := by decide +kernel
theorem ww57_34 {d : Nat} {l0 l1 : Option mw_V} {st : List mw_V} {σ : mw_S} {Q : Option mw_V → mw_S → Prop} : mw_WP d 57 34 [l0, l1] (jR 1 :: st) σ Q ↔ mw_WP d 57 37 [l0, l1] (jI (σ 1 14) :: st) σ Q := WP_getI (ci := 6) (k := 14) mq57 dd57_34 (by decide) (Or.inl rfl)
theorem dd57_37 : decode cX7_readTruthSign 37 = .ok (.iconst 1, 1) := by decide +kernel
theorem ww57_37 {d : Nat} {l0 l1 : Option mw_V} {st : List mw_V} {σ : mw_S} {Q : Option mw_V → mw_S → Prop} : mw_WP d 57 37 [l0, l1] st σ Q ↔ mw_WP d 57 38 [l0, l1] (jI (1) :: st) σ Q := WP_iconst mq57 dd57_37 (by decide)
theorem dd57_38 : decode cX7_readTruthSign 38 = .ok (.isub, 1) := by decide +kernel
theorem ww57_38 {d : Nat} {l0 l1 : Option mw_V} {x y : Int} {st : List mw_V} {σ : mw_S} {Q : Option mw_V → mw_S → Prop} : mw_WP d 57 38 [l0, l1] (jI y :: jI x :: st) σ Q ↔ mw_WP d 57 39 [l0, l1] (jI (w32 (x - y)) :: st) σ Q := WP_isub mq57 dd57_38
theorem dd57_39 : decode cX7_readTruthSign 39 = .ok (.putfield 155, 3) := by decide +kernel
theorem ww57_39 {d : Nat} {l0 l1 : Option mw_V} {v : Int} {st : List mw_V} {σ : mw_S} {Q : Option mw_V → mw_S → Prop} : mw_WP d 57 39 [l0, l1] (jI v :: jR 1 :: st) σ Q ↔ mw_WP d 57 42 [l0, l1] st (upS σ 1 14 v) Q := WP_putI (ci := 6) (k := 14) mq57 dd57_39 (by decide) rfl
theorem dd57_42 : decode cX7_readTruthSign 42 = .ok (.aload_n 0, 1) := by decide +kernel
theorem ww57_42 {d : Nat} {l1 : Option mw_V} {x : Nat} {st : List mw_V} {σ : mw_S} {Q : Option mw_V → mw_S → Prop} : mw_WP d 57 42 [some (jR x), l1] st σ Q ↔ mw_WP d 57 43 [some (jR x), l1] (jR x :: st) σ Q := WP_aload_n mq57 dd57_42 rfl
theorem dd57_43 : decode cX7_readTruthSign 43 = .ok (.iconst 1, 1) := by decide +kernel
theorem ww57_43 {d : Nat} {l0 l1 : Option mw_V} {st : List mw_V} {σ : mw_S} {Q : Option mw_V → mw_S → Prop} : mw_WP d 57 43 [l0, l1] st σ Q ↔ mw_WP d 57 44 [l0, l1] (jI (1) :: st) σ Q := WP_iconst mq57 dd57_43 (by decide)
theorem dd57_44 : decode cX7_readTruthSign 44 = .ok (.putfield 188, 3) := by decide +kernel
theorem ww57_44 {d : Nat} {l0 l1 : Option mw_V} {v : Int} {st : List mw_V} {σ : mw_S} {Q : Option mw_V → mw_S → Prop} : mw_WP d 57 44 [l0, l1] (jI v :: jR 1 :: st) σ Q ↔ ((v = 0 ∨ v = 1) ∧ mw_WP d 57 47 [l0, l1] st (upS σ 1 18 v) Q) := WP_putZ (ci := 6) (k := 18) mq57 dd57_44 (by decide) rfl
theorem dd57_47 : decode cX7_readTruthSign 47 = .ok (.iconst 1, 1) := by decide +kernel
theorem ww57_47 {d : Nat} {l0 l1 : Option mw_V} {st : List mw_V} {σ : mw_S} {Q : Option mw_V → mw_S → Prop} : mw_WP d 57 47 [l0, l1] st σ Q ↔ mw_WP d 57 48 [l0, l1] (jI (1) :: st) σ Q := WP_iconst mq57 dd57_47 (by decide)
theorem dd57_48 : decode cX7_readTruthSign 48 = .ok (.ireturn, 1) := by decide +kernel
theorem ww57_48 {d : Nat} {l0 l1 : Option mw_V} {z : Int} {σ : mw_S} {Q : Option mw_V → mw_S → Prop} (h : z = 0 ∨ z = 1) : mw_WP d 57 48 [l0, l1] [jI z] σ Q ↔ Q (some (jI z)) σ := WP_ireturn (ty := .boolean) mq57 dd57_48 rfl (by rcases h with rfl | rfl <;> decide)
theorem dd57_49 : decode cX7_readTruthSign 49 = .ok (.aload_n 0, 1) := by decide +kernel
theorem ww57_49 {d : Nat} {l1 : Option mw_V} {x : Nat} {st : List mw_V} {σ : mw_S} {Q : Option mw_V → mw_S → Prop} : mw_WP d 57 49 [some (jR x), l1] st σ Q ↔ mw_WP d 57 50 [some (jR x), l1] (jR x :: st) σ Q := WP_aload_n mq57 dd57_49 rfl
theorem dd57_50 : decode cX7_readTruthSign 50 = .ok (.ldc 214, 2) := by decide +kernel
theorem ww57_50 {d : Nat} {l0 l1 : Option mw_V} {st : List mw_V} {σ : mw_S} {Q : Option mw_V → mw_S → Prop} : mw_WP d 57 50 [l0, l1] st σ Q ↔ mw_WP d 57 52 [l0, l1] (jR 1014 :: st) σ Q := WP_ldcS (n := 14) mq57 dd57_50 (by decide) (by decide) rfl
theorem dd57_52 : decode cX7_readTruthSign 52 = .ok (.invokevirtual 58, 3) := by decide +kernel
theorem ww57_52 {d : Nat} {l0 l1 : Option mw_V} {v0 : mw_V} {a : Nat} {st : List mw_V} {σ : mw_S} {Q : Option mw_V → mw_S → Prop} (hr : mw_rc a = 7) (h8 : (st.map mw_cat).sum ≤ 8) : mw_WP d 57 52 [l0, l1] (v0 :: jR a :: st) σ Q ↔ mw_Call d 66 [jR a, v0] σ (fun r1 s1 => mw_WP d 57 55 [l0, l1] (r1.toList ++ st) s1 Q) := WP_inv (as := [v0]) mq57 dd57_52 (by decide) mq66 rfl hr h8
theorem dd57_55 : decode cX7_readTruthSign 55 = .ok (.ifCond .eq 9, 3) := by decide +kernel
theorem ww57_55 {d : Nat} {l0 l1 : Option mw_V} {x : Int} {st : List mw_V} {σ : mw_S} {Q : Option mw_V → mw_S → Prop} : mw_WP d 57 55 [l0, l1] (jI x :: st) σ Q ↔ (if x = 0 then mw_WP d 57 64 [l0, l1] st σ Q else mw_WP d 57 58 [l0, l1] st σ Q) := WP_if_eq mq57 dd57_55 (by decide)
theorem dd57_58 : decode cX7_readTruthSign 58 = .ok (.sipush 1017, 3) := by decide +kernel
theorem ww57_58 {d : Nat} {l0 l1 : Option mw_V} {st : List mw_V} {σ : mw_S} {Q : Option mw_V → mw_S → Prop} : mw_WP d 57 58 [l0, l1] st σ Q ↔ mw_WP d 57 61 [l0, l1] (jI (1017) :: st) σ Q := WP_sipush mq57 dd57_58 (by decide)
theorem dd57_61 : decode cX7_readTruthSign 61 = .ok (.goto 19, 3) := by decide +kernel
theorem ww57_61 {d : Nat} {l0 l1 : Option mw_V} {st : List mw_V} {σ : mw_S} {Q : Option mw_V → mw_S → Prop} : mw_WP d 57 61 [l0, l1] st σ Q ↔ mw_WP d 57 80 [l0, l1] st σ Q := WP_goto mq57 dd57_61 (by decide)
theorem dd57_64 : decode cX7_readTruthSign 64 = .ok (.aload_n 0, 1) := by decide +kernel
theorem ww57_64 {d : Nat} {l1 : Option mw_V} {x : Nat} {st : List mw_V} {σ : mw_S} {Q : Option mw_V → mw_S → Prop} : mw_WP d 57 64 [some (jR x), l1] st σ Q ↔ mw_WP d 57 65 [some (jR x), l1] (jR x :: st) σ Q := WP_aload_n mq57 dd57_64 rfl
theorem dd57_65 : decode cX7_readTruthSign 65 = .ok (.ldc 216, 2) := by decide +kernel
theorem ww57_65 {d : Nat} {l0 l1 : Option mw_V} {st : List mw_V} {σ : mw_S} {Q : Option mw_V → mw_S → Prop} : mw_WP d 57 65 [l0, l1] st σ Q ↔ mw_WP d 57 67 [l0, l1] (jR 1015 :: st) σ Q := WP_ldcS (n := 15) mq57 dd57_65 (by decide) (by decide) rfl
theorem dd57_67 : decode cX7_readTruthSign 67 = .ok (.invokevirtual 58, 3) := by decide +kernel
theorem ww57_67 {d : Nat} {l0 l1 : Option mw_V} {v0 : mw_V} {a : Nat} {st : List mw_V} {σ : mw_S} {Q : Option mw_V → mw_S → Prop} (hr : mw_rc a = 7) (h8 : (st.map mw_cat).sum ≤ 8) : mw_WP d 57 67 [l0, l1] (v0 :: jR a :: st) σ Q ↔ mw_Call d 66 [jR a, v0] σ (fun r1 s1 => mw_WP d 57 70 [l0, l1] (r1.toList ++ st) s1 Q) := WP_inv (as := [v0]) mq57 dd57_67 (by decide) mq66 rfl hr h8
theorem dd57_70 : decode cX7_readTruthSign 70 = .ok (.ifCond .eq 9, 3) := by decide +kernel
theorem ww57_70 {d : Nat} {l0 l1 : Option mw_V} {x : Int} {st : List mw_V} {σ : mw_S} {Q : Option mw_V → mw_S → Prop} : mw_WP d 57 70 [l0, l1] (jI x :: st) σ Q ↔ (if x = 0 then mw_WP d 57 79 [l0, l1] st σ Q else mw_WP d 57 73 [l0, l1] st σ Q) := WP_if_eq mq57 dd57_70 (by decide)
theorem dd57_73 : decode cX7_readTruthSign 73 = .ok (.sipush 1018, 3) := by decide +kernel
theorem ww57_73 {d : Nat} {l0 l1 : Option mw_V} {st : List mw_V} {σ : mw_S} {Q : Option mw_V → mw_S → Prop} : mw_WP d 57 73 [l0, l1] st σ Q ↔ mw_WP d 57 76 [l0, l1] (jI (1018) :: st) σ Q := WP_sipush mq57 dd57_73 (by decide)
theorem dd57_76 : decode cX7_readTruthSign 76 = .ok (.goto 4, 3) := by decide +kernel
theorem ww57_76 {d : Nat} {l0 l1 : Option mw_V} {st : List mw_V} {σ : mw_S} {Q : Option mw_V → mw_S → Prop} : mw_WP d 57 76 [l0, l1] st σ Q ↔ mw_WP d 57 80 [l0, l1] st σ Q := WP_goto mq57 dd57_76 (by decide)
theorem dd57_79 : decode cX7_readTruthSign 79 = .ok (.iconst (-1), 1) := by decide +kernel
theorem ww57_79 {d : Nat} {l0 l1 : Option mw_V} {st : List mw_V} {σ : mw_S} {Q : Option mw_V → mw_S → Prop} : mw_WP d 57 79 [l0, l1] st σ Q ↔ mw_WP d 57 80 [l0, l1] (jI (-1) :: st) σ Q := WP_iconst mq57 dd57_79 (by decide)
theorem dd57_80 : decode cX7_readTruthSign 80 = .ok (.istore_n 1, 1) := by decide +kernel
theorem ww57_80 {d : Nat} {l0 l1 : Option mw_V} {x : Int} {st : List mw_V} {σ : mw_S} {Q : Option mw_V → mw_S → Prop} (h : mw_nlo l0 = true) : mw_WP d 57 80 [l0, l1] (jI x :: st) σ Q ↔ mw_WP d 57 81 [l0, some (jI x)] st σ Q := WP_istore_n mq57 dd57_80 (Nat.le_of_ble_eq_true rfl) (mw_nl_of (i := 0) rfl h) rfl
theorem dd57_81 : decode cX7_readTruthSign 81 = .ok (.iload_n 1, 1) := by decide +kernel
theorem ww57_81 {d : Nat} {l0 : Option mw_V} {x : Int} {st : List mw_V} {σ : mw_S} {Q : Option mw_V → mw_S → Prop} : mw_WP d 57 81 [l0, some (jI x)] st σ Q ↔ mw_WP d 57 82 [l0, some (jI x)] (jI x :: st) σ Q := WP_iload_n mq57 dd57_81 rfl
theorem dd57_82 : decode cX7_readTruthSign 82 = .ok (.iconst (-1), 1) := by decide +kernel
theorem ww57_82 {d : Nat} {l0 l1 : Option mw_V} {st : List mw_V} {σ : mw_S} {Q : Option mw_V → mw_S → Prop} : mw_WP d 57 82 [l0, l1] st σ Q ↔ mw_WP d 57 83 [l0, l1] (jI (-1) :: st) σ Q := WP_iconst mq57 dd57_82 (by decide)
theorem dd57_83 : decode cX7_readTruthSign 83 = .ok (.if_icmp .ne 5, 3) := by decide +kernel
theorem ww57_83 {d : Nat} {l0 l1 : Option mw_V} {x y : Int} {st : List mw_V} {σ : mw_S} {Q : Option mw_V → mw_S → Prop} : mw_WP d 57 83 [l0, l1] (jI y :: jI x :: st) σ Q ↔ (if ¬ x = y then mw_WP d 57 88 [l0, l1] st σ Q else mw_WP d 57 86 [l0, l1] st σ Q) := WP_icmp_ne mq57 dd57_83 (by decide)
theorem dd57_86 : decode cX7_readTruthSign 86 = .ok (.iconst 0, 1) := by decide +kernel
theorem ww57_86 {d : Nat} {l0 l1 : Option mw_V} {st : List mw_V} {σ : mw_S} {Q : Option mw_V → mw_S → Prop} : mw_WP d 57 86 [l0, l1] st σ Q ↔ mw_WP d 57 87 [l0, l1] (jI (0) :: st) σ Q := WP_iconst mq57 dd57_86 (by decide)
theorem dd57_87 : decode cX7_readTruthSign 87 = .ok (.ireturn, 1) := by decide +kernel
theorem ww57_87 {d : Nat} {l0 l1 : Option mw_V} {z : Int} {σ : mw_S} {Q : Option mw_V → mw_S → Prop} (h : z = 0 ∨ z = 1) : mw_WP d 57 87 [l0, l1] [jI z] σ Q ↔ Q (some (jI z)) σ := WP_ireturn (ty := .boolean) mq57 dd57_87 rfl (by rcases h with rfl | rfl <;> decide)
theorem dd57_88 : decode cX7_readTruthSign 88 = .ok (.aload_n 0, 1) := by decide +kernel
theorem ww57_88 {d : Nat} {l1 : Option mw_V} {x : Nat} {st : List mw_V} {σ : mw_S} {Q : Option mw_V → mw_S → Prop} : mw_WP d 57 88 [some (jR x), l1] st σ Q ↔ mw_WP d 57 89 [some (jR x), l1] (jR x :: st) σ Q := WP_aload_n mq57 dd57_88 rfl
theorem dd57_89 : decode cX7_readTruthSign 89 = .ok (.iload_n 1, 1) := by decide +kernel
theorem ww57_89 {d : Nat} {l0 : Option mw_V} {x : Int} {st : List mw_V} {σ : mw_S} {Q : Option mw_V → mw_S → Prop} : mw_WP d 57 89 [l0, some (jI x)] st σ Q ↔ mw_WP d 57 90 [l0, some (jI x)] (jI x :: st) σ Q := WP_iload_n mq57 dd57_89 rfl
theorem dd57_90 : decode cX7_readTruthSign 90 = .ok (.invokevirtual 211, 3) := by decide +kernel
theorem ww57_90 {d : Nat} {l0 l1 : Option mw_V} {v0 : mw_V} {a : Nat} {st : List mw_V} {σ : mw_S} {Q : Option mw_V → mw_S → Prop} (hr : mw_rc a = 7) (h8 : (st.map mw_cat).sum ≤ 8) : mw_WP d 57 90 [l0, l1] (v0 :: jR a :: st) σ Q ↔ mw_Call d 58 [jR a, v0] σ (fun r1 s1 => mw_WP d 57 93 [l0, l1] (r1.toList ++ st) s1 Q) := WP_inv (as := [v0]) mq57 dd57_90 (by decide) mq58 rfl hr h8
theorem dd57_93 : decode cX7_readTruthSign 93 = .ok (.aload_n 0, 1) := by decide +kernel
theorem ww57_93 {d : Nat} {l1 : Option mw_V} {x : Nat} {st : List mw_V} {σ : mw_S} {Q : Option mw_V → mw_S → Prop} : mw_WP d 57 93 [some (jR x), l1] st σ Q ↔ mw_WP d 57 94 [some (jR x), l1] (jR x :: st) σ Q := WP_aload_n mq57 dd57_93 rfl
theorem dd57_94 : decode cX7_readTruthSign 94 = .ok (.invokevirtual 158, 3) := by decide +kernel
theorem ww57_94 {d : Nat} {l0 l1 : Option mw_V} {a : Nat} {st : List mw_V} {σ : mw_S} {Q : Option mw_V → mw_S → Prop} (hr : mw_rc a = 7) (h8 : (st.map mw_cat).sum ≤ 8) : mw_WP d 57 94 [l0, l1] (jR a :: st) σ Q ↔ mw_Call d 52 [jR a] σ (fun r1 s1 => mw_WP d 57 97 [l0, l1] (r1.toList ++ st) s1 Q) := WP_inv (as := []) mq57 dd57_94 (by decide) mq52 rfl hr h8
theorem dd57_97 : decode cX7_readTruthSign 97 = .ok (.iconst 1, 1) := by decide +kernel
theorem ww57_97 {d : Nat} {l0 l1 : Option mw_V} {st : List mw_V} {σ : mw_S} {Q : Option mw_V → mw_S → Prop} : mw_WP d 57 97 [l0, l1] st σ Q ↔ mw_WP d 57 98 [l0, l1] (jI (1) :: st) σ Q := WP_iconst mq57 dd57_97 (by decide)
theorem dd57_98 : decode cX7_readTruthSign 98 = .ok (.ireturn, 1) := by decide +kernel
theorem ww57_98 {d : Nat} {l0 l1 : Option mw_V} {z : Int} {σ : mw_S} {Q : Option mw_V → mw_S → Prop} (h : z = 0 ∨ z = 1) : mw_WP d 57 98 [l0, l1] [jI z] σ Q ↔ Q (some (jI z)) σ := WP_ireturn (ty := .boolean) mq57 dd57_98 rfl (by rcases h with rfl | rfl <;> decide)
theorem ee58 {d : Nat} {a : Nat} {z0 : Int} {σ : mw_S} {Q : Option mw_V → mw_S → Prop} : mw_Call (d + 1) 58 [jR a, jI z0] σ Q ↔ mw_WP d 58 0 [some (jR a), some (jI z0), none] [] σ Q := CL_u mq58 (Nat.le_of_ble_eq_true rfl) rfl
theorem dd58_0 : decode cX7_join 0 = .ok (.aload_n 0, 1) := by decide +kernel
theorem ww58_0 {d : Nat} {l1 l2 : Option mw_V} {x : Nat} {st : List mw_V} {σ : mw_S} {Q : Option mw_V → mw_S → Prop} : mw_WP d 58 0 [some (jR x), l1, l2] st σ Q ↔ mw_WP d 58 1 [some (jR x), l1, l2] (jR x :: st) σ Q := WP_aload_n mq58 dd58_0 rfl
theorem dd58_1 : decode cX7_join 1 = .ok (.getfield 146, 3) := by decide +kernel
theorem ww58_1 {d : Nat} {l0 l1 l2 : Option mw_V} {st : List mw_V} {σ : mw_S} {Q : Option mw_V → mw_S → Prop} : mw_WP d 58 1 [l0, l1, l2] (jR 1 :: st) σ Q ↔ mw_WP d 58 4 [l0, l1, l2] (jI (σ 1 11) :: st) σ Q := WP_getI (ci := 6) (k := 11) mq58 dd58_1 (by decide) (Or.inl rfl)
theorem dd58_4 : decode cX7_join 4 = .ok (.iconst 1, 1) := by decide +kernel
theorem ww58_4 {d : Nat} {l0 l1 l2 : Option mw_V} {st : List mw_V} {σ : mw_S} {Q : Option mw_V → mw_S → Prop} : mw_WP d 58 4 [l0, l1, l2] st σ Q ↔ mw_WP d 58 5 [l0, l1, l2] (jI (1) :: st) σ Q := WP_iconst mq58 dd58_4 (by decide)
theorem dd58_5 : decode cX7_join 5 = .ok (.isub, 1) := by decide +kernel
theorem ww58_5 {d : Nat} {l0 l1 l2 : Option mw_V} {x y : Int} {st : List mw_V} {σ : mw_S} {Q : Option mw_V → mw_S → Prop} : mw_WP d 58 5 [l0, l1, l2] (jI y :: jI x :: st) σ Q ↔ mw_WP d 58 6 [l0, l1, l2] (jI (w32 (x - y)) :: st) σ Q := WP_isub mq58 dd58_5
theorem dd58_6 : decode cX7_join 6 = .ok (.istore_n 2, 1) := by decide +kernel
theorem ww58_6 {d : Nat} {l0 l1 l2 : Option mw_V} {x : Int} {st : List mw_V} {σ : mw_S} {Q : Option mw_V → mw_S → Prop} (h : mw_nlo l1 = true) : mw_WP d 58 6 [l0, l1, l2] (jI x :: st) σ Q ↔ mw_WP d 58 7 [l0, l1, some (jI x)] st σ Q := WP_istore_n mq58 dd58_6 (Nat.le_of_ble_eq_true rfl) (mw_nl_of (i := 1) rfl h) rfl
theorem dd58_7 : decode cX7_join 7 = .ok (.iload_n 2, 1) := by decide +kernel
theorem ww58_7 {d : Nat} {l0 l1 : Option mw_V} {x : Int} {st : List mw_V} {σ : mw_S} {Q : Option mw_V → mw_S → Prop} : mw_WP d 58 7 [l0, l1, some (jI x)] st σ Q ↔ mw_WP d 58 8 [l0, l1, some (jI x)] (jI x :: st) σ Q := WP_iload_n mq58 dd58_7 rfl
theorem dd58_8 : decode cX7_join 8 = .ok (.ifCond .lt 29, 3) := by decide +kernel
theorem ww58_8 {d : Nat} {l0 l1 l2 : Option mw_V} {x : Int} {st : List mw_V} {σ : mw_S} {Q : Option mw_V → mw_S → Prop} : mw_WP d 58 8 [l0, l1, l2] (jI x :: st) σ Q ↔ (if x < 0 then mw_WP d 58 37 [l0, l1, l2] st σ Q else mw_WP d 58 11 [l0, l1, l2] st σ Q) := WP_if_lt mq58 dd58_8 (by decide)
theorem dd58_11 : decode cX7_join 11 = .ok (.aload_n 0, 1) := by decide +kernel
theorem ww58_11 {d : Nat} {l1 l2 : Option mw_V} {x : Nat} {st : List mw_V} {σ : mw_S} {Q : Option mw_V → mw_S → Prop} : mw_WP d 58 11 [some (jR x), l1, l2] st σ Q ↔ mw_WP d 58 12 [some (jR x), l1, l2] (jR x :: st) σ Q := WP_aload_n mq58 dd58_11 rfl
theorem dd58_12 : decode cX7_join 12 = .ok (.getfield 26, 3) := by decide +kernel
theorem ww58_12 {d : Nat} {l0 l1 l2 : Option mw_V} {st : List mw_V} {σ : mw_S} {Q : Option mw_V → mw_S → Prop} : mw_WP d 58 12 [l0, l1, l2] (jR 1 :: st) σ Q ↔ mw_WP d 58 15 [l0, l1, l2] (jR 12 :: st) σ Q := WP_getR (ci := 6) (k := 10) mq58 dd58_12 (by decide) rfl
theorem dd58_15 : decode cX7_join 15 = .ok (.iload_n 2, 1) := by decide +kernel
theorem ww58_15 {d : Nat} {l0 l1 : Option mw_V} {x : Int} {st : List mw_V} {σ : mw_S} {Q : Option mw_V → mw_S → Prop} : mw_WP d 58 15 [l0, l1, some (jI x)] st σ Q ↔ mw_WP d 58 16 [l0, l1, some (jI x)] (jI x :: st) σ Q := WP_iload_n mq58 dd58_15 rfl
theorem dd58_16 : decode cX7_join 16 = .ok (.iaload, 1) := by decide +kernel
theorem ww58_16 {d : Nat} {l0 l1 l2 : Option mw_V} {z : Int} {a : Nat} {st : List mw_V} {σ : mw_S} {Q : Option mw_V → mw_S → Prop} : mw_WP d 58 16 [l0, l1, l2] (jI z :: jR a :: st) σ Q ↔ ((0 ≤ z ∧ z < mw_lenI a) ∧ mw_WP d 58 17 [l0, l1, l2] (jI (mw_rdI σ a z.toNat) :: st) σ Q) := WP_iaload mq58 dd58_16
theorem dd58_17 : decode cX7_join 17 = .ok (.invokestatic 218, 3) := by decide +kernel
theorem ww58_17 {d : Nat} {l0 l1 l2 : Option mw_V} {v0 : mw_V} {st : List mw_V} {σ : mw_S} {Q : Option mw_V → mw_S → Prop} (h8 : (st.map mw_cat).sum ≤ 8) : mw_WP d 58 17 [l0, l1, l2] (v0 :: st) σ Q ↔ mw_Call d 62 [v0] σ (fun r1 s1 => mw_WP d 58 20 [l0, l1, l2] (r1.toList ++ st) s1 Q) := WP_invs (as := [v0]) mq58 dd58_17 (by decide) mq62 rfl rfl h8
theorem dd58_20 : decode cX7_join 20 = .ok (.iload_n 1, 1) := by decide +kernel
theorem ww58_20 {d : Nat} {l0 l2 : Option mw_V} {x : Int} {st : List mw_V} {σ : mw_S} {Q : Option mw_V → mw_S → Prop} : mw_WP d 58 20 [l0, some (jI x), l2] st σ Q ↔ mw_WP d 58 21 [l0, some (jI x), l2] (jI x :: st) σ Q := WP_iload_n mq58 dd58_20 rfl
theorem dd58_21 : decode cX7_join 21 = .ok (.invokestatic 218, 3) := by decide +kernel
theorem ww58_21 {d : Nat} {l0 l1 l2 : Option mw_V} {v0 : mw_V} {st : List mw_V} {σ : mw_S} {Q : Option mw_V → mw_S → Prop} (h8 : (st.map mw_cat).sum ≤ 8) : mw_WP d 58 21 [l0, l1, l2] (v0 :: st) σ Q ↔ mw_Call d 62 [v0] σ (fun r1 s1 => mw_WP d 58 24 [l0, l1, l2] (r1.toList ++ st) s1 Q) := WP_invs (as := [v0]) mq58 dd58_21 (by decide) mq62 rfl rfl h8
theorem dd58_24 : decode cX7_join 24 = .ok (.if_icmp .lt 13, 3) := by decide +kernel
theorem ww58_24 {d : Nat} {l0 l1 l2 : Option mw_V} {x y : Int} {st : List mw_V} {σ : mw_S} {Q : Option mw_V → mw_S → Prop} : mw_WP d 58 24 [l0, l1, l2] (jI y :: jI x :: st) σ Q ↔ (if x < y then mw_WP d 58 37 [l0, l1, l2] st σ Q else mw_WP d 58 27 [l0, l1, l2] st σ Q) := WP_icmp_lt mq58 dd58_24 (by decide)
theorem dd58_27 : decode cX7_join 27 = .ok (.aload_n 0, 1) := by decide +kernel
theorem ww58_27 {d : Nat} {l1 l2 : Option mw_V} {x : Nat} {st : List mw_V} {σ : mw_S} {Q : Option mw_V → mw_S → Prop} : mw_WP d 58 27 [some (jR x), l1, l2] st σ Q ↔ mw_WP d 58 28 [some (jR x), l1, l2] (jR x :: st) σ Q := WP_aload_n mq58 dd58_27 rfl
theorem dd58_28 : decode cX7_join 28 = .ok (.invokevirtual 222, 3) := by decide +kernel
theorem ww58_28 {d : Nat} {l0 l1 l2 : Option mw_V} {a : Nat} {st : List mw_V} {σ : mw_S} {Q : Option mw_V → mw_S → Prop} (hr : mw_rc a = 7) (h8 : (st.map mw_cat).sum ≤ 8) : mw_WP d 58 28 [l0, l1, l2] (jR a :: st) σ Q ↔ mw_Call d 61 [jR a] σ (fun r1 s1 => mw_WP d 58 31 [l0, l1, l2] (r1.toList ++ st) s1 Q) := WP_inv (as := []) mq58 dd58_28 (by decide) mq61 rfl hr h8
theorem dd58_31 : decode cX7_join 31 = .ok (.iinc 2 (-1), 3) := by decide +kernel
theorem ww58_31 {d : Nat} {l0 l1 : Option mw_V} {x : Int} {st : List mw_V} {σ : mw_S} {Q : Option mw_V → mw_S → Prop} (h : mw_nlo l1 = true) : mw_WP d 58 31 [l0, l1, some (jI x)] st σ Q ↔ mw_WP d 58 34 [l0, l1, some (jI (w32 (x + (-1))))] st σ Q := WP_iinc mq58 dd58_31 rfl (Nat.le_of_ble_eq_true rfl) (mw_nl_of (i := 1) rfl h) rfl
theorem dd58_34 : decode cX7_join 34 = .ok (.goto (-27), 3) := by decide +kernel
theorem ww58_34 {d : Nat} {l0 l1 l2 : Option mw_V} {st : List mw_V} {σ : mw_S} {Q : Option mw_V → mw_S → Prop} : mw_WP d 58 34 [l0, l1, l2] st σ Q ↔ mw_WP d 58 7 [l0, l1, l2] st σ Q := WP_goto mq58 dd58_34 (by decide)
theorem dd58_37 : decode cX7_join 37 = .ok (.aload_n 0, 1) := by decide +kernel
theorem ww58_37 {d : Nat} {l1 l2 : Option mw_V} {x : Nat} {st : List mw_V} {σ : mw_S} {Q : Option mw_V → mw_S → Prop} : mw_WP d 58 37 [some (jR x), l1, l2] st σ Q ↔ mw_WP d 58 38 [some (jR x), l1, l2] (jR x :: st) σ Q := WP_aload_n mq58 dd58_37 rfl
theorem dd58_38 : decode cX7_join 38 = .ok (.iload_n 1, 1) := by decide +kernel
theorem ww58_38 {d : Nat} {l0 l2 : Option mw_V} {x : Int} {st : List mw_V} {σ : mw_S} {Q : Option mw_V → mw_S → Prop} : mw_WP d 58 38 [l0, some (jI x), l2] st σ Q ↔ mw_WP d 58 39 [l0, some (jI x), l2] (jI x :: st) σ Q := WP_iload_n mq58 dd58_38 rfl
theorem dd58_39 : decode cX7_join 39 = .ok (.invokevirtual 205, 3) := by decide +kernel
theorem ww58_39 {d : Nat} {l0 l1 l2 : Option mw_V} {v0 : mw_V} {a : Nat} {st : List mw_V} {σ : mw_S} {Q : Option mw_V → mw_S → Prop} (hr : mw_rc a = 7) (h8 : (st.map mw_cat).sum ≤ 8) : mw_WP d 58 39 [l0, l1, l2] (v0 :: jR a :: st) σ Q ↔ mw_Call d 59 [jR a, v0] σ (fun r1 s1 => mw_WP d 58 42 [l0, l1, l2] (r1.toList ++ st) s1 Q) := WP_inv (as := [v0]) mq58 dd58_39 (by decide) mq59 rfl hr h8
theorem dd58_42 : decode cX7_join 42 = .ok (.return_, 1) := by decide +kernel
theorem ww58_42 {d : Nat} {l0 l1 l2 : Option mw_V} {σ : mw_S} {Q : Option mw_V → mw_S → Prop} : mw_WP d 58 42 [l0, l1, l2] [] σ Q ↔ Q none σ := WP_return mq58 dd58_42 rfl
theorem ee59 {d : Nat} {a : Nat} {z0 : Int} {σ : mw_S} {Q : Option mw_V → mw_S → Prop} : mw_Call (d + 1) 59 [jR a, jI z0] σ Q ↔ mw_WP d 59 0 [some (jR a), some (jI z0)] [] σ Q := CL_u mq59 (Nat.le_of_ble_eq_true rfl) rfl
theorem dd59_0 : decode cX7_hold 0 = .ok (.aload_n 0, 1) := by decide +kernel
theorem ww59_0 {d : Nat} {l1 : Option mw_V} {x : Nat} {st : List mw_V} {σ : mw_S} {Q : Option mw_V → mw_S → Prop} : mw_WP d 59 0 [some (jR x), l1] st σ Q ↔ mw_WP d 59 1 [some (jR x), l1] (jR x :: st) σ Q := WP_aload_n mq59 dd59_0 rfl
theorem dd59_1 : decode cX7_hold 1 = .ok (.getfield 146, 3) := by decide +kernel
theorem ww59_1 {d : Nat} {l0 l1 : Option mw_V} {st : List mw_V} {σ : mw_S} {Q : Option mw_V → mw_S → Prop} : mw_WP d 59 1 [l0, l1] (jR 1 :: st) σ Q ↔ mw_WP d 59 4 [l0, l1] (jI (σ 1 11) :: st) σ Q := WP_getI (ci := 6) (k := 11) mq59 dd59_1 (by decide) (Or.inl rfl)
theorem dd59_4 : decode cX7_hold 4 = .ok (.bipush 64, 2) := by decide +kernel
theorem ww59_4 {d : Nat} {l0 l1 : Option mw_V} {st : List mw_V} {σ : mw_S} {Q : Option mw_V → mw_S → Prop} : mw_WP d 59 4 [l0, l1] st σ Q ↔ mw_WP d 59 6 [l0, l1] (jI (64) :: st) σ Q := WP_bipush mq59 dd59_4 (by decide)
theorem dd59_6 : decode cX7_hold 6 = .ok (.if_icmp .ge 23, 3) := by decide +kernel
theorem ww59_6 {d : Nat} {l0 l1 : Option mw_V} {x y : Int} {st : List mw_V} {σ : mw_S} {Q : Option mw_V → mw_S → Prop} : mw_WP d 59 6 [l0, l1] (jI y :: jI x :: st) σ Q ↔ (if y ≤ x then mw_WP d 59 29 [l0, l1] st σ Q else mw_WP d 59 9 [l0, l1] st σ Q) := WP_icmp_ge mq59 dd59_6 (by decide)
theorem dd59_9 : decode cX7_hold 9 = .ok (.aload_n 0, 1) := by decide +kernel
theorem ww59_9 {d : Nat} {l1 : Option mw_V} {x : Nat} {st : List mw_V} {σ : mw_S} {Q : Option mw_V → mw_S → Prop} : mw_WP d 59 9 [some (jR x), l1] st σ Q ↔ mw_WP d 59 10 [some (jR x), l1] (jR x :: st) σ Q := WP_aload_n mq59 dd59_9 rfl
theorem dd59_10 : decode cX7_hold 10 = .ok (.getfield 26, 3) := by decide +kernel
theorem ww59_10 {d : Nat} {l0 l1 : Option mw_V} {st : List mw_V} {σ : mw_S} {Q : Option mw_V → mw_S → Prop} : mw_WP d 59 10 [l0, l1] (jR 1 :: st) σ Q ↔ mw_WP d 59 13 [l0, l1] (jR 12 :: st) σ Q := WP_getR (ci := 6) (k := 10) mq59 dd59_10 (by decide) rfl
theorem dd59_13 : decode cX7_hold 13 = .ok (.aload_n 0, 1) := by decide +kernel
theorem ww59_13 {d : Nat} {l1 : Option mw_V} {x : Nat} {st : List mw_V} {σ : mw_S} {Q : Option mw_V → mw_S → Prop} : mw_WP d 59 13 [some (jR x), l1] st σ Q ↔ mw_WP d 59 14 [some (jR x), l1] (jR x :: st) σ Q := WP_aload_n mq59 dd59_13 rfl
theorem dd59_14 : decode cX7_hold 14 = .ok (.getfield 146, 3) := by decide +kernel
theorem ww59_14 {d : Nat} {l0 l1 : Option mw_V} {st : List mw_V} {σ : mw_S} {Q : Option mw_V → mw_S → Prop} : mw_WP d 59 14 [l0, l1] (jR 1 :: st) σ Q ↔ mw_WP d 59 17 [l0, l1] (jI (σ 1 11) :: st) σ Q := WP_getI (ci := 6) (k := 11) mq59 dd59_14 (by decide) (Or.inl rfl)
theorem dd59_17 : decode cX7_hold 17 = .ok (.iload_n 1, 1) := by decide +kernel
theorem ww59_17 {d : Nat} {l0 : Option mw_V} {x : Int} {st : List mw_V} {σ : mw_S} {Q : Option mw_V → mw_S → Prop} : mw_WP d 59 17 [l0, some (jI x)] st σ Q ↔ mw_WP d 59 18 [l0, some (jI x)] (jI x :: st) σ Q := WP_iload_n mq59 dd59_17 rfl
theorem dd59_18 : decode cX7_hold 18 = .ok (.iastore, 1) := by decide +kernel
theorem ww59_18 {d : Nat} {l0 l1 : Option mw_V} {x z : Int} {a : Nat} {st : List mw_V} {σ : mw_S} {Q : Option mw_V → mw_S → Prop} : mw_WP d 59 18 [l0, l1] (jI x :: jI z :: jR a :: st) σ Q ↔ ((0 ≤ z ∧ z < mw_lenW 0 a) ∧ mw_WP d 59 19 [l0, l1] st (upS σ a z.toNat x) Q) := WP_iastore mq59 dd59_18
theorem dd59_19 : decode cX7_hold 19 = .ok (.aload_n 0, 1) := by decide +kernel
theorem ww59_19 {d : Nat} {l1 : Option mw_V} {x : Nat} {st : List mw_V} {σ : mw_S} {Q : Option mw_V → mw_S → Prop} : mw_WP d 59 19 [some (jR x), l1] st σ Q ↔ mw_WP d 59 20 [some (jR x), l1] (jR x :: st) σ Q := WP_aload_n mq59 dd59_19 rfl
theorem dd59_20 : decode cX7_hold 20 = .ok (.dup, 1) := by decide +kernel
theorem ww59_20 {d : Nat} {l0 l1 : Option mw_V} {v : mw_V} {st : List mw_V} {σ : mw_S} {Q : Option mw_V → mw_S → Prop} (h : mw_cat v = 1) : mw_WP d 59 20 [l0, l1] (v :: st) σ Q ↔ mw_WP d 59 21 [l0, l1] (v :: v :: st) σ Q := WP_dup mq59 dd59_20 h
theorem dd59_21 : decode cX7_hold 21 = .ok (.getfield 146, 3) := by decide +kernel
theorem ww59_21 {d : Nat} {l0 l1 : Option mw_V} {st : List mw_V} {σ : mw_S} {Q : Option mw_V → mw_S → Prop} : mw_WP d 59 21 [l0, l1] (jR 1 :: st) σ Q ↔ mw_WP d 59 24 [l0, l1] (jI (σ 1 11) :: st) σ Q := WP_getI (ci := 6) (k := 11) mq59 dd59_21 (by decide) (Or.inl rfl)
theorem dd59_24 : decode cX7_hold 24 = .ok (.iconst 1, 1) := by decide +kernel
theorem ww59_24 {d : Nat} {l0 l1 : Option mw_V} {st : List mw_V} {σ : mw_S} {Q : Option mw_V → mw_S → Prop} : mw_WP d 59 24 [l0, l1] st σ Q ↔ mw_WP d 59 25 [l0, l1] (jI (1) :: st) σ Q := WP_iconst mq59 dd59_24 (by decide)
theorem dd59_25 : decode cX7_hold 25 = .ok (.iadd, 1) := by decide +kernel
theorem ww59_25 {d : Nat} {l0 l1 : Option mw_V} {x y : Int} {st : List mw_V} {σ : mw_S} {Q : Option mw_V → mw_S → Prop} : mw_WP d 59 25 [l0, l1] (jI y :: jI x :: st) σ Q ↔ mw_WP d 59 26 [l0, l1] (jI (w32 (x + y)) :: st) σ Q := WP_iadd mq59 dd59_25
theorem dd59_26 : decode cX7_hold 26 = .ok (.putfield 146, 3) := by decide +kernel
theorem ww59_26 {d : Nat} {l0 l1 : Option mw_V} {v : Int} {st : List mw_V} {σ : mw_S} {Q : Option mw_V → mw_S → Prop} : mw_WP d 59 26 [l0, l1] (jI v :: jR 1 :: st) σ Q ↔ mw_WP d 59 29 [l0, l1] st (upS σ 1 11 v) Q := WP_putI (ci := 6) (k := 11) mq59 dd59_26 (by decide) rfl
theorem dd59_29 : decode cX7_hold 29 = .ok (.return_, 1) := by decide +kernel
theorem ww59_29 {d : Nat} {l0 l1 : Option mw_V} {σ : mw_S} {Q : Option mw_V → mw_S → Prop} : mw_WP d 59 29 [l0, l1] [] σ Q ↔ Q none σ := WP_return mq59 dd59_29 rfl
theorem ee60 {d : Nat} {a : Nat} {z0 : Int} {σ : mw_S} {Q : Option mw_V → mw_S → Prop} : mw_Call (d + 1) 60 [jR a, jI z0] σ Q ↔ mw_WP d 60 0 [some (jR a), some (jI z0), none] [] σ Q := CL_u mq60 (Nat.le_of_ble_eq_true rfl) rfl
theorem dd60_0 : decode cX7_release 0 = .ok (.aload_n 0, 1) := by decide +kernel
theorem ww60_0 {d : Nat} {l1 l2 : Option mw_V} {x : Nat} {st : List mw_V} {σ : mw_S} {Q : Option mw_V → mw_S → Prop} : mw_WP d 60 0 [some (jR x), l1, l2] st σ Q ↔ mw_WP d 60 1 [some (jR x), l1, l2] (jR x :: st) σ Q := WP_aload_n mq60 dd60_0 rfl
theorem dd60_1 : decode cX7_release 1 = .ok (.getfield 146, 3) := by decide +kernel
theorem ww60_1 {d : Nat} {l0 l1 l2 : Option mw_V} {st : List mw_V} {σ : mw_S} {Q : Option mw_V → mw_S → Prop} : mw_WP d 60 1 [l0, l1, l2] (jR 1 :: st) σ Q ↔ mw_WP d 60 4 [l0, l1, l2] (jI (σ 1 11) :: st) σ Q := WP_getI (ci := 6) (k := 11) mq60 dd60_1 (by decide) (Or.inl rfl)
theorem dd60_4 : decode cX7_release 4 = .ok (.iconst 1, 1) := by decide +kernel
theorem ww60_4 {d : Nat} {l0 l1 l2 : Option mw_V} {st : List mw_V} {σ : mw_S} {Q : Option mw_V → mw_S → Prop} : mw_WP d 60 4 [l0, l1, l2] st σ Q ↔ mw_WP d 60 5 [l0, l1, l2] (jI (1) :: st) σ Q := WP_iconst mq60 dd60_4 (by decide)
theorem dd60_5 : decode cX7_release 5 = .ok (.isub, 1) := by decide +kernel
theorem ww60_5 {d : Nat} {l0 l1 l2 : Option mw_V} {x y : Int} {st : List mw_V} {σ : mw_S} {Q : Option mw_V → mw_S → Prop} : mw_WP d 60 5 [l0, l1, l2] (jI y :: jI x :: st) σ Q ↔ mw_WP d 60 6 [l0, l1, l2] (jI (w32 (x - y)) :: st) σ Q := WP_isub mq60 dd60_5
theorem dd60_6 : decode cX7_release 6 = .ok (.istore_n 2, 1) := by decide +kernel
theorem ww60_6 {d : Nat} {l0 l1 l2 : Option mw_V} {x : Int} {st : List mw_V} {σ : mw_S} {Q : Option mw_V → mw_S → Prop} (h : mw_nlo l1 = true) : mw_WP d 60 6 [l0, l1, l2] (jI x :: st) σ Q ↔ mw_WP d 60 7 [l0, l1, some (jI x)] st σ Q := WP_istore_n mq60 dd60_6 (Nat.le_of_ble_eq_true rfl) (mw_nl_of (i := 1) rfl h) rfl
theorem dd60_7 : decode cX7_release 7 = .ok (.iload_n 2, 1) := by decide +kernel
theorem ww60_7 {d : Nat} {l0 l1 : Option mw_V} {x : Int} {st : List mw_V} {σ : mw_S} {Q : Option mw_V → mw_S → Prop} : mw_WP d 60 7 [l0, l1, some (jI x)] st σ Q ↔ mw_WP d 60 8 [l0, l1, some (jI x)] (jI x :: st) σ Q := WP_iload_n mq60 dd60_7 rfl
theorem dd60_8 : decode cX7_release 8 = .ok (.ifCond .lt 23, 3) := by decide +kernel
theorem ww60_8 {d : Nat} {l0 l1 l2 : Option mw_V} {x : Int} {st : List mw_V} {σ : mw_S} {Q : Option mw_V → mw_S → Prop} : mw_WP d 60 8 [l0, l1, l2] (jI x :: st) σ Q ↔ (if x < 0 then mw_WP d 60 31 [l0, l1, l2] st σ Q else mw_WP d 60 11 [l0, l1, l2] st σ Q) := WP_if_lt mq60 dd60_8 (by decide)
theorem dd60_11 : decode cX7_release 11 = .ok (.aload_n 0, 1) := by decide +kernel
theorem ww60_11 {d : Nat} {l1 l2 : Option mw_V} {x : Nat} {st : List mw_V} {σ : mw_S} {Q : Option mw_V → mw_S → Prop} : mw_WP d 60 11 [some (jR x), l1, l2] st σ Q ↔ mw_WP d 60 12 [some (jR x), l1, l2] (jR x :: st) σ Q := WP_aload_n mq60 dd60_11 rfl
theorem dd60_12 : decode cX7_release 12 = .ok (.getfield 26, 3) := by decide +kernel
theorem ww60_12 {d : Nat} {l0 l1 l2 : Option mw_V} {st : List mw_V} {σ : mw_S} {Q : Option mw_V → mw_S → Prop} : mw_WP d 60 12 [l0, l1, l2] (jR 1 :: st) σ Q ↔ mw_WP d 60 15 [l0, l1, l2] (jR 12 :: st) σ Q := WP_getR (ci := 6) (k := 10) mq60 dd60_12 (by decide) rfl
theorem dd60_15 : decode cX7_release 15 = .ok (.iload_n 2, 1) := by decide +kernel
theorem ww60_15 {d : Nat} {l0 l1 : Option mw_V} {x : Int} {st : List mw_V} {σ : mw_S} {Q : Option mw_V → mw_S → Prop} : mw_WP d 60 15 [l0, l1, some (jI x)] st σ Q ↔ mw_WP d 60 16 [l0, l1, some (jI x)] (jI x :: st) σ Q := WP_iload_n mq60 dd60_15 rfl
theorem dd60_16 : decode cX7_release 16 = .ok (.iaload, 1) := by decide +kernel
theorem ww60_16 {d : Nat} {l0 l1 l2 : Option mw_V} {z : Int} {a : Nat} {st : List mw_V} {σ : mw_S} {Q : Option mw_V → mw_S → Prop} : mw_WP d 60 16 [l0, l1, l2] (jI z :: jR a :: st) σ Q ↔ ((0 ≤ z ∧ z < mw_lenI a) ∧ mw_WP d 60 17 [l0, l1, l2] (jI (mw_rdI σ a z.toNat) :: st) σ Q) := WP_iaload mq60 dd60_16
theorem dd60_17 : decode cX7_release 17 = .ok (.iload_n 1, 1) := by decide +kernel
theorem ww60_17 {d : Nat} {l0 l2 : Option mw_V} {x : Int} {st : List mw_V} {σ : mw_S} {Q : Option mw_V → mw_S → Prop} : mw_WP d 60 17 [l0, some (jI x), l2] st σ Q ↔ mw_WP d 60 18 [l0, some (jI x), l2] (jI x :: st) σ Q := WP_iload_n mq60 dd60_17 rfl
theorem dd60_18 : decode cX7_release 18 = .ok (.if_icmp .eq 13, 3) := by decide +kernel
theorem ww60_18 {d : Nat} {l0 l1 l2 : Option mw_V} {x y : Int} {st : List mw_V} {σ : mw_S} {Q : Option mw_V → mw_S → Prop} : mw_WP d 60 18 [l0, l1, l2] (jI y :: jI x :: st) σ Q ↔ (if x = y then mw_WP d 60 31 [l0, l1, l2] st σ Q else mw_WP d 60 21 [l0, l1, l2] st σ Q) := WP_icmp_eq mq60 dd60_18 (by decide)
theorem dd60_21 : decode cX7_release 21 = .ok (.aload_n 0, 1) := by decide +kernel
theorem ww60_21 {d : Nat} {l1 l2 : Option mw_V} {x : Nat} {st : List mw_V} {σ : mw_S} {Q : Option mw_V → mw_S → Prop} : mw_WP d 60 21 [some (jR x), l1, l2] st σ Q ↔ mw_WP d 60 22 [some (jR x), l1, l2] (jR x :: st) σ Q := WP_aload_n mq60 dd60_21 rfl
theorem dd60_22 : decode cX7_release 22 = .ok (.invokevirtual 222, 3) := by decide +kernel
theorem ww60_22 {d : Nat} {l0 l1 l2 : Option mw_V} {a : Nat} {st : List mw_V} {σ : mw_S} {Q : Option mw_V → mw_S → Prop} (hr : mw_rc a = 7) (h8 : (st.map mw_cat).sum ≤ 8) : mw_WP d 60 22 [l0, l1, l2] (jR a :: st) σ Q ↔ mw_Call d 61 [jR a] σ (fun r1 s1 => mw_WP d 60 25 [l0, l1, l2] (r1.toList ++ st) s1 Q) := WP_inv (as := []) mq60 dd60_22 (by decide) mq61 rfl hr h8
theorem dd60_25 : decode cX7_release 25 = .ok (.iinc 2 (-1), 3) := by decide +kernel
theorem ww60_25 {d : Nat} {l0 l1 : Option mw_V} {x : Int} {st : List mw_V} {σ : mw_S} {Q : Option mw_V → mw_S → Prop} (h : mw_nlo l1 = true) : mw_WP d 60 25 [l0, l1, some (jI x)] st σ Q ↔ mw_WP d 60 28 [l0, l1, some (jI (w32 (x + (-1))))] st σ Q := WP_iinc mq60 dd60_25 rfl (Nat.le_of_ble_eq_true rfl) (mw_nl_of (i := 1) rfl h) rfl
theorem dd60_28 : decode cX7_release 28 = .ok (.goto (-21), 3) := by decide +kernel
theorem ww60_28 {d : Nat} {l0 l1 l2 : Option mw_V} {st : List mw_V} {σ : mw_S} {Q : Option mw_V → mw_S → Prop} : mw_WP d 60 28 [l0, l1, l2] st σ Q ↔ mw_WP d 60 7 [l0, l1, l2] st σ Q := WP_goto mq60 dd60_28 (by decide)
theorem dd60_31 : decode cX7_release 31 = .ok (.aload_n 0, 1) := by decide +kernel
theorem ww60_31 {d : Nat} {l1 l2 : Option mw_V} {x : Nat} {st : List mw_V} {σ : mw_S} {Q : Option mw_V → mw_S → Prop} : mw_WP d 60 31 [some (jR x), l1, l2] st σ Q ↔ mw_WP d 60 32 [some (jR x), l1, l2] (jR x :: st) σ Q := WP_aload_n mq60 dd60_31 rfl
theorem dd60_32 : decode cX7_release 32 = .ok (.getfield 146, 3) := by decide +kernel
theorem ww60_32 {d : Nat} {l0 l1 l2 : Option mw_V} {st : List mw_V} {σ : mw_S} {Q : Option mw_V → mw_S → Prop} : mw_WP d 60 32 [l0, l1, l2] (jR 1 :: st) σ Q ↔ mw_WP d 60 35 [l0, l1, l2] (jI (σ 1 11) :: st) σ Q := WP_getI (ci := 6) (k := 11) mq60 dd60_32 (by decide) (Or.inl rfl)
theorem dd60_35 : decode cX7_release 35 = .ok (.ifCond .le 23, 3) := by decide +kernel
theorem ww60_35 {d : Nat} {l0 l1 l2 : Option mw_V} {x : Int} {st : List mw_V} {σ : mw_S} {Q : Option mw_V → mw_S → Prop} : mw_WP d 60 35 [l0, l1, l2] (jI x :: st) σ Q ↔ (if x ≤ 0 then mw_WP d 60 58 [l0, l1, l2] st σ Q else mw_WP d 60 38 [l0, l1, l2] st σ Q) := WP_if_le mq60 dd60_35 (by decide)
theorem dd60_38 : decode cX7_release 38 = .ok (.aload_n 0, 1) := by decide +kernel
theorem ww60_38 {d : Nat} {l1 l2 : Option mw_V} {x : Nat} {st : List mw_V} {σ : mw_S} {Q : Option mw_V → mw_S → Prop} : mw_WP d 60 38 [some (jR x), l1, l2] st σ Q ↔ mw_WP d 60 39 [some (jR x), l1, l2] (jR x :: st) σ Q := WP_aload_n mq60 dd60_38 rfl
theorem dd60_39 : decode cX7_release 39 = .ok (.dup, 1) := by decide +kernel
theorem ww60_39 {d : Nat} {l0 l1 l2 : Option mw_V} {v : mw_V} {st : List mw_V} {σ : mw_S} {Q : Option mw_V → mw_S → Prop} (h : mw_cat v = 1) : mw_WP d 60 39 [l0, l1, l2] (v :: st) σ Q ↔ mw_WP d 60 40 [l0, l1, l2] (v :: v :: st) σ Q := WP_dup mq60 dd60_39 h
theorem dd60_40 : decode cX7_release 40 = .ok (.getfield 146, 3) := by decide +kernel
theorem ww60_40 {d : Nat} {l0 l1 l2 : Option mw_V} {st : List mw_V} {σ : mw_S} {Q : Option mw_V → mw_S → Prop} : mw_WP d 60 40 [l0, l1, l2] (jR 1 :: st) σ Q ↔ mw_WP d 60 43 [l0, l1, l2] (jI (σ 1 11) :: st) σ Q := WP_getI (ci := 6) (k := 11) mq60 dd60_40 (by decide) (Or.inl rfl)
theorem dd60_43 : decode cX7_release 43 = .ok (.iconst 1, 1) := by decide +kernel
theorem ww60_43 {d : Nat} {l0 l1 l2 : Option mw_V} {st : List mw_V} {σ : mw_S} {Q : Option mw_V → mw_S → Prop} : mw_WP d 60 43 [l0, l1, l2] st σ Q ↔ mw_WP d 60 44 [l0, l1, l2] (jI (1) :: st) σ Q := WP_iconst mq60 dd60_43 (by decide)
theorem dd60_44 : decode cX7_release 44 = .ok (.isub, 1) := by decide +kernel
theorem ww60_44 {d : Nat} {l0 l1 l2 : Option mw_V} {x y : Int} {st : List mw_V} {σ : mw_S} {Q : Option mw_V → mw_S → Prop} : mw_WP d 60 44 [l0, l1, l2] (jI y :: jI x :: st) σ Q ↔ mw_WP d 60 45 [l0, l1, l2] (jI (w32 (x - y)) :: st) σ Q := WP_isub mq60 dd60_44
theorem dd60_45 : decode cX7_release 45 = .ok (.putfield 146, 3) := by decide +kernel
theorem ww60_45 {d : Nat} {l0 l1 l2 : Option mw_V} {v : Int} {st : List mw_V} {σ : mw_S} {Q : Option mw_V → mw_S → Prop} : mw_WP d 60 45 [l0, l1, l2] (jI v :: jR 1 :: st) σ Q ↔ mw_WP d 60 48 [l0, l1, l2] st (upS σ 1 11 v) Q := WP_putI (ci := 6) (k := 11) mq60 dd60_45 (by decide) rfl
theorem dd60_48 : decode cX7_release 48 = .ok (.aload_n 0, 1) := by decide +kernel
theorem ww60_48 {d : Nat} {l1 l2 : Option mw_V} {x : Nat} {st : List mw_V} {σ : mw_S} {Q : Option mw_V → mw_S → Prop} : mw_WP d 60 48 [some (jR x), l1, l2] st σ Q ↔ mw_WP d 60 49 [some (jR x), l1, l2] (jR x :: st) σ Q := WP_aload_n mq60 dd60_48 rfl
theorem dd60_49 : decode cX7_release 49 = .ok (.dup, 1) := by decide +kernel
theorem ww60_49 {d : Nat} {l0 l1 l2 : Option mw_V} {v : mw_V} {st : List mw_V} {σ : mw_S} {Q : Option mw_V → mw_S → Prop} (h : mw_cat v = 1) : mw_WP d 60 49 [l0, l1, l2] (v :: st) σ Q ↔ mw_WP d 60 50 [l0, l1, l2] (v :: v :: st) σ Q := WP_dup mq60 dd60_49 h
theorem dd60_50 : decode cX7_release 50 = .ok (.getfield 149, 3) := by decide +kernel
theorem ww60_50 {d : Nat} {l0 l1 l2 : Option mw_V} {st : List mw_V} {σ : mw_S} {Q : Option mw_V → mw_S → Prop} : mw_WP d 60 50 [l0, l1, l2] (jR 1 :: st) σ Q ↔ mw_WP d 60 53 [l0, l1, l2] (jI (σ 1 12) :: st) σ Q := WP_getI (ci := 6) (k := 12) mq60 dd60_50 (by decide) (Or.inl rfl)
theorem dd60_53 : decode cX7_release 53 = .ok (.iconst 1, 1) := by decide +kernel
theorem ww60_53 {d : Nat} {l0 l1 l2 : Option mw_V} {st : List mw_V} {σ : mw_S} {Q : Option mw_V → mw_S → Prop} : mw_WP d 60 53 [l0, l1, l2] st σ Q ↔ mw_WP d 60 54 [l0, l1, l2] (jI (1) :: st) σ Q := WP_iconst mq60 dd60_53 (by decide)
theorem dd60_54 : decode cX7_release 54 = .ok (.isub, 1) := by decide +kernel
theorem ww60_54 {d : Nat} {l0 l1 l2 : Option mw_V} {x y : Int} {st : List mw_V} {σ : mw_S} {Q : Option mw_V → mw_S → Prop} : mw_WP d 60 54 [l0, l1, l2] (jI y :: jI x :: st) σ Q ↔ mw_WP d 60 55 [l0, l1, l2] (jI (w32 (x - y)) :: st) σ Q := WP_isub mq60 dd60_54
theorem dd60_55 : decode cX7_release 55 = .ok (.putfield 149, 3) := by decide +kernel
theorem ww60_55 {d : Nat} {l0 l1 l2 : Option mw_V} {v : Int} {st : List mw_V} {σ : mw_S} {Q : Option mw_V → mw_S → Prop} : mw_WP d 60 55 [l0, l1, l2] (jI v :: jR 1 :: st) σ Q ↔ mw_WP d 60 58 [l0, l1, l2] st (upS σ 1 12 v) Q := WP_putI (ci := 6) (k := 12) mq60 dd60_55 (by decide) rfl
theorem dd60_58 : decode cX7_release 58 = .ok (.return_, 1) := by decide +kernel
theorem ww60_58 {d : Nat} {l0 l1 l2 : Option mw_V} {σ : mw_S} {Q : Option mw_V → mw_S → Prop} : mw_WP d 60 58 [l0, l1, l2] [] σ Q ↔ Q none σ := WP_return mq60 dd60_58 rfl
theorem ee61 {d : Nat} {a : Nat} {σ : mw_S} {Q : Option mw_V → mw_S → Prop} : mw_Call (d + 1) 61 [jR a] σ Q ↔ mw_WP d 61 0 [some (jR a)] [] σ Q := CL_u mq61 (Nat.le_of_ble_eq_true rfl) rfl
theorem dd61_0 : decode cX7_settleTop 0 = .ok (.aload_n 0, 1) := by decide +kernel
theorem ww61_0 {d : Nat} {x : Nat} {st : List mw_V} {σ : mw_S} {Q : Option mw_V → mw_S → Prop} : mw_WP d 61 0 [some (jR x)] st σ Q ↔ mw_WP d 61 1 [some (jR x)] (jR x :: st) σ Q := WP_aload_n mq61 dd61_0 rfl
theorem dd61_1 : decode cX7_settleTop 1 = .ok (.getfield 146, 3) := by decide +kernel
theorem ww61_1 {d : Nat} {l0 : Option mw_V} {st : List mw_V} {σ : mw_S} {Q : Option mw_V → mw_S → Prop} : mw_WP d 61 1 [l0] (jR 1 :: st) σ Q ↔ mw_WP d 61 4 [l0] (jI (σ 1 11) :: st) σ Q := WP_getI (ci := 6) (k := 11) mq61 dd61_1 (by decide) (Or.inl rfl)
theorem dd61_4 : decode cX7_settleTop 4 = .ok (.ifCond .le 58, 3) := by decide +kernel
theorem ww61_4 {d : Nat} {l0 : Option mw_V} {x : Int} {st : List mw_V} {σ : mw_S} {Q : Option mw_V → mw_S → Prop} : mw_WP d 61 4 [l0] (jI x :: st) σ Q ↔ (if x ≤ 0 then mw_WP d 61 62 [l0] st σ Q else mw_WP d 61 7 [l0] st σ Q) := WP_if_le mq61 dd61_4 (by decide)
theorem dd61_7 : decode cX7_settleTop 7 = .ok (.aload_n 0, 1) := by decide +kernel
theorem ww61_7 {d : Nat} {x : Nat} {st : List mw_V} {σ : mw_S} {Q : Option mw_V → mw_S → Prop} : mw_WP d 61 7 [some (jR x)] st σ Q ↔ mw_WP d 61 8 [some (jR x)] (jR x :: st) σ Q := WP_aload_n mq61 dd61_7 rfl
theorem dd61_8 : decode cX7_settleTop 8 = .ok (.dup, 1) := by decide +kernel
theorem ww61_8 {d : Nat} {l0 : Option mw_V} {v : mw_V} {st : List mw_V} {σ : mw_S} {Q : Option mw_V → mw_S → Prop} (h : mw_cat v = 1) : mw_WP d 61 8 [l0] (v :: st) σ Q ↔ mw_WP d 61 9 [l0] (v :: v :: st) σ Q := WP_dup mq61 dd61_8 h
theorem dd61_9 : decode cX7_settleTop 9 = .ok (.getfield 146, 3) := by decide +kernel
theorem ww61_9 {d : Nat} {l0 : Option mw_V} {st : List mw_V} {σ : mw_S} {Q : Option mw_V → mw_S → Prop} : mw_WP d 61 9 [l0] (jR 1 :: st) σ Q ↔ mw_WP d 61 12 [l0] (jI (σ 1 11) :: st) σ Q := WP_getI (ci := 6) (k := 11) mq61 dd61_9 (by decide) (Or.inl rfl)
theorem dd61_12 : decode cX7_settleTop 12 = .ok (.iconst 1, 1) := by decide +kernel
theorem ww61_12 {d : Nat} {l0 : Option mw_V} {st : List mw_V} {σ : mw_S} {Q : Option mw_V → mw_S → Prop} : mw_WP d 61 12 [l0] st σ Q ↔ mw_WP d 61 13 [l0] (jI (1) :: st) σ Q := WP_iconst mq61 dd61_12 (by decide)
theorem dd61_13 : decode cX7_settleTop 13 = .ok (.isub, 1) := by decide +kernel
theorem ww61_13 {d : Nat} {l0 : Option mw_V} {x y : Int} {st : List mw_V} {σ : mw_S} {Q : Option mw_V → mw_S → Prop} : mw_WP d 61 13 [l0] (jI y :: jI x :: st) σ Q ↔ mw_WP d 61 14 [l0] (jI (w32 (x - y)) :: st) σ Q := WP_isub mq61 dd61_13
theorem dd61_14 : decode cX7_settleTop 14 = .ok (.putfield 146, 3) := by decide +kernel
theorem ww61_14 {d : Nat} {l0 : Option mw_V} {v : Int} {st : List mw_V} {σ : mw_S} {Q : Option mw_V → mw_S → Prop} : mw_WP d 61 14 [l0] (jI v :: jR 1 :: st) σ Q ↔ mw_WP d 61 17 [l0] st (upS σ 1 11 v) Q := WP_putI (ci := 6) (k := 11) mq61 dd61_14 (by decide) rfl
theorem dd61_17 : decode cX7_settleTop 17 = .ok (.aload_n 0, 1) := by decide +kernel
theorem ww61_17 {d : Nat} {x : Nat} {st : List mw_V} {σ : mw_S} {Q : Option mw_V → mw_S → Prop} : mw_WP d 61 17 [some (jR x)] st σ Q ↔ mw_WP d 61 18 [some (jR x)] (jR x :: st) σ Q := WP_aload_n mq61 dd61_17 rfl
theorem dd61_18 : decode cX7_settleTop 18 = .ok (.dup, 1) := by decide +kernel
theorem ww61_18 {d : Nat} {l0 : Option mw_V} {v : mw_V} {st : List mw_V} {σ : mw_S} {Q : Option mw_V → mw_S → Prop} (h : mw_cat v = 1) : mw_WP d 61 18 [l0] (v :: st) σ Q ↔ mw_WP d 61 19 [l0] (v :: v :: st) σ Q := WP_dup mq61 dd61_18 h
theorem dd61_19 : decode cX7_settleTop 19 = .ok (.getfield 149, 3) := by decide +kernel
theorem ww61_19 {d : Nat} {l0 : Option mw_V} {st : List mw_V} {σ : mw_S} {Q : Option mw_V → mw_S → Prop} : mw_WP d 61 19 [l0] (jR 1 :: st) σ Q ↔ mw_WP d 61 22 [l0] (jI (σ 1 12) :: st) σ Q := WP_getI (ci := 6) (k := 12) mq61 dd61_19 (by decide) (Or.inl rfl)
theorem dd61_22 : decode cX7_settleTop 22 = .ok (.aload_n 0, 1) := by decide +kernel
theorem ww61_22 {d : Nat} {x : Nat} {st : List mw_V} {σ : mw_S} {Q : Option mw_V → mw_S → Prop} : mw_WP d 61 22 [some (jR x)] st σ Q ↔ mw_WP d 61 23 [some (jR x)] (jR x :: st) σ Q := WP_aload_n mq61 dd61_22 rfl
theorem dd61_23 : decode cX7_settleTop 23 = .ok (.getfield 26, 3) := by decide +kernel
theorem ww61_23 {d : Nat} {l0 : Option mw_V} {st : List mw_V} {σ : mw_S} {Q : Option mw_V → mw_S → Prop} : mw_WP d 61 23 [l0] (jR 1 :: st) σ Q ↔ mw_WP d 61 26 [l0] (jR 12 :: st) σ Q := WP_getR (ci := 6) (k := 10) mq61 dd61_23 (by decide) rfl
theorem dd61_26 : decode cX7_settleTop 26 = .ok (.aload_n 0, 1) := by decide +kernel
theorem ww61_26 {d : Nat} {x : Nat} {st : List mw_V} {σ : mw_S} {Q : Option mw_V → mw_S → Prop} : mw_WP d 61 26 [some (jR x)] st σ Q ↔ mw_WP d 61 27 [some (jR x)] (jR x :: st) σ Q := WP_aload_n mq61 dd61_26 rfl
theorem dd61_27 : decode cX7_settleTop 27 = .ok (.getfield 146, 3) := by decide +kernel
theorem ww61_27 {d : Nat} {l0 : Option mw_V} {st : List mw_V} {σ : mw_S} {Q : Option mw_V → mw_S → Prop} : mw_WP d 61 27 [l0] (jR 1 :: st) σ Q ↔ mw_WP d 61 30 [l0] (jI (σ 1 11) :: st) σ Q := WP_getI (ci := 6) (k := 11) mq61 dd61_27 (by decide) (Or.inl rfl)
theorem dd61_30 : decode cX7_settleTop 30 = .ok (.iaload, 1) := by decide +kernel
theorem ww61_30 {d : Nat} {l0 : Option mw_V} {z : Int} {a : Nat} {st : List mw_V} {σ : mw_S} {Q : Option mw_V → mw_S → Prop} : mw_WP d 61 30 [l0] (jI z :: jR a :: st) σ Q ↔ ((0 ≤ z ∧ z < mw_lenI a) ∧ mw_WP d 61 31 [l0] (jI (mw_rdI σ a z.toNat) :: st) σ Q) := WP_iaload mq61 dd61_30
theorem dd61_31 : decode cX7_settleTop 31 = .ok (.sipush 1010, 3) := by decide +kernel
theorem ww61_31 {d : Nat} {l0 : Option mw_V} {st : List mw_V} {σ : mw_S} {Q : Option mw_V → mw_S → Prop} : mw_WP d 61 31 [l0] st σ Q ↔ mw_WP d 61 34 [l0] (jI (1010) :: st) σ Q := WP_sipush mq61 dd61_31 (by decide)
theorem dd61_34 : decode cX7_settleTop 34 = .ok (.if_icmp .ne 7, 3) := by decide +kernel
theorem ww61_34 {d : Nat} {l0 : Option mw_V} {x y : Int} {st : List mw_V} {σ : mw_S} {Q : Option mw_V → mw_S → Prop} : mw_WP d 61 34 [l0] (jI y :: jI x :: st) σ Q ↔ (if ¬ x = y then mw_WP d 61 41 [l0] st σ Q else mw_WP d 61 37 [l0] st σ Q) := WP_icmp_ne mq61 dd61_34 (by decide)
theorem dd61_37 : decode cX7_settleTop 37 = .ok (.iconst 1, 1) := by decide +kernel
theorem ww61_37 {d : Nat} {l0 : Option mw_V} {st : List mw_V} {σ : mw_S} {Q : Option mw_V → mw_S → Prop} : mw_WP d 61 37 [l0] st σ Q ↔ mw_WP d 61 38 [l0] (jI (1) :: st) σ Q := WP_iconst mq61 dd61_37 (by decide)
theorem dd61_38 : decode cX7_settleTop 38 = .ok (.goto 4, 3) := by decide +kernel
theorem ww61_38 {d : Nat} {l0 : Option mw_V} {st : List mw_V} {σ : mw_S} {Q : Option mw_V → mw_S → Prop} : mw_WP d 61 38 [l0] st σ Q ↔ mw_WP d 61 42 [l0] st σ Q := WP_goto mq61 dd61_38 (by decide)
theorem dd61_41 : decode cX7_settleTop 41 = .ok (.iconst 0, 1) := by decide +kernel
theorem ww61_41 {d : Nat} {l0 : Option mw_V} {st : List mw_V} {σ : mw_S} {Q : Option mw_V → mw_S → Prop} : mw_WP d 61 41 [l0] st σ Q ↔ mw_WP d 61 42 [l0] (jI (0) :: st) σ Q := WP_iconst mq61 dd61_41 (by decide)
theorem dd61_42 : decode cX7_settleTop 42 = .ok (.isub, 1) := by decide +kernel
theorem ww61_42 {d : Nat} {l0 : Option mw_V} {x y : Int} {st : List mw_V} {σ : mw_S} {Q : Option mw_V → mw_S → Prop} : mw_WP d 61 42 [l0] (jI y :: jI x :: st) σ Q ↔ mw_WP d 61 43 [l0] (jI (w32 (x - y)) :: st) σ Q := WP_isub mq61 dd61_42
theorem dd61_43 : decode cX7_settleTop 43 = .ok (.putfield 149, 3) := by decide +kernel
theorem ww61_43 {d : Nat} {l0 : Option mw_V} {v : Int} {st : List mw_V} {σ : mw_S} {Q : Option mw_V → mw_S → Prop} : mw_WP d 61 43 [l0] (jI v :: jR 1 :: st) σ Q ↔ mw_WP d 61 46 [l0] st (upS σ 1 12 v) Q := WP_putI (ci := 6) (k := 12) mq61 dd61_43 (by decide) rfl
theorem dd61_46 : decode cX7_settleTop 46 = .ok (.aload_n 0, 1) := by decide +kernel
theorem ww61_46 {d : Nat} {x : Nat} {st : List mw_V} {σ : mw_S} {Q : Option mw_V → mw_S → Prop} : mw_WP d 61 46 [some (jR x)] st σ Q ↔ mw_WP d 61 47 [some (jR x)] (jR x :: st) σ Q := WP_aload_n mq61 dd61_46 rfl
theorem dd61_47 : decode cX7_settleTop 47 = .ok (.getfield 18, 3) := by decide +kernel
theorem ww61_47 {d : Nat} {l0 : Option mw_V} {st : List mw_V} {σ : mw_S} {Q : Option mw_V → mw_S → Prop} : mw_WP d 61 47 [l0] (jR 1 :: st) σ Q ↔ mw_WP d 61 50 [l0] (jR 3 :: st) σ Q := WP_getR (ci := 6) (k := 1) mq61 dd61_47 (by decide) rfl
theorem dd61_50 : decode cX7_settleTop 50 = .ok (.aload_n 0, 1) := by decide +kernel
theorem ww61_50 {d : Nat} {x : Nat} {st : List mw_V} {σ : mw_S} {Q : Option mw_V → mw_S → Prop} : mw_WP d 61 50 [some (jR x)] st σ Q ↔ mw_WP d 61 51 [some (jR x)] (jR x :: st) σ Q := WP_aload_n mq61 dd61_50 rfl
theorem dd61_51 : decode cX7_settleTop 51 = .ok (.getfield 26, 3) := by decide +kernel
theorem ww61_51 {d : Nat} {l0 : Option mw_V} {st : List mw_V} {σ : mw_S} {Q : Option mw_V → mw_S → Prop} : mw_WP d 61 51 [l0] (jR 1 :: st) σ Q ↔ mw_WP d 61 54 [l0] (jR 12 :: st) σ Q := WP_getR (ci := 6) (k := 10) mq61 dd61_51 (by decide) rfl
theorem dd61_54 : decode cX7_settleTop 54 = .ok (.aload_n 0, 1) := by decide +kernel
theorem ww61_54 {d : Nat} {x : Nat} {st : List mw_V} {σ : mw_S} {Q : Option mw_V → mw_S → Prop} : mw_WP d 61 54 [some (jR x)] st σ Q ↔ mw_WP d 61 55 [some (jR x)] (jR x :: st) σ Q := WP_aload_n mq61 dd61_54 rfl
theorem dd61_55 : decode cX7_settleTop 55 = .ok (.getfield 146, 3) := by decide +kernel
theorem ww61_55 {d : Nat} {l0 : Option mw_V} {st : List mw_V} {σ : mw_S} {Q : Option mw_V → mw_S → Prop} : mw_WP d 61 55 [l0] (jR 1 :: st) σ Q ↔ mw_WP d 61 58 [l0] (jI (σ 1 11) :: st) σ Q := WP_getI (ci := 6) (k := 11) mq61 dd61_55 (by decide) (Or.inl rfl)
theorem dd61_58 : decode cX7_settleTop 58 = .ok (.iaload, 1) := by decide +kernel
theorem ww61_58 {d : Nat} {l0 : Option mw_V} {z : Int} {a : Nat} {st : List mw_V} {σ : mw_S} {Q : Option mw_V → mw_S → Prop} : mw_WP d 61 58 [l0] (jI z :: jR a :: st) σ Q ↔ ((0 ≤ z ∧ z < mw_lenI a) ∧ mw_WP d 61 59 [l0] (jI (mw_rdI σ a z.toNat) :: st) σ Q) := WP_iaload mq61 dd61_58
theorem dd61_59 : decode cX7_settleTop 59 = .ok (.invokevirtual 202, 3) := by decide +kernel
theorem ww61_59 {d : Nat} {l0 : Option mw_V} {v0 : mw_V} {a : Nat} {st : List mw_V} {σ : mw_S} {Q : Option mw_V → mw_S → Prop} (hr : mw_rc a = 1) (h8 : (st.map mw_cat).sum ≤ 8) : mw_WP d 61 59 [l0] (v0 :: jR a :: st) σ Q ↔ mw_Call d 6 [jR a, v0] σ (fun r1 s1 => mw_WP d 61 62 [l0] (r1.toList ++ st) s1 Q) := WP_inv (as := [v0]) mq61 dd61_59 (by decide) mq6 rfl hr h8
theorem dd61_62 : decode cX7_settleTop 62 = .ok (.return_, 1) := by decide +kernel
theorem ww61_62 {d : Nat} {l0 : Option mw_V} {σ : mw_S} {Q : Option mw_V → mw_S → Prop} : mw_WP d 61 62 [l0] [] σ Q ↔ Q none σ := WP_return mq61 dd61_62 rfl
theorem ee62 {d : Nat} {z0 : Int} {σ : mw_S} {Q : Option mw_V → mw_S → Prop} : mw_Call (d + 1) 62 [jI z0] σ Q ↔ mw_WP d 62 0 [some (jI z0)] [] σ Q := CL_u mq62 (Nat.le_of_ble_eq_true rfl) rfl
theorem dd62_0 : decode cX7_bindingOf 0 = .ok (.iload_n 0, 1) := by decide +kernel
theorem ww62_0 {d : Nat} {x : Int} {st : List mw_V} {σ : mw_S} {Q : Option mw_V → mw_S → Prop} : mw_WP d 62 0 [some (jI x)] st σ Q ↔ mw_WP d 62 1 [some (jI x)] (jI x :: st) σ Q := WP_iload_n mq62 dd62_0 rfl
theorem dd62_1 : decode cX7_bindingOf 1 = .ok (.tableswitch 64 1010 1018 #[55, 59, 59, 61, 57, 57, 57, 53, 51], 51) := by decide +kernel
theorem ww62_1k0 {d : Nat} {l0 : Option mw_V} {st : List mw_V} {σ : mw_S} {Q : Option mw_V → mw_S → Prop} : mw_WP d 62 1 [l0] (jI (1010) :: st) σ Q ↔ mw_WP d 62 56 [l0] st σ Q := WP_k mq62 dd62_1 rfl (fun _ _ => by simp [mw_stp, mw_b1, mw_go])
theorem ww62_1k1 {d : Nat} {l0 : Option mw_V} {st : List mw_V} {σ : mw_S} {Q : Option mw_V → mw_S → Prop} : mw_WP d 62 1 [l0] (jI (1011) :: st) σ Q ↔ mw_WP d 62 60 [l0] st σ Q := WP_k mq62 dd62_1 rfl (fun _ _ => by simp [mw_stp, mw_b1, mw_go])
theorem ww62_1k2 {d : Nat} {l0 : Option mw_V} {st : List mw_V} {σ : mw_S} {Q : Option mw_V → mw_S → Prop} : mw_WP d 62 1 [l0] (jI (1012) :: st) σ Q ↔ mw_WP d 62 60 [l0] st σ Q := WP_k mq62 dd62_1 rfl (fun _ _ => by simp [mw_stp, mw_b1, mw_go])
theorem ww62_1k3 {d : Nat} {l0 : Option mw_V} {st : List mw_V} {σ : mw_S} {Q : Option mw_V → mw_S → Prop} : mw_WP d 62 1 [l0] (jI (1013) :: st) σ Q ↔ mw_WP d 62 62 [l0] st σ Q := WP_k mq62 dd62_1 rfl (fun _ _ => by simp [mw_stp, mw_b1, mw_go])
theorem ww62_1k4 {d : Nat} {l0 : Option mw_V} {st : List mw_V} {σ : mw_S} {Q : Option mw_V → mw_S → Prop} : mw_WP d 62 1 [l0] (jI (1014) :: st) σ Q ↔ mw_WP d 62 58 [l0] st σ Q := WP_k mq62 dd62_1 rfl (fun _ _ => by simp [mw_stp, mw_b1, mw_go])
theorem ww62_1k5 {d : Nat} {l0 : Option mw_V} {st : List mw_V} {σ : mw_S} {Q : Option mw_V → mw_S → Prop} : mw_WP d 62 1 [l0] (jI (1015) :: st) σ Q ↔ mw_WP d 62 58 [l0] st σ Q := WP_k mq62 dd62_1 rfl (fun _ _ => by simp [mw_stp, mw_b1, mw_go])
theorem ww62_1k6 {d : Nat} {l0 : Option mw_V} {st : List mw_V} {σ : mw_S} {Q : Option mw_V → mw_S → Prop} : mw_WP d 62 1 [l0] (jI (1016) :: st) σ Q ↔ mw_WP d 62 58 [l0] st σ Q := WP_k mq62 dd62_1 rfl (fun _ _ => by simp [mw_stp, mw_b1, mw_go])
theorem ww62_1k7 {d : Nat} {l0 : Option mw_V} {st : List mw_V} {σ : mw_S} {Q : Option mw_V → mw_S → Prop} : mw_WP d 62 1 [l0] (jI (1017) :: st) σ Q ↔ mw_WP d 62 54 [l0] st σ Q := WP_k mq62 dd62_1 rfl (fun _ _ => by simp [mw_stp, mw_b1, mw_go])
theorem ww62_1k8 {d : Nat} {l0 : Option mw_V} {st : List mw_V} {σ : mw_S} {Q : Option mw_V → mw_S → Prop} : mw_WP d 62 1 [l0] (jI (1018) :: st) σ Q ↔ mw_WP d 62 52 [l0] st σ Q := WP_k mq62 dd62_1 rfl (fun _ _ => by simp [mw_stp, mw_b1, mw_go])
theorem ww62_1kd {d : Nat} {l0 : Option mw_V} {x : Int} {st : List mw_V} {σ : mw_S} {Q : Option mw_V → mw_S → Prop} (h : x < 1010 ∨ 1018 < x) : mw_WP d 62 1 [l0] (jI x :: st) σ Q ↔ mw_WP d 62 65 [l0] st σ Q := WP_k mq62 dd62_1 rfl (fun _ _ => by simp [mw_stp, mw_b1, mw_go, h])
theorem dd62_52 : decode cX7_bindingOf 52 = .ok (.iconst 1, 1) := by decide +kernel
theorem ww62_52 {d : Nat} {l0 : Option mw_V} {st : List mw_V} {σ : mw_S} {Q : Option mw_V → mw_S → Prop} : mw_WP d 62 52 [l0] st σ Q ↔ mw_WP d 62 53 [l0] (jI (1) :: st) σ Q := WP_iconst mq62 dd62_52 (by decide)
theorem dd62_53 : decode cX7_bindingOf 53 = .ok (.ireturn, 1) := by decide +kernel
theorem ww62_53 {d : Nat} {l0 : Option mw_V} {z : Int} {σ : mw_S} {Q : Option mw_V → mw_S → Prop} : mw_WP d 62 53 [l0] [jI z] σ Q ↔ Q (some (jI z)) σ := WP_ireturn (ty := .int) mq62 dd62_53 rfl rfl
theorem dd62_54 : decode cX7_bindingOf 54 = .ok (.iconst 2, 1) := by decide +kernel
theorem ww62_54 {d : Nat} {l0 : Option mw_V} {st : List mw_V} {σ : mw_S} {Q : Option mw_V → mw_S → Prop} : mw_WP d 62 54 [l0] st σ Q ↔ mw_WP d 62 55 [l0] (jI (2) :: st) σ Q := WP_iconst mq62 dd62_54 (by decide)
theorem dd62_55 : decode cX7_bindingOf 55 = .ok (.ireturn, 1) := by decide +kernel
theorem ww62_55 {d : Nat} {l0 : Option mw_V} {z : Int} {σ : mw_S} {Q : Option mw_V → mw_S → Prop} : mw_WP d 62 55 [l0] [jI z] σ Q ↔ Q (some (jI z)) σ := WP_ireturn (ty := .int) mq62 dd62_55 rfl rfl
theorem dd62_56 : decode cX7_bindingOf 56 = .ok (.iconst 3, 1) := by decide +kernel
theorem ww62_56 {d : Nat} {l0 : Option mw_V} {st : List mw_V} {σ : mw_S} {Q : Option mw_V → mw_S → Prop} : mw_WP d 62 56 [l0] st σ Q ↔ mw_WP d 62 57 [l0] (jI (3) :: st) σ Q := WP_iconst mq62 dd62_56 (by decide)
theorem dd62_57 : decode cX7_bindingOf 57 = .ok (.ireturn, 1) := by decide +kernel
theorem ww62_57 {d : Nat} {l0 : Option mw_V} {z : Int} {σ : mw_S} {Q : Option mw_V → mw_S → Prop} : mw_WP d 62 57 [l0] [jI z] σ Q ↔ Q (some (jI z)) σ := WP_ireturn (ty := .int) mq62 dd62_57 rfl rfl
theorem dd62_58 : decode cX7_bindingOf 58 = .ok (.iconst 4, 1) := by decide +kernel
theorem ww62_58 {d : Nat} {l0 : Option mw_V} {st : List mw_V} {σ : mw_S} {Q : Option mw_V → mw_S → Prop} : mw_WP d 62 58 [l0] st σ Q ↔ mw_WP d 62 59 [l0] (jI (4) :: st) σ Q := WP_iconst mq62 dd62_58 (by decide)
theorem dd62_59 : decode cX7_bindingOf 59 = .ok (.ireturn, 1) := by decide +kernel
theorem ww62_59 {d : Nat} {l0 : Option mw_V} {z : Int} {σ : mw_S} {Q : Option mw_V → mw_S → Prop} : mw_WP d 62 59 [l0] [jI z] σ Q ↔ Q (some (jI z)) σ := WP_ireturn (ty := .int) mq62 dd62_59 rfl rfl
theorem dd62_60 : decode cX7_bindingOf 60 = .ok (.iconst 5, 1) := by decide +kernel
theorem ww62_60 {d : Nat} {l0 : Option mw_V} {st : List mw_V} {σ : mw_S} {Q : Option mw_V → mw_S → Prop} : mw_WP d 62 60 [l0] st σ Q ↔ mw_WP d 62 61 [l0] (jI (5) :: st) σ Q := WP_iconst mq62 dd62_60 (by decide)
theorem dd62_61 : decode cX7_bindingOf 61 = .ok (.ireturn, 1) := by decide +kernel
theorem ww62_61 {d : Nat} {l0 : Option mw_V} {z : Int} {σ : mw_S} {Q : Option mw_V → mw_S → Prop} : mw_WP d 62 61 [l0] [jI z] σ Q ↔ Q (some (jI z)) σ := WP_ireturn (ty := .int) mq62 dd62_61 rfl rfl
theorem dd62_62 : decode cX7_bindingOf 62 = .ok (.bipush 6, 2) := by decide +kernel
theorem ww62_62 {d : Nat} {l0 : Option mw_V} {st : List mw_V} {σ : mw_S} {Q : Option mw_V → mw_S → Prop} : mw_WP d 62 62 [l0] st σ Q ↔ mw_WP d 62 64 [l0] (jI (6) :: st) σ Q := WP_bipush mq62 dd62_62 (by decide)
theorem dd62_64 : decode cX7_bindingOf 64 = .ok (.ireturn, 1) := by decide +kernel
theorem ww62_64 {d : Nat} {l0 : Option mw_V} {z : Int} {σ : mw_S} {Q : Option mw_V → mw_S → Prop} : mw_WP d 62 64 [l0] [jI z] σ Q ↔ Q (some (jI z)) σ := WP_ireturn (ty := .int) mq62 dd62_64 rfl rfl
theorem dd62_65 : decode cX7_bindingOf 65 = .ok (.iconst 0, 1) := by decide +kernel
theorem ww62_65 {d : Nat} {l0 : Option mw_V} {st : List mw_V} {σ : mw_S} {Q : Option mw_V → mw_S → Prop} : mw_WP d 62 65 [l0] st σ Q ↔ mw_WP d 62 66 [l0] (jI (0) :: st) σ Q := WP_iconst mq62 dd62_65 (by decide)
theorem dd62_66 : decode cX7_bindingOf 66 = .ok (.ireturn, 1) := by decide +kernel
theorem ww62_66 {d : Nat} {l0 : Option mw_V} {z : Int} {σ : mw_S} {Q : Option mw_V → mw_S → Prop} : mw_WP d 62 66 [l0] [jI z] σ Q ↔ Q (some (jI z)) σ := WP_ireturn (ty := .int) mq62 dd62_66 rfl rfl
theorem ee63 {d : Nat} {a : Nat} {σ : mw_S} {Q : Option mw_V → mw_S → Prop} : mw_Call (d + 1) 63 [jR a] σ Q ↔ mw_WP d 63 0 [some (jR a)] [] σ Q := CL_u mq63 (Nat.le_of_ble_eq_true rfl) rfl
theorem dd63_0 : decode cX7_signOfByte 0 = .ok (.aload_n 0, 1) := by decide +kernel
theorem ww63_0 {d : Nat} {x : Nat} {st : List mw_V} {σ : mw_S} {Q : Option mw_V → mw_S → Prop} : mw_WP d 63 0 [some (jR x)] st σ Q ↔ mw_WP d 63 1 [some (jR x)] (jR x :: st) σ Q := WP_aload_n mq63 dd63_0 rfl
theorem dd63_1 : decode cX7_signOfByte 1 = .ok (.getfield 110, 3) := by decide +kernel
theorem ww63_1 {d : Nat} {l0 : Option mw_V} {st : List mw_V} {σ : mw_S} {Q : Option mw_V → mw_S → Prop} : mw_WP d 63 1 [l0] (jR 1 :: st) σ Q ↔ mw_WP d 63 4 [l0] (jI (σ 1 9) :: st) σ Q := WP_getI (ci := 6) (k := 9) mq63 dd63_1 (by decide) (Or.inl rfl)
theorem dd63_4 : decode cX7_signOfByte 4 = .ok (.lookupswitch 84 #[(42, 68), (43, 60), (45, 64), (60, 76), (61, 72), (62, 80)], 60) := by decide +kernel
theorem ww63_4k0 {d : Nat} {l0 : Option mw_V} {st : List mw_V} {σ : mw_S} {Q : Option mw_V → mw_S → Prop} : mw_WP d 63 4 [l0] (jI (42) :: st) σ Q ↔ mw_WP d 63 72 [l0] st σ Q := WP_k mq63 dd63_4 rfl (fun _ _ => by simp [mw_stp, mw_b1, mw_go, Op.lookupswitch.offset])
theorem ww63_4k1 {d : Nat} {l0 : Option mw_V} {st : List mw_V} {σ : mw_S} {Q : Option mw_V → mw_S → Prop} : mw_WP d 63 4 [l0] (jI (43) :: st) σ Q ↔ mw_WP d 63 64 [l0] st σ Q := WP_k mq63 dd63_4 rfl (fun _ _ => by simp [mw_stp, mw_b1, mw_go, Op.lookupswitch.offset])
theorem ww63_4k2 {d : Nat} {l0 : Option mw_V} {st : List mw_V} {σ : mw_S} {Q : Option mw_V → mw_S → Prop} : mw_WP d 63 4 [l0] (jI (45) :: st) σ Q ↔ mw_WP d 63 68 [l0] st σ Q := WP_k mq63 dd63_4 rfl (fun _ _ => by simp [mw_stp, mw_b1, mw_go, Op.lookupswitch.offset])
theorem ww63_4k3 {d : Nat} {l0 : Option mw_V} {st : List mw_V} {σ : mw_S} {Q : Option mw_V → mw_S → Prop} : mw_WP d 63 4 [l0] (jI (60) :: st) σ Q ↔ mw_WP d 63 80 [l0] st σ Q := WP_k mq63 dd63_4 rfl (fun _ _ => by simp [mw_stp, mw_b1, mw_go, Op.lookupswitch.offset])
theorem ww63_4k4 {d : Nat} {l0 : Option mw_V} {st : List mw_V} {σ : mw_S} {Q : Option mw_V → mw_S → Prop} : mw_WP d 63 4 [l0] (jI (61) :: st) σ Q ↔ mw_WP d 63 76 [l0] st σ Q := WP_k mq63 dd63_4 rfl (fun _ _ => by simp [mw_stp, mw_b1, mw_go, Op.lookupswitch.offset])
theorem ww63_4k5 {d : Nat} {l0 : Option mw_V} {st : List mw_V} {σ : mw_S} {Q : Option mw_V → mw_S → Prop} : mw_WP d 63 4 [l0] (jI (62) :: st) σ Q ↔ mw_WP d 63 84 [l0] st σ Q := WP_k mq63 dd63_4 rfl (fun _ _ => by simp [mw_stp, mw_b1, mw_go, Op.lookupswitch.offset])
theorem ww63_4kd {d : Nat} {l0 : Option mw_V} {x : Int} {st : List mw_V} {σ : mw_S} {Q : Option mw_V → mw_S → Prop} (h : ¬ (42 : Int) = x ∧ ¬ (43 : Int) = x ∧ ¬ (45 : Int) = x ∧ ¬ (60 : Int) = x ∧ ¬ (61 : Int) = x ∧ ¬ (62 : Int) = x) : mw_WP d 63 4 [l0] (jI x :: st) σ Q ↔ mw_WP d 63 88 [l0] st σ Q := WP_k mq63 dd63_4 rfl (fun _ _ => by simp [mw_stp, mw_b1, mw_go, Op.lookupswitch.offset, h])
theorem dd63_64 : decode cX7_signOfByte 64 = .ok (.sipush 1011, 3) := by decide +kernel
theorem ww63_64 {d : Nat} {l0 : Option mw_V} {st : List mw_V} {σ : mw_S} {Q : Option mw_V → mw_S → Prop} : mw_WP d 63 64 [l0] st σ Q ↔ mw_WP d 63 67 [l0] (jI (1011) :: st) σ Q := WP_sipush mq63 dd63_64 (by decide)
theorem dd63_67 : decode cX7_signOfByte 67 = .ok (.ireturn, 1) := by decide +kernel
theorem ww63_67 {d : Nat} {l0 : Option mw_V} {z : Int} {σ : mw_S} {Q : Option mw_V → mw_S → Prop} : mw_WP d 63 67 [l0] [jI z] σ Q ↔ Q (some (jI z)) σ := WP_ireturn (ty := .int) mq63 dd63_67 rfl rfl
theorem dd63_68 : decode cX7_signOfByte 68 = .ok (.sipush 1012, 3) := by decide +kernel
theorem ww63_68 {d : Nat} {l0 : Option mw_V} {st : List mw_V} {σ : mw_S} {Q : Option mw_V → mw_S → Prop} : mw_WP d 63 68 [l0] st σ Q ↔ mw_WP d 63 71 [l0] (jI (1012) :: st) σ Q := WP_sipush mq63 dd63_68 (by decide)
theorem dd63_71 : decode cX7_signOfByte 71 = .ok (.ireturn, 1) := by decide +kernel
theorem ww63_71 {d : Nat} {l0 : Option mw_V} {z : Int} {σ : mw_S} {Q : Option mw_V → mw_S → Prop} : mw_WP d 63 71 [l0] [jI z] σ Q ↔ Q (some (jI z)) σ := WP_ireturn (ty := .int) mq63 dd63_71 rfl rfl
theorem dd63_72 : decode cX7_signOfByte 72 = .ok (.sipush 1013, 3) := by decide +kernel
theorem ww63_72 {d : Nat} {l0 : Option mw_V} {st : List mw_V} {σ : mw_S} {Q : Option mw_V → mw_S → Prop} : mw_WP d 63 72 [l0] st σ Q ↔ mw_WP d 63 75 [l0] (jI (1013) :: st) σ Q := WP_sipush mq63 dd63_72 (by decide)
theorem dd63_75 : decode cX7_signOfByte 75 = .ok (.ireturn, 1) := by decide +kernel
theorem ww63_75 {d : Nat} {l0 : Option mw_V} {z : Int} {σ : mw_S} {Q : Option mw_V → mw_S → Prop} : mw_WP d 63 75 [l0] [jI z] σ Q ↔ Q (some (jI z)) σ := WP_ireturn (ty := .int) mq63 dd63_75 rfl rfl
theorem dd63_76 : decode cX7_signOfByte 76 = .ok (.sipush 1014, 3) := by decide +kernel
theorem ww63_76 {d : Nat} {l0 : Option mw_V} {st : List mw_V} {σ : mw_S} {Q : Option mw_V → mw_S → Prop} : mw_WP d 63 76 [l0] st σ Q ↔ mw_WP d 63 79 [l0] (jI (1014) :: st) σ Q := WP_sipush mq63 dd63_76 (by decide)
theorem dd63_79 : decode cX7_signOfByte 79 = .ok (.ireturn, 1) := by decide +kernel
theorem ww63_79 {d : Nat} {l0 : Option mw_V} {z : Int} {σ : mw_S} {Q : Option mw_V → mw_S → Prop} : mw_WP d 63 79 [l0] [jI z] σ Q ↔ Q (some (jI z)) σ := WP_ireturn (ty := .int) mq63 dd63_79 rfl rfl
theorem dd63_80 : decode cX7_signOfByte 80 = .ok (.sipush 1015, 3) := by decide +kernel
theorem ww63_80 {d : Nat} {l0 : Option mw_V} {st : List mw_V} {σ : mw_S} {Q : Option mw_V → mw_S → Prop} : mw_WP d 63 80 [l0] st σ Q ↔ mw_WP d 63 83 [l0] (jI (1015) :: st) σ Q := WP_sipush mq63 dd63_80 (by decide)
theorem dd63_83 : decode cX7_signOfByte 83 = .ok (.ireturn, 1) := by decide +kernel
theorem ww63_83 {d : Nat} {l0 : Option mw_V} {z : Int} {σ : mw_S} {Q : Option mw_V → mw_S → Prop} : mw_WP d 63 83 [l0] [jI z] σ Q ↔ Q (some (jI z)) σ := WP_ireturn (ty := .int) mq63 dd63_83 rfl rfl
theorem dd63_84 : decode cX7_signOfByte 84 = .ok (.sipush 1016, 3) := by decide +kernel
theorem ww63_84 {d : Nat} {l0 : Option mw_V} {st : List mw_V} {σ : mw_S} {Q : Option mw_V → mw_S → Prop} : mw_WP d 63 84 [l0] st σ Q ↔ mw_WP d 63 87 [l0] (jI (1016) :: st) σ Q := WP_sipush mq63 dd63_84 (by decide)
theorem dd63_87 : decode cX7_signOfByte 87 = .ok (.ireturn, 1) := by decide +kernel
theorem ww63_87 {d : Nat} {l0 : Option mw_V} {z : Int} {σ : mw_S} {Q : Option mw_V → mw_S → Prop} : mw_WP d 63 87 [l0] [jI z] σ Q ↔ Q (some (jI z)) σ := WP_ireturn (ty := .int) mq63 dd63_87 rfl rfl
theorem dd63_88 : decode cX7_signOfByte 88 = .ok (.iconst (-1), 1) := by decide +kernel
theorem ww63_88 {d : Nat} {l0 : Option mw_V} {st : List mw_V} {σ : mw_S} {Q : Option mw_V → mw_S → Prop} : mw_WP d 63 88 [l0] st σ Q ↔ mw_WP d 63 89 [l0] (jI (-1) :: st) σ Q := WP_iconst mq63 dd63_88 (by decide)
theorem dd63_89 : decode cX7_signOfByte 89 = .ok (.ireturn, 1) := by decide +kernel
theorem ww63_89 {d : Nat} {l0 : Option mw_V} {z : Int} {σ : mw_S} {Q : Option mw_V → mw_S → Prop} : mw_WP d 63 89 [l0] [jI z] σ Q ↔ Q (some (jI z)) σ := WP_ireturn (ty := .int) mq63 dd63_89 rfl rfl
theorem ee64 {d : Nat} {a : Nat} {σ : mw_S} {Q : Option mw_V → mw_S → Prop} : mw_Call (d + 1) 64 [jR a] σ Q ↔ mw_WP d 64 0 [some (jR a)] [] σ Q := CL_u mq64 (Nat.le_of_ble_eq_true rfl) rfl
theorem dd64_0 : decode cX7_nameOfWord 0 = .ok (.aload_n 0, 1) := by decide +kernel
theorem ww64_0 {d : Nat} {x : Nat} {st : List mw_V} {σ : mw_S} {Q : Option mw_V → mw_S → Prop} : mw_WP d 64 0 [some (jR x)] st σ Q ↔ mw_WP d 64 1 [some (jR x)] (jR x :: st) σ Q := WP_aload_n mq64 dd64_0 rfl
theorem dd64_1 : decode cX7_nameOfWord 1 = .ok (.ldc 115, 2) := by decide +kernel
theorem ww64_1 {d : Nat} {l0 : Option mw_V} {st : List mw_V} {σ : mw_S} {Q : Option mw_V → mw_S → Prop} : mw_WP d 64 1 [l0] st σ Q ↔ mw_WP d 64 3 [l0] (jR 1003 :: st) σ Q := WP_ldcS (n := 3) mq64 dd64_1 (by decide) (by decide) rfl
theorem dd64_3 : decode cX7_nameOfWord 3 = .ok (.invokevirtual 58, 3) := by decide +kernel
theorem ww64_3 {d : Nat} {l0 : Option mw_V} {v0 : mw_V} {a : Nat} {st : List mw_V} {σ : mw_S} {Q : Option mw_V → mw_S → Prop} (hr : mw_rc a = 7) (h8 : (st.map mw_cat).sum ≤ 8) : mw_WP d 64 3 [l0] (v0 :: jR a :: st) σ Q ↔ mw_Call d 66 [jR a, v0] σ (fun r1 s1 => mw_WP d 64 6 [l0] (r1.toList ++ st) s1 Q) := WP_inv (as := [v0]) mq64 dd64_3 (by decide) mq66 rfl hr h8
theorem dd64_6 : decode cX7_nameOfWord 6 = .ok (.ifCond .eq 9, 3) := by decide +kernel
theorem ww64_6 {d : Nat} {l0 : Option mw_V} {x : Int} {st : List mw_V} {σ : mw_S} {Q : Option mw_V → mw_S → Prop} : mw_WP d 64 6 [l0] (jI x :: st) σ Q ↔ (if x = 0 then mw_WP d 64 15 [l0] st σ Q else mw_WP d 64 9 [l0] st σ Q) := WP_if_eq mq64 dd64_6 (by decide)
theorem dd64_9 : decode cX7_nameOfWord 9 = .ok (.sipush 1000, 3) := by decide +kernel
theorem ww64_9 {d : Nat} {l0 : Option mw_V} {st : List mw_V} {σ : mw_S} {Q : Option mw_V → mw_S → Prop} : mw_WP d 64 9 [l0] st σ Q ↔ mw_WP d 64 12 [l0] (jI (1000) :: st) σ Q := WP_sipush mq64 dd64_9 (by decide)
theorem dd64_12 : decode cX7_nameOfWord 12 = .ok (.goto 79, 3) := by decide +kernel
theorem ww64_12 {d : Nat} {l0 : Option mw_V} {st : List mw_V} {σ : mw_S} {Q : Option mw_V → mw_S → Prop} : mw_WP d 64 12 [l0] st σ Q ↔ mw_WP d 64 91 [l0] st σ Q := WP_goto mq64 dd64_12 (by decide)
theorem dd64_15 : decode cX7_nameOfWord 15 = .ok (.aload_n 0, 1) := by decide +kernel
theorem ww64_15 {d : Nat} {x : Nat} {st : List mw_V} {σ : mw_S} {Q : Option mw_V → mw_S → Prop} : mw_WP d 64 15 [some (jR x)] st σ Q ↔ mw_WP d 64 16 [some (jR x)] (jR x :: st) σ Q := WP_aload_n mq64 dd64_15 rfl
theorem dd64_16 : decode cX7_nameOfWord 16 = .ok (.ldc 225, 2) := by decide +kernel
theorem ww64_16 {d : Nat} {l0 : Option mw_V} {st : List mw_V} {σ : mw_S} {Q : Option mw_V → mw_S → Prop} : mw_WP d 64 16 [l0] st σ Q ↔ mw_WP d 64 18 [l0] (jR 1009 :: st) σ Q := WP_ldcS (n := 9) mq64 dd64_16 (by decide) (by decide) rfl
theorem dd64_18 : decode cX7_nameOfWord 18 = .ok (.invokevirtual 58, 3) := by decide +kernel
theorem ww64_18 {d : Nat} {l0 : Option mw_V} {v0 : mw_V} {a : Nat} {st : List mw_V} {σ : mw_S} {Q : Option mw_V → mw_S → Prop} (hr : mw_rc a = 7) (h8 : (st.map mw_cat).sum ≤ 8) : mw_WP d 64 18 [l0] (v0 :: jR a :: st) σ Q ↔ mw_Call d 66 [jR a, v0] σ (fun r1 s1 => mw_WP d 64 21 [l0] (r1.toList ++ st) s1 Q) := WP_inv (as := [v0]) mq64 dd64_18 (by decide) mq66 rfl hr h8
theorem dd64_21 : decode cX7_nameOfWord 21 = .ok (.ifCond .eq 9, 3) := by decide +kernel
theorem ww64_21 {d : Nat} {l0 : Option mw_V} {x : Int} {st : List mw_V} {σ : mw_S} {Q : Option mw_V → mw_S → Prop} : mw_WP d 64 21 [l0] (jI x :: st) σ Q ↔ (if x = 0 then mw_WP d 64 30 [l0] st σ Q else mw_WP d 64 24 [l0] st σ Q) := WP_if_eq mq64 dd64_21 (by decide)
theorem dd64_24 : decode cX7_nameOfWord 24 = .ok (.sipush 1001, 3) := by decide +kernel
theorem ww64_24 {d : Nat} {l0 : Option mw_V} {st : List mw_V} {σ : mw_S} {Q : Option mw_V → mw_S → Prop} : mw_WP d 64 24 [l0] st σ Q ↔ mw_WP d 64 27 [l0] (jI (1001) :: st) σ Q := WP_sipush mq64 dd64_24 (by decide)
theorem dd64_27 : decode cX7_nameOfWord 27 = .ok (.goto 64, 3) := by decide +kernel
theorem ww64_27 {d : Nat} {l0 : Option mw_V} {st : List mw_V} {σ : mw_S} {Q : Option mw_V → mw_S → Prop} : mw_WP d 64 27 [l0] st σ Q ↔ mw_WP d 64 91 [l0] st σ Q := WP_goto mq64 dd64_27 (by decide)
theorem dd64_30 : decode cX7_nameOfWord 30 = .ok (.aload_n 0, 1) := by decide +kernel
theorem ww64_30 {d : Nat} {x : Nat} {st : List mw_V} {σ : mw_S} {Q : Option mw_V → mw_S → Prop} : mw_WP d 64 30 [some (jR x)] st σ Q ↔ mw_WP d 64 31 [some (jR x)] (jR x :: st) σ Q := WP_aload_n mq64 dd64_30 rfl
theorem dd64_31 : decode cX7_nameOfWord 31 = .ok (.ldc 226, 2) := by decide +kernel
theorem ww64_31 {d : Nat} {l0 : Option mw_V} {st : List mw_V} {σ : mw_S} {Q : Option mw_V → mw_S → Prop} : mw_WP d 64 31 [l0] st σ Q ↔ mw_WP d 64 33 [l0] (jR 1010 :: st) σ Q := WP_ldcS (n := 10) mq64 dd64_31 (by decide) (by decide) rfl
theorem dd64_33 : decode cX7_nameOfWord 33 = .ok (.invokevirtual 58, 3) := by decide +kernel
theorem ww64_33 {d : Nat} {l0 : Option mw_V} {v0 : mw_V} {a : Nat} {st : List mw_V} {σ : mw_S} {Q : Option mw_V → mw_S → Prop} (hr : mw_rc a = 7) (h8 : (st.map mw_cat).sum ≤ 8) : mw_WP d 64 33 [l0] (v0 :: jR a :: st) σ Q ↔ mw_Call d 66 [jR a, v0] σ (fun r1 s1 => mw_WP d 64 36 [l0] (r1.toList ++ st) s1 Q) := WP_inv (as := [v0]) mq64 dd64_33 (by decide) mq66 rfl hr h8
theorem dd64_36 : decode cX7_nameOfWord 36 = .ok (.ifCond .eq 9, 3) := by decide +kernel
theorem ww64_36 {d : Nat} {l0 : Option mw_V} {x : Int} {st : List mw_V} {σ : mw_S} {Q : Option mw_V → mw_S → Prop} : mw_WP d 64 36 [l0] (jI x :: st) σ Q ↔ (if x = 0 then mw_WP d 64 45 [l0] st σ Q else mw_WP d 64 39 [l0] st σ Q) := WP_if_eq mq64 dd64_36 (by decide)
theorem dd64_39 : decode cX7_nameOfWord 39 = .ok (.sipush 1002, 3) := by decide +kernel
theorem ww64_39 {d : Nat} {l0 : Option mw_V} {st : List mw_V} {σ : mw_S} {Q : Option mw_V → mw_S → Prop} : mw_WP d 64 39 [l0] st σ Q ↔ mw_WP d 64 42 [l0] (jI (1002) :: st) σ Q := WP_sipush mq64 dd64_39 (by decide)
theorem dd64_42 : decode cX7_nameOfWord 42 = .ok (.goto 49, 3) := by decide +kernel
theorem ww64_42 {d : Nat} {l0 : Option mw_V} {st : List mw_V} {σ : mw_S} {Q : Option mw_V → mw_S → Prop} : mw_WP d 64 42 [l0] st σ Q ↔ mw_WP d 64 91 [l0] st σ Q := WP_goto mq64 dd64_42 (by decide)
theorem dd64_45 : decode cX7_nameOfWord 45 = .ok (.aload_n 0, 1) := by decide +kernel
theorem ww64_45 {d : Nat} {x : Nat} {st : List mw_V} {σ : mw_S} {Q : Option mw_V → mw_S → Prop} : mw_WP d 64 45 [some (jR x)] st σ Q ↔ mw_WP d 64 46 [some (jR x)] (jR x :: st) σ Q := WP_aload_n mq64 dd64_45 rfl
theorem dd64_46 : decode cX7_nameOfWord 46 = .ok (.ldc 228, 2) := by decide +kernel
theorem ww64_46 {d : Nat} {l0 : Option mw_V} {st : List mw_V} {σ : mw_S} {Q : Option mw_V → mw_S → Prop} : mw_WP d 64 46 [l0] st σ Q ↔ mw_WP d 64 48 [l0] (jR 1011 :: st) σ Q := WP_ldcS (n := 11) mq64 dd64_46 (by decide) (by decide) rfl
theorem dd64_48 : decode cX7_nameOfWord 48 = .ok (.invokevirtual 58, 3) := by decide +kernel
theorem ww64_48 {d : Nat} {l0 : Option mw_V} {v0 : mw_V} {a : Nat} {st : List mw_V} {σ : mw_S} {Q : Option mw_V → mw_S → Prop} (hr : mw_rc a = 7) (h8 : (st.map mw_cat).sum ≤ 8) : mw_WP d 64 48 [l0] (v0 :: jR a :: st) σ Q ↔ mw_Call d 66 [jR a, v0] σ (fun r1 s1 => mw_WP d 64 51 [l0] (r1.toList ++ st) s1 Q) := WP_inv (as := [v0]) mq64 dd64_48 (by decide) mq66 rfl hr h8
theorem dd64_51 : decode cX7_nameOfWord 51 = .ok (.ifCond .eq 9, 3) := by decide +kernel
theorem ww64_51 {d : Nat} {l0 : Option mw_V} {x : Int} {st : List mw_V} {σ : mw_S} {Q : Option mw_V → mw_S → Prop} : mw_WP d 64 51 [l0] (jI x :: st) σ Q ↔ (if x = 0 then mw_WP d 64 60 [l0] st σ Q else mw_WP d 64 54 [l0] st σ Q) := WP_if_eq mq64 dd64_51 (by decide)
theorem dd64_54 : decode cX7_nameOfWord 54 = .ok (.sipush 1003, 3) := by decide +kernel
theorem ww64_54 {d : Nat} {l0 : Option mw_V} {st : List mw_V} {σ : mw_S} {Q : Option mw_V → mw_S → Prop} : mw_WP d 64 54 [l0] st σ Q ↔ mw_WP d 64 57 [l0] (jI (1003) :: st) σ Q := WP_sipush mq64 dd64_54 (by decide)
theorem dd64_57 : decode cX7_nameOfWord 57 = .ok (.goto 34, 3) := by decide +kernel
theorem ww64_57 {d : Nat} {l0 : Option mw_V} {st : List mw_V} {σ : mw_S} {Q : Option mw_V → mw_S → Prop} : mw_WP d 64 57 [l0] st σ Q ↔ mw_WP d 64 91 [l0] st σ Q := WP_goto mq64 dd64_57 (by decide)
theorem dd64_60 : decode cX7_nameOfWord 60 = .ok (.aload_n 0, 1) := by decide +kernel
theorem ww64_60 {d : Nat} {x : Nat} {st : List mw_V} {σ : mw_S} {Q : Option mw_V → mw_S → Prop} : mw_WP d 64 60 [some (jR x)] st σ Q ↔ mw_WP d 64 61 [some (jR x)] (jR x :: st) σ Q := WP_aload_n mq64 dd64_60 rfl
theorem dd64_61 : decode cX7_nameOfWord 61 = .ok (.ldc 230, 2) := by decide +kernel
theorem ww64_61 {d : Nat} {l0 : Option mw_V} {st : List mw_V} {σ : mw_S} {Q : Option mw_V → mw_S → Prop} : mw_WP d 64 61 [l0] st σ Q ↔ mw_WP d 64 63 [l0] (jR 1012 :: st) σ Q := WP_ldcS (n := 12) mq64 dd64_61 (by decide) (by decide) rfl
theorem dd64_63 : decode cX7_nameOfWord 63 = .ok (.invokevirtual 58, 3) := by decide +kernel
theorem ww64_63 {d : Nat} {l0 : Option mw_V} {v0 : mw_V} {a : Nat} {st : List mw_V} {σ : mw_S} {Q : Option mw_V → mw_S → Prop} (hr : mw_rc a = 7) (h8 : (st.map mw_cat).sum ≤ 8) : mw_WP d 64 63 [l0] (v0 :: jR a :: st) σ Q ↔ mw_Call d 66 [jR a, v0] σ (fun r1 s1 => mw_WP d 64 66 [l0] (r1.toList ++ st) s1 Q) := WP_inv (as := [v0]) mq64 dd64_63 (by decide) mq66 rfl hr h8
theorem dd64_66 : decode cX7_nameOfWord 66 = .ok (.ifCond .eq 9, 3) := by decide +kernel
theorem ww64_66 {d : Nat} {l0 : Option mw_V} {x : Int} {st : List mw_V} {σ : mw_S} {Q : Option mw_V → mw_S → Prop} : mw_WP d 64 66 [l0] (jI x :: st) σ Q ↔ (if x = 0 then mw_WP d 64 75 [l0] st σ Q else mw_WP d 64 69 [l0] st σ Q) := WP_if_eq mq64 dd64_66 (by decide)
theorem dd64_69 : decode cX7_nameOfWord 69 = .ok (.sipush 1004, 3) := by decide +kernel
theorem ww64_69 {d : Nat} {l0 : Option mw_V} {st : List mw_V} {σ : mw_S} {Q : Option mw_V → mw_S → Prop} : mw_WP d 64 69 [l0] st σ Q ↔ mw_WP d 64 72 [l0] (jI (1004) :: st) σ Q := WP_sipush mq64 dd64_69 (by decide)
theorem dd64_72 : decode cX7_nameOfWord 72 = .ok (.goto 19, 3) := by decide +kernel
theorem ww64_72 {d : Nat} {l0 : Option mw_V} {st : List mw_V} {σ : mw_S} {Q : Option mw_V → mw_S → Prop} : mw_WP d 64 72 [l0] st σ Q ↔ mw_WP d 64 91 [l0] st σ Q := WP_goto mq64 dd64_72 (by decide)
theorem dd64_75 : decode cX7_nameOfWord 75 = .ok (.aload_n 0, 1) := by decide +kernel
theorem ww64_75 {d : Nat} {x : Nat} {st : List mw_V} {σ : mw_S} {Q : Option mw_V → mw_S → Prop} : mw_WP d 64 75 [some (jR x)] st σ Q ↔ mw_WP d 64 76 [some (jR x)] (jR x :: st) σ Q := WP_aload_n mq64 dd64_75 rfl
theorem dd64_76 : decode cX7_nameOfWord 76 = .ok (.ldc 232, 2) := by decide +kernel
theorem ww64_76 {d : Nat} {l0 : Option mw_V} {st : List mw_V} {σ : mw_S} {Q : Option mw_V → mw_S → Prop} : mw_WP d 64 76 [l0] st σ Q ↔ mw_WP d 64 78 [l0] (jR 1013 :: st) σ Q := WP_ldcS (n := 13) mq64 dd64_76 (by decide) (by decide) rfl
theorem dd64_78 : decode cX7_nameOfWord 78 = .ok (.invokevirtual 58, 3) := by decide +kernel
theorem ww64_78 {d : Nat} {l0 : Option mw_V} {v0 : mw_V} {a : Nat} {st : List mw_V} {σ : mw_S} {Q : Option mw_V → mw_S → Prop} (hr : mw_rc a = 7) (h8 : (st.map mw_cat).sum ≤ 8) : mw_WP d 64 78 [l0] (v0 :: jR a :: st) σ Q ↔ mw_Call d 66 [jR a, v0] σ (fun r1 s1 => mw_WP d 64 81 [l0] (r1.toList ++ st) s1 Q) := WP_inv (as := [v0]) mq64 dd64_78 (by decide) mq66 rfl hr h8
theorem dd64_81 : decode cX7_nameOfWord 81 = .ok (.ifCond .eq 9, 3) := by decide +kernel
theorem ww64_81 {d : Nat} {l0 : Option mw_V} {x : Int} {st : List mw_V} {σ : mw_S} {Q : Option mw_V → mw_S → Prop} : mw_WP d 64 81 [l0] (jI x :: st) σ Q ↔ (if x = 0 then mw_WP d 64 90 [l0] st σ Q else mw_WP d 64 84 [l0] st σ Q) := WP_if_eq mq64 dd64_81 (by decide)
theorem dd64_84 : decode cX7_nameOfWord 84 = .ok (.sipush 1005, 3) := by decide +kernel
theorem ww64_84 {d : Nat} {l0 : Option mw_V} {st : List mw_V} {σ : mw_S} {Q : Option mw_V → mw_S → Prop} : mw_WP d 64 84 [l0] st σ Q ↔ mw_WP d 64 87 [l0] (jI (1005) :: st) σ Q := WP_sipush mq64 dd64_84 (by decide)
theorem dd64_87 : decode cX7_nameOfWord 87 = .ok (.goto 4, 3) := by decide +kernel
theorem ww64_87 {d : Nat} {l0 : Option mw_V} {st : List mw_V} {σ : mw_S} {Q : Option mw_V → mw_S → Prop} : mw_WP d 64 87 [l0] st σ Q ↔ mw_WP d 64 91 [l0] st σ Q := WP_goto mq64 dd64_87 (by decide)
theorem dd64_90 : decode cX7_nameOfWord 90 = .ok (.iconst (-1), 1) := by decide +kernel
theorem ww64_90 {d : Nat} {l0 : Option mw_V} {st : List mw_V} {σ : mw_S} {Q : Option mw_V → mw_S → Prop} : mw_WP d 64 90 [l0] st σ Q ↔ mw_WP d 64 91 [l0] (jI (-1) :: st) σ Q := WP_iconst mq64 dd64_90 (by decide)
theorem dd64_91 : decode cX7_nameOfWord 91 = .ok (.ireturn, 1) := by decide +kernel
theorem ww64_91 {d : Nat} {l0 : Option mw_V} {z : Int} {σ : mw_S} {Q : Option mw_V → mw_S → Prop} : mw_WP d 64 91 [l0] [jI z] σ Q ↔ Q (some (jI z)) σ := WP_ireturn (ty := .int) mq64 dd64_91 rfl rfl
theorem ee65 {d : Nat} {a : Nat} {σ : mw_S} {Q : Option mw_V → mw_S → Prop} : mw_Call (d + 1) 65 [jR a] σ Q ↔ mw_WP d 65 0 [some (jR a)] [] σ Q := CL_u mq65 (Nat.le_of_ble_eq_true rfl) rfl
theorem dd65_0 : decode cX7_doingOfWord 0 = .ok (.aload_n 0, 1) := by decide +kernel
theorem ww65_0 {d : Nat} {x : Nat} {st : List mw_V} {σ : mw_S} {Q : Option mw_V → mw_S → Prop} : mw_WP d 65 0 [some (jR x)] st σ Q ↔ mw_WP d 65 1 [some (jR x)] (jR x :: st) σ Q := WP_aload_n mq65 dd65_0 rfl
theorem dd65_1 : decode cX7_doingOfWord 1 = .ok (.ldc 234, 2) := by decide +kernel
theorem ww65_1 {d : Nat} {l0 : Option mw_V} {st : List mw_V} {σ : mw_S} {Q : Option mw_V → mw_S → Prop} : mw_WP d 65 1 [l0] st σ Q ↔ mw_WP d 65 3 [l0] (jR 1016 :: st) σ Q := WP_ldcS (n := 16) mq65 dd65_1 (by decide) (by decide) rfl
theorem dd65_3 : decode cX7_doingOfWord 3 = .ok (.invokevirtual 58, 3) := by decide +kernel
theorem ww65_3 {d : Nat} {l0 : Option mw_V} {v0 : mw_V} {a : Nat} {st : List mw_V} {σ : mw_S} {Q : Option mw_V → mw_S → Prop} (hr : mw_rc a = 7) (h8 : (st.map mw_cat).sum ≤ 8) : mw_WP d 65 3 [l0] (v0 :: jR a :: st) σ Q ↔ mw_Call d 66 [jR a, v0] σ (fun r1 s1 => mw_WP d 65 6 [l0] (r1.toList ++ st) s1 Q) := WP_inv (as := [v0]) mq65 dd65_3 (by decide) mq66 rfl hr h8
theorem dd65_6 : decode cX7_doingOfWord 6 = .ok (.ifCond .eq 7, 3) := by decide +kernel
theorem ww65_6 {d : Nat} {l0 : Option mw_V} {x : Int} {st : List mw_V} {σ : mw_S} {Q : Option mw_V → mw_S → Prop} : mw_WP d 65 6 [l0] (jI x :: st) σ Q ↔ (if x = 0 then mw_WP d 65 13 [l0] st σ Q else mw_WP d 65 9 [l0] st σ Q) := WP_if_eq mq65 dd65_6 (by decide)
theorem dd65_9 : decode cX7_doingOfWord 9 = .ok (.iconst 0, 1) := by decide +kernel
theorem ww65_9 {d : Nat} {l0 : Option mw_V} {st : List mw_V} {σ : mw_S} {Q : Option mw_V → mw_S → Prop} : mw_WP d 65 9 [l0] st σ Q ↔ mw_WP d 65 10 [l0] (jI (0) :: st) σ Q := WP_iconst mq65 dd65_9 (by decide)
theorem dd65_10 : decode cX7_doingOfWord 10 = .ok (.goto 111, 3) := by decide +kernel
theorem ww65_10 {d : Nat} {l0 : Option mw_V} {st : List mw_V} {σ : mw_S} {Q : Option mw_V → mw_S → Prop} : mw_WP d 65 10 [l0] st σ Q ↔ mw_WP d 65 121 [l0] st σ Q := WP_goto mq65 dd65_10 (by decide)
theorem dd65_13 : decode cX7_doingOfWord 13 = .ok (.aload_n 0, 1) := by decide +kernel
theorem ww65_13 {d : Nat} {x : Nat} {st : List mw_V} {σ : mw_S} {Q : Option mw_V → mw_S → Prop} : mw_WP d 65 13 [some (jR x)] st σ Q ↔ mw_WP d 65 14 [some (jR x)] (jR x :: st) σ Q := WP_aload_n mq65 dd65_13 rfl
theorem dd65_14 : decode cX7_doingOfWord 14 = .ok (.ldc 236, 2) := by decide +kernel
theorem ww65_14 {d : Nat} {l0 : Option mw_V} {st : List mw_V} {σ : mw_S} {Q : Option mw_V → mw_S → Prop} : mw_WP d 65 14 [l0] st σ Q ↔ mw_WP d 65 16 [l0] (jR 1017 :: st) σ Q := WP_ldcS (n := 17) mq65 dd65_14 (by decide) (by decide) rfl
theorem dd65_16 : decode cX7_doingOfWord 16 = .ok (.invokevirtual 58, 3) := by decide +kernel
theorem ww65_16 {d : Nat} {l0 : Option mw_V} {v0 : mw_V} {a : Nat} {st : List mw_V} {σ : mw_S} {Q : Option mw_V → mw_S → Prop} (hr : mw_rc a = 7) (h8 : (st.map mw_cat).sum ≤ 8) : mw_WP d 65 16 [l0] (v0 :: jR a :: st) σ Q ↔ mw_Call d 66 [jR a, v0] σ (fun r1 s1 => mw_WP d 65 19 [l0] (r1.toList ++ st) s1 Q) := WP_inv (as := [v0]) mq65 dd65_16 (by decide) mq66 rfl hr h8
theorem dd65_19 : decode cX7_doingOfWord 19 = .ok (.ifCond .eq 7, 3) := by decide +kernel
theorem ww65_19 {d : Nat} {l0 : Option mw_V} {x : Int} {st : List mw_V} {σ : mw_S} {Q : Option mw_V → mw_S → Prop} : mw_WP d 65 19 [l0] (jI x :: st) σ Q ↔ (if x = 0 then mw_WP d 65 26 [l0] st σ Q else mw_WP d 65 22 [l0] st σ Q) := WP_if_eq mq65 dd65_19 (by decide)
theorem dd65_22 : decode cX7_doingOfWord 22 = .ok (.iconst 1, 1) := by decide +kernel
theorem ww65_22 {d : Nat} {l0 : Option mw_V} {st : List mw_V} {σ : mw_S} {Q : Option mw_V → mw_S → Prop} : mw_WP d 65 22 [l0] st σ Q ↔ mw_WP d 65 23 [l0] (jI (1) :: st) σ Q := WP_iconst mq65 dd65_22 (by decide)
theorem dd65_23 : decode cX7_doingOfWord 23 = .ok (.goto 98, 3) := by decide +kernel
theorem ww65_23 {d : Nat} {l0 : Option mw_V} {st : List mw_V} {σ : mw_S} {Q : Option mw_V → mw_S → Prop} : mw_WP d 65 23 [l0] st σ Q ↔ mw_WP d 65 121 [l0] st σ Q := WP_goto mq65 dd65_23 (by decide)
theorem dd65_26 : decode cX7_doingOfWord 26 = .ok (.aload_n 0, 1) := by decide +kernel
theorem ww65_26 {d : Nat} {x : Nat} {st : List mw_V} {σ : mw_S} {Q : Option mw_V → mw_S → Prop} : mw_WP d 65 26 [some (jR x)] st σ Q ↔ mw_WP d 65 27 [some (jR x)] (jR x :: st) σ Q := WP_aload_n mq65 dd65_26 rfl
theorem dd65_27 : decode cX7_doingOfWord 27 = .ok (.ldc 238, 2) := by decide +kernel
theorem ww65_27 {d : Nat} {l0 : Option mw_V} {st : List mw_V} {σ : mw_S} {Q : Option mw_V → mw_S → Prop} : mw_WP d 65 27 [l0] st σ Q ↔ mw_WP d 65 29 [l0] (jR 1018 :: st) σ Q := WP_ldcS (n := 18) mq65 dd65_27 (by decide) (by decide) rfl
theorem dd65_29 : decode cX7_doingOfWord 29 = .ok (.invokevirtual 58, 3) := by decide +kernel
theorem ww65_29 {d : Nat} {l0 : Option mw_V} {v0 : mw_V} {a : Nat} {st : List mw_V} {σ : mw_S} {Q : Option mw_V → mw_S → Prop} (hr : mw_rc a = 7) (h8 : (st.map mw_cat).sum ≤ 8) : mw_WP d 65 29 [l0] (v0 :: jR a :: st) σ Q ↔ mw_Call d 66 [jR a, v0] σ (fun r1 s1 => mw_WP d 65 32 [l0] (r1.toList ++ st) s1 Q) := WP_inv (as := [v0]) mq65 dd65_29 (by decide) mq66 rfl hr h8
theorem dd65_32 : decode cX7_doingOfWord 32 = .ok (.ifCond .eq 7, 3) := by decide +kernel
theorem ww65_32 {d : Nat} {l0 : Option mw_V} {x : Int} {st : List mw_V} {σ : mw_S} {Q : Option mw_V → mw_S → Prop} : mw_WP d 65 32 [l0] (jI x :: st) σ Q ↔ (if x = 0 then mw_WP d 65 39 [l0] st σ Q else mw_WP d 65 35 [l0] st σ Q) := WP_if_eq mq65 dd65_32 (by decide)
theorem dd65_35 : decode cX7_doingOfWord 35 = .ok (.iconst 2, 1) := by decide +kernel
theorem ww65_35 {d : Nat} {l0 : Option mw_V} {st : List mw_V} {σ : mw_S} {Q : Option mw_V → mw_S → Prop} : mw_WP d 65 35 [l0] st σ Q ↔ mw_WP d 65 36 [l0] (jI (2) :: st) σ Q := WP_iconst mq65 dd65_35 (by decide)
theorem dd65_36 : decode cX7_doingOfWord 36 = .ok (.goto 85, 3) := by decide +kernel
theorem ww65_36 {d : Nat} {l0 : Option mw_V} {st : List mw_V} {σ : mw_S} {Q : Option mw_V → mw_S → Prop} : mw_WP d 65 36 [l0] st σ Q ↔ mw_WP d 65 121 [l0] st σ Q := WP_goto mq65 dd65_36 (by decide)
theorem dd65_39 : decode cX7_doingOfWord 39 = .ok (.aload_n 0, 1) := by decide +kernel
theorem ww65_39 {d : Nat} {x : Nat} {st : List mw_V} {σ : mw_S} {Q : Option mw_V → mw_S → Prop} : mw_WP d 65 39 [some (jR x)] st σ Q ↔ mw_WP d 65 40 [some (jR x)] (jR x :: st) σ Q := WP_aload_n mq65 dd65_39 rfl
theorem dd65_40 : decode cX7_doingOfWord 40 = .ok (.ldc 240, 2) := by decide +kernel
theorem ww65_40 {d : Nat} {l0 : Option mw_V} {st : List mw_V} {σ : mw_S} {Q : Option mw_V → mw_S → Prop} : mw_WP d 65 40 [l0] st σ Q ↔ mw_WP d 65 42 [l0] (jR 1019 :: st) σ Q := WP_ldcS (n := 19) mq65 dd65_40 (by decide) (by decide) rfl
theorem dd65_42 : decode cX7_doingOfWord 42 = .ok (.invokevirtual 58, 3) := by decide +kernel
theorem ww65_42 {d : Nat} {l0 : Option mw_V} {v0 : mw_V} {a : Nat} {st : List mw_V} {σ : mw_S} {Q : Option mw_V → mw_S → Prop} (hr : mw_rc a = 7) (h8 : (st.map mw_cat).sum ≤ 8) : mw_WP d 65 42 [l0] (v0 :: jR a :: st) σ Q ↔ mw_Call d 66 [jR a, v0] σ (fun r1 s1 => mw_WP d 65 45 [l0] (r1.toList ++ st) s1 Q) := WP_inv (as := [v0]) mq65 dd65_42 (by decide) mq66 rfl hr h8
theorem dd65_45 : decode cX7_doingOfWord 45 = .ok (.ifCond .eq 7, 3) := by decide +kernel
theorem ww65_45 {d : Nat} {l0 : Option mw_V} {x : Int} {st : List mw_V} {σ : mw_S} {Q : Option mw_V → mw_S → Prop} : mw_WP d 65 45 [l0] (jI x :: st) σ Q ↔ (if x = 0 then mw_WP d 65 52 [l0] st σ Q else mw_WP d 65 48 [l0] st σ Q) := WP_if_eq mq65 dd65_45 (by decide)
theorem dd65_48 : decode cX7_doingOfWord 48 = .ok (.iconst 3, 1) := by decide +kernel
theorem ww65_48 {d : Nat} {l0 : Option mw_V} {st : List mw_V} {σ : mw_S} {Q : Option mw_V → mw_S → Prop} : mw_WP d 65 48 [l0] st σ Q ↔ mw_WP d 65 49 [l0] (jI (3) :: st) σ Q := WP_iconst mq65 dd65_48 (by decide)
theorem dd65_49 : decode cX7_doingOfWord 49 = .ok (.goto 72, 3) := by decide +kernel
theorem ww65_49 {d : Nat} {l0 : Option mw_V} {st : List mw_V} {σ : mw_S} {Q : Option mw_V → mw_S → Prop} : mw_WP d 65 49 [l0] st σ Q ↔ mw_WP d 65 121 [l0] st σ Q := WP_goto mq65 dd65_49 (by decide)
theorem dd65_52 : decode cX7_doingOfWord 52 = .ok (.aload_n 0, 1) := by decide +kernel
theorem ww65_52 {d : Nat} {x : Nat} {st : List mw_V} {σ : mw_S} {Q : Option mw_V → mw_S → Prop} : mw_WP d 65 52 [some (jR x)] st σ Q ↔ mw_WP d 65 53 [some (jR x)] (jR x :: st) σ Q := WP_aload_n mq65 dd65_52 rfl
theorem dd65_53 : decode cX7_doingOfWord 53 = .ok (.ldc 242, 2) := by decide +kernel
theorem ww65_53 {d : Nat} {l0 : Option mw_V} {st : List mw_V} {σ : mw_S} {Q : Option mw_V → mw_S → Prop} : mw_WP d 65 53 [l0] st σ Q ↔ mw_WP d 65 55 [l0] (jR 1020 :: st) σ Q := WP_ldcS (n := 20) mq65 dd65_53 (by decide) (by decide) rfl
theorem dd65_55 : decode cX7_doingOfWord 55 = .ok (.invokevirtual 58, 3) := by decide +kernel
theorem ww65_55 {d : Nat} {l0 : Option mw_V} {v0 : mw_V} {a : Nat} {st : List mw_V} {σ : mw_S} {Q : Option mw_V → mw_S → Prop} (hr : mw_rc a = 7) (h8 : (st.map mw_cat).sum ≤ 8) : mw_WP d 65 55 [l0] (v0 :: jR a :: st) σ Q ↔ mw_Call d 66 [jR a, v0] σ (fun r1 s1 => mw_WP d 65 58 [l0] (r1.toList ++ st) s1 Q) := WP_inv (as := [v0]) mq65 dd65_55 (by decide) mq66 rfl hr h8
theorem dd65_58 : decode cX7_doingOfWord 58 = .ok (.ifCond .eq 7, 3) := by decide +kernel
theorem ww65_58 {d : Nat} {l0 : Option mw_V} {x : Int} {st : List mw_V} {σ : mw_S} {Q : Option mw_V → mw_S → Prop} : mw_WP d 65 58 [l0] (jI x :: st) σ Q ↔ (if x = 0 then mw_WP d 65 65 [l0] st σ Q else mw_WP d 65 61 [l0] st σ Q) := WP_if_eq mq65 dd65_58 (by decide)
theorem dd65_61 : decode cX7_doingOfWord 61 = .ok (.iconst 4, 1) := by decide +kernel
theorem ww65_61 {d : Nat} {l0 : Option mw_V} {st : List mw_V} {σ : mw_S} {Q : Option mw_V → mw_S → Prop} : mw_WP d 65 61 [l0] st σ Q ↔ mw_WP d 65 62 [l0] (jI (4) :: st) σ Q := WP_iconst mq65 dd65_61 (by decide)
theorem dd65_62 : decode cX7_doingOfWord 62 = .ok (.goto 59, 3) := by decide +kernel
theorem ww65_62 {d : Nat} {l0 : Option mw_V} {st : List mw_V} {σ : mw_S} {Q : Option mw_V → mw_S → Prop} : mw_WP d 65 62 [l0] st σ Q ↔ mw_WP d 65 121 [l0] st σ Q := WP_goto mq65 dd65_62 (by decide)
theorem dd65_65 : decode cX7_doingOfWord 65 = .ok (.aload_n 0, 1) := by decide +kernel
theorem ww65_65 {d : Nat} {x : Nat} {st : List mw_V} {σ : mw_S} {Q : Option mw_V → mw_S → Prop} : mw_WP d 65 65 [some (jR x)] st σ Q ↔ mw_WP d 65 66 [some (jR x)] (jR x :: st) σ Q := WP_aload_n mq65 dd65_65 rfl
theorem dd65_66 : decode cX7_doingOfWord 66 = .ok (.ldc 244, 2) := by decide +kernel
theorem ww65_66 {d : Nat} {l0 : Option mw_V} {st : List mw_V} {σ : mw_S} {Q : Option mw_V → mw_S → Prop} : mw_WP d 65 66 [l0] st σ Q ↔ mw_WP d 65 68 [l0] (jR 1021 :: st) σ Q := WP_ldcS (n := 21) mq65 dd65_66 (by decide) (by decide) rfl
theorem dd65_68 : decode cX7_doingOfWord 68 = .ok (.invokevirtual 58, 3) := by decide +kernel
theorem ww65_68 {d : Nat} {l0 : Option mw_V} {v0 : mw_V} {a : Nat} {st : List mw_V} {σ : mw_S} {Q : Option mw_V → mw_S → Prop} (hr : mw_rc a = 7) (h8 : (st.map mw_cat).sum ≤ 8) : mw_WP d 65 68 [l0] (v0 :: jR a :: st) σ Q ↔ mw_Call d 66 [jR a, v0] σ (fun r1 s1 => mw_WP d 65 71 [l0] (r1.toList ++ st) s1 Q) := WP_inv (as := [v0]) mq65 dd65_68 (by decide) mq66 rfl hr h8
theorem dd65_71 : decode cX7_doingOfWord 71 = .ok (.ifCond .eq 7, 3) := by decide +kernel
theorem ww65_71 {d : Nat} {l0 : Option mw_V} {x : Int} {st : List mw_V} {σ : mw_S} {Q : Option mw_V → mw_S → Prop} : mw_WP d 65 71 [l0] (jI x :: st) σ Q ↔ (if x = 0 then mw_WP d 65 78 [l0] st σ Q else mw_WP d 65 74 [l0] st σ Q) := WP_if_eq mq65 dd65_71 (by decide)
theorem dd65_74 : decode cX7_doingOfWord 74 = .ok (.iconst 5, 1) := by decide +kernel
theorem ww65_74 {d : Nat} {l0 : Option mw_V} {st : List mw_V} {σ : mw_S} {Q : Option mw_V → mw_S → Prop} : mw_WP d 65 74 [l0] st σ Q ↔ mw_WP d 65 75 [l0] (jI (5) :: st) σ Q := WP_iconst mq65 dd65_74 (by decide)
theorem dd65_75 : decode cX7_doingOfWord 75 = .ok (.goto 46, 3) := by decide +kernel
theorem ww65_75 {d : Nat} {l0 : Option mw_V} {st : List mw_V} {σ : mw_S} {Q : Option mw_V → mw_S → Prop} : mw_WP d 65 75 [l0] st σ Q ↔ mw_WP d 65 121 [l0] st σ Q := WP_goto mq65 dd65_75 (by decide)
theorem dd65_78 : decode cX7_doingOfWord 78 = .ok (.aload_n 0, 1) := by decide +kernel
theorem ww65_78 {d : Nat} {x : Nat} {st : List mw_V} {σ : mw_S} {Q : Option mw_V → mw_S → Prop} : mw_WP d 65 78 [some (jR x)] st σ Q ↔ mw_WP d 65 79 [some (jR x)] (jR x :: st) σ Q := WP_aload_n mq65 dd65_78 rfl
theorem dd65_79 : decode cX7_doingOfWord 79 = .ok (.ldc 246, 2) := by decide +kernel
theorem ww65_79 {d : Nat} {l0 : Option mw_V} {st : List mw_V} {σ : mw_S} {Q : Option mw_V → mw_S → Prop} : mw_WP d 65 79 [l0] st σ Q ↔ mw_WP d 65 81 [l0] (jR 1022 :: st) σ Q := WP_ldcS (n := 22) mq65 dd65_79 (by decide) (by decide) rfl
theorem dd65_81 : decode cX7_doingOfWord 81 = .ok (.invokevirtual 58, 3) := by decide +kernel
theorem ww65_81 {d : Nat} {l0 : Option mw_V} {v0 : mw_V} {a : Nat} {st : List mw_V} {σ : mw_S} {Q : Option mw_V → mw_S → Prop} (hr : mw_rc a = 7) (h8 : (st.map mw_cat).sum ≤ 8) : mw_WP d 65 81 [l0] (v0 :: jR a :: st) σ Q ↔ mw_Call d 66 [jR a, v0] σ (fun r1 s1 => mw_WP d 65 84 [l0] (r1.toList ++ st) s1 Q) := WP_inv (as := [v0]) mq65 dd65_81 (by decide) mq66 rfl hr h8
theorem dd65_84 : decode cX7_doingOfWord 84 = .ok (.ifCond .eq 8, 3) := by decide +kernel
theorem ww65_84 {d : Nat} {l0 : Option mw_V} {x : Int} {st : List mw_V} {σ : mw_S} {Q : Option mw_V → mw_S → Prop} : mw_WP d 65 84 [l0] (jI x :: st) σ Q ↔ (if x = 0 then mw_WP d 65 92 [l0] st σ Q else mw_WP d 65 87 [l0] st σ Q) := WP_if_eq mq65 dd65_84 (by decide)
theorem dd65_87 : decode cX7_doingOfWord 87 = .ok (.bipush 6, 2) := by decide +kernel
theorem ww65_87 {d : Nat} {l0 : Option mw_V} {st : List mw_V} {σ : mw_S} {Q : Option mw_V → mw_S → Prop} : mw_WP d 65 87 [l0] st σ Q ↔ mw_WP d 65 89 [l0] (jI (6) :: st) σ Q := WP_bipush mq65 dd65_87 (by decide)
theorem dd65_89 : decode cX7_doingOfWord 89 = .ok (.goto 32, 3) := by decide +kernel
theorem ww65_89 {d : Nat} {l0 : Option mw_V} {st : List mw_V} {σ : mw_S} {Q : Option mw_V → mw_S → Prop} : mw_WP d 65 89 [l0] st σ Q ↔ mw_WP d 65 121 [l0] st σ Q := WP_goto mq65 dd65_89 (by decide)
theorem dd65_92 : decode cX7_doingOfWord 92 = .ok (.aload_n 0, 1) := by decide +kernel
theorem ww65_92 {d : Nat} {x : Nat} {st : List mw_V} {σ : mw_S} {Q : Option mw_V → mw_S → Prop} : mw_WP d 65 92 [some (jR x)] st σ Q ↔ mw_WP d 65 93 [some (jR x)] (jR x :: st) σ Q := WP_aload_n mq65 dd65_92 rfl
theorem dd65_93 : decode cX7_doingOfWord 93 = .ok (.ldc 248, 2) := by decide +kernel
theorem ww65_93 {d : Nat} {l0 : Option mw_V} {st : List mw_V} {σ : mw_S} {Q : Option mw_V → mw_S → Prop} : mw_WP d 65 93 [l0] st σ Q ↔ mw_WP d 65 95 [l0] (jR 1023 :: st) σ Q := WP_ldcS (n := 23) mq65 dd65_93 (by decide) (by decide) rfl
theorem dd65_95 : decode cX7_doingOfWord 95 = .ok (.invokevirtual 58, 3) := by decide +kernel
theorem ww65_95 {d : Nat} {l0 : Option mw_V} {v0 : mw_V} {a : Nat} {st : List mw_V} {σ : mw_S} {Q : Option mw_V → mw_S → Prop} (hr : mw_rc a = 7) (h8 : (st.map mw_cat).sum ≤ 8) : mw_WP d 65 95 [l0] (v0 :: jR a :: st) σ Q ↔ mw_Call d 66 [jR a, v0] σ (fun r1 s1 => mw_WP d 65 98 [l0] (r1.toList ++ st) s1 Q) := WP_inv (as := [v0]) mq65 dd65_95 (by decide) mq66 rfl hr h8
theorem dd65_98 : decode cX7_doingOfWord 98 = .ok (.ifCond .eq 8, 3) := by decide +kernel
theorem ww65_98 {d : Nat} {l0 : Option mw_V} {x : Int} {st : List mw_V} {σ : mw_S} {Q : Option mw_V → mw_S → Prop} : mw_WP d 65 98 [l0] (jI x :: st) σ Q ↔ (if x = 0 then mw_WP d 65 106 [l0] st σ Q else mw_WP d 65 101 [l0] st σ Q) := WP_if_eq mq65 dd65_98 (by decide)
theorem dd65_101 : decode cX7_doingOfWord 101 = .ok (.bipush 7, 2) := by decide +kernel
theorem ww65_101 {d : Nat} {l0 : Option mw_V} {st : List mw_V} {σ : mw_S} {Q : Option mw_V → mw_S → Prop} : mw_WP d 65 101 [l0] st σ Q ↔ mw_WP d 65 103 [l0] (jI (7) :: st) σ Q := WP_bipush mq65 dd65_101 (by decide)
theorem dd65_103 : decode cX7_doingOfWord 103 = .ok (.goto 18, 3) := by decide +kernel
theorem ww65_103 {d : Nat} {l0 : Option mw_V} {st : List mw_V} {σ : mw_S} {Q : Option mw_V → mw_S → Prop} : mw_WP d 65 103 [l0] st σ Q ↔ mw_WP d 65 121 [l0] st σ Q := WP_goto mq65 dd65_103 (by decide)
theorem dd65_106 : decode cX7_doingOfWord 106 = .ok (.aload_n 0, 1) := by decide +kernel
theorem ww65_106 {d : Nat} {x : Nat} {st : List mw_V} {σ : mw_S} {Q : Option mw_V → mw_S → Prop} : mw_WP d 65 106 [some (jR x)] st σ Q ↔ mw_WP d 65 107 [some (jR x)] (jR x :: st) σ Q := WP_aload_n mq65 dd65_106 rfl
theorem dd65_107 : decode cX7_doingOfWord 107 = .ok (.ldc 250, 2) := by decide +kernel
theorem ww65_107 {d : Nat} {l0 : Option mw_V} {st : List mw_V} {σ : mw_S} {Q : Option mw_V → mw_S → Prop} : mw_WP d 65 107 [l0] st σ Q ↔ mw_WP d 65 109 [l0] (jR 1024 :: st) σ Q := WP_ldcS (n := 24) mq65 dd65_107 (by decide) (by decide) rfl
theorem dd65_109 : decode cX7_doingOfWord 109 = .ok (.invokevirtual 58, 3) := by decide +kernel
theorem ww65_109 {d : Nat} {l0 : Option mw_V} {v0 : mw_V} {a : Nat} {st : List mw_V} {σ : mw_S} {Q : Option mw_V → mw_S → Prop} (hr : mw_rc a = 7) (h8 : (st.map mw_cat).sum ≤ 8) : mw_WP d 65 109 [l0] (v0 :: jR a :: st) σ Q ↔ mw_Call d 66 [jR a, v0] σ (fun r1 s1 => mw_WP d 65 112 [l0] (r1.toList ++ st) s1 Q) := WP_inv (as := [v0]) mq65 dd65_109 (by decide) mq66 rfl hr h8
theorem dd65_112 : decode cX7_doingOfWord 112 = .ok (.ifCond .eq 8, 3) := by decide +kernel
theorem ww65_112 {d : Nat} {l0 : Option mw_V} {x : Int} {st : List mw_V} {σ : mw_S} {Q : Option mw_V → mw_S → Prop} : mw_WP d 65 112 [l0] (jI x :: st) σ Q ↔ (if x = 0 then mw_WP d 65 120 [l0] st σ Q else mw_WP d 65 115 [l0] st σ Q) := WP_if_eq mq65 dd65_112 (by decide)
theorem dd65_115 : decode cX7_doingOfWord 115 = .ok (.bipush 8, 2) := by decide +kernel
theorem ww65_115 {d : Nat} {l0 : Option mw_V} {st : List mw_V} {σ : mw_S} {Q : Option mw_V → mw_S → Prop} : mw_WP d 65 115 [l0] st σ Q ↔ mw_WP d 65 117 [l0] (jI (8) :: st) σ Q := WP_bipush mq65 dd65_115 (by decide)
theorem dd65_117 : decode cX7_doingOfWord 117 = .ok (.goto 4, 3) := by decide +kernel
theorem ww65_117 {d : Nat} {l0 : Option mw_V} {st : List mw_V} {σ : mw_S} {Q : Option mw_V → mw_S → Prop} : mw_WP d 65 117 [l0] st σ Q ↔ mw_WP d 65 121 [l0] st σ Q := WP_goto mq65 dd65_117 (by decide)
theorem dd65_120 : decode cX7_doingOfWord 120 = .ok (.iconst (-1), 1) := by decide +kernel
theorem ww65_120 {d : Nat} {l0 : Option mw_V} {st : List mw_V} {σ : mw_S} {Q : Option mw_V → mw_S → Prop} : mw_WP d 65 120 [l0] st σ Q ↔ mw_WP d 65 121 [l0] (jI (-1) :: st) σ Q := WP_iconst mq65 dd65_120 (by decide)
theorem dd65_121 : decode cX7_doingOfWord 121 = .ok (.ireturn, 1) := by decide +kernel
theorem ww65_121 {d : Nat} {l0 : Option mw_V} {z : Int} {σ : mw_S} {Q : Option mw_V → mw_S → Prop} : mw_WP d 65 121 [l0] [jI z] σ Q ↔ Q (some (jI z)) σ := WP_ireturn (ty := .int) mq65 dd65_121 rfl rfl
theorem ee66 {d : Nat} {a : Nat} {a0 : Nat} {σ : mw_S} {Q : Option mw_V → mw_S → Prop} : mw_Call (d + 1) 66 [jR a, jR a0] σ Q ↔ mw_WP d 66 0 [some (jR a), some (jR a0), none] [] σ Q := CL_u mq66 (Nat.le_of_ble_eq_true rfl) rfl
theorem dd66_0 : decode cX7_isWord 0 = .ok (.aload_n 0, 1) := by decide +kernel
theorem ww66_0 {d : Nat} {l1 l2 : Option mw_V} {x : Nat} {st : List mw_V} {σ : mw_S} {Q : Option mw_V → mw_S → Prop} : mw_WP d 66 0 [some (jR x), l1, l2] st σ Q ↔ mw_WP d 66 1 [some (jR x), l1, l2] (jR x :: st) σ Q := WP_aload_n mq66 dd66_0 rfl
theorem dd66_1 : decode cX7_isWord 1 = .ok (.getfield 53, 3) := by decide +kernel
theorem ww66_1 {d : Nat} {l0 l1 l2 : Option mw_V} {st : List mw_V} {σ : mw_S} {Q : Option mw_V → mw_S → Prop} : mw_WP d 66 1 [l0, l1, l2] (jR 1 :: st) σ Q ↔ mw_WP d 66 4 [l0, l1, l2] (jI (σ 1 8) :: st) σ Q := WP_getI (ci := 6) (k := 8) mq66 dd66_1 (by decide) (Or.inl rfl)
theorem dd66_4 : decode cX7_isWord 4 = .ok (.iconst 2, 1) := by decide +kernel
theorem ww66_4 {d : Nat} {l0 l1 l2 : Option mw_V} {st : List mw_V} {σ : mw_S} {Q : Option mw_V → mw_S → Prop} : mw_WP d 66 4 [l0, l1, l2] st σ Q ↔ mw_WP d 66 5 [l0, l1, l2] (jI (2) :: st) σ Q := WP_iconst mq66 dd66_4 (by decide)
theorem dd66_5 : decode cX7_isWord 5 = .ok (.if_icmp .ne 19, 3) := by decide +kernel
theorem ww66_5 {d : Nat} {l0 l1 l2 : Option mw_V} {x y : Int} {st : List mw_V} {σ : mw_S} {Q : Option mw_V → mw_S → Prop} : mw_WP d 66 5 [l0, l1, l2] (jI y :: jI x :: st) σ Q ↔ (if ¬ x = y then mw_WP d 66 24 [l0, l1, l2] st σ Q else mw_WP d 66 8 [l0, l1, l2] st σ Q) := WP_icmp_ne mq66 dd66_5 (by decide)
theorem dd66_8 : decode cX7_isWord 8 = .ok (.aload_n 0, 1) := by decide +kernel
theorem ww66_8 {d : Nat} {l1 l2 : Option mw_V} {x : Nat} {st : List mw_V} {σ : mw_S} {Q : Option mw_V → mw_S → Prop} : mw_WP d 66 8 [some (jR x), l1, l2] st σ Q ↔ mw_WP d 66 9 [some (jR x), l1, l2] (jR x :: st) σ Q := WP_aload_n mq66 dd66_8 rfl
theorem dd66_9 : decode cX7_isWord 9 = .ok (.getfield 41, 3) := by decide +kernel
theorem ww66_9 {d : Nat} {l0 l1 l2 : Option mw_V} {st : List mw_V} {σ : mw_S} {Q : Option mw_V → mw_S → Prop} : mw_WP d 66 9 [l0, l1, l2] (jR 1 :: st) σ Q ↔ mw_WP d 66 12 [l0, l1, l2] (jI (σ 1 6) :: st) σ Q := WP_getI (ci := 6) (k := 6) mq66 dd66_9 (by decide) (Or.inl rfl)
theorem dd66_12 : decode cX7_isWord 12 = .ok (.aload_n 0, 1) := by decide +kernel
theorem ww66_12 {d : Nat} {l1 l2 : Option mw_V} {x : Nat} {st : List mw_V} {σ : mw_S} {Q : Option mw_V → mw_S → Prop} : mw_WP d 66 12 [some (jR x), l1, l2] st σ Q ↔ mw_WP d 66 13 [some (jR x), l1, l2] (jR x :: st) σ Q := WP_aload_n mq66 dd66_12 rfl
theorem dd66_13 : decode cX7_isWord 13 = .ok (.getfield 252, 3) := by decide +kernel
theorem ww66_13 {d : Nat} {l0 l1 l2 : Option mw_V} {st : List mw_V} {σ : mw_S} {Q : Option mw_V → mw_S → Prop} : mw_WP d 66 13 [l0, l1, l2] (jR 1 :: st) σ Q ↔ mw_WP d 66 16 [l0, l1, l2] (jI (σ 1 7) :: st) σ Q := WP_getI (ci := 6) (k := 7) mq66 dd66_13 (by decide) (Or.inl rfl)
theorem dd66_16 : decode cX7_isWord 16 = .ok (.isub, 1) := by decide +kernel
theorem ww66_16 {d : Nat} {l0 l1 l2 : Option mw_V} {x y : Int} {st : List mw_V} {σ : mw_S} {Q : Option mw_V → mw_S → Prop} : mw_WP d 66 16 [l0, l1, l2] (jI y :: jI x :: st) σ Q ↔ mw_WP d 66 17 [l0, l1, l2] (jI (w32 (x - y)) :: st) σ Q := WP_isub mq66 dd66_16
theorem dd66_17 : decode cX7_isWord 17 = .ok (.aload_n 1, 1) := by decide +kernel
theorem ww66_17 {d : Nat} {l0 l2 : Option mw_V} {x : Nat} {st : List mw_V} {σ : mw_S} {Q : Option mw_V → mw_S → Prop} : mw_WP d 66 17 [l0, some (jR x), l2] st σ Q ↔ mw_WP d 66 18 [l0, some (jR x), l2] (jR x :: st) σ Q := WP_aload_n mq66 dd66_17 rfl
theorem dd66_18 : decode cX7_isWord 18 = .ok (.invokevirtual 255, 3) := by decide +kernel
theorem ww66_18 {d : Nat} {l0 l1 l2 : Option mw_V} {a : Nat} {st : List mw_V} {σ : mw_S} {Q : Option mw_V → mw_S → Prop} (hr : mw_rc a = 50) (h8 : (st.map mw_cat).sum ≤ 8) : mw_WP d 66 18 [l0, l1, l2] (jR a :: st) σ Q ↔ mw_Call d 284 [jR a] σ (fun r1 s1 => mw_WP d 66 21 [l0, l1, l2] (r1.toList ++ st) s1 Q) := WP_inv (as := []) mq66 dd66_18 (by decide) mq284 rfl hr h8
theorem dd66_21 : decode cX7_isWord 21 = .ok (.if_icmp .eq 5, 3) := by decide +kernel
theorem ww66_21 {d : Nat} {l0 l1 l2 : Option mw_V} {x y : Int} {st : List mw_V} {σ : mw_S} {Q : Option mw_V → mw_S → Prop} : mw_WP d 66 21 [l0, l1, l2] (jI y :: jI x :: st) σ Q ↔ (if x = y then mw_WP d 66 26 [l0, l1, l2] st σ Q else mw_WP d 66 24 [l0, l1, l2] st σ Q) := WP_icmp_eq mq66 dd66_21 (by decide)
theorem dd66_24 : decode cX7_isWord 24 = .ok (.iconst 0, 1) := by decide +kernel
theorem ww66_24 {d : Nat} {l0 l1 l2 : Option mw_V} {st : List mw_V} {σ : mw_S} {Q : Option mw_V → mw_S → Prop} : mw_WP d 66 24 [l0, l1, l2] st σ Q ↔ mw_WP d 66 25 [l0, l1, l2] (jI (0) :: st) σ Q := WP_iconst mq66 dd66_24 (by decide)
theorem dd66_25 : decode cX7_isWord 25 = .ok (.ireturn, 1) := by decide +kernel
theorem ww66_25 {d : Nat} {l0 l1 l2 : Option mw_V} {z : Int} {σ : mw_S} {Q : Option mw_V → mw_S → Prop} (h : z = 0 ∨ z = 1) : mw_WP d 66 25 [l0, l1, l2] [jI z] σ Q ↔ Q (some (jI z)) σ := WP_ireturn (ty := .boolean) mq66 dd66_25 rfl (by rcases h with rfl | rfl <;> decide)
theorem dd66_26 : decode cX7_isWord 26 = .ok (.iconst 0, 1) := by decide +kernel
theorem ww66_26 {d : Nat} {l0 l1 l2 : Option mw_V} {st : List mw_V} {σ : mw_S} {Q : Option mw_V → mw_S → Prop} : mw_WP d 66 26 [l0, l1, l2] st σ Q ↔ mw_WP d 66 27 [l0, l1, l2] (jI (0) :: st) σ Q := WP_iconst mq66 dd66_26 (by decide)
theorem dd66_27 : decode cX7_isWord 27 = .ok (.istore_n 2, 1) := by decide +kernel
theorem ww66_27 {d : Nat} {l0 l1 l2 : Option mw_V} {x : Int} {st : List mw_V} {σ : mw_S} {Q : Option mw_V → mw_S → Prop} (h : mw_nlo l1 = true) : mw_WP d 66 27 [l0, l1, l2] (jI x :: st) σ Q ↔ mw_WP d 66 28 [l0, l1, some (jI x)] st σ Q := WP_istore_n mq66 dd66_27 (Nat.le_of_ble_eq_true rfl) (mw_nl_of (i := 1) rfl h) rfl
theorem dd66_28 : decode cX7_isWord 28 = .ok (.iload_n 2, 1) := by decide +kernel
theorem ww66_28 {d : Nat} {l0 l1 : Option mw_V} {x : Int} {st : List mw_V} {σ : mw_S} {Q : Option mw_V → mw_S → Prop} : mw_WP d 66 28 [l0, l1, some (jI x)] st σ Q ↔ mw_WP d 66 29 [l0, l1, some (jI x)] (jI x :: st) σ Q := WP_iload_n mq66 dd66_28 rfl
theorem dd66_29 : decode cX7_isWord 29 = .ok (.aload_n 1, 1) := by decide +kernel
theorem ww66_29 {d : Nat} {l0 l2 : Option mw_V} {x : Nat} {st : List mw_V} {σ : mw_S} {Q : Option mw_V → mw_S → Prop} : mw_WP d 66 29 [l0, some (jR x), l2] st σ Q ↔ mw_WP d 66 30 [l0, some (jR x), l2] (jR x :: st) σ Q := WP_aload_n mq66 dd66_29 rfl
theorem dd66_30 : decode cX7_isWord 30 = .ok (.invokevirtual 255, 3) := by decide +kernel
theorem ww66_30 {d : Nat} {l0 l1 l2 : Option mw_V} {a : Nat} {st : List mw_V} {σ : mw_S} {Q : Option mw_V → mw_S → Prop} (hr : mw_rc a = 50) (h8 : (st.map mw_cat).sum ≤ 8) : mw_WP d 66 30 [l0, l1, l2] (jR a :: st) σ Q ↔ mw_Call d 284 [jR a] σ (fun r1 s1 => mw_WP d 66 33 [l0, l1, l2] (r1.toList ++ st) s1 Q) := WP_inv (as := []) mq66 dd66_30 (by decide) mq284 rfl hr h8
theorem dd66_33 : decode cX7_isWord 33 = .ok (.if_icmp .ge 30, 3) := by decide +kernel
theorem ww66_33 {d : Nat} {l0 l1 l2 : Option mw_V} {x y : Int} {st : List mw_V} {σ : mw_S} {Q : Option mw_V → mw_S → Prop} : mw_WP d 66 33 [l0, l1, l2] (jI y :: jI x :: st) σ Q ↔ (if y ≤ x then mw_WP d 66 63 [l0, l1, l2] st σ Q else mw_WP d 66 36 [l0, l1, l2] st σ Q) := WP_icmp_ge mq66 dd66_33 (by decide)
theorem dd66_36 : decode cX7_isWord 36 = .ok (.aload_n 0, 1) := by decide +kernel
theorem ww66_36 {d : Nat} {l1 l2 : Option mw_V} {x : Nat} {st : List mw_V} {σ : mw_S} {Q : Option mw_V → mw_S → Prop} : mw_WP d 66 36 [some (jR x), l1, l2] st σ Q ↔ mw_WP d 66 37 [some (jR x), l1, l2] (jR x :: st) σ Q := WP_aload_n mq66 dd66_36 rfl
theorem dd66_37 : decode cX7_isWord 37 = .ok (.getfield 11, 3) := by decide +kernel
theorem ww66_37 {d : Nat} {l0 l1 l2 : Option mw_V} {st : List mw_V} {σ : mw_S} {Q : Option mw_V → mw_S → Prop} : mw_WP d 66 37 [l0, l1, l2] (jR 1 :: st) σ Q ↔ mw_WP d 66 40 [l0, l1, l2] (jR 2 :: st) σ Q := WP_getR (ci := 6) (k := 0) mq66 dd66_37 (by decide) rfl
theorem dd66_40 : decode cX7_isWord 40 = .ok (.aload_n 0, 1) := by decide +kernel
theorem ww66_40 {d : Nat} {l1 l2 : Option mw_V} {x : Nat} {st : List mw_V} {σ : mw_S} {Q : Option mw_V → mw_S → Prop} : mw_WP d 66 40 [some (jR x), l1, l2] st σ Q ↔ mw_WP d 66 41 [some (jR x), l1, l2] (jR x :: st) σ Q := WP_aload_n mq66 dd66_40 rfl
theorem dd66_41 : decode cX7_isWord 41 = .ok (.getfield 252, 3) := by decide +kernel
theorem ww66_41 {d : Nat} {l0 l1 l2 : Option mw_V} {st : List mw_V} {σ : mw_S} {Q : Option mw_V → mw_S → Prop} : mw_WP d 66 41 [l0, l1, l2] (jR 1 :: st) σ Q ↔ mw_WP d 66 44 [l0, l1, l2] (jI (σ 1 7) :: st) σ Q := WP_getI (ci := 6) (k := 7) mq66 dd66_41 (by decide) (Or.inl rfl)
theorem dd66_44 : decode cX7_isWord 44 = .ok (.iload_n 2, 1) := by decide +kernel
theorem ww66_44 {d : Nat} {l0 l1 : Option mw_V} {x : Int} {st : List mw_V} {σ : mw_S} {Q : Option mw_V → mw_S → Prop} : mw_WP d 66 44 [l0, l1, some (jI x)] st σ Q ↔ mw_WP d 66 45 [l0, l1, some (jI x)] (jI x :: st) σ Q := WP_iload_n mq66 dd66_44 rfl
theorem dd66_45 : decode cX7_isWord 45 = .ok (.iadd, 1) := by decide +kernel
theorem ww66_45 {d : Nat} {l0 l1 l2 : Option mw_V} {x y : Int} {st : List mw_V} {σ : mw_S} {Q : Option mw_V → mw_S → Prop} : mw_WP d 66 45 [l0, l1, l2] (jI y :: jI x :: st) σ Q ↔ mw_WP d 66 46 [l0, l1, l2] (jI (w32 (x + y)) :: st) σ Q := WP_iadd mq66 dd66_45
theorem dd66_46 : decode cX7_isWord 46 = .ok (.iaload, 1) := by decide +kernel
theorem ww66_46 {d : Nat} {l0 l1 l2 : Option mw_V} {z : Int} {a : Nat} {st : List mw_V} {σ : mw_S} {Q : Option mw_V → mw_S → Prop} : mw_WP d 66 46 [l0, l1, l2] (jI z :: jR a :: st) σ Q ↔ ((0 ≤ z ∧ z < mw_lenI a) ∧ mw_WP d 66 47 [l0, l1, l2] (jI (mw_rdI σ a z.toNat) :: st) σ Q) := WP_iaload mq66 dd66_46
theorem dd66_47 : decode cX7_isWord 47 = .ok (.aload_n 1, 1) := by decide +kernel
theorem ww66_47 {d : Nat} {l0 l2 : Option mw_V} {x : Nat} {st : List mw_V} {σ : mw_S} {Q : Option mw_V → mw_S → Prop} : mw_WP d 66 47 [l0, some (jR x), l2] st σ Q ↔ mw_WP d 66 48 [l0, some (jR x), l2] (jR x :: st) σ Q := WP_aload_n mq66 dd66_47 rfl
theorem dd66_48 : decode cX7_isWord 48 = .ok (.iload_n 2, 1) := by decide +kernel
theorem ww66_48 {d : Nat} {l0 l1 : Option mw_V} {x : Int} {st : List mw_V} {σ : mw_S} {Q : Option mw_V → mw_S → Prop} : mw_WP d 66 48 [l0, l1, some (jI x)] st σ Q ↔ mw_WP d 66 49 [l0, l1, some (jI x)] (jI x :: st) σ Q := WP_iload_n mq66 dd66_48 rfl
theorem dd66_49 : decode cX7_isWord 49 = .ok (.invokevirtual 259, 3) := by decide +kernel
theorem ww66_49 {d : Nat} {l0 l1 l2 : Option mw_V} {v0 : mw_V} {a : Nat} {st : List mw_V} {σ : mw_S} {Q : Option mw_V → mw_S → Prop} (hr : mw_rc a = 50) (h8 : (st.map mw_cat).sum ≤ 8) : mw_WP d 66 49 [l0, l1, l2] (v0 :: jR a :: st) σ Q ↔ mw_Call d 285 [jR a, v0] σ (fun r1 s1 => mw_WP d 66 52 [l0, l1, l2] (r1.toList ++ st) s1 Q) := WP_inv (as := [v0]) mq66 dd66_49 (by decide) mq285 rfl hr h8
theorem dd66_52 : decode cX7_isWord 52 = .ok (.if_icmp .eq 5, 3) := by decide +kernel
theorem ww66_52 {d : Nat} {l0 l1 l2 : Option mw_V} {x y : Int} {st : List mw_V} {σ : mw_S} {Q : Option mw_V → mw_S → Prop} : mw_WP d 66 52 [l0, l1, l2] (jI y :: jI x :: st) σ Q ↔ (if x = y then mw_WP d 66 57 [l0, l1, l2] st σ Q else mw_WP d 66 55 [l0, l1, l2] st σ Q) := WP_icmp_eq mq66 dd66_52 (by decide)
theorem dd66_55 : decode cX7_isWord 55 = .ok (.iconst 0, 1) := by decide +kernel
theorem ww66_55 {d : Nat} {l0 l1 l2 : Option mw_V} {st : List mw_V} {σ : mw_S} {Q : Option mw_V → mw_S → Prop} : mw_WP d 66 55 [l0, l1, l2] st σ Q ↔ mw_WP d 66 56 [l0, l1, l2] (jI (0) :: st) σ Q := WP_iconst mq66 dd66_55 (by decide)
theorem dd66_56 : decode cX7_isWord 56 = .ok (.ireturn, 1) := by decide +kernel
theorem ww66_56 {d : Nat} {l0 l1 l2 : Option mw_V} {z : Int} {σ : mw_S} {Q : Option mw_V → mw_S → Prop} (h : z = 0 ∨ z = 1) : mw_WP d 66 56 [l0, l1, l2] [jI z] σ Q ↔ Q (some (jI z)) σ := WP_ireturn (ty := .boolean) mq66 dd66_56 rfl (by rcases h with rfl | rfl <;> decide)
theorem dd66_57 : decode cX7_isWord 57 = .ok (.iinc 2 1, 3) := by decide +kernel
theorem ww66_57 {d : Nat} {l0 l1 : Option mw_V} {x : Int} {st : List mw_V} {σ : mw_S} {Q : Option mw_V → mw_S → Prop} (h : mw_nlo l1 = true) : mw_WP d 66 57 [l0, l1, some (jI x)] st σ Q ↔ mw_WP d 66 60 [l0, l1, some (jI (w32 (x + (1))))] st σ Q := WP_iinc mq66 dd66_57 rfl (Nat.le_of_ble_eq_true rfl) (mw_nl_of (i := 1) rfl h) rfl
theorem dd66_60 : decode cX7_isWord 60 = .ok (.goto (-32), 3) := by decide +kernel
theorem ww66_60 {d : Nat} {l0 l1 l2 : Option mw_V} {st : List mw_V} {σ : mw_S} {Q : Option mw_V → mw_S → Prop} : mw_WP d 66 60 [l0, l1, l2] st σ Q ↔ mw_WP d 66 28 [l0, l1, l2] st σ Q := WP_goto mq66 dd66_60 (by decide)
theorem dd66_63 : decode cX7_isWord 63 = .ok (.iconst 1, 1) := by decide +kernel
theorem ww66_63 {d : Nat} {l0 l1 l2 : Option mw_V} {st : List mw_V} {σ : mw_S} {Q : Option mw_V → mw_S → Prop} : mw_WP d 66 63 [l0, l1, l2] st σ Q ↔ mw_WP d 66 64 [l0, l1, l2] (jI (1) :: st) σ Q := WP_iconst mq66 dd66_63 (by decide)
theorem dd66_64 : decode cX7_isWord 64 = .ok (.ireturn, 1) := by decide +kernel
theorem ww66_64 {d : Nat} {l0 l1 l2 : Option mw_V} {z : Int} {σ : mw_S} {Q : Option mw_V → mw_S → Prop} (h : z = 0 ∨ z = 1) : mw_WP d 66 64 [l0, l1, l2] [jI z] σ Q ↔ Q (some (jI z)) σ := WP_ireturn (ty := .boolean) mq66 dd66_64 rfl (by rcases h with rfl | rfl <;> decide)
theorem ee67 {d : Nat} {a : Nat} {z0 : Int} {σ : mw_S} {Q : Option mw_V → mw_S → Prop} : mw_Call (d + 1) 67 [jR a, jI z0] σ Q ↔ mw_WP d 67 0 [some (jR a), some (jI z0)] [] σ Q := CL_u mq67 (Nat.le_of_ble_eq_true rfl) rfl
theorem dd67_0 : decode cX7_isSign 0 = .ok (.aload_n 0, 1) := by decide +kernel
theorem ww67_0 {d : Nat} {l1 : Option mw_V} {x : Nat} {st : List mw_V} {σ : mw_S} {Q : Option mw_V → mw_S → Prop} : mw_WP d 67 0 [some (jR x), l1] st σ Q ↔ mw_WP d 67 1 [some (jR x), l1] (jR x :: st) σ Q := WP_aload_n mq67 dd67_0 rfl
theorem dd67_1 : decode cX7_isSign 1 = .ok (.getfield 53, 3) := by decide +kernel
theorem ww67_1 {d : Nat} {l0 l1 : Option mw_V} {st : List mw_V} {σ : mw_S} {Q : Option mw_V → mw_S → Prop} : mw_WP d 67 1 [l0, l1] (jR 1 :: st) σ Q ↔ mw_WP d 67 4 [l0, l1] (jI (σ 1 8) :: st) σ Q := WP_getI (ci := 6) (k := 8) mq67 dd67_1 (by decide) (Or.inl rfl)
theorem dd67_4 : decode cX7_isSign 4 = .ok (.iconst 4, 1) := by decide +kernel
theorem ww67_4 {d : Nat} {l0 l1 : Option mw_V} {st : List mw_V} {σ : mw_S} {Q : Option mw_V → mw_S → Prop} : mw_WP d 67 4 [l0, l1] st σ Q ↔ mw_WP d 67 5 [l0, l1] (jI (4) :: st) σ Q := WP_iconst mq67 dd67_4 (by decide)
theorem dd67_5 : decode cX7_isSign 5 = .ok (.if_icmp .ne 15, 3) := by decide +kernel
theorem ww67_5 {d : Nat} {l0 l1 : Option mw_V} {x y : Int} {st : List mw_V} {σ : mw_S} {Q : Option mw_V → mw_S → Prop} : mw_WP d 67 5 [l0, l1] (jI y :: jI x :: st) σ Q ↔ (if ¬ x = y then mw_WP d 67 20 [l0, l1] st σ Q else mw_WP d 67 8 [l0, l1] st σ Q) := WP_icmp_ne mq67 dd67_5 (by decide)
theorem dd67_8 : decode cX7_isSign 8 = .ok (.aload_n 0, 1) := by decide +kernel
theorem ww67_8 {d : Nat} {l1 : Option mw_V} {x : Nat} {st : List mw_V} {σ : mw_S} {Q : Option mw_V → mw_S → Prop} : mw_WP d 67 8 [some (jR x), l1] st σ Q ↔ mw_WP d 67 9 [some (jR x), l1] (jR x :: st) σ Q := WP_aload_n mq67 dd67_8 rfl
theorem dd67_9 : decode cX7_isSign 9 = .ok (.getfield 110, 3) := by decide +kernel
theorem ww67_9 {d : Nat} {l0 l1 : Option mw_V} {st : List mw_V} {σ : mw_S} {Q : Option mw_V → mw_S → Prop} : mw_WP d 67 9 [l0, l1] (jR 1 :: st) σ Q ↔ mw_WP d 67 12 [l0, l1] (jI (σ 1 9) :: st) σ Q := WP_getI (ci := 6) (k := 9) mq67 dd67_9 (by decide) (Or.inl rfl)
theorem dd67_12 : decode cX7_isSign 12 = .ok (.iload_n 1, 1) := by decide +kernel
theorem ww67_12 {d : Nat} {l0 : Option mw_V} {x : Int} {st : List mw_V} {σ : mw_S} {Q : Option mw_V → mw_S → Prop} : mw_WP d 67 12 [l0, some (jI x)] st σ Q ↔ mw_WP d 67 13 [l0, some (jI x)] (jI x :: st) σ Q := WP_iload_n mq67 dd67_12 rfl
theorem dd67_13 : decode cX7_isSign 13 = .ok (.if_icmp .ne 7, 3) := by decide +kernel
theorem ww67_13 {d : Nat} {l0 l1 : Option mw_V} {x y : Int} {st : List mw_V} {σ : mw_S} {Q : Option mw_V → mw_S → Prop} : mw_WP d 67 13 [l0, l1] (jI y :: jI x :: st) σ Q ↔ (if ¬ x = y then mw_WP d 67 20 [l0, l1] st σ Q else mw_WP d 67 16 [l0, l1] st σ Q) := WP_icmp_ne mq67 dd67_13 (by decide)
theorem dd67_16 : decode cX7_isSign 16 = .ok (.iconst 1, 1) := by decide +kernel
theorem ww67_16 {d : Nat} {l0 l1 : Option mw_V} {st : List mw_V} {σ : mw_S} {Q : Option mw_V → mw_S → Prop} : mw_WP d 67 16 [l0, l1] st σ Q ↔ mw_WP d 67 17 [l0, l1] (jI (1) :: st) σ Q := WP_iconst mq67 dd67_16 (by decide)
theorem dd67_17 : decode cX7_isSign 17 = .ok (.goto 4, 3) := by decide +kernel
theorem ww67_17 {d : Nat} {l0 l1 : Option mw_V} {st : List mw_V} {σ : mw_S} {Q : Option mw_V → mw_S → Prop} : mw_WP d 67 17 [l0, l1] st σ Q ↔ mw_WP d 67 21 [l0, l1] st σ Q := WP_goto mq67 dd67_17 (by decide)
theorem dd67_20 : decode cX7_isSign 20 = .ok (.iconst 0, 1) := by decide +kernel
theorem ww67_20 {d : Nat} {l0 l1 : Option mw_V} {st : List mw_V} {σ : mw_S} {Q : Option mw_V → mw_S → Prop} : mw_WP d 67 20 [l0, l1] st σ Q ↔ mw_WP d 67 21 [l0, l1] (jI (0) :: st) σ Q := WP_iconst mq67 dd67_20 (by decide)
theorem dd67_21 : decode cX7_isSign 21 = .ok (.ireturn, 1) := by decide +kernel
theorem ww67_21 {d : Nat} {l0 l1 : Option mw_V} {z : Int} {σ : mw_S} {Q : Option mw_V → mw_S → Prop} (h : z = 0 ∨ z = 1) : mw_WP d 67 21 [l0, l1] [jI z] σ Q ↔ Q (some (jI z)) σ := WP_ireturn (ty := .boolean) mq67 dd67_21 rfl (by rcases h with rfl | rfl <;> decide)
theorem ee68 {d : Nat} {a : Nat} {z0 : Int} {σ : mw_S} {Q : Option mw_V → mw_S → Prop} : mw_Call (d + 1) 68 [jR a, jI z0] σ Q ↔ mw_WP d 68 0 [some (jR a), some (jI z0)] [] σ Q := CL_u mq68 (Nat.le_of_ble_eq_true rfl) rfl
theorem dd68_0 : decode cX7_passSign 0 = .ok (.aload_n 0, 1) := by decide +kernel
theorem ww68_0 {d : Nat} {l1 : Option mw_V} {x : Nat} {st : List mw_V} {σ : mw_S} {Q : Option mw_V → mw_S → Prop} : mw_WP d 68 0 [some (jR x), l1] st σ Q ↔ mw_WP d 68 1 [some (jR x), l1] (jR x :: st) σ Q := WP_aload_n mq68 dd68_0 rfl
theorem dd68_1 : decode cX7_passSign 1 = .ok (.iload_n 1, 1) := by decide +kernel
theorem ww68_1 {d : Nat} {l0 : Option mw_V} {x : Int} {st : List mw_V} {σ : mw_S} {Q : Option mw_V → mw_S → Prop} : mw_WP d 68 1 [l0, some (jI x)] st σ Q ↔ mw_WP d 68 2 [l0, some (jI x)] (jI x :: st) σ Q := WP_iload_n mq68 dd68_1 rfl
theorem dd68_2 : decode cX7_passSign 2 = .ok (.invokevirtual 191, 3) := by decide +kernel
theorem ww68_2 {d : Nat} {l0 l1 : Option mw_V} {v0 : mw_V} {a : Nat} {st : List mw_V} {σ : mw_S} {Q : Option mw_V → mw_S → Prop} (hr : mw_rc a = 7) (h8 : (st.map mw_cat).sum ≤ 8) : mw_WP d 68 2 [l0, l1] (v0 :: jR a :: st) σ Q ↔ mw_Call d 67 [jR a, v0] σ (fun r1 s1 => mw_WP d 68 5 [l0, l1] (r1.toList ++ st) s1 Q) := WP_inv (as := [v0]) mq68 dd68_2 (by decide) mq67 rfl hr h8
theorem dd68_5 : decode cX7_passSign 5 = .ok (.ifCond .ne 8, 3) := by decide +kernel
theorem ww68_5 {d : Nat} {l0 l1 : Option mw_V} {x : Int} {st : List mw_V} {σ : mw_S} {Q : Option mw_V → mw_S → Prop} : mw_WP d 68 5 [l0, l1] (jI x :: st) σ Q ↔ (if ¬ x = 0 then mw_WP d 68 13 [l0, l1] st σ Q else mw_WP d 68 8 [l0, l1] st σ Q) := WP_if_ne mq68 dd68_5 (by decide)
theorem dd68_8 : decode cX7_passSign 8 = .ok (.aload_n 0, 1) := by decide +kernel
theorem ww68_8 {d : Nat} {l1 : Option mw_V} {x : Nat} {st : List mw_V} {σ : mw_S} {Q : Option mw_V → mw_S → Prop} : mw_WP d 68 8 [some (jR x), l1] st σ Q ↔ mw_WP d 68 9 [some (jR x), l1] (jR x :: st) σ Q := WP_aload_n mq68 dd68_8 rfl
theorem dd68_9 : decode cX7_passSign 9 = .ok (.invokevirtual 86, 3) := by decide +kernel
theorem ww68_9 {d : Nat} {l0 l1 : Option mw_V} {a : Nat} {st : List mw_V} {σ : mw_S} {Q : Option mw_V → mw_S → Prop} (hr : mw_rc a = 7) (h8 : (st.map mw_cat).sum ≤ 8) : mw_WP d 68 9 [l0, l1] (jR a :: st) σ Q ↔ mw_Call d 70 [jR a] σ (fun r1 s1 => mw_WP d 68 12 [l0, l1] (r1.toList ++ st) s1 Q) := WP_inv (as := []) mq68 dd68_9 (by decide) mq70 rfl hr h8
theorem dd68_12 : decode cX7_passSign 12 = .ok (.ireturn, 1) := by decide +kernel
theorem ww68_12 {d : Nat} {l0 l1 : Option mw_V} {z : Int} {σ : mw_S} {Q : Option mw_V → mw_S → Prop} (h : z = 0 ∨ z = 1) : mw_WP d 68 12 [l0, l1] [jI z] σ Q ↔ Q (some (jI z)) σ := WP_ireturn (ty := .boolean) mq68 dd68_12 rfl (by rcases h with rfl | rfl <;> decide)
theorem dd68_13 : decode cX7_passSign 13 = .ok (.aload_n 0, 1) := by decide +kernel
theorem ww68_13 {d : Nat} {l1 : Option mw_V} {x : Nat} {st : List mw_V} {σ : mw_S} {Q : Option mw_V → mw_S → Prop} : mw_WP d 68 13 [some (jR x), l1] st σ Q ↔ mw_WP d 68 14 [some (jR x), l1] (jR x :: st) σ Q := WP_aload_n mq68 dd68_13 rfl
theorem dd68_14 : decode cX7_passSign 14 = .ok (.invokevirtual 50, 3) := by decide +kernel
theorem ww68_14 {d : Nat} {l0 l1 : Option mw_V} {a : Nat} {st : List mw_V} {σ : mw_S} {Q : Option mw_V → mw_S → Prop} (hr : mw_rc a = 7) (h8 : (st.map mw_cat).sum ≤ 8) : mw_WP d 68 14 [l0, l1] (jR a :: st) σ Q ↔ mw_Call d 72 [jR a] σ (fun r1 s1 => mw_WP d 68 17 [l0, l1] (r1.toList ++ st) s1 Q) := WP_inv (as := []) mq68 dd68_14 (by decide) mq72 rfl hr h8
theorem dd68_17 : decode cX7_passSign 17 = .ok (.iconst 1, 1) := by decide +kernel
theorem ww68_17 {d : Nat} {l0 l1 : Option mw_V} {st : List mw_V} {σ : mw_S} {Q : Option mw_V → mw_S → Prop} : mw_WP d 68 17 [l0, l1] st σ Q ↔ mw_WP d 68 18 [l0, l1] (jI (1) :: st) σ Q := WP_iconst mq68 dd68_17 (by decide)
theorem dd68_18 : decode cX7_passSign 18 = .ok (.ireturn, 1) := by decide +kernel
theorem ww68_18 {d : Nat} {l0 l1 : Option mw_V} {z : Int} {σ : mw_S} {Q : Option mw_V → mw_S → Prop} (h : z = 0 ∨ z = 1) : mw_WP d 68 18 [l0, l1] [jI z] σ Q ↔ Q (some (jI z)) σ := WP_ireturn (ty := .boolean) mq68 dd68_18 rfl (by rcases h with rfl | rfl <;> decide)
theorem ee69 {d : Nat} {a : Nat} {z0 : Int} {z1 : Int} {σ : mw_S} {Q : Option mw_V → mw_S → Prop} : mw_Call (d + 1) 69 [jR a, jI z0, jI z1] σ Q ↔ mw_WP d 69 0 [some (jR a), some (jI z0), some (jI z1)] [] σ Q := CL_u mq69 (Nat.le_of_ble_eq_true rfl) rfl
theorem dd69_0 : decode cX7_isNumberIn 0 = .ok (.aload_n 0, 1) := by decide +kernel
theorem ww69_0 {d : Nat} {l1 l2 : Option mw_V} {x : Nat} {st : List mw_V} {σ : mw_S} {Q : Option mw_V → mw_S → Prop} : mw_WP d 69 0 [some (jR x), l1, l2] st σ Q ↔ mw_WP d 69 1 [some (jR x), l1, l2] (jR x :: st) σ Q := WP_aload_n mq69 dd69_0 rfl
theorem dd69_1 : decode cX7_isNumberIn 1 = .ok (.getfield 53, 3) := by decide +kernel
theorem ww69_1 {d : Nat} {l0 l1 l2 : Option mw_V} {st : List mw_V} {σ : mw_S} {Q : Option mw_V → mw_S → Prop} : mw_WP d 69 1 [l0, l1, l2] (jR 1 :: st) σ Q ↔ mw_WP d 69 4 [l0, l1, l2] (jI (σ 1 8) :: st) σ Q := WP_getI (ci := 6) (k := 8) mq69 dd69_1 (by decide) (Or.inl rfl)
theorem dd69_4 : decode cX7_isNumberIn 4 = .ok (.iconst 3, 1) := by decide +kernel
theorem ww69_4 {d : Nat} {l0 l1 l2 : Option mw_V} {st : List mw_V} {σ : mw_S} {Q : Option mw_V → mw_S → Prop} : mw_WP d 69 4 [l0, l1, l2] st σ Q ↔ mw_WP d 69 5 [l0, l1, l2] (jI (3) :: st) σ Q := WP_iconst mq69 dd69_4 (by decide)
theorem dd69_5 : decode cX7_isNumberIn 5 = .ok (.if_icmp .eq 8, 3) := by decide +kernel
theorem ww69_5 {d : Nat} {l0 l1 l2 : Option mw_V} {x y : Int} {st : List mw_V} {σ : mw_S} {Q : Option mw_V → mw_S → Prop} : mw_WP d 69 5 [l0, l1, l2] (jI y :: jI x :: st) σ Q ↔ (if x = y then mw_WP d 69 13 [l0, l1, l2] st σ Q else mw_WP d 69 8 [l0, l1, l2] st σ Q) := WP_icmp_eq mq69 dd69_5 (by decide)
theorem dd69_8 : decode cX7_isNumberIn 8 = .ok (.aload_n 0, 1) := by decide +kernel
theorem ww69_8 {d : Nat} {l1 l2 : Option mw_V} {x : Nat} {st : List mw_V} {σ : mw_S} {Q : Option mw_V → mw_S → Prop} : mw_WP d 69 8 [some (jR x), l1, l2] st σ Q ↔ mw_WP d 69 9 [some (jR x), l1, l2] (jR x :: st) σ Q := WP_aload_n mq69 dd69_8 rfl
theorem dd69_9 : decode cX7_isNumberIn 9 = .ok (.invokevirtual 86, 3) := by decide +kernel
theorem ww69_9 {d : Nat} {l0 l1 l2 : Option mw_V} {a : Nat} {st : List mw_V} {σ : mw_S} {Q : Option mw_V → mw_S → Prop} (hr : mw_rc a = 7) (h8 : (st.map mw_cat).sum ≤ 8) : mw_WP d 69 9 [l0, l1, l2] (jR a :: st) σ Q ↔ mw_Call d 70 [jR a] σ (fun r1 s1 => mw_WP d 69 12 [l0, l1, l2] (r1.toList ++ st) s1 Q) := WP_inv (as := []) mq69 dd69_9 (by decide) mq70 rfl hr h8
theorem dd69_12 : decode cX7_isNumberIn 12 = .ok (.ireturn, 1) := by decide +kernel
theorem ww69_12 {d : Nat} {l0 l1 l2 : Option mw_V} {z : Int} {σ : mw_S} {Q : Option mw_V → mw_S → Prop} (h : z = 0 ∨ z = 1) : mw_WP d 69 12 [l0, l1, l2] [jI z] σ Q ↔ Q (some (jI z)) σ := WP_ireturn (ty := .boolean) mq69 dd69_12 rfl (by rcases h with rfl | rfl <;> decide)
theorem dd69_13 : decode cX7_isNumberIn 13 = .ok (.aload_n 0, 1) := by decide +kernel
theorem ww69_13 {d : Nat} {l1 l2 : Option mw_V} {x : Nat} {st : List mw_V} {σ : mw_S} {Q : Option mw_V → mw_S → Prop} : mw_WP d 69 13 [some (jR x), l1, l2] st σ Q ↔ mw_WP d 69 14 [some (jR x), l1, l2] (jR x :: st) σ Q := WP_aload_n mq69 dd69_13 rfl
theorem dd69_14 : decode cX7_isNumberIn 14 = .ok (.getfield 110, 3) := by decide +kernel
theorem ww69_14 {d : Nat} {l0 l1 l2 : Option mw_V} {st : List mw_V} {σ : mw_S} {Q : Option mw_V → mw_S → Prop} : mw_WP d 69 14 [l0, l1, l2] (jR 1 :: st) σ Q ↔ mw_WP d 69 17 [l0, l1, l2] (jI (σ 1 9) :: st) σ Q := WP_getI (ci := 6) (k := 9) mq69 dd69_14 (by decide) (Or.inl rfl)
theorem dd69_17 : decode cX7_isNumberIn 17 = .ok (.iload_n 1, 1) := by decide +kernel
theorem ww69_17 {d : Nat} {l0 l2 : Option mw_V} {x : Int} {st : List mw_V} {σ : mw_S} {Q : Option mw_V → mw_S → Prop} : mw_WP d 69 17 [l0, some (jI x), l2] st σ Q ↔ mw_WP d 69 18 [l0, some (jI x), l2] (jI x :: st) σ Q := WP_iload_n mq69 dd69_17 rfl
theorem dd69_18 : decode cX7_isNumberIn 18 = .ok (.if_icmp .lt 11, 3) := by decide +kernel
theorem ww69_18 {d : Nat} {l0 l1 l2 : Option mw_V} {x y : Int} {st : List mw_V} {σ : mw_S} {Q : Option mw_V → mw_S → Prop} : mw_WP d 69 18 [l0, l1, l2] (jI y :: jI x :: st) σ Q ↔ (if x < y then mw_WP d 69 29 [l0, l1, l2] st σ Q else mw_WP d 69 21 [l0, l1, l2] st σ Q) := WP_icmp_lt mq69 dd69_18 (by decide)
theorem dd69_21 : decode cX7_isNumberIn 21 = .ok (.aload_n 0, 1) := by decide +kernel
theorem ww69_21 {d : Nat} {l1 l2 : Option mw_V} {x : Nat} {st : List mw_V} {σ : mw_S} {Q : Option mw_V → mw_S → Prop} : mw_WP d 69 21 [some (jR x), l1, l2] st σ Q ↔ mw_WP d 69 22 [some (jR x), l1, l2] (jR x :: st) σ Q := WP_aload_n mq69 dd69_21 rfl
theorem dd69_22 : decode cX7_isNumberIn 22 = .ok (.getfield 110, 3) := by decide +kernel
theorem ww69_22 {d : Nat} {l0 l1 l2 : Option mw_V} {st : List mw_V} {σ : mw_S} {Q : Option mw_V → mw_S → Prop} : mw_WP d 69 22 [l0, l1, l2] (jR 1 :: st) σ Q ↔ mw_WP d 69 25 [l0, l1, l2] (jI (σ 1 9) :: st) σ Q := WP_getI (ci := 6) (k := 9) mq69 dd69_22 (by decide) (Or.inl rfl)
theorem dd69_25 : decode cX7_isNumberIn 25 = .ok (.iload_n 2, 1) := by decide +kernel
theorem ww69_25 {d : Nat} {l0 l1 : Option mw_V} {x : Int} {st : List mw_V} {σ : mw_S} {Q : Option mw_V → mw_S → Prop} : mw_WP d 69 25 [l0, l1, some (jI x)] st σ Q ↔ mw_WP d 69 26 [l0, l1, some (jI x)] (jI x :: st) σ Q := WP_iload_n mq69 dd69_25 rfl
theorem dd69_26 : decode cX7_isNumberIn 26 = .ok (.if_icmp .le 11, 3) := by decide +kernel
theorem ww69_26 {d : Nat} {l0 l1 l2 : Option mw_V} {x y : Int} {st : List mw_V} {σ : mw_S} {Q : Option mw_V → mw_S → Prop} : mw_WP d 69 26 [l0, l1, l2] (jI y :: jI x :: st) σ Q ↔ (if x ≤ y then mw_WP d 69 37 [l0, l1, l2] st σ Q else mw_WP d 69 29 [l0, l1, l2] st σ Q) := WP_icmp_le mq69 dd69_26 (by decide)
theorem dd69_29 : decode cX7_isNumberIn 29 = .ok (.aload_n 0, 1) := by decide +kernel
theorem ww69_29 {d : Nat} {l1 l2 : Option mw_V} {x : Nat} {st : List mw_V} {σ : mw_S} {Q : Option mw_V → mw_S → Prop} : mw_WP d 69 29 [some (jR x), l1, l2] st σ Q ↔ mw_WP d 69 30 [some (jR x), l1, l2] (jR x :: st) σ Q := WP_aload_n mq69 dd69_29 rfl
theorem dd69_30 : decode cX7_isNumberIn 30 = .ok (.iconst 3, 1) := by decide +kernel
theorem ww69_30 {d : Nat} {l0 l1 l2 : Option mw_V} {st : List mw_V} {σ : mw_S} {Q : Option mw_V → mw_S → Prop} : mw_WP d 69 30 [l0, l1, l2] st σ Q ↔ mw_WP d 69 31 [l0, l1, l2] (jI (3) :: st) σ Q := WP_iconst mq69 dd69_30 (by decide)
theorem dd69_31 : decode cX7_isNumberIn 31 = .ok (.invokevirtual 102, 3) := by decide +kernel
theorem ww69_31 {d : Nat} {l0 l1 l2 : Option mw_V} {v0 : mw_V} {a : Nat} {st : List mw_V} {σ : mw_S} {Q : Option mw_V → mw_S → Prop} (hr : mw_rc a = 7) (h8 : (st.map mw_cat).sum ≤ 8) : mw_WP d 69 31 [l0, l1, l2] (v0 :: jR a :: st) σ Q ↔ mw_Call d 71 [jR a, v0] σ (fun r1 s1 => mw_WP d 69 34 [l0, l1, l2] (r1.toList ++ st) s1 Q) := WP_inv (as := [v0]) mq69 dd69_31 (by decide) mq71 rfl hr h8
theorem dd69_34 : decode cX7_isNumberIn 34 = .ok (.ifCond .eq 7, 3) := by decide +kernel
theorem ww69_34 {d : Nat} {l0 l1 l2 : Option mw_V} {x : Int} {st : List mw_V} {σ : mw_S} {Q : Option mw_V → mw_S → Prop} : mw_WP d 69 34 [l0, l1, l2] (jI x :: st) σ Q ↔ (if x = 0 then mw_WP d 69 41 [l0, l1, l2] st σ Q else mw_WP d 69 37 [l0, l1, l2] st σ Q) := WP_if_eq mq69 dd69_34 (by decide)
theorem dd69_37 : decode cX7_isNumberIn 37 = .ok (.iconst 1, 1) := by decide +kernel
theorem ww69_37 {d : Nat} {l0 l1 l2 : Option mw_V} {st : List mw_V} {σ : mw_S} {Q : Option mw_V → mw_S → Prop} : mw_WP d 69 37 [l0, l1, l2] st σ Q ↔ mw_WP d 69 38 [l0, l1, l2] (jI (1) :: st) σ Q := WP_iconst mq69 dd69_37 (by decide)
theorem dd69_38 : decode cX7_isNumberIn 38 = .ok (.goto 4, 3) := by decide +kernel
theorem ww69_38 {d : Nat} {l0 l1 l2 : Option mw_V} {st : List mw_V} {σ : mw_S} {Q : Option mw_V → mw_S → Prop} : mw_WP d 69 38 [l0, l1, l2] st σ Q ↔ mw_WP d 69 42 [l0, l1, l2] st σ Q := WP_goto mq69 dd69_38 (by decide)
theorem dd69_41 : decode cX7_isNumberIn 41 = .ok (.iconst 0, 1) := by decide +kernel
theorem ww69_41 {d : Nat} {l0 l1 l2 : Option mw_V} {st : List mw_V} {σ : mw_S} {Q : Option mw_V → mw_S → Prop} : mw_WP d 69 41 [l0, l1, l2] st σ Q ↔ mw_WP d 69 42 [l0, l1, l2] (jI (0) :: st) σ Q := WP_iconst mq69 dd69_41 (by decide)
theorem dd69_42 : decode cX7_isNumberIn 42 = .ok (.ireturn, 1) := by decide +kernel
theorem ww69_42 {d : Nat} {l0 l1 l2 : Option mw_V} {z : Int} {σ : mw_S} {Q : Option mw_V → mw_S → Prop} (h : z = 0 ∨ z = 1) : mw_WP d 69 42 [l0, l1, l2] [jI z] σ Q ↔ Q (some (jI z)) σ := WP_ireturn (ty := .boolean) mq69 dd69_42 rfl (by rcases h with rfl | rfl <;> decide)
theorem ee70 {d : Nat} {a : Nat} {σ : mw_S} {Q : Option mw_V → mw_S → Prop} : mw_Call (d + 1) 70 [jR a] σ Q ↔ mw_WP d 70 0 [some (jR a)] [] σ Q := CL_u mq70 (Nat.le_of_ble_eq_true rfl) rfl
theorem dd70_0 : decode cX7_refuse 0 = .ok (.aload_n 0, 1) := by decide +kernel
theorem ww70_0 {d : Nat} {x : Nat} {st : List mw_V} {σ : mw_S} {Q : Option mw_V → mw_S → Prop} : mw_WP d 70 0 [some (jR x)] st σ Q ↔ mw_WP d 70 1 [some (jR x)] (jR x :: st) σ Q := WP_aload_n mq70 dd70_0 rfl
theorem dd70_1 : decode cX7_refuse 1 = .ok (.aload_n 0, 1) := by decide +kernel
theorem ww70_1 {d : Nat} {x : Nat} {st : List mw_V} {σ : mw_S} {Q : Option mw_V → mw_S → Prop} : mw_WP d 70 1 [some (jR x)] st σ Q ↔ mw_WP d 70 2 [some (jR x)] (jR x :: st) σ Q := WP_aload_n mq70 dd70_1 rfl
theorem dd70_2 : decode cX7_refuse 2 = .ok (.getfield 53, 3) := by decide +kernel
theorem ww70_2 {d : Nat} {l0 : Option mw_V} {st : List mw_V} {σ : mw_S} {Q : Option mw_V → mw_S → Prop} : mw_WP d 70 2 [l0] (jR 1 :: st) σ Q ↔ mw_WP d 70 5 [l0] (jI (σ 1 8) :: st) σ Q := WP_getI (ci := 6) (k := 8) mq70 dd70_2 (by decide) (Or.inl rfl)
theorem dd70_5 : decode cX7_refuse 5 = .ok (.iconst 1, 1) := by decide +kernel
theorem ww70_5 {d : Nat} {l0 : Option mw_V} {st : List mw_V} {σ : mw_S} {Q : Option mw_V → mw_S → Prop} : mw_WP d 70 5 [l0] st σ Q ↔ mw_WP d 70 6 [l0] (jI (1) :: st) σ Q := WP_iconst mq70 dd70_5 (by decide)
theorem dd70_6 : decode cX7_refuse 6 = .ok (.if_icmp .ne 7, 3) := by decide +kernel
theorem ww70_6 {d : Nat} {l0 : Option mw_V} {x y : Int} {st : List mw_V} {σ : mw_S} {Q : Option mw_V → mw_S → Prop} : mw_WP d 70 6 [l0] (jI y :: jI x :: st) σ Q ↔ (if ¬ x = y then mw_WP d 70 13 [l0] st σ Q else mw_WP d 70 9 [l0] st σ Q) := WP_icmp_ne mq70 dd70_6 (by decide)
theorem dd70_9 : decode cX7_refuse 9 = .ok (.iconst 1, 1) := by decide +kernel
theorem ww70_9 {d : Nat} {l0 : Option mw_V} {st : List mw_V} {σ : mw_S} {Q : Option mw_V → mw_S → Prop} : mw_WP d 70 9 [l0] st σ Q ↔ mw_WP d 70 10 [l0] (jI (1) :: st) σ Q := WP_iconst mq70 dd70_9 (by decide)
theorem dd70_10 : decode cX7_refuse 10 = .ok (.goto 4, 3) := by decide +kernel
theorem ww70_10 {d : Nat} {l0 : Option mw_V} {st : List mw_V} {σ : mw_S} {Q : Option mw_V → mw_S → Prop} : mw_WP d 70 10 [l0] st σ Q ↔ mw_WP d 70 14 [l0] st σ Q := WP_goto mq70 dd70_10 (by decide)
theorem dd70_13 : decode cX7_refuse 13 = .ok (.iconst 2, 1) := by decide +kernel
theorem ww70_13 {d : Nat} {l0 : Option mw_V} {st : List mw_V} {σ : mw_S} {Q : Option mw_V → mw_S → Prop} : mw_WP d 70 13 [l0] st σ Q ↔ mw_WP d 70 14 [l0] (jI (2) :: st) σ Q := WP_iconst mq70 dd70_13 (by decide)
theorem dd70_14 : decode cX7_refuse 14 = .ok (.invokevirtual 102, 3) := by decide +kernel
theorem ww70_14 {d : Nat} {l0 : Option mw_V} {v0 : mw_V} {a : Nat} {st : List mw_V} {σ : mw_S} {Q : Option mw_V → mw_S → Prop} (hr : mw_rc a = 7) (h8 : (st.map mw_cat).sum ≤ 8) : mw_WP d 70 14 [l0] (v0 :: jR a :: st) σ Q ↔ mw_Call d 71 [jR a, v0] σ (fun r1 s1 => mw_WP d 70 17 [l0] (r1.toList ++ st) s1 Q) := WP_inv (as := [v0]) mq70 dd70_14 (by decide) mq71 rfl hr h8
theorem dd70_17 : decode cX7_refuse 17 = .ok (.ireturn, 1) := by decide +kernel
theorem ww70_17 {d : Nat} {l0 : Option mw_V} {z : Int} {σ : mw_S} {Q : Option mw_V → mw_S → Prop} (h : z = 0 ∨ z = 1) : mw_WP d 70 17 [l0] [jI z] σ Q ↔ Q (some (jI z)) σ := WP_ireturn (ty := .boolean) mq70 dd70_17 rfl (by rcases h with rfl | rfl <;> decide)
theorem ee71 {d : Nat} {a : Nat} {z0 : Int} {σ : mw_S} {Q : Option mw_V → mw_S → Prop} : mw_Call (d + 1) 71 [jR a, jI z0] σ Q ↔ mw_WP d 71 0 [some (jR a), some (jI z0)] [] σ Q := CL_u mq71 (Nat.le_of_ble_eq_true rfl) rfl
theorem dd71_0 : decode cX7_faultHere 0 = .ok (.aload_n 0, 1) := by decide +kernel
theorem ww71_0 {d : Nat} {l1 : Option mw_V} {x : Nat} {st : List mw_V} {σ : mw_S} {Q : Option mw_V → mw_S → Prop} : mw_WP d 71 0 [some (jR x), l1] st σ Q ↔ mw_WP d 71 1 [some (jR x), l1] (jR x :: st) σ Q := WP_aload_n mq71 dd71_0 rfl
theorem dd71_1 : decode cX7_faultHere 1 = .ok (.iload_n 1, 1) := by decide +kernel
theorem ww71_1 {d : Nat} {l0 : Option mw_V} {x : Int} {st : List mw_V} {σ : mw_S} {Q : Option mw_V → mw_S → Prop} : mw_WP d 71 1 [l0, some (jI x)] st σ Q ↔ mw_WP d 71 2 [l0, some (jI x)] (jI x :: st) σ Q := WP_iload_n mq71 dd71_1 rfl
theorem dd71_2 : decode cX7_faultHere 2 = .ok (.putfield 44, 3) := by decide +kernel
theorem ww71_2 {d : Nat} {l0 l1 : Option mw_V} {v : Int} {st : List mw_V} {σ : mw_S} {Q : Option mw_V → mw_S → Prop} : mw_WP d 71 2 [l0, l1] (jI v :: jR 1 :: st) σ Q ↔ mw_WP d 71 5 [l0, l1] st (upS σ 1 3 v) Q := WP_putI (ci := 6) (k := 3) mq71 dd71_2 (by decide) rfl
theorem dd71_5 : decode cX7_faultHere 5 = .ok (.aload_n 0, 1) := by decide +kernel
theorem ww71_5 {d : Nat} {l1 : Option mw_V} {x : Nat} {st : List mw_V} {σ : mw_S} {Q : Option mw_V → mw_S → Prop} : mw_WP d 71 5 [some (jR x), l1] st σ Q ↔ mw_WP d 71 6 [some (jR x), l1] (jR x :: st) σ Q := WP_aload_n mq71 dd71_5 rfl
theorem dd71_6 : decode cX7_faultHere 6 = .ok (.aload_n 0, 1) := by decide +kernel
theorem ww71_6 {d : Nat} {l1 : Option mw_V} {x : Nat} {st : List mw_V} {σ : mw_S} {Q : Option mw_V → mw_S → Prop} : mw_WP d 71 6 [some (jR x), l1] st σ Q ↔ mw_WP d 71 7 [some (jR x), l1] (jR x :: st) σ Q := WP_aload_n mq71 dd71_6 rfl
theorem dd71_7 : decode cX7_faultHere 7 = .ok (.getfield 252, 3) := by decide +kernel
theorem ww71_7 {d : Nat} {l0 l1 : Option mw_V} {st : List mw_V} {σ : mw_S} {Q : Option mw_V → mw_S → Prop} : mw_WP d 71 7 [l0, l1] (jR 1 :: st) σ Q ↔ mw_WP d 71 10 [l0, l1] (jI (σ 1 7) :: st) σ Q := WP_getI (ci := 6) (k := 7) mq71 dd71_7 (by decide) (Or.inl rfl)
theorem dd71_10 : decode cX7_faultHere 10 = .ok (.putfield 22, 3) := by decide +kernel
theorem ww71_10 {d : Nat} {l0 l1 : Option mw_V} {v : Int} {st : List mw_V} {σ : mw_S} {Q : Option mw_V → mw_S → Prop} : mw_WP d 71 10 [l0, l1] (jI v :: jR 1 :: st) σ Q ↔ mw_WP d 71 13 [l0, l1] st (upS σ 1 4 v) Q := WP_putI (ci := 6) (k := 4) mq71 dd71_10 (by decide) rfl
theorem dd71_13 : decode cX7_faultHere 13 = .ok (.iconst 0, 1) := by decide +kernel
theorem ww71_13 {d : Nat} {l0 l1 : Option mw_V} {st : List mw_V} {σ : mw_S} {Q : Option mw_V → mw_S → Prop} : mw_WP d 71 13 [l0, l1] st σ Q ↔ mw_WP d 71 14 [l0, l1] (jI (0) :: st) σ Q := WP_iconst mq71 dd71_13 (by decide)
theorem dd71_14 : decode cX7_faultHere 14 = .ok (.ireturn, 1) := by decide +kernel
theorem ww71_14 {d : Nat} {l0 l1 : Option mw_V} {z : Int} {σ : mw_S} {Q : Option mw_V → mw_S → Prop} (h : z = 0 ∨ z = 1) : mw_WP d 71 14 [l0, l1] [jI z] σ Q ↔ Q (some (jI z)) σ := WP_ireturn (ty := .boolean) mq71 dd71_14 rfl (by rcases h with rfl | rfl <;> decide)
theorem ee72 {d : Nat} {a : Nat} {σ : mw_S} {Q : Option mw_V → mw_S → Prop} : mw_Call (d + 1) 72 [jR a] σ Q ↔ mw_WP d 72 0 [some (jR a)] [] σ Q := CL_u mq72 (Nat.le_of_ble_eq_true rfl) rfl
theorem dd72_0 : decode cX7_nextToken 0 = .ok (.aload_n 0, 1) := by decide +kernel
theorem ww72_0 {d : Nat} {x : Nat} {st : List mw_V} {σ : mw_S} {Q : Option mw_V → mw_S → Prop} : mw_WP d 72 0 [some (jR x)] st σ Q ↔ mw_WP d 72 1 [some (jR x)] (jR x :: st) σ Q := WP_aload_n mq72 dd72_0 rfl
theorem dd72_1 : decode cX7_nextToken 1 = .ok (.getfield 41, 3) := by decide +kernel
theorem ww72_1 {d : Nat} {l0 : Option mw_V} {st : List mw_V} {σ : mw_S} {Q : Option mw_V → mw_S → Prop} : mw_WP d 72 1 [l0] (jR 1 :: st) σ Q ↔ mw_WP d 72 4 [l0] (jI (σ 1 6) :: st) σ Q := WP_getI (ci := 6) (k := 6) mq72 dd72_1 (by decide) (Or.inl rfl)
theorem dd72_4 : decode cX7_nextToken 4 = .ok (.aload_n 0, 1) := by decide +kernel
theorem ww72_4 {d : Nat} {x : Nat} {st : List mw_V} {σ : mw_S} {Q : Option mw_V → mw_S → Prop} : mw_WP d 72 4 [some (jR x)] st σ Q ↔ mw_WP d 72 5 [some (jR x)] (jR x :: st) σ Q := WP_aload_n mq72 dd72_4 rfl
theorem dd72_5 : decode cX7_nextToken 5 = .ok (.getfield 38, 3) := by decide +kernel
theorem ww72_5 {d : Nat} {l0 : Option mw_V} {st : List mw_V} {σ : mw_S} {Q : Option mw_V → mw_S → Prop} : mw_WP d 72 5 [l0] (jR 1 :: st) σ Q ↔ mw_WP d 72 8 [l0] (jI (σ 1 5) :: st) σ Q := WP_getI (ci := 6) (k := 5) mq72 dd72_5 (by decide) (Or.inl rfl)
theorem dd72_8 : decode cX7_nextToken 8 = .ok (.if_icmp .ge 44, 3) := by decide +kernel
theorem ww72_8 {d : Nat} {l0 : Option mw_V} {x y : Int} {st : List mw_V} {σ : mw_S} {Q : Option mw_V → mw_S → Prop} : mw_WP d 72 8 [l0] (jI y :: jI x :: st) σ Q ↔ (if y ≤ x then mw_WP d 72 52 [l0] st σ Q else mw_WP d 72 11 [l0] st σ Q) := WP_icmp_ge mq72 dd72_8 (by decide)
theorem dd72_11 : decode cX7_nextToken 11 = .ok (.aload_n 0, 1) := by decide +kernel
theorem ww72_11 {d : Nat} {x : Nat} {st : List mw_V} {σ : mw_S} {Q : Option mw_V → mw_S → Prop} : mw_WP d 72 11 [some (jR x)] st σ Q ↔ mw_WP d 72 12 [some (jR x)] (jR x :: st) σ Q := WP_aload_n mq72 dd72_11 rfl
theorem dd72_12 : decode cX7_nextToken 12 = .ok (.getfield 11, 3) := by decide +kernel
theorem ww72_12 {d : Nat} {l0 : Option mw_V} {st : List mw_V} {σ : mw_S} {Q : Option mw_V → mw_S → Prop} : mw_WP d 72 12 [l0] (jR 1 :: st) σ Q ↔ mw_WP d 72 15 [l0] (jR 2 :: st) σ Q := WP_getR (ci := 6) (k := 0) mq72 dd72_12 (by decide) rfl
theorem dd72_15 : decode cX7_nextToken 15 = .ok (.aload_n 0, 1) := by decide +kernel
theorem ww72_15 {d : Nat} {x : Nat} {st : List mw_V} {σ : mw_S} {Q : Option mw_V → mw_S → Prop} : mw_WP d 72 15 [some (jR x)] st σ Q ↔ mw_WP d 72 16 [some (jR x)] (jR x :: st) σ Q := WP_aload_n mq72 dd72_15 rfl
theorem dd72_16 : decode cX7_nextToken 16 = .ok (.getfield 41, 3) := by decide +kernel
theorem ww72_16 {d : Nat} {l0 : Option mw_V} {st : List mw_V} {σ : mw_S} {Q : Option mw_V → mw_S → Prop} : mw_WP d 72 16 [l0] (jR 1 :: st) σ Q ↔ mw_WP d 72 19 [l0] (jI (σ 1 6) :: st) σ Q := WP_getI (ci := 6) (k := 6) mq72 dd72_16 (by decide) (Or.inl rfl)
theorem dd72_19 : decode cX7_nextToken 19 = .ok (.iaload, 1) := by decide +kernel
theorem ww72_19 {d : Nat} {l0 : Option mw_V} {z : Int} {a : Nat} {st : List mw_V} {σ : mw_S} {Q : Option mw_V → mw_S → Prop} : mw_WP d 72 19 [l0] (jI z :: jR a :: st) σ Q ↔ ((0 ≤ z ∧ z < mw_lenI a) ∧ mw_WP d 72 20 [l0] (jI (mw_rdI σ a z.toNat) :: st) σ Q) := WP_iaload mq72 dd72_19
theorem dd72_20 : decode cX7_nextToken 20 = .ok (.bipush 10, 2) := by decide +kernel
theorem ww72_20 {d : Nat} {l0 : Option mw_V} {st : List mw_V} {σ : mw_S} {Q : Option mw_V → mw_S → Prop} : mw_WP d 72 20 [l0] st σ Q ↔ mw_WP d 72 22 [l0] (jI (10) :: st) σ Q := WP_bipush mq72 dd72_20 (by decide)
theorem dd72_22 : decode cX7_nextToken 22 = .ok (.if_icmp .eq 17, 3) := by decide +kernel
theorem ww72_22 {d : Nat} {l0 : Option mw_V} {x y : Int} {st : List mw_V} {σ : mw_S} {Q : Option mw_V → mw_S → Prop} : mw_WP d 72 22 [l0] (jI y :: jI x :: st) σ Q ↔ (if x = y then mw_WP d 72 39 [l0] st σ Q else mw_WP d 72 25 [l0] st σ Q) := WP_icmp_eq mq72 dd72_22 (by decide)
theorem dd72_25 : decode cX7_nextToken 25 = .ok (.aload_n 0, 1) := by decide +kernel
theorem ww72_25 {d : Nat} {x : Nat} {st : List mw_V} {σ : mw_S} {Q : Option mw_V → mw_S → Prop} : mw_WP d 72 25 [some (jR x)] st σ Q ↔ mw_WP d 72 26 [some (jR x)] (jR x :: st) σ Q := WP_aload_n mq72 dd72_25 rfl
theorem dd72_26 : decode cX7_nextToken 26 = .ok (.getfield 11, 3) := by decide +kernel
theorem ww72_26 {d : Nat} {l0 : Option mw_V} {st : List mw_V} {σ : mw_S} {Q : Option mw_V → mw_S → Prop} : mw_WP d 72 26 [l0] (jR 1 :: st) σ Q ↔ mw_WP d 72 29 [l0] (jR 2 :: st) σ Q := WP_getR (ci := 6) (k := 0) mq72 dd72_26 (by decide) rfl
theorem dd72_29 : decode cX7_nextToken 29 = .ok (.aload_n 0, 1) := by decide +kernel
theorem ww72_29 {d : Nat} {x : Nat} {st : List mw_V} {σ : mw_S} {Q : Option mw_V → mw_S → Prop} : mw_WP d 72 29 [some (jR x)] st σ Q ↔ mw_WP d 72 30 [some (jR x)] (jR x :: st) σ Q := WP_aload_n mq72 dd72_29 rfl
theorem dd72_30 : decode cX7_nextToken 30 = .ok (.getfield 41, 3) := by decide +kernel
theorem ww72_30 {d : Nat} {l0 : Option mw_V} {st : List mw_V} {σ : mw_S} {Q : Option mw_V → mw_S → Prop} : mw_WP d 72 30 [l0] (jR 1 :: st) σ Q ↔ mw_WP d 72 33 [l0] (jI (σ 1 6) :: st) σ Q := WP_getI (ci := 6) (k := 6) mq72 dd72_30 (by decide) (Or.inl rfl)
theorem dd72_33 : decode cX7_nextToken 33 = .ok (.iaload, 1) := by decide +kernel
theorem ww72_33 {d : Nat} {l0 : Option mw_V} {z : Int} {a : Nat} {st : List mw_V} {σ : mw_S} {Q : Option mw_V → mw_S → Prop} : mw_WP d 72 33 [l0] (jI z :: jR a :: st) σ Q ↔ ((0 ≤ z ∧ z < mw_lenI a) ∧ mw_WP d 72 34 [l0] (jI (mw_rdI σ a z.toNat) :: st) σ Q) := WP_iaload mq72 dd72_33
theorem dd72_34 : decode cX7_nextToken 34 = .ok (.bipush 32, 2) := by decide +kernel
theorem ww72_34 {d : Nat} {l0 : Option mw_V} {st : List mw_V} {σ : mw_S} {Q : Option mw_V → mw_S → Prop} : mw_WP d 72 34 [l0] st σ Q ↔ mw_WP d 72 36 [l0] (jI (32) :: st) σ Q := WP_bipush mq72 dd72_34 (by decide)
theorem dd72_36 : decode cX7_nextToken 36 = .ok (.if_icmp .ne 16, 3) := by decide +kernel
theorem ww72_36 {d : Nat} {l0 : Option mw_V} {x y : Int} {st : List mw_V} {σ : mw_S} {Q : Option mw_V → mw_S → Prop} : mw_WP d 72 36 [l0] (jI y :: jI x :: st) σ Q ↔ (if ¬ x = y then mw_WP d 72 52 [l0] st σ Q else mw_WP d 72 39 [l0] st σ Q) := WP_icmp_ne mq72 dd72_36 (by decide)
theorem dd72_39 : decode cX7_nextToken 39 = .ok (.aload_n 0, 1) := by decide +kernel
theorem ww72_39 {d : Nat} {x : Nat} {st : List mw_V} {σ : mw_S} {Q : Option mw_V → mw_S → Prop} : mw_WP d 72 39 [some (jR x)] st σ Q ↔ mw_WP d 72 40 [some (jR x)] (jR x :: st) σ Q := WP_aload_n mq72 dd72_39 rfl
theorem dd72_40 : decode cX7_nextToken 40 = .ok (.dup, 1) := by decide +kernel
theorem ww72_40 {d : Nat} {l0 : Option mw_V} {v : mw_V} {st : List mw_V} {σ : mw_S} {Q : Option mw_V → mw_S → Prop} (h : mw_cat v = 1) : mw_WP d 72 40 [l0] (v :: st) σ Q ↔ mw_WP d 72 41 [l0] (v :: v :: st) σ Q := WP_dup mq72 dd72_40 h
theorem dd72_41 : decode cX7_nextToken 41 = .ok (.getfield 41, 3) := by decide +kernel
theorem ww72_41 {d : Nat} {l0 : Option mw_V} {st : List mw_V} {σ : mw_S} {Q : Option mw_V → mw_S → Prop} : mw_WP d 72 41 [l0] (jR 1 :: st) σ Q ↔ mw_WP d 72 44 [l0] (jI (σ 1 6) :: st) σ Q := WP_getI (ci := 6) (k := 6) mq72 dd72_41 (by decide) (Or.inl rfl)
theorem dd72_44 : decode cX7_nextToken 44 = .ok (.iconst 1, 1) := by decide +kernel
theorem ww72_44 {d : Nat} {l0 : Option mw_V} {st : List mw_V} {σ : mw_S} {Q : Option mw_V → mw_S → Prop} : mw_WP d 72 44 [l0] st σ Q ↔ mw_WP d 72 45 [l0] (jI (1) :: st) σ Q := WP_iconst mq72 dd72_44 (by decide)
theorem dd72_45 : decode cX7_nextToken 45 = .ok (.iadd, 1) := by decide +kernel
theorem ww72_45 {d : Nat} {l0 : Option mw_V} {x y : Int} {st : List mw_V} {σ : mw_S} {Q : Option mw_V → mw_S → Prop} : mw_WP d 72 45 [l0] (jI y :: jI x :: st) σ Q ↔ mw_WP d 72 46 [l0] (jI (w32 (x + y)) :: st) σ Q := WP_iadd mq72 dd72_45
theorem dd72_46 : decode cX7_nextToken 46 = .ok (.putfield 41, 3) := by decide +kernel
theorem ww72_46 {d : Nat} {l0 : Option mw_V} {v : Int} {st : List mw_V} {σ : mw_S} {Q : Option mw_V → mw_S → Prop} : mw_WP d 72 46 [l0] (jI v :: jR 1 :: st) σ Q ↔ mw_WP d 72 49 [l0] st (upS σ 1 6 v) Q := WP_putI (ci := 6) (k := 6) mq72 dd72_46 (by decide) rfl
theorem dd72_49 : decode cX7_nextToken 49 = .ok (.goto (-49), 3) := by decide +kernel
theorem ww72_49 {d : Nat} {l0 : Option mw_V} {st : List mw_V} {σ : mw_S} {Q : Option mw_V → mw_S → Prop} : mw_WP d 72 49 [l0] st σ Q ↔ mw_WP d 72 0 [l0] st σ Q := WP_goto mq72 dd72_49 (by decide)
theorem dd72_52 : decode cX7_nextToken 52 = .ok (.aload_n 0, 1) := by decide +kernel
theorem ww72_52 {d : Nat} {x : Nat} {st : List mw_V} {σ : mw_S} {Q : Option mw_V → mw_S → Prop} : mw_WP d 72 52 [some (jR x)] st σ Q ↔ mw_WP d 72 53 [some (jR x)] (jR x :: st) σ Q := WP_aload_n mq72 dd72_52 rfl
theorem dd72_53 : decode cX7_nextToken 53 = .ok (.aload_n 0, 1) := by decide +kernel
theorem ww72_53 {d : Nat} {x : Nat} {st : List mw_V} {σ : mw_S} {Q : Option mw_V → mw_S → Prop} : mw_WP d 72 53 [some (jR x)] st σ Q ↔ mw_WP d 72 54 [some (jR x)] (jR x :: st) σ Q := WP_aload_n mq72 dd72_53 rfl
theorem dd72_54 : decode cX7_nextToken 54 = .ok (.getfield 41, 3) := by decide +kernel
theorem ww72_54 {d : Nat} {l0 : Option mw_V} {st : List mw_V} {σ : mw_S} {Q : Option mw_V → mw_S → Prop} : mw_WP d 72 54 [l0] (jR 1 :: st) σ Q ↔ mw_WP d 72 57 [l0] (jI (σ 1 6) :: st) σ Q := WP_getI (ci := 6) (k := 6) mq72 dd72_54 (by decide) (Or.inl rfl)
theorem dd72_57 : decode cX7_nextToken 57 = .ok (.putfield 252, 3) := by decide +kernel
theorem ww72_57 {d : Nat} {l0 : Option mw_V} {v : Int} {st : List mw_V} {σ : mw_S} {Q : Option mw_V → mw_S → Prop} : mw_WP d 72 57 [l0] (jI v :: jR 1 :: st) σ Q ↔ mw_WP d 72 60 [l0] st (upS σ 1 7 v) Q := WP_putI (ci := 6) (k := 7) mq72 dd72_57 (by decide) rfl
theorem dd72_60 : decode cX7_nextToken 60 = .ok (.aload_n 0, 1) := by decide +kernel
theorem ww72_60 {d : Nat} {x : Nat} {st : List mw_V} {σ : mw_S} {Q : Option mw_V → mw_S → Prop} : mw_WP d 72 60 [some (jR x)] st σ Q ↔ mw_WP d 72 61 [some (jR x)] (jR x :: st) σ Q := WP_aload_n mq72 dd72_60 rfl
theorem dd72_61 : decode cX7_nextToken 61 = .ok (.getfield 41, 3) := by decide +kernel
theorem ww72_61 {d : Nat} {l0 : Option mw_V} {st : List mw_V} {σ : mw_S} {Q : Option mw_V → mw_S → Prop} : mw_WP d 72 61 [l0] (jR 1 :: st) σ Q ↔ mw_WP d 72 64 [l0] (jI (σ 1 6) :: st) σ Q := WP_getI (ci := 6) (k := 6) mq72 dd72_61 (by decide) (Or.inl rfl)
theorem dd72_64 : decode cX7_nextToken 64 = .ok (.aload_n 0, 1) := by decide +kernel
theorem ww72_64 {d : Nat} {x : Nat} {st : List mw_V} {σ : mw_S} {Q : Option mw_V → mw_S → Prop} : mw_WP d 72 64 [some (jR x)] st σ Q ↔ mw_WP d 72 65 [some (jR x)] (jR x :: st) σ Q := WP_aload_n mq72 dd72_64 rfl
theorem dd72_65 : decode cX7_nextToken 65 = .ok (.getfield 38, 3) := by decide +kernel
theorem ww72_65 {d : Nat} {l0 : Option mw_V} {st : List mw_V} {σ : mw_S} {Q : Option mw_V → mw_S → Prop} : mw_WP d 72 65 [l0] (jR 1 :: st) σ Q ↔ mw_WP d 72 68 [l0] (jI (σ 1 5) :: st) σ Q := WP_getI (ci := 6) (k := 5) mq72 dd72_65 (by decide) (Or.inl rfl)
theorem dd72_68 : decode cX7_nextToken 68 = .ok (.if_icmp .lt 11, 3) := by decide +kernel
theorem ww72_68 {d : Nat} {l0 : Option mw_V} {x y : Int} {st : List mw_V} {σ : mw_S} {Q : Option mw_V → mw_S → Prop} : mw_WP d 72 68 [l0] (jI y :: jI x :: st) σ Q ↔ (if x < y then mw_WP d 72 79 [l0] st σ Q else mw_WP d 72 71 [l0] st σ Q) := WP_icmp_lt mq72 dd72_68 (by decide)
theorem dd72_71 : decode cX7_nextToken 71 = .ok (.aload_n 0, 1) := by decide +kernel
theorem ww72_71 {d : Nat} {x : Nat} {st : List mw_V} {σ : mw_S} {Q : Option mw_V → mw_S → Prop} : mw_WP d 72 71 [some (jR x)] st σ Q ↔ mw_WP d 72 72 [some (jR x)] (jR x :: st) σ Q := WP_aload_n mq72 dd72_71 rfl
theorem dd72_72 : decode cX7_nextToken 72 = .ok (.iconst 0, 1) := by decide +kernel
theorem ww72_72 {d : Nat} {l0 : Option mw_V} {st : List mw_V} {σ : mw_S} {Q : Option mw_V → mw_S → Prop} : mw_WP d 72 72 [l0] st σ Q ↔ mw_WP d 72 73 [l0] (jI (0) :: st) σ Q := WP_iconst mq72 dd72_72 (by decide)
theorem dd72_73 : decode cX7_nextToken 73 = .ok (.putfield 53, 3) := by decide +kernel
theorem ww72_73 {d : Nat} {l0 : Option mw_V} {v : Int} {st : List mw_V} {σ : mw_S} {Q : Option mw_V → mw_S → Prop} : mw_WP d 72 73 [l0] (jI v :: jR 1 :: st) σ Q ↔ mw_WP d 72 76 [l0] st (upS σ 1 8 v) Q := WP_putI (ci := 6) (k := 8) mq72 dd72_73 (by decide) rfl
theorem dd72_76 : decode cX7_nextToken 76 = .ok (.goto 89, 3) := by decide +kernel
theorem ww72_76 {d : Nat} {l0 : Option mw_V} {st : List mw_V} {σ : mw_S} {Q : Option mw_V → mw_S → Prop} : mw_WP d 72 76 [l0] st σ Q ↔ mw_WP d 72 165 [l0] st σ Q := WP_goto mq72 dd72_76 (by decide)
theorem dd72_79 : decode cX7_nextToken 79 = .ok (.aload_n 0, 1) := by decide +kernel
theorem ww72_79 {d : Nat} {x : Nat} {st : List mw_V} {σ : mw_S} {Q : Option mw_V → mw_S → Prop} : mw_WP d 72 79 [some (jR x)] st σ Q ↔ mw_WP d 72 80 [some (jR x)] (jR x :: st) σ Q := WP_aload_n mq72 dd72_79 rfl
theorem dd72_80 : decode cX7_nextToken 80 = .ok (.getfield 11, 3) := by decide +kernel
theorem ww72_80 {d : Nat} {l0 : Option mw_V} {st : List mw_V} {σ : mw_S} {Q : Option mw_V → mw_S → Prop} : mw_WP d 72 80 [l0] (jR 1 :: st) σ Q ↔ mw_WP d 72 83 [l0] (jR 2 :: st) σ Q := WP_getR (ci := 6) (k := 0) mq72 dd72_80 (by decide) rfl
theorem dd72_83 : decode cX7_nextToken 83 = .ok (.aload_n 0, 1) := by decide +kernel
theorem ww72_83 {d : Nat} {x : Nat} {st : List mw_V} {σ : mw_S} {Q : Option mw_V → mw_S → Prop} : mw_WP d 72 83 [some (jR x)] st σ Q ↔ mw_WP d 72 84 [some (jR x)] (jR x :: st) σ Q := WP_aload_n mq72 dd72_83 rfl
theorem dd72_84 : decode cX7_nextToken 84 = .ok (.getfield 41, 3) := by decide +kernel
theorem ww72_84 {d : Nat} {l0 : Option mw_V} {st : List mw_V} {σ : mw_S} {Q : Option mw_V → mw_S → Prop} : mw_WP d 72 84 [l0] (jR 1 :: st) σ Q ↔ mw_WP d 72 87 [l0] (jI (σ 1 6) :: st) σ Q := WP_getI (ci := 6) (k := 6) mq72 dd72_84 (by decide) (Or.inl rfl)
theorem dd72_87 : decode cX7_nextToken 87 = .ok (.iaload, 1) := by decide +kernel
theorem ww72_87 {d : Nat} {l0 : Option mw_V} {z : Int} {a : Nat} {st : List mw_V} {σ : mw_S} {Q : Option mw_V → mw_S → Prop} : mw_WP d 72 87 [l0] (jI z :: jR a :: st) σ Q ↔ ((0 ≤ z ∧ z < mw_lenI a) ∧ mw_WP d 72 88 [l0] (jI (mw_rdI σ a z.toNat) :: st) σ Q) := WP_iaload mq72 dd72_87
theorem dd72_88 : decode cX7_nextToken 88 = .ok (.invokestatic 263, 3) := by decide +kernel
theorem ww72_88 {d : Nat} {l0 : Option mw_V} {v0 : mw_V} {st : List mw_V} {σ : mw_S} {Q : Option mw_V → mw_S → Prop} (h8 : (st.map mw_cat).sum ≤ 8) : mw_WP d 72 88 [l0] (v0 :: st) σ Q ↔ mw_Call d 75 [v0] σ (fun r1 s1 => mw_WP d 72 91 [l0] (r1.toList ++ st) s1 Q) := WP_invs (as := [v0]) mq72 dd72_88 (by decide) mq75 rfl rfl h8
theorem dd72_91 : decode cX7_nextToken 91 = .ok (.ifCond .eq 10, 3) := by decide +kernel
theorem ww72_91 {d : Nat} {l0 : Option mw_V} {x : Int} {st : List mw_V} {σ : mw_S} {Q : Option mw_V → mw_S → Prop} : mw_WP d 72 91 [l0] (jI x :: st) σ Q ↔ (if x = 0 then mw_WP d 72 101 [l0] st σ Q else mw_WP d 72 94 [l0] st σ Q) := WP_if_eq mq72 dd72_91 (by decide)
theorem dd72_94 : decode cX7_nextToken 94 = .ok (.aload_n 0, 1) := by decide +kernel
theorem ww72_94 {d : Nat} {x : Nat} {st : List mw_V} {σ : mw_S} {Q : Option mw_V → mw_S → Prop} : mw_WP d 72 94 [some (jR x)] st σ Q ↔ mw_WP d 72 95 [some (jR x)] (jR x :: st) σ Q := WP_aload_n mq72 dd72_94 rfl
theorem dd72_95 : decode cX7_nextToken 95 = .ok (.invokevirtual 266, 3) := by decide +kernel
theorem ww72_95 {d : Nat} {l0 : Option mw_V} {a : Nat} {st : List mw_V} {σ : mw_S} {Q : Option mw_V → mw_S → Prop} (hr : mw_rc a = 7) (h8 : (st.map mw_cat).sum ≤ 8) : mw_WP d 72 95 [l0] (jR a :: st) σ Q ↔ mw_Call d 73 [jR a] σ (fun r1 s1 => mw_WP d 72 98 [l0] (r1.toList ++ st) s1 Q) := WP_inv (as := []) mq72 dd72_95 (by decide) mq73 rfl hr h8
theorem dd72_98 : decode cX7_nextToken 98 = .ok (.goto 67, 3) := by decide +kernel
theorem ww72_98 {d : Nat} {l0 : Option mw_V} {st : List mw_V} {σ : mw_S} {Q : Option mw_V → mw_S → Prop} : mw_WP d 72 98 [l0] st σ Q ↔ mw_WP d 72 165 [l0] st σ Q := WP_goto mq72 dd72_98 (by decide)
theorem dd72_101 : decode cX7_nextToken 101 = .ok (.aload_n 0, 1) := by decide +kernel
theorem ww72_101 {d : Nat} {x : Nat} {st : List mw_V} {σ : mw_S} {Q : Option mw_V → mw_S → Prop} : mw_WP d 72 101 [some (jR x)] st σ Q ↔ mw_WP d 72 102 [some (jR x)] (jR x :: st) σ Q := WP_aload_n mq72 dd72_101 rfl
theorem dd72_102 : decode cX7_nextToken 102 = .ok (.getfield 11, 3) := by decide +kernel
theorem ww72_102 {d : Nat} {l0 : Option mw_V} {st : List mw_V} {σ : mw_S} {Q : Option mw_V → mw_S → Prop} : mw_WP d 72 102 [l0] (jR 1 :: st) σ Q ↔ mw_WP d 72 105 [l0] (jR 2 :: st) σ Q := WP_getR (ci := 6) (k := 0) mq72 dd72_102 (by decide) rfl
theorem dd72_105 : decode cX7_nextToken 105 = .ok (.aload_n 0, 1) := by decide +kernel
theorem ww72_105 {d : Nat} {x : Nat} {st : List mw_V} {σ : mw_S} {Q : Option mw_V → mw_S → Prop} : mw_WP d 72 105 [some (jR x)] st σ Q ↔ mw_WP d 72 106 [some (jR x)] (jR x :: st) σ Q := WP_aload_n mq72 dd72_105 rfl
theorem dd72_106 : decode cX7_nextToken 106 = .ok (.getfield 41, 3) := by decide +kernel
theorem ww72_106 {d : Nat} {l0 : Option mw_V} {st : List mw_V} {σ : mw_S} {Q : Option mw_V → mw_S → Prop} : mw_WP d 72 106 [l0] (jR 1 :: st) σ Q ↔ mw_WP d 72 109 [l0] (jI (σ 1 6) :: st) σ Q := WP_getI (ci := 6) (k := 6) mq72 dd72_106 (by decide) (Or.inl rfl)
theorem dd72_109 : decode cX7_nextToken 109 = .ok (.iaload, 1) := by decide +kernel
theorem ww72_109 {d : Nat} {l0 : Option mw_V} {z : Int} {a : Nat} {st : List mw_V} {σ : mw_S} {Q : Option mw_V → mw_S → Prop} : mw_WP d 72 109 [l0] (jI z :: jR a :: st) σ Q ↔ ((0 ≤ z ∧ z < mw_lenI a) ∧ mw_WP d 72 110 [l0] (jI (mw_rdI σ a z.toNat) :: st) σ Q) := WP_iaload mq72 dd72_109
theorem dd72_110 : decode cX7_nextToken 110 = .ok (.invokestatic 269, 3) := by decide +kernel
theorem ww72_110 {d : Nat} {l0 : Option mw_V} {v0 : mw_V} {st : List mw_V} {σ : mw_S} {Q : Option mw_V → mw_S → Prop} (h8 : (st.map mw_cat).sum ≤ 8) : mw_WP d 72 110 [l0] (v0 :: st) σ Q ↔ mw_Call d 76 [v0] σ (fun r1 s1 => mw_WP d 72 113 [l0] (r1.toList ++ st) s1 Q) := WP_invs (as := [v0]) mq72 dd72_110 (by decide) mq76 rfl rfl h8
theorem dd72_113 : decode cX7_nextToken 113 = .ok (.ifCond .eq 10, 3) := by decide +kernel
theorem ww72_113 {d : Nat} {l0 : Option mw_V} {x : Int} {st : List mw_V} {σ : mw_S} {Q : Option mw_V → mw_S → Prop} : mw_WP d 72 113 [l0] (jI x :: st) σ Q ↔ (if x = 0 then mw_WP d 72 123 [l0] st σ Q else mw_WP d 72 116 [l0] st σ Q) := WP_if_eq mq72 dd72_113 (by decide)
theorem dd72_116 : decode cX7_nextToken 116 = .ok (.aload_n 0, 1) := by decide +kernel
theorem ww72_116 {d : Nat} {x : Nat} {st : List mw_V} {σ : mw_S} {Q : Option mw_V → mw_S → Prop} : mw_WP d 72 116 [some (jR x)] st σ Q ↔ mw_WP d 72 117 [some (jR x)] (jR x :: st) σ Q := WP_aload_n mq72 dd72_116 rfl
theorem dd72_117 : decode cX7_nextToken 117 = .ok (.invokevirtual 272, 3) := by decide +kernel
theorem ww72_117 {d : Nat} {l0 : Option mw_V} {a : Nat} {st : List mw_V} {σ : mw_S} {Q : Option mw_V → mw_S → Prop} (hr : mw_rc a = 7) (h8 : (st.map mw_cat).sum ≤ 8) : mw_WP d 72 117 [l0] (jR a :: st) σ Q ↔ mw_Call d 74 [jR a] σ (fun r1 s1 => mw_WP d 72 120 [l0] (r1.toList ++ st) s1 Q) := WP_inv (as := []) mq72 dd72_117 (by decide) mq74 rfl hr h8
theorem dd72_120 : decode cX7_nextToken 120 = .ok (.goto 45, 3) := by decide +kernel
theorem ww72_120 {d : Nat} {l0 : Option mw_V} {st : List mw_V} {σ : mw_S} {Q : Option mw_V → mw_S → Prop} : mw_WP d 72 120 [l0] st σ Q ↔ mw_WP d 72 165 [l0] st σ Q := WP_goto mq72 dd72_120 (by decide)
theorem dd72_123 : decode cX7_nextToken 123 = .ok (.aload_n 0, 1) := by decide +kernel
theorem ww72_123 {d : Nat} {x : Nat} {st : List mw_V} {σ : mw_S} {Q : Option mw_V → mw_S → Prop} : mw_WP d 72 123 [some (jR x)] st σ Q ↔ mw_WP d 72 124 [some (jR x)] (jR x :: st) σ Q := WP_aload_n mq72 dd72_123 rfl
theorem dd72_124 : decode cX7_nextToken 124 = .ok (.aload_n 0, 1) := by decide +kernel
theorem ww72_124 {d : Nat} {x : Nat} {st : List mw_V} {σ : mw_S} {Q : Option mw_V → mw_S → Prop} : mw_WP d 72 124 [some (jR x)] st σ Q ↔ mw_WP d 72 125 [some (jR x)] (jR x :: st) σ Q := WP_aload_n mq72 dd72_124 rfl
theorem dd72_125 : decode cX7_nextToken 125 = .ok (.getfield 11, 3) := by decide +kernel
theorem ww72_125 {d : Nat} {l0 : Option mw_V} {st : List mw_V} {σ : mw_S} {Q : Option mw_V → mw_S → Prop} : mw_WP d 72 125 [l0] (jR 1 :: st) σ Q ↔ mw_WP d 72 128 [l0] (jR 2 :: st) σ Q := WP_getR (ci := 6) (k := 0) mq72 dd72_125 (by decide) rfl
theorem dd72_128 : decode cX7_nextToken 128 = .ok (.aload_n 0, 1) := by decide +kernel
theorem ww72_128 {d : Nat} {x : Nat} {st : List mw_V} {σ : mw_S} {Q : Option mw_V → mw_S → Prop} : mw_WP d 72 128 [some (jR x)] st σ Q ↔ mw_WP d 72 129 [some (jR x)] (jR x :: st) σ Q := WP_aload_n mq72 dd72_128 rfl
theorem dd72_129 : decode cX7_nextToken 129 = .ok (.getfield 41, 3) := by decide +kernel
theorem ww72_129 {d : Nat} {l0 : Option mw_V} {st : List mw_V} {σ : mw_S} {Q : Option mw_V → mw_S → Prop} : mw_WP d 72 129 [l0] (jR 1 :: st) σ Q ↔ mw_WP d 72 132 [l0] (jI (σ 1 6) :: st) σ Q := WP_getI (ci := 6) (k := 6) mq72 dd72_129 (by decide) (Or.inl rfl)
theorem dd72_132 : decode cX7_nextToken 132 = .ok (.iaload, 1) := by decide +kernel
theorem ww72_132 {d : Nat} {l0 : Option mw_V} {z : Int} {a : Nat} {st : List mw_V} {σ : mw_S} {Q : Option mw_V → mw_S → Prop} : mw_WP d 72 132 [l0] (jI z :: jR a :: st) σ Q ↔ ((0 ≤ z ∧ z < mw_lenI a) ∧ mw_WP d 72 133 [l0] (jI (mw_rdI σ a z.toNat) :: st) σ Q) := WP_iaload mq72 dd72_132
theorem dd72_133 : decode cX7_nextToken 133 = .ok (.putfield 110, 3) := by decide +kernel
theorem ww72_133 {d : Nat} {l0 : Option mw_V} {v : Int} {st : List mw_V} {σ : mw_S} {Q : Option mw_V → mw_S → Prop} : mw_WP d 72 133 [l0] (jI v :: jR 1 :: st) σ Q ↔ mw_WP d 72 136 [l0] st (upS σ 1 9 v) Q := WP_putI (ci := 6) (k := 9) mq72 dd72_133 (by decide) rfl
theorem dd72_136 : decode cX7_nextToken 136 = .ok (.aload_n 0, 1) := by decide +kernel
theorem ww72_136 {d : Nat} {x : Nat} {st : List mw_V} {σ : mw_S} {Q : Option mw_V → mw_S → Prop} : mw_WP d 72 136 [some (jR x)] st σ Q ↔ mw_WP d 72 137 [some (jR x)] (jR x :: st) σ Q := WP_aload_n mq72 dd72_136 rfl
theorem dd72_137 : decode cX7_nextToken 137 = .ok (.aload_n 0, 1) := by decide +kernel
theorem ww72_137 {d : Nat} {x : Nat} {st : List mw_V} {σ : mw_S} {Q : Option mw_V → mw_S → Prop} : mw_WP d 72 137 [some (jR x)] st σ Q ↔ mw_WP d 72 138 [some (jR x)] (jR x :: st) σ Q := WP_aload_n mq72 dd72_137 rfl
theorem dd72_138 : decode cX7_nextToken 138 = .ok (.getfield 110, 3) := by decide +kernel
theorem ww72_138 {d : Nat} {l0 : Option mw_V} {st : List mw_V} {σ : mw_S} {Q : Option mw_V → mw_S → Prop} : mw_WP d 72 138 [l0] (jR 1 :: st) σ Q ↔ mw_WP d 72 141 [l0] (jI (σ 1 9) :: st) σ Q := WP_getI (ci := 6) (k := 9) mq72 dd72_138 (by decide) (Or.inl rfl)
theorem dd72_141 : decode cX7_nextToken 141 = .ok (.invokestatic 275, 3) := by decide +kernel
theorem ww72_141 {d : Nat} {l0 : Option mw_V} {v0 : mw_V} {st : List mw_V} {σ : mw_S} {Q : Option mw_V → mw_S → Prop} (h8 : (st.map mw_cat).sum ≤ 8) : mw_WP d 72 141 [l0] (v0 :: st) σ Q ↔ mw_Call d 77 [v0] σ (fun r1 s1 => mw_WP d 72 144 [l0] (r1.toList ++ st) s1 Q) := WP_invs (as := [v0]) mq72 dd72_141 (by decide) mq77 rfl rfl h8
theorem dd72_144 : decode cX7_nextToken 144 = .ok (.ifCond .eq 7, 3) := by decide +kernel
theorem ww72_144 {d : Nat} {l0 : Option mw_V} {x : Int} {st : List mw_V} {σ : mw_S} {Q : Option mw_V → mw_S → Prop} : mw_WP d 72 144 [l0] (jI x :: st) σ Q ↔ (if x = 0 then mw_WP d 72 151 [l0] st σ Q else mw_WP d 72 147 [l0] st σ Q) := WP_if_eq mq72 dd72_144 (by decide)
theorem dd72_147 : decode cX7_nextToken 147 = .ok (.iconst 4, 1) := by decide +kernel
theorem ww72_147 {d : Nat} {l0 : Option mw_V} {st : List mw_V} {σ : mw_S} {Q : Option mw_V → mw_S → Prop} : mw_WP d 72 147 [l0] st σ Q ↔ mw_WP d 72 148 [l0] (jI (4) :: st) σ Q := WP_iconst mq72 dd72_147 (by decide)
theorem dd72_148 : decode cX7_nextToken 148 = .ok (.goto 4, 3) := by decide +kernel
theorem ww72_148 {d : Nat} {l0 : Option mw_V} {st : List mw_V} {σ : mw_S} {Q : Option mw_V → mw_S → Prop} : mw_WP d 72 148 [l0] st σ Q ↔ mw_WP d 72 152 [l0] st σ Q := WP_goto mq72 dd72_148 (by decide)
theorem dd72_151 : decode cX7_nextToken 151 = .ok (.iconst 1, 1) := by decide +kernel
theorem ww72_151 {d : Nat} {l0 : Option mw_V} {st : List mw_V} {σ : mw_S} {Q : Option mw_V → mw_S → Prop} : mw_WP d 72 151 [l0] st σ Q ↔ mw_WP d 72 152 [l0] (jI (1) :: st) σ Q := WP_iconst mq72 dd72_151 (by decide)
theorem dd72_152 : decode cX7_nextToken 152 = .ok (.putfield 53, 3) := by decide +kernel
theorem ww72_152 {d : Nat} {l0 : Option mw_V} {v : Int} {st : List mw_V} {σ : mw_S} {Q : Option mw_V → mw_S → Prop} : mw_WP d 72 152 [l0] (jI v :: jR 1 :: st) σ Q ↔ mw_WP d 72 155 [l0] st (upS σ 1 8 v) Q := WP_putI (ci := 6) (k := 8) mq72 dd72_152 (by decide) rfl
theorem dd72_155 : decode cX7_nextToken 155 = .ok (.aload_n 0, 1) := by decide +kernel
theorem ww72_155 {d : Nat} {x : Nat} {st : List mw_V} {σ : mw_S} {Q : Option mw_V → mw_S → Prop} : mw_WP d 72 155 [some (jR x)] st σ Q ↔ mw_WP d 72 156 [some (jR x)] (jR x :: st) σ Q := WP_aload_n mq72 dd72_155 rfl
theorem dd72_156 : decode cX7_nextToken 156 = .ok (.dup, 1) := by decide +kernel
theorem ww72_156 {d : Nat} {l0 : Option mw_V} {v : mw_V} {st : List mw_V} {σ : mw_S} {Q : Option mw_V → mw_S → Prop} (h : mw_cat v = 1) : mw_WP d 72 156 [l0] (v :: st) σ Q ↔ mw_WP d 72 157 [l0] (v :: v :: st) σ Q := WP_dup mq72 dd72_156 h
theorem dd72_157 : decode cX7_nextToken 157 = .ok (.getfield 41, 3) := by decide +kernel
theorem ww72_157 {d : Nat} {l0 : Option mw_V} {st : List mw_V} {σ : mw_S} {Q : Option mw_V → mw_S → Prop} : mw_WP d 72 157 [l0] (jR 1 :: st) σ Q ↔ mw_WP d 72 160 [l0] (jI (σ 1 6) :: st) σ Q := WP_getI (ci := 6) (k := 6) mq72 dd72_157 (by decide) (Or.inl rfl)
theorem dd72_160 : decode cX7_nextToken 160 = .ok (.iconst 1, 1) := by decide +kernel
theorem ww72_160 {d : Nat} {l0 : Option mw_V} {st : List mw_V} {σ : mw_S} {Q : Option mw_V → mw_S → Prop} : mw_WP d 72 160 [l0] st σ Q ↔ mw_WP d 72 161 [l0] (jI (1) :: st) σ Q := WP_iconst mq72 dd72_160 (by decide)
theorem dd72_161 : decode cX7_nextToken 161 = .ok (.iadd, 1) := by decide +kernel
theorem ww72_161 {d : Nat} {l0 : Option mw_V} {x y : Int} {st : List mw_V} {σ : mw_S} {Q : Option mw_V → mw_S → Prop} : mw_WP d 72 161 [l0] (jI y :: jI x :: st) σ Q ↔ mw_WP d 72 162 [l0] (jI (w32 (x + y)) :: st) σ Q := WP_iadd mq72 dd72_161
theorem dd72_162 : decode cX7_nextToken 162 = .ok (.putfield 41, 3) := by decide +kernel
theorem ww72_162 {d : Nat} {l0 : Option mw_V} {v : Int} {st : List mw_V} {σ : mw_S} {Q : Option mw_V → mw_S → Prop} : mw_WP d 72 162 [l0] (jI v :: jR 1 :: st) σ Q ↔ mw_WP d 72 165 [l0] st (upS σ 1 6 v) Q := WP_putI (ci := 6) (k := 6) mq72 dd72_162 (by decide) rfl
theorem dd72_165 : decode cX7_nextToken 165 = .ok (.return_, 1) := by decide +kernel
theorem ww72_165 {d : Nat} {l0 : Option mw_V} {σ : mw_S} {Q : Option mw_V → mw_S → Prop} : mw_WP d 72 165 [l0] [] σ Q ↔ Q none σ := WP_return mq72 dd72_165 rfl
theorem ee73 {d : Nat} {a : Nat} {σ : mw_S} {Q : Option mw_V → mw_S → Prop} : mw_Call (d + 1) 73 [jR a] σ Q ↔ mw_WP d 73 0 [some (jR a)] [] σ Q := CL_u mq73 (Nat.le_of_ble_eq_true rfl) rfl
theorem dd73_0 : decode cX7_readWord 0 = .ok (.aload_n 0, 1) := by decide +kernel
theorem ww73_0 {d : Nat} {x : Nat} {st : List mw_V} {σ : mw_S} {Q : Option mw_V → mw_S → Prop} : mw_WP d 73 0 [some (jR x)] st σ Q ↔ mw_WP d 73 1 [some (jR x)] (jR x :: st) σ Q := WP_aload_n mq73 dd73_0 rfl
theorem dd73_1 : decode cX7_readWord 1 = .ok (.iconst 2, 1) := by decide +kernel
theorem ww73_1 {d : Nat} {l0 : Option mw_V} {st : List mw_V} {σ : mw_S} {Q : Option mw_V → mw_S → Prop} : mw_WP d 73 1 [l0] st σ Q ↔ mw_WP d 73 2 [l0] (jI (2) :: st) σ Q := WP_iconst mq73 dd73_1 (by decide)
theorem dd73_2 : decode cX7_readWord 2 = .ok (.putfield 53, 3) := by decide +kernel
theorem ww73_2 {d : Nat} {l0 : Option mw_V} {v : Int} {st : List mw_V} {σ : mw_S} {Q : Option mw_V → mw_S → Prop} : mw_WP d 73 2 [l0] (jI v :: jR 1 :: st) σ Q ↔ mw_WP d 73 5 [l0] st (upS σ 1 8 v) Q := WP_putI (ci := 6) (k := 8) mq73 dd73_2 (by decide) rfl
theorem dd73_5 : decode cX7_readWord 5 = .ok (.aload_n 0, 1) := by decide +kernel
theorem ww73_5 {d : Nat} {x : Nat} {st : List mw_V} {σ : mw_S} {Q : Option mw_V → mw_S → Prop} : mw_WP d 73 5 [some (jR x)] st σ Q ↔ mw_WP d 73 6 [some (jR x)] (jR x :: st) σ Q := WP_aload_n mq73 dd73_5 rfl
theorem dd73_6 : decode cX7_readWord 6 = .ok (.getfield 41, 3) := by decide +kernel
theorem ww73_6 {d : Nat} {l0 : Option mw_V} {st : List mw_V} {σ : mw_S} {Q : Option mw_V → mw_S → Prop} : mw_WP d 73 6 [l0] (jR 1 :: st) σ Q ↔ mw_WP d 73 9 [l0] (jI (σ 1 6) :: st) σ Q := WP_getI (ci := 6) (k := 6) mq73 dd73_6 (by decide) (Or.inl rfl)
theorem dd73_9 : decode cX7_readWord 9 = .ok (.aload_n 0, 1) := by decide +kernel
theorem ww73_9 {d : Nat} {x : Nat} {st : List mw_V} {σ : mw_S} {Q : Option mw_V → mw_S → Prop} : mw_WP d 73 9 [some (jR x)] st σ Q ↔ mw_WP d 73 10 [some (jR x)] (jR x :: st) σ Q := WP_aload_n mq73 dd73_9 rfl
theorem dd73_10 : decode cX7_readWord 10 = .ok (.getfield 38, 3) := by decide +kernel
theorem ww73_10 {d : Nat} {l0 : Option mw_V} {st : List mw_V} {σ : mw_S} {Q : Option mw_V → mw_S → Prop} : mw_WP d 73 10 [l0] (jR 1 :: st) σ Q ↔ mw_WP d 73 13 [l0] (jI (σ 1 5) :: st) σ Q := WP_getI (ci := 6) (k := 5) mq73 dd73_10 (by decide) (Or.inl rfl)
theorem dd73_13 : decode cX7_readWord 13 = .ok (.if_icmp .ge 31, 3) := by decide +kernel
theorem ww73_13 {d : Nat} {l0 : Option mw_V} {x y : Int} {st : List mw_V} {σ : mw_S} {Q : Option mw_V → mw_S → Prop} : mw_WP d 73 13 [l0] (jI y :: jI x :: st) σ Q ↔ (if y ≤ x then mw_WP d 73 44 [l0] st σ Q else mw_WP d 73 16 [l0] st σ Q) := WP_icmp_ge mq73 dd73_13 (by decide)
theorem dd73_16 : decode cX7_readWord 16 = .ok (.aload_n 0, 1) := by decide +kernel
theorem ww73_16 {d : Nat} {x : Nat} {st : List mw_V} {σ : mw_S} {Q : Option mw_V → mw_S → Prop} : mw_WP d 73 16 [some (jR x)] st σ Q ↔ mw_WP d 73 17 [some (jR x)] (jR x :: st) σ Q := WP_aload_n mq73 dd73_16 rfl
theorem dd73_17 : decode cX7_readWord 17 = .ok (.getfield 11, 3) := by decide +kernel
theorem ww73_17 {d : Nat} {l0 : Option mw_V} {st : List mw_V} {σ : mw_S} {Q : Option mw_V → mw_S → Prop} : mw_WP d 73 17 [l0] (jR 1 :: st) σ Q ↔ mw_WP d 73 20 [l0] (jR 2 :: st) σ Q := WP_getR (ci := 6) (k := 0) mq73 dd73_17 (by decide) rfl
theorem dd73_20 : decode cX7_readWord 20 = .ok (.aload_n 0, 1) := by decide +kernel
theorem ww73_20 {d : Nat} {x : Nat} {st : List mw_V} {σ : mw_S} {Q : Option mw_V → mw_S → Prop} : mw_WP d 73 20 [some (jR x)] st σ Q ↔ mw_WP d 73 21 [some (jR x)] (jR x :: st) σ Q := WP_aload_n mq73 dd73_20 rfl
theorem dd73_21 : decode cX7_readWord 21 = .ok (.getfield 41, 3) := by decide +kernel
theorem ww73_21 {d : Nat} {l0 : Option mw_V} {st : List mw_V} {σ : mw_S} {Q : Option mw_V → mw_S → Prop} : mw_WP d 73 21 [l0] (jR 1 :: st) σ Q ↔ mw_WP d 73 24 [l0] (jI (σ 1 6) :: st) σ Q := WP_getI (ci := 6) (k := 6) mq73 dd73_21 (by decide) (Or.inl rfl)
theorem dd73_24 : decode cX7_readWord 24 = .ok (.iaload, 1) := by decide +kernel
theorem ww73_24 {d : Nat} {l0 : Option mw_V} {z : Int} {a : Nat} {st : List mw_V} {σ : mw_S} {Q : Option mw_V → mw_S → Prop} : mw_WP d 73 24 [l0] (jI z :: jR a :: st) σ Q ↔ ((0 ≤ z ∧ z < mw_lenI a) ∧ mw_WP d 73 25 [l0] (jI (mw_rdI σ a z.toNat) :: st) σ Q) := WP_iaload mq73 dd73_24
theorem dd73_25 : decode cX7_readWord 25 = .ok (.invokestatic 263, 3) := by decide +kernel
theorem ww73_25 {d : Nat} {l0 : Option mw_V} {v0 : mw_V} {st : List mw_V} {σ : mw_S} {Q : Option mw_V → mw_S → Prop} (h8 : (st.map mw_cat).sum ≤ 8) : mw_WP d 73 25 [l0] (v0 :: st) σ Q ↔ mw_Call d 75 [v0] σ (fun r1 s1 => mw_WP d 73 28 [l0] (r1.toList ++ st) s1 Q) := WP_invs (as := [v0]) mq73 dd73_25 (by decide) mq75 rfl rfl h8
theorem dd73_28 : decode cX7_readWord 28 = .ok (.ifCond .eq 16, 3) := by decide +kernel
theorem ww73_28 {d : Nat} {l0 : Option mw_V} {x : Int} {st : List mw_V} {σ : mw_S} {Q : Option mw_V → mw_S → Prop} : mw_WP d 73 28 [l0] (jI x :: st) σ Q ↔ (if x = 0 then mw_WP d 73 44 [l0] st σ Q else mw_WP d 73 31 [l0] st σ Q) := WP_if_eq mq73 dd73_28 (by decide)
theorem dd73_31 : decode cX7_readWord 31 = .ok (.aload_n 0, 1) := by decide +kernel
theorem ww73_31 {d : Nat} {x : Nat} {st : List mw_V} {σ : mw_S} {Q : Option mw_V → mw_S → Prop} : mw_WP d 73 31 [some (jR x)] st σ Q ↔ mw_WP d 73 32 [some (jR x)] (jR x :: st) σ Q := WP_aload_n mq73 dd73_31 rfl
theorem dd73_32 : decode cX7_readWord 32 = .ok (.dup, 1) := by decide +kernel
theorem ww73_32 {d : Nat} {l0 : Option mw_V} {v : mw_V} {st : List mw_V} {σ : mw_S} {Q : Option mw_V → mw_S → Prop} (h : mw_cat v = 1) : mw_WP d 73 32 [l0] (v :: st) σ Q ↔ mw_WP d 73 33 [l0] (v :: v :: st) σ Q := WP_dup mq73 dd73_32 h
theorem dd73_33 : decode cX7_readWord 33 = .ok (.getfield 41, 3) := by decide +kernel
theorem ww73_33 {d : Nat} {l0 : Option mw_V} {st : List mw_V} {σ : mw_S} {Q : Option mw_V → mw_S → Prop} : mw_WP d 73 33 [l0] (jR 1 :: st) σ Q ↔ mw_WP d 73 36 [l0] (jI (σ 1 6) :: st) σ Q := WP_getI (ci := 6) (k := 6) mq73 dd73_33 (by decide) (Or.inl rfl)
theorem dd73_36 : decode cX7_readWord 36 = .ok (.iconst 1, 1) := by decide +kernel
theorem ww73_36 {d : Nat} {l0 : Option mw_V} {st : List mw_V} {σ : mw_S} {Q : Option mw_V → mw_S → Prop} : mw_WP d 73 36 [l0] st σ Q ↔ mw_WP d 73 37 [l0] (jI (1) :: st) σ Q := WP_iconst mq73 dd73_36 (by decide)
theorem dd73_37 : decode cX7_readWord 37 = .ok (.iadd, 1) := by decide +kernel
theorem ww73_37 {d : Nat} {l0 : Option mw_V} {x y : Int} {st : List mw_V} {σ : mw_S} {Q : Option mw_V → mw_S → Prop} : mw_WP d 73 37 [l0] (jI y :: jI x :: st) σ Q ↔ mw_WP d 73 38 [l0] (jI (w32 (x + y)) :: st) σ Q := WP_iadd mq73 dd73_37
theorem dd73_38 : decode cX7_readWord 38 = .ok (.putfield 41, 3) := by decide +kernel
theorem ww73_38 {d : Nat} {l0 : Option mw_V} {v : Int} {st : List mw_V} {σ : mw_S} {Q : Option mw_V → mw_S → Prop} : mw_WP d 73 38 [l0] (jI v :: jR 1 :: st) σ Q ↔ mw_WP d 73 41 [l0] st (upS σ 1 6 v) Q := WP_putI (ci := 6) (k := 6) mq73 dd73_38 (by decide) rfl
theorem dd73_41 : decode cX7_readWord 41 = .ok (.goto (-36), 3) := by decide +kernel
theorem ww73_41 {d : Nat} {l0 : Option mw_V} {st : List mw_V} {σ : mw_S} {Q : Option mw_V → mw_S → Prop} : mw_WP d 73 41 [l0] st σ Q ↔ mw_WP d 73 5 [l0] st σ Q := WP_goto mq73 dd73_41 (by decide)
theorem dd73_44 : decode cX7_readWord 44 = .ok (.return_, 1) := by decide +kernel
theorem ww73_44 {d : Nat} {l0 : Option mw_V} {σ : mw_S} {Q : Option mw_V → mw_S → Prop} : mw_WP d 73 44 [l0] [] σ Q ↔ Q none σ := WP_return mq73 dd73_44 rfl
theorem ee74 {d : Nat} {a : Nat} {σ : mw_S} {Q : Option mw_V → mw_S → Prop} : mw_Call (d + 1) 74 [jR a] σ Q ↔ mw_WP d 74 0 [some (jR a)] [] σ Q := CL_u mq74 (Nat.le_of_ble_eq_true rfl) rfl
theorem dd74_0 : decode cX7_readDigits 0 = .ok (.aload_n 0, 1) := by decide +kernel
theorem ww74_0 {d : Nat} {x : Nat} {st : List mw_V} {σ : mw_S} {Q : Option mw_V → mw_S → Prop} : mw_WP d 74 0 [some (jR x)] st σ Q ↔ mw_WP d 74 1 [some (jR x)] (jR x :: st) σ Q := WP_aload_n mq74 dd74_0 rfl
theorem dd74_1 : decode cX7_readDigits 1 = .ok (.iconst 0, 1) := by decide +kernel
theorem ww74_1 {d : Nat} {l0 : Option mw_V} {st : List mw_V} {σ : mw_S} {Q : Option mw_V → mw_S → Prop} : mw_WP d 74 1 [l0] st σ Q ↔ mw_WP d 74 2 [l0] (jI (0) :: st) σ Q := WP_iconst mq74 dd74_1 (by decide)
theorem dd74_2 : decode cX7_readDigits 2 = .ok (.putfield 110, 3) := by decide +kernel
theorem ww74_2 {d : Nat} {l0 : Option mw_V} {v : Int} {st : List mw_V} {σ : mw_S} {Q : Option mw_V → mw_S → Prop} : mw_WP d 74 2 [l0] (jI v :: jR 1 :: st) σ Q ↔ mw_WP d 74 5 [l0] st (upS σ 1 9 v) Q := WP_putI (ci := 6) (k := 9) mq74 dd74_2 (by decide) rfl
theorem dd74_5 : decode cX7_readDigits 5 = .ok (.aload_n 0, 1) := by decide +kernel
theorem ww74_5 {d : Nat} {x : Nat} {st : List mw_V} {σ : mw_S} {Q : Option mw_V → mw_S → Prop} : mw_WP d 74 5 [some (jR x)] st σ Q ↔ mw_WP d 74 6 [some (jR x)] (jR x :: st) σ Q := WP_aload_n mq74 dd74_5 rfl
theorem dd74_6 : decode cX7_readDigits 6 = .ok (.getfield 41, 3) := by decide +kernel
theorem ww74_6 {d : Nat} {l0 : Option mw_V} {st : List mw_V} {σ : mw_S} {Q : Option mw_V → mw_S → Prop} : mw_WP d 74 6 [l0] (jR 1 :: st) σ Q ↔ mw_WP d 74 9 [l0] (jI (σ 1 6) :: st) σ Q := WP_getI (ci := 6) (k := 6) mq74 dd74_6 (by decide) (Or.inl rfl)
theorem dd74_9 : decode cX7_readDigits 9 = .ok (.aload_n 0, 1) := by decide +kernel
theorem ww74_9 {d : Nat} {x : Nat} {st : List mw_V} {σ : mw_S} {Q : Option mw_V → mw_S → Prop} : mw_WP d 74 9 [some (jR x)] st σ Q ↔ mw_WP d 74 10 [some (jR x)] (jR x :: st) σ Q := WP_aload_n mq74 dd74_9 rfl
theorem dd74_10 : decode cX7_readDigits 10 = .ok (.getfield 38, 3) := by decide +kernel
theorem ww74_10 {d : Nat} {l0 : Option mw_V} {st : List mw_V} {σ : mw_S} {Q : Option mw_V → mw_S → Prop} : mw_WP d 74 10 [l0] (jR 1 :: st) σ Q ↔ mw_WP d 74 13 [l0] (jI (σ 1 5) :: st) σ Q := WP_getI (ci := 6) (k := 5) mq74 dd74_10 (by decide) (Or.inl rfl)
theorem dd74_13 : decode cX7_readDigits 13 = .ok (.if_icmp .ge 68, 3) := by decide +kernel
theorem ww74_13 {d : Nat} {l0 : Option mw_V} {x y : Int} {st : List mw_V} {σ : mw_S} {Q : Option mw_V → mw_S → Prop} : mw_WP d 74 13 [l0] (jI y :: jI x :: st) σ Q ↔ (if y ≤ x then mw_WP d 74 81 [l0] st σ Q else mw_WP d 74 16 [l0] st σ Q) := WP_icmp_ge mq74 dd74_13 (by decide)
theorem dd74_16 : decode cX7_readDigits 16 = .ok (.aload_n 0, 1) := by decide +kernel
theorem ww74_16 {d : Nat} {x : Nat} {st : List mw_V} {σ : mw_S} {Q : Option mw_V → mw_S → Prop} : mw_WP d 74 16 [some (jR x)] st σ Q ↔ mw_WP d 74 17 [some (jR x)] (jR x :: st) σ Q := WP_aload_n mq74 dd74_16 rfl
theorem dd74_17 : decode cX7_readDigits 17 = .ok (.getfield 11, 3) := by decide +kernel
theorem ww74_17 {d : Nat} {l0 : Option mw_V} {st : List mw_V} {σ : mw_S} {Q : Option mw_V → mw_S → Prop} : mw_WP d 74 17 [l0] (jR 1 :: st) σ Q ↔ mw_WP d 74 20 [l0] (jR 2 :: st) σ Q := WP_getR (ci := 6) (k := 0) mq74 dd74_17 (by decide) rfl
theorem dd74_20 : decode cX7_readDigits 20 = .ok (.aload_n 0, 1) := by decide +kernel
theorem ww74_20 {d : Nat} {x : Nat} {st : List mw_V} {σ : mw_S} {Q : Option mw_V → mw_S → Prop} : mw_WP d 74 20 [some (jR x)] st σ Q ↔ mw_WP d 74 21 [some (jR x)] (jR x :: st) σ Q := WP_aload_n mq74 dd74_20 rfl
theorem dd74_21 : decode cX7_readDigits 21 = .ok (.getfield 41, 3) := by decide +kernel
theorem ww74_21 {d : Nat} {l0 : Option mw_V} {st : List mw_V} {σ : mw_S} {Q : Option mw_V → mw_S → Prop} : mw_WP d 74 21 [l0] (jR 1 :: st) σ Q ↔ mw_WP d 74 24 [l0] (jI (σ 1 6) :: st) σ Q := WP_getI (ci := 6) (k := 6) mq74 dd74_21 (by decide) (Or.inl rfl)
theorem dd74_24 : decode cX7_readDigits 24 = .ok (.iaload, 1) := by decide +kernel
theorem ww74_24 {d : Nat} {l0 : Option mw_V} {z : Int} {a : Nat} {st : List mw_V} {σ : mw_S} {Q : Option mw_V → mw_S → Prop} : mw_WP d 74 24 [l0] (jI z :: jR a :: st) σ Q ↔ ((0 ≤ z ∧ z < mw_lenI a) ∧ mw_WP d 74 25 [l0] (jI (mw_rdI σ a z.toNat) :: st) σ Q) := WP_iaload mq74 dd74_24
theorem dd74_25 : decode cX7_readDigits 25 = .ok (.invokestatic 269, 3) := by decide +kernel
theorem ww74_25 {d : Nat} {l0 : Option mw_V} {v0 : mw_V} {st : List mw_V} {σ : mw_S} {Q : Option mw_V → mw_S → Prop} (h8 : (st.map mw_cat).sum ≤ 8) : mw_WP d 74 25 [l0] (v0 :: st) σ Q ↔ mw_Call d 76 [v0] σ (fun r1 s1 => mw_WP d 74 28 [l0] (r1.toList ++ st) s1 Q) := WP_invs (as := [v0]) mq74 dd74_25 (by decide) mq76 rfl rfl h8
theorem dd74_28 : decode cX7_readDigits 28 = .ok (.ifCond .eq 53, 3) := by decide +kernel
theorem ww74_28 {d : Nat} {l0 : Option mw_V} {x : Int} {st : List mw_V} {σ : mw_S} {Q : Option mw_V → mw_S → Prop} : mw_WP d 74 28 [l0] (jI x :: st) σ Q ↔ (if x = 0 then mw_WP d 74 81 [l0] st σ Q else mw_WP d 74 31 [l0] st σ Q) := WP_if_eq mq74 dd74_28 (by decide)
theorem dd74_31 : decode cX7_readDigits 31 = .ok (.aload_n 0, 1) := by decide +kernel
theorem ww74_31 {d : Nat} {x : Nat} {st : List mw_V} {σ : mw_S} {Q : Option mw_V → mw_S → Prop} : mw_WP d 74 31 [some (jR x)] st σ Q ↔ mw_WP d 74 32 [some (jR x)] (jR x :: st) σ Q := WP_aload_n mq74 dd74_31 rfl
theorem dd74_32 : decode cX7_readDigits 32 = .ok (.getfield 41, 3) := by decide +kernel
theorem ww74_32 {d : Nat} {l0 : Option mw_V} {st : List mw_V} {σ : mw_S} {Q : Option mw_V → mw_S → Prop} : mw_WP d 74 32 [l0] (jR 1 :: st) σ Q ↔ mw_WP d 74 35 [l0] (jI (σ 1 6) :: st) σ Q := WP_getI (ci := 6) (k := 6) mq74 dd74_32 (by decide) (Or.inl rfl)
theorem dd74_35 : decode cX7_readDigits 35 = .ok (.aload_n 0, 1) := by decide +kernel
theorem ww74_35 {d : Nat} {x : Nat} {st : List mw_V} {σ : mw_S} {Q : Option mw_V → mw_S → Prop} : mw_WP d 74 35 [some (jR x)] st σ Q ↔ mw_WP d 74 36 [some (jR x)] (jR x :: st) σ Q := WP_aload_n mq74 dd74_35 rfl
theorem dd74_36 : decode cX7_readDigits 36 = .ok (.getfield 252, 3) := by decide +kernel
theorem ww74_36 {d : Nat} {l0 : Option mw_V} {st : List mw_V} {σ : mw_S} {Q : Option mw_V → mw_S → Prop} : mw_WP d 74 36 [l0] (jR 1 :: st) σ Q ↔ mw_WP d 74 39 [l0] (jI (σ 1 7) :: st) σ Q := WP_getI (ci := 6) (k := 7) mq74 dd74_36 (by decide) (Or.inl rfl)
theorem dd74_39 : decode cX7_readDigits 39 = .ok (.isub, 1) := by decide +kernel
theorem ww74_39 {d : Nat} {l0 : Option mw_V} {x y : Int} {st : List mw_V} {σ : mw_S} {Q : Option mw_V → mw_S → Prop} : mw_WP d 74 39 [l0] (jI y :: jI x :: st) σ Q ↔ mw_WP d 74 40 [l0] (jI (w32 (x - y)) :: st) σ Q := WP_isub mq74 dd74_39
theorem dd74_40 : decode cX7_readDigits 40 = .ok (.iconst 3, 1) := by decide +kernel
theorem ww74_40 {d : Nat} {l0 : Option mw_V} {st : List mw_V} {σ : mw_S} {Q : Option mw_V → mw_S → Prop} : mw_WP d 74 40 [l0] st σ Q ↔ mw_WP d 74 41 [l0] (jI (3) :: st) σ Q := WP_iconst mq74 dd74_40 (by decide)
theorem dd74_41 : decode cX7_readDigits 41 = .ok (.if_icmp .ge 27, 3) := by decide +kernel
theorem ww74_41 {d : Nat} {l0 : Option mw_V} {x y : Int} {st : List mw_V} {σ : mw_S} {Q : Option mw_V → mw_S → Prop} : mw_WP d 74 41 [l0] (jI y :: jI x :: st) σ Q ↔ (if y ≤ x then mw_WP d 74 68 [l0] st σ Q else mw_WP d 74 44 [l0] st σ Q) := WP_icmp_ge mq74 dd74_41 (by decide)
theorem dd74_44 : decode cX7_readDigits 44 = .ok (.aload_n 0, 1) := by decide +kernel
theorem ww74_44 {d : Nat} {x : Nat} {st : List mw_V} {σ : mw_S} {Q : Option mw_V → mw_S → Prop} : mw_WP d 74 44 [some (jR x)] st σ Q ↔ mw_WP d 74 45 [some (jR x)] (jR x :: st) σ Q := WP_aload_n mq74 dd74_44 rfl
theorem dd74_45 : decode cX7_readDigits 45 = .ok (.aload_n 0, 1) := by decide +kernel
theorem ww74_45 {d : Nat} {x : Nat} {st : List mw_V} {σ : mw_S} {Q : Option mw_V → mw_S → Prop} : mw_WP d 74 45 [some (jR x)] st σ Q ↔ mw_WP d 74 46 [some (jR x)] (jR x :: st) σ Q := WP_aload_n mq74 dd74_45 rfl
theorem dd74_46 : decode cX7_readDigits 46 = .ok (.getfield 110, 3) := by decide +kernel
theorem ww74_46 {d : Nat} {l0 : Option mw_V} {st : List mw_V} {σ : mw_S} {Q : Option mw_V → mw_S → Prop} : mw_WP d 74 46 [l0] (jR 1 :: st) σ Q ↔ mw_WP d 74 49 [l0] (jI (σ 1 9) :: st) σ Q := WP_getI (ci := 6) (k := 9) mq74 dd74_46 (by decide) (Or.inl rfl)
theorem dd74_49 : decode cX7_readDigits 49 = .ok (.bipush 10, 2) := by decide +kernel
theorem ww74_49 {d : Nat} {l0 : Option mw_V} {st : List mw_V} {σ : mw_S} {Q : Option mw_V → mw_S → Prop} : mw_WP d 74 49 [l0] st σ Q ↔ mw_WP d 74 51 [l0] (jI (10) :: st) σ Q := WP_bipush mq74 dd74_49 (by decide)
theorem dd74_51 : decode cX7_readDigits 51 = .ok (.imul, 1) := by decide +kernel
theorem ww74_51 {d : Nat} {l0 : Option mw_V} {x y : Int} {st : List mw_V} {σ : mw_S} {Q : Option mw_V → mw_S → Prop} : mw_WP d 74 51 [l0] (jI y :: jI x :: st) σ Q ↔ mw_WP d 74 52 [l0] (jI (w32 (x * y)) :: st) σ Q := WP_imul mq74 dd74_51
theorem dd74_52 : decode cX7_readDigits 52 = .ok (.aload_n 0, 1) := by decide +kernel
theorem ww74_52 {d : Nat} {x : Nat} {st : List mw_V} {σ : mw_S} {Q : Option mw_V → mw_S → Prop} : mw_WP d 74 52 [some (jR x)] st σ Q ↔ mw_WP d 74 53 [some (jR x)] (jR x :: st) σ Q := WP_aload_n mq74 dd74_52 rfl
theorem dd74_53 : decode cX7_readDigits 53 = .ok (.getfield 11, 3) := by decide +kernel
theorem ww74_53 {d : Nat} {l0 : Option mw_V} {st : List mw_V} {σ : mw_S} {Q : Option mw_V → mw_S → Prop} : mw_WP d 74 53 [l0] (jR 1 :: st) σ Q ↔ mw_WP d 74 56 [l0] (jR 2 :: st) σ Q := WP_getR (ci := 6) (k := 0) mq74 dd74_53 (by decide) rfl
theorem dd74_56 : decode cX7_readDigits 56 = .ok (.aload_n 0, 1) := by decide +kernel
theorem ww74_56 {d : Nat} {x : Nat} {st : List mw_V} {σ : mw_S} {Q : Option mw_V → mw_S → Prop} : mw_WP d 74 56 [some (jR x)] st σ Q ↔ mw_WP d 74 57 [some (jR x)] (jR x :: st) σ Q := WP_aload_n mq74 dd74_56 rfl
theorem dd74_57 : decode cX7_readDigits 57 = .ok (.getfield 41, 3) := by decide +kernel
theorem ww74_57 {d : Nat} {l0 : Option mw_V} {st : List mw_V} {σ : mw_S} {Q : Option mw_V → mw_S → Prop} : mw_WP d 74 57 [l0] (jR 1 :: st) σ Q ↔ mw_WP d 74 60 [l0] (jI (σ 1 6) :: st) σ Q := WP_getI (ci := 6) (k := 6) mq74 dd74_57 (by decide) (Or.inl rfl)
theorem dd74_60 : decode cX7_readDigits 60 = .ok (.iaload, 1) := by decide +kernel
theorem ww74_60 {d : Nat} {l0 : Option mw_V} {z : Int} {a : Nat} {st : List mw_V} {σ : mw_S} {Q : Option mw_V → mw_S → Prop} : mw_WP d 74 60 [l0] (jI z :: jR a :: st) σ Q ↔ ((0 ≤ z ∧ z < mw_lenI a) ∧ mw_WP d 74 61 [l0] (jI (mw_rdI σ a z.toNat) :: st) σ Q) := WP_iaload mq74 dd74_60
theorem dd74_61 : decode cX7_readDigits 61 = .ok (.iadd, 1) := by decide +kernel
theorem ww74_61 {d : Nat} {l0 : Option mw_V} {x y : Int} {st : List mw_V} {σ : mw_S} {Q : Option mw_V → mw_S → Prop} : mw_WP d 74 61 [l0] (jI y :: jI x :: st) σ Q ↔ mw_WP d 74 62 [l0] (jI (w32 (x + y)) :: st) σ Q := WP_iadd mq74 dd74_61
theorem dd74_62 : decode cX7_readDigits 62 = .ok (.bipush 48, 2) := by decide +kernel
theorem ww74_62 {d : Nat} {l0 : Option mw_V} {st : List mw_V} {σ : mw_S} {Q : Option mw_V → mw_S → Prop} : mw_WP d 74 62 [l0] st σ Q ↔ mw_WP d 74 64 [l0] (jI (48) :: st) σ Q := WP_bipush mq74 dd74_62 (by decide)
theorem dd74_64 : decode cX7_readDigits 64 = .ok (.isub, 1) := by decide +kernel
theorem ww74_64 {d : Nat} {l0 : Option mw_V} {x y : Int} {st : List mw_V} {σ : mw_S} {Q : Option mw_V → mw_S → Prop} : mw_WP d 74 64 [l0] (jI y :: jI x :: st) σ Q ↔ mw_WP d 74 65 [l0] (jI (w32 (x - y)) :: st) σ Q := WP_isub mq74 dd74_64
theorem dd74_65 : decode cX7_readDigits 65 = .ok (.putfield 110, 3) := by decide +kernel
theorem ww74_65 {d : Nat} {l0 : Option mw_V} {v : Int} {st : List mw_V} {σ : mw_S} {Q : Option mw_V → mw_S → Prop} : mw_WP d 74 65 [l0] (jI v :: jR 1 :: st) σ Q ↔ mw_WP d 74 68 [l0] st (upS σ 1 9 v) Q := WP_putI (ci := 6) (k := 9) mq74 dd74_65 (by decide) rfl
theorem dd74_68 : decode cX7_readDigits 68 = .ok (.aload_n 0, 1) := by decide +kernel
theorem ww74_68 {d : Nat} {x : Nat} {st : List mw_V} {σ : mw_S} {Q : Option mw_V → mw_S → Prop} : mw_WP d 74 68 [some (jR x)] st σ Q ↔ mw_WP d 74 69 [some (jR x)] (jR x :: st) σ Q := WP_aload_n mq74 dd74_68 rfl
theorem dd74_69 : decode cX7_readDigits 69 = .ok (.dup, 1) := by decide +kernel
theorem ww74_69 {d : Nat} {l0 : Option mw_V} {v : mw_V} {st : List mw_V} {σ : mw_S} {Q : Option mw_V → mw_S → Prop} (h : mw_cat v = 1) : mw_WP d 74 69 [l0] (v :: st) σ Q ↔ mw_WP d 74 70 [l0] (v :: v :: st) σ Q := WP_dup mq74 dd74_69 h
theorem dd74_70 : decode cX7_readDigits 70 = .ok (.getfield 41, 3) := by decide +kernel
theorem ww74_70 {d : Nat} {l0 : Option mw_V} {st : List mw_V} {σ : mw_S} {Q : Option mw_V → mw_S → Prop} : mw_WP d 74 70 [l0] (jR 1 :: st) σ Q ↔ mw_WP d 74 73 [l0] (jI (σ 1 6) :: st) σ Q := WP_getI (ci := 6) (k := 6) mq74 dd74_70 (by decide) (Or.inl rfl)
theorem dd74_73 : decode cX7_readDigits 73 = .ok (.iconst 1, 1) := by decide +kernel
theorem ww74_73 {d : Nat} {l0 : Option mw_V} {st : List mw_V} {σ : mw_S} {Q : Option mw_V → mw_S → Prop} : mw_WP d 74 73 [l0] st σ Q ↔ mw_WP d 74 74 [l0] (jI (1) :: st) σ Q := WP_iconst mq74 dd74_73 (by decide)
theorem dd74_74 : decode cX7_readDigits 74 = .ok (.iadd, 1) := by decide +kernel
theorem ww74_74 {d : Nat} {l0 : Option mw_V} {x y : Int} {st : List mw_V} {σ : mw_S} {Q : Option mw_V → mw_S → Prop} : mw_WP d 74 74 [l0] (jI y :: jI x :: st) σ Q ↔ mw_WP d 74 75 [l0] (jI (w32 (x + y)) :: st) σ Q := WP_iadd mq74 dd74_74
theorem dd74_75 : decode cX7_readDigits 75 = .ok (.putfield 41, 3) := by decide +kernel
theorem ww74_75 {d : Nat} {l0 : Option mw_V} {v : Int} {st : List mw_V} {σ : mw_S} {Q : Option mw_V → mw_S → Prop} : mw_WP d 74 75 [l0] (jI v :: jR 1 :: st) σ Q ↔ mw_WP d 74 78 [l0] st (upS σ 1 6 v) Q := WP_putI (ci := 6) (k := 6) mq74 dd74_75 (by decide) rfl
theorem dd74_78 : decode cX7_readDigits 78 = .ok (.goto (-73), 3) := by decide +kernel
theorem ww74_78 {d : Nat} {l0 : Option mw_V} {st : List mw_V} {σ : mw_S} {Q : Option mw_V → mw_S → Prop} : mw_WP d 74 78 [l0] st σ Q ↔ mw_WP d 74 5 [l0] st σ Q := WP_goto mq74 dd74_78 (by decide)
theorem dd74_81 : decode cX7_readDigits 81 = .ok (.aload_n 0, 1) := by decide +kernel
theorem ww74_81 {d : Nat} {x : Nat} {st : List mw_V} {σ : mw_S} {Q : Option mw_V → mw_S → Prop} : mw_WP d 74 81 [some (jR x)] st σ Q ↔ mw_WP d 74 82 [some (jR x)] (jR x :: st) σ Q := WP_aload_n mq74 dd74_81 rfl
theorem dd74_82 : decode cX7_readDigits 82 = .ok (.aload_n 0, 1) := by decide +kernel
theorem ww74_82 {d : Nat} {x : Nat} {st : List mw_V} {σ : mw_S} {Q : Option mw_V → mw_S → Prop} : mw_WP d 74 82 [some (jR x)] st σ Q ↔ mw_WP d 74 83 [some (jR x)] (jR x :: st) σ Q := WP_aload_n mq74 dd74_82 rfl
theorem dd74_83 : decode cX7_readDigits 83 = .ok (.getfield 41, 3) := by decide +kernel
theorem ww74_83 {d : Nat} {l0 : Option mw_V} {st : List mw_V} {σ : mw_S} {Q : Option mw_V → mw_S → Prop} : mw_WP d 74 83 [l0] (jR 1 :: st) σ Q ↔ mw_WP d 74 86 [l0] (jI (σ 1 6) :: st) σ Q := WP_getI (ci := 6) (k := 6) mq74 dd74_83 (by decide) (Or.inl rfl)
theorem dd74_86 : decode cX7_readDigits 86 = .ok (.aload_n 0, 1) := by decide +kernel
theorem ww74_86 {d : Nat} {x : Nat} {st : List mw_V} {σ : mw_S} {Q : Option mw_V → mw_S → Prop} : mw_WP d 74 86 [some (jR x)] st σ Q ↔ mw_WP d 74 87 [some (jR x)] (jR x :: st) σ Q := WP_aload_n mq74 dd74_86 rfl
theorem dd74_87 : decode cX7_readDigits 87 = .ok (.getfield 252, 3) := by decide +kernel
theorem ww74_87 {d : Nat} {l0 : Option mw_V} {st : List mw_V} {σ : mw_S} {Q : Option mw_V → mw_S → Prop} : mw_WP d 74 87 [l0] (jR 1 :: st) σ Q ↔ mw_WP d 74 90 [l0] (jI (σ 1 7) :: st) σ Q := WP_getI (ci := 6) (k := 7) mq74 dd74_87 (by decide) (Or.inl rfl)
theorem dd74_90 : decode cX7_readDigits 90 = .ok (.isub, 1) := by decide +kernel
theorem ww74_90 {d : Nat} {l0 : Option mw_V} {x y : Int} {st : List mw_V} {σ : mw_S} {Q : Option mw_V → mw_S → Prop} : mw_WP d 74 90 [l0] (jI y :: jI x :: st) σ Q ↔ mw_WP d 74 91 [l0] (jI (w32 (x - y)) :: st) σ Q := WP_isub mq74 dd74_90
theorem dd74_91 : decode cX7_readDigits 91 = .ok (.iconst 3, 1) := by decide +kernel
theorem ww74_91 {d : Nat} {l0 : Option mw_V} {st : List mw_V} {σ : mw_S} {Q : Option mw_V → mw_S → Prop} : mw_WP d 74 91 [l0] st σ Q ↔ mw_WP d 74 92 [l0] (jI (3) :: st) σ Q := WP_iconst mq74 dd74_91 (by decide)
theorem dd74_92 : decode cX7_readDigits 92 = .ok (.if_icmp .gt 7, 3) := by decide +kernel
theorem ww74_92 {d : Nat} {l0 : Option mw_V} {x y : Int} {st : List mw_V} {σ : mw_S} {Q : Option mw_V → mw_S → Prop} : mw_WP d 74 92 [l0] (jI y :: jI x :: st) σ Q ↔ (if y < x then mw_WP d 74 99 [l0] st σ Q else mw_WP d 74 95 [l0] st σ Q) := WP_icmp_gt mq74 dd74_92 (by decide)
theorem dd74_95 : decode cX7_readDigits 95 = .ok (.iconst 3, 1) := by decide +kernel
theorem ww74_95 {d : Nat} {l0 : Option mw_V} {st : List mw_V} {σ : mw_S} {Q : Option mw_V → mw_S → Prop} : mw_WP d 74 95 [l0] st σ Q ↔ mw_WP d 74 96 [l0] (jI (3) :: st) σ Q := WP_iconst mq74 dd74_95 (by decide)
theorem dd74_96 : decode cX7_readDigits 96 = .ok (.goto 4, 3) := by decide +kernel
theorem ww74_96 {d : Nat} {l0 : Option mw_V} {st : List mw_V} {σ : mw_S} {Q : Option mw_V → mw_S → Prop} : mw_WP d 74 96 [l0] st σ Q ↔ mw_WP d 74 100 [l0] st σ Q := WP_goto mq74 dd74_96 (by decide)
theorem dd74_99 : decode cX7_readDigits 99 = .ok (.iconst 1, 1) := by decide +kernel
theorem ww74_99 {d : Nat} {l0 : Option mw_V} {st : List mw_V} {σ : mw_S} {Q : Option mw_V → mw_S → Prop} : mw_WP d 74 99 [l0] st σ Q ↔ mw_WP d 74 100 [l0] (jI (1) :: st) σ Q := WP_iconst mq74 dd74_99 (by decide)
theorem dd74_100 : decode cX7_readDigits 100 = .ok (.putfield 53, 3) := by decide +kernel
theorem ww74_100 {d : Nat} {l0 : Option mw_V} {v : Int} {st : List mw_V} {σ : mw_S} {Q : Option mw_V → mw_S → Prop} : mw_WP d 74 100 [l0] (jI v :: jR 1 :: st) σ Q ↔ mw_WP d 74 103 [l0] st (upS σ 1 8 v) Q := WP_putI (ci := 6) (k := 8) mq74 dd74_100 (by decide) rfl
theorem dd74_103 : decode cX7_readDigits 103 = .ok (.return_, 1) := by decide +kernel
theorem ww74_103 {d : Nat} {l0 : Option mw_V} {σ : mw_S} {Q : Option mw_V → mw_S → Prop} : mw_WP d 74 103 [l0] [] σ Q ↔ Q none σ := WP_return mq74 dd74_103 rfl
theorem ee75 {d : Nat} {z0 : Int} {σ : mw_S} {Q : Option mw_V → mw_S → Prop} : mw_Call (d + 1) 75 [jI z0] σ Q ↔ mw_WP d 75 0 [some (jI z0)] [] σ Q := CL_u mq75 (Nat.le_of_ble_eq_true rfl) rfl
theorem dd75_0 : decode cX7_isLetter 0 = .ok (.iload_n 0, 1) := by decide +kernel
theorem ww75_0 {d : Nat} {x : Int} {st : List mw_V} {σ : mw_S} {Q : Option mw_V → mw_S → Prop} : mw_WP d 75 0 [some (jI x)] st σ Q ↔ mw_WP d 75 1 [some (jI x)] (jI x :: st) σ Q := WP_iload_n mq75 dd75_0 rfl
theorem dd75_1 : decode cX7_isLetter 1 = .ok (.bipush 97, 2) := by decide +kernel
theorem ww75_1 {d : Nat} {l0 : Option mw_V} {st : List mw_V} {σ : mw_S} {Q : Option mw_V → mw_S → Prop} : mw_WP d 75 1 [l0] st σ Q ↔ mw_WP d 75 3 [l0] (jI (97) :: st) σ Q := WP_bipush mq75 dd75_1 (by decide)
theorem dd75_3 : decode cX7_isLetter 3 = .ok (.if_icmp .lt 13, 3) := by decide +kernel
theorem ww75_3 {d : Nat} {l0 : Option mw_V} {x y : Int} {st : List mw_V} {σ : mw_S} {Q : Option mw_V → mw_S → Prop} : mw_WP d 75 3 [l0] (jI y :: jI x :: st) σ Q ↔ (if x < y then mw_WP d 75 16 [l0] st σ Q else mw_WP d 75 6 [l0] st σ Q) := WP_icmp_lt mq75 dd75_3 (by decide)
theorem dd75_6 : decode cX7_isLetter 6 = .ok (.iload_n 0, 1) := by decide +kernel
theorem ww75_6 {d : Nat} {x : Int} {st : List mw_V} {σ : mw_S} {Q : Option mw_V → mw_S → Prop} : mw_WP d 75 6 [some (jI x)] st σ Q ↔ mw_WP d 75 7 [some (jI x)] (jI x :: st) σ Q := WP_iload_n mq75 dd75_6 rfl
theorem dd75_7 : decode cX7_isLetter 7 = .ok (.bipush 122, 2) := by decide +kernel
theorem ww75_7 {d : Nat} {l0 : Option mw_V} {st : List mw_V} {σ : mw_S} {Q : Option mw_V → mw_S → Prop} : mw_WP d 75 7 [l0] st σ Q ↔ mw_WP d 75 9 [l0] (jI (122) :: st) σ Q := WP_bipush mq75 dd75_7 (by decide)
theorem dd75_9 : decode cX7_isLetter 9 = .ok (.if_icmp .gt 7, 3) := by decide +kernel
theorem ww75_9 {d : Nat} {l0 : Option mw_V} {x y : Int} {st : List mw_V} {σ : mw_S} {Q : Option mw_V → mw_S → Prop} : mw_WP d 75 9 [l0] (jI y :: jI x :: st) σ Q ↔ (if y < x then mw_WP d 75 16 [l0] st σ Q else mw_WP d 75 12 [l0] st σ Q) := WP_icmp_gt mq75 dd75_9 (by decide)
theorem dd75_12 : decode cX7_isLetter 12 = .ok (.iconst 1, 1) := by decide +kernel
theorem ww75_12 {d : Nat} {l0 : Option mw_V} {st : List mw_V} {σ : mw_S} {Q : Option mw_V → mw_S → Prop} : mw_WP d 75 12 [l0] st σ Q ↔ mw_WP d 75 13 [l0] (jI (1) :: st) σ Q := WP_iconst mq75 dd75_12 (by decide)
theorem dd75_13 : decode cX7_isLetter 13 = .ok (.goto 4, 3) := by decide +kernel
theorem ww75_13 {d : Nat} {l0 : Option mw_V} {st : List mw_V} {σ : mw_S} {Q : Option mw_V → mw_S → Prop} : mw_WP d 75 13 [l0] st σ Q ↔ mw_WP d 75 17 [l0] st σ Q := WP_goto mq75 dd75_13 (by decide)
theorem dd75_16 : decode cX7_isLetter 16 = .ok (.iconst 0, 1) := by decide +kernel
theorem ww75_16 {d : Nat} {l0 : Option mw_V} {st : List mw_V} {σ : mw_S} {Q : Option mw_V → mw_S → Prop} : mw_WP d 75 16 [l0] st σ Q ↔ mw_WP d 75 17 [l0] (jI (0) :: st) σ Q := WP_iconst mq75 dd75_16 (by decide)
theorem dd75_17 : decode cX7_isLetter 17 = .ok (.ireturn, 1) := by decide +kernel
theorem ww75_17 {d : Nat} {l0 : Option mw_V} {z : Int} {σ : mw_S} {Q : Option mw_V → mw_S → Prop} (h : z = 0 ∨ z = 1) : mw_WP d 75 17 [l0] [jI z] σ Q ↔ Q (some (jI z)) σ := WP_ireturn (ty := .boolean) mq75 dd75_17 rfl (by rcases h with rfl | rfl <;> decide)
theorem ee76 {d : Nat} {z0 : Int} {σ : mw_S} {Q : Option mw_V → mw_S → Prop} : mw_Call (d + 1) 76 [jI z0] σ Q ↔ mw_WP d 76 0 [some (jI z0)] [] σ Q := CL_u mq76 (Nat.le_of_ble_eq_true rfl) rfl
theorem dd76_0 : decode cX7_isDigit 0 = .ok (.iload_n 0, 1) := by decide +kernel
theorem ww76_0 {d : Nat} {x : Int} {st : List mw_V} {σ : mw_S} {Q : Option mw_V → mw_S → Prop} : mw_WP d 76 0 [some (jI x)] st σ Q ↔ mw_WP d 76 1 [some (jI x)] (jI x :: st) σ Q := WP_iload_n mq76 dd76_0 rfl
theorem dd76_1 : decode cX7_isDigit 1 = .ok (.bipush 48, 2) := by decide +kernel
theorem ww76_1 {d : Nat} {l0 : Option mw_V} {st : List mw_V} {σ : mw_S} {Q : Option mw_V → mw_S → Prop} : mw_WP d 76 1 [l0] st σ Q ↔ mw_WP d 76 3 [l0] (jI (48) :: st) σ Q := WP_bipush mq76 dd76_1 (by decide)
theorem dd76_3 : decode cX7_isDigit 3 = .ok (.if_icmp .lt 13, 3) := by decide +kernel
theorem ww76_3 {d : Nat} {l0 : Option mw_V} {x y : Int} {st : List mw_V} {σ : mw_S} {Q : Option mw_V → mw_S → Prop} : mw_WP d 76 3 [l0] (jI y :: jI x :: st) σ Q ↔ (if x < y then mw_WP d 76 16 [l0] st σ Q else mw_WP d 76 6 [l0] st σ Q) := WP_icmp_lt mq76 dd76_3 (by decide)
theorem dd76_6 : decode cX7_isDigit 6 = .ok (.iload_n 0, 1) := by decide +kernel
theorem ww76_6 {d : Nat} {x : Int} {st : List mw_V} {σ : mw_S} {Q : Option mw_V → mw_S → Prop} : mw_WP d 76 6 [some (jI x)] st σ Q ↔ mw_WP d 76 7 [some (jI x)] (jI x :: st) σ Q := WP_iload_n mq76 dd76_6 rfl
theorem dd76_7 : decode cX7_isDigit 7 = .ok (.bipush 57, 2) := by decide +kernel
theorem ww76_7 {d : Nat} {l0 : Option mw_V} {st : List mw_V} {σ : mw_S} {Q : Option mw_V → mw_S → Prop} : mw_WP d 76 7 [l0] st σ Q ↔ mw_WP d 76 9 [l0] (jI (57) :: st) σ Q := WP_bipush mq76 dd76_7 (by decide)
theorem dd76_9 : decode cX7_isDigit 9 = .ok (.if_icmp .gt 7, 3) := by decide +kernel
theorem ww76_9 {d : Nat} {l0 : Option mw_V} {x y : Int} {st : List mw_V} {σ : mw_S} {Q : Option mw_V → mw_S → Prop} : mw_WP d 76 9 [l0] (jI y :: jI x :: st) σ Q ↔ (if y < x then mw_WP d 76 16 [l0] st σ Q else mw_WP d 76 12 [l0] st σ Q) := WP_icmp_gt mq76 dd76_9 (by decide)
theorem dd76_12 : decode cX7_isDigit 12 = .ok (.iconst 1, 1) := by decide +kernel
theorem ww76_12 {d : Nat} {l0 : Option mw_V} {st : List mw_V} {σ : mw_S} {Q : Option mw_V → mw_S → Prop} : mw_WP d 76 12 [l0] st σ Q ↔ mw_WP d 76 13 [l0] (jI (1) :: st) σ Q := WP_iconst mq76 dd76_12 (by decide)
theorem dd76_13 : decode cX7_isDigit 13 = .ok (.goto 4, 3) := by decide +kernel
theorem ww76_13 {d : Nat} {l0 : Option mw_V} {st : List mw_V} {σ : mw_S} {Q : Option mw_V → mw_S → Prop} : mw_WP d 76 13 [l0] st σ Q ↔ mw_WP d 76 17 [l0] st σ Q := WP_goto mq76 dd76_13 (by decide)
theorem dd76_16 : decode cX7_isDigit 16 = .ok (.iconst 0, 1) := by decide +kernel
theorem ww76_16 {d : Nat} {l0 : Option mw_V} {st : List mw_V} {σ : mw_S} {Q : Option mw_V → mw_S → Prop} : mw_WP d 76 16 [l0] st σ Q ↔ mw_WP d 76 17 [l0] (jI (0) :: st) σ Q := WP_iconst mq76 dd76_16 (by decide)
theorem dd76_17 : decode cX7_isDigit 17 = .ok (.ireturn, 1) := by decide +kernel
theorem ww76_17 {d : Nat} {l0 : Option mw_V} {z : Int} {σ : mw_S} {Q : Option mw_V → mw_S → Prop} (h : z = 0 ∨ z = 1) : mw_WP d 76 17 [l0] [jI z] σ Q ↔ Q (some (jI z)) σ := WP_ireturn (ty := .boolean) mq76 dd76_17 rfl (by rcases h with rfl | rfl <;> decide)
theorem ee77 {d : Nat} {z0 : Int} {σ : mw_S} {Q : Option mw_V → mw_S → Prop} : mw_Call (d + 1) 77 [jI z0] σ Q ↔ mw_WP d 77 0 [some (jI z0)] [] σ Q := CL_u mq77 (Nat.le_of_ble_eq_true rfl) rfl
theorem dd77_0 : decode cX7_isSignByte 0 = .ok (.ldc_w 278, 3) := by decide +kernel
theorem ww77_0 {d : Nat} {l0 : Option mw_V} {st : List mw_V} {σ : mw_S} {Q : Option mw_V → mw_S → Prop} : mw_WP d 77 0 [l0] st σ Q ↔ mw_WP d 77 3 [l0] (jR 1000 :: st) σ Q := WP_ldcwS (n := 0) mq77 dd77_0 (by decide) (by decide) rfl
theorem dd77_3 : decode cX7_isSignByte 3 = .ok (.iload_n 0, 1) := by decide +kernel
theorem ww77_3 {d : Nat} {x : Int} {st : List mw_V} {σ : mw_S} {Q : Option mw_V → mw_S → Prop} : mw_WP d 77 3 [some (jI x)] st σ Q ↔ mw_WP d 77 4 [some (jI x)] (jI x :: st) σ Q := WP_iload_n mq77 dd77_3 rfl
theorem dd77_4 : decode cX7_isSignByte 4 = .ok (.i2c, 1) := by decide +kernel
theorem ww77_4 {d : Nat} {l0 : Option mw_V} {x : Int} {st : List mw_V} {σ : mw_S} {Q : Option mw_V → mw_S → Prop} : mw_WP d 77 4 [l0] (jI x :: st) σ Q ↔ mw_WP d 77 5 [l0] (jI (zC x) :: st) σ Q := WP_i2c mq77 dd77_4
theorem dd77_5 : decode cX7_isSignByte 5 = .ok (.invokevirtual 280, 3) := by decide +kernel
theorem ww77_5 {d : Nat} {l0 : Option mw_V} {v0 : mw_V} {a : Nat} {st : List mw_V} {σ : mw_S} {Q : Option mw_V → mw_S → Prop} (hr : mw_rc a = 50) (h8 : (st.map mw_cat).sum ≤ 8) : mw_WP d 77 5 [l0] (v0 :: jR a :: st) σ Q ↔ mw_Call d 286 [jR a, v0] σ (fun r1 s1 => mw_WP d 77 8 [l0] (r1.toList ++ st) s1 Q) := WP_inv (as := [v0]) mq77 dd77_5 (by decide) mq286 rfl hr h8
theorem dd77_8 : decode cX7_isSignByte 8 = .ok (.ifCond .lt 7, 3) := by decide +kernel
theorem ww77_8 {d : Nat} {l0 : Option mw_V} {x : Int} {st : List mw_V} {σ : mw_S} {Q : Option mw_V → mw_S → Prop} : mw_WP d 77 8 [l0] (jI x :: st) σ Q ↔ (if x < 0 then mw_WP d 77 15 [l0] st σ Q else mw_WP d 77 11 [l0] st σ Q) := WP_if_lt mq77 dd77_8 (by decide)
theorem dd77_11 : decode cX7_isSignByte 11 = .ok (.iconst 1, 1) := by decide +kernel
theorem ww77_11 {d : Nat} {l0 : Option mw_V} {st : List mw_V} {σ : mw_S} {Q : Option mw_V → mw_S → Prop} : mw_WP d 77 11 [l0] st σ Q ↔ mw_WP d 77 12 [l0] (jI (1) :: st) σ Q := WP_iconst mq77 dd77_11 (by decide)
theorem dd77_12 : decode cX7_isSignByte 12 = .ok (.goto 4, 3) := by decide +kernel
theorem ww77_12 {d : Nat} {l0 : Option mw_V} {st : List mw_V} {σ : mw_S} {Q : Option mw_V → mw_S → Prop} : mw_WP d 77 12 [l0] st σ Q ↔ mw_WP d 77 16 [l0] st σ Q := WP_goto mq77 dd77_12 (by decide)
theorem dd77_15 : decode cX7_isSignByte 15 = .ok (.iconst 0, 1) := by decide +kernel
theorem ww77_15 {d : Nat} {l0 : Option mw_V} {st : List mw_V} {σ : mw_S} {Q : Option mw_V → mw_S → Prop} : mw_WP d 77 15 [l0] st σ Q ↔ mw_WP d 77 16 [l0] (jI (0) :: st) σ Q := WP_iconst mq77 dd77_15 (by decide)
theorem dd77_16 : decode cX7_isSignByte 16 = .ok (.ireturn, 1) := by decide +kernel
theorem ww77_16 {d : Nat} {l0 : Option mw_V} {z : Int} {σ : mw_S} {Q : Option mw_V → mw_S → Prop} (h : z = 0 ∨ z = 1) : mw_WP d 77 16 [l0] [jI z] σ Q ↔ Q (some (jI z)) σ := WP_ireturn (ty := .boolean) mq77 dd77_16 rfl (by rcases h with rfl | rfl <;> decide)
