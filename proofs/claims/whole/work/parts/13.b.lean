/-! 13.b: rows that decode each instruction, and its rule -/
theorem ee19 {d : Nat} {a : Nat} {σ : mw_S} {Q : Option mw_V → mw_S → Prop} : mw_Call (d + 1) 19 [jR a] σ Q ↔ mw_WP d 19 0 [some (jR a)] [] σ Q := CL_u mq19 (Nat.le_of_ble_eq_true rfl) rfl
theorem dd19_0 : decode cX3_startCells 0 = .ok (.aload_n 0, 1) := by decide +kernel
theorem ww19_0 {d : Nat} {x : Nat} {st : List mw_V} {σ : mw_S} {Q : Option mw_V → mw_S → Prop} : mw_WP d 19 0 [some (jR x)] st σ Q ↔ mw_WP d 19 1 [some (jR x)] (jR x :: st) σ Q := WP_aload_n mq19 dd19_0 rfl
theorem dd19_1 : decode cX3_startCells 1 = .ok (.iconst 0, 1) := by decide +kernel
theorem ww19_1 {d : Nat} {l0 : Option mw_V} {st : List mw_V} {σ : mw_S} {Q : Option mw_V → mw_S → Prop} : mw_WP d 19 1 [l0] st σ Q ↔ mw_WP d 19 2 [l0] (jI (0) :: st) σ Q := WP_iconst mq19 dd19_1 (by decide)
theorem dd19_2 : decode cX3_startCells 2 = .ok (.putfield 31, 3) := by decide +kernel
theorem ww19_2 {d : Nat} {l0 : Option mw_V} {v : Int} {st : List mw_V} {σ : mw_S} {Q : Option mw_V → mw_S → Prop} : mw_WP d 19 2 [l0] (jI v :: jR 55 :: st) σ Q ↔ mw_WP d 19 5 [l0] st (upS σ 55 8 v) Q := WP_putI (ci := 2) (k := 8) mq19 dd19_2 (by decide) rfl
theorem dd19_5 : decode cX3_startCells 5 = .ok (.aload_n 0, 1) := by decide +kernel
theorem ww19_5 {d : Nat} {x : Nat} {st : List mw_V} {σ : mw_S} {Q : Option mw_V → mw_S → Prop} : mw_WP d 19 5 [some (jR x)] st σ Q ↔ mw_WP d 19 6 [some (jR x)] (jR x :: st) σ Q := WP_aload_n mq19 dd19_5 rfl
theorem dd19_6 : decode cX3_startCells 6 = .ok (.iconst (-1), 1) := by decide +kernel
theorem ww19_6 {d : Nat} {l0 : Option mw_V} {st : List mw_V} {σ : mw_S} {Q : Option mw_V → mw_S → Prop} : mw_WP d 19 6 [l0] st σ Q ↔ mw_WP d 19 7 [l0] (jI (-1) :: st) σ Q := WP_iconst mq19 dd19_6 (by decide)
theorem dd19_7 : decode cX3_startCells 7 = .ok (.putfield 35, 3) := by decide +kernel
theorem ww19_7 {d : Nat} {l0 : Option mw_V} {v : Int} {st : List mw_V} {σ : mw_S} {Q : Option mw_V → mw_S → Prop} : mw_WP d 19 7 [l0] (jI v :: jR 55 :: st) σ Q ↔ mw_WP d 19 10 [l0] st (upS σ 55 9 v) Q := WP_putI (ci := 2) (k := 9) mq19 dd19_7 (by decide) rfl
theorem dd19_10 : decode cX3_startCells 10 = .ok (.return_, 1) := by decide +kernel
theorem ww19_10 {d : Nat} {l0 : Option mw_V} {σ : mw_S} {Q : Option mw_V → mw_S → Prop} : mw_WP d 19 10 [l0] [] σ Q ↔ Q none σ := WP_return mq19 dd19_10 rfl
theorem ee20 {d : Nat} {a : Nat} {z0 : Int} {σ : mw_S} {Q : Option mw_V → mw_S → Prop} : mw_Call (d + 1) 20 [jR a, jI z0] σ Q ↔ mw_WP d 20 0 [some (jR a), some (jI z0)] [] σ Q := CL_u mq20 (Nat.le_of_ble_eq_true rfl) rfl
theorem dd20_0 : decode cX3_addCell 0 = .ok (.aload_n 0, 1) := by decide +kernel
theorem ww20_0 {d : Nat} {l1 : Option mw_V} {x : Nat} {st : List mw_V} {σ : mw_S} {Q : Option mw_V → mw_S → Prop} : mw_WP d 20 0 [some (jR x), l1] st σ Q ↔ mw_WP d 20 1 [some (jR x), l1] (jR x :: st) σ Q := WP_aload_n mq20 dd20_0 rfl
theorem dd20_1 : decode cX3_addCell 1 = .ok (.getfield 31, 3) := by decide +kernel
theorem ww20_1 {d : Nat} {l0 l1 : Option mw_V} {st : List mw_V} {σ : mw_S} {Q : Option mw_V → mw_S → Prop} : mw_WP d 20 1 [l0, l1] (jR 55 :: st) σ Q ↔ mw_WP d 20 4 [l0, l1] (jI (σ 55 8) :: st) σ Q := WP_getI (ci := 2) (k := 8) mq20 dd20_1 (by decide) (Or.inl rfl)
theorem dd20_4 : decode cX3_addCell 4 = .ok (.iconst 5, 1) := by decide +kernel
theorem ww20_4 {d : Nat} {l0 l1 : Option mw_V} {st : List mw_V} {σ : mw_S} {Q : Option mw_V → mw_S → Prop} : mw_WP d 20 4 [l0, l1] st σ Q ↔ mw_WP d 20 5 [l0, l1] (jI (5) :: st) σ Q := WP_iconst mq20 dd20_4 (by decide)
theorem dd20_5 : decode cX3_addCell 5 = .ok (.if_icmp .ge 36, 3) := by decide +kernel
theorem ww20_5 {d : Nat} {l0 l1 : Option mw_V} {x y : Int} {st : List mw_V} {σ : mw_S} {Q : Option mw_V → mw_S → Prop} : mw_WP d 20 5 [l0, l1] (jI y :: jI x :: st) σ Q ↔ (if y ≤ x then mw_WP d 20 41 [l0, l1] st σ Q else mw_WP d 20 8 [l0, l1] st σ Q) := WP_icmp_ge mq20 dd20_5 (by decide)
theorem dd20_8 : decode cX3_addCell 8 = .ok (.aload_n 0, 1) := by decide +kernel
theorem ww20_8 {d : Nat} {l1 : Option mw_V} {x : Nat} {st : List mw_V} {σ : mw_S} {Q : Option mw_V → mw_S → Prop} : mw_WP d 20 8 [some (jR x), l1] st σ Q ↔ mw_WP d 20 9 [some (jR x), l1] (jR x :: st) σ Q := WP_aload_n mq20 dd20_8 rfl
theorem dd20_9 : decode cX3_addCell 9 = .ok (.getfield 16, 3) := by decide +kernel
theorem ww20_9 {d : Nat} {l0 l1 : Option mw_V} {st : List mw_V} {σ : mw_S} {Q : Option mw_V → mw_S → Prop} : mw_WP d 20 9 [l0, l1] (jR 55 :: st) σ Q ↔ mw_WP d 20 12 [l0, l1] (jR 62 :: st) σ Q := WP_getR (ci := 2) (k := 5) mq20 dd20_9 (by decide) rfl
theorem dd20_12 : decode cX3_addCell 12 = .ok (.aload_n 0, 1) := by decide +kernel
theorem ww20_12 {d : Nat} {l1 : Option mw_V} {x : Nat} {st : List mw_V} {σ : mw_S} {Q : Option mw_V → mw_S → Prop} : mw_WP d 20 12 [some (jR x), l1] st σ Q ↔ mw_WP d 20 13 [some (jR x), l1] (jR x :: st) σ Q := WP_aload_n mq20 dd20_12 rfl
theorem dd20_13 : decode cX3_addCell 13 = .ok (.getfield 31, 3) := by decide +kernel
theorem ww20_13 {d : Nat} {l0 l1 : Option mw_V} {st : List mw_V} {σ : mw_S} {Q : Option mw_V → mw_S → Prop} : mw_WP d 20 13 [l0, l1] (jR 55 :: st) σ Q ↔ mw_WP d 20 16 [l0, l1] (jI (σ 55 8) :: st) σ Q := WP_getI (ci := 2) (k := 8) mq20 dd20_13 (by decide) (Or.inl rfl)
theorem dd20_16 : decode cX3_addCell 16 = .ok (.iload_n 1, 1) := by decide +kernel
theorem ww20_16 {d : Nat} {l0 : Option mw_V} {x : Int} {st : List mw_V} {σ : mw_S} {Q : Option mw_V → mw_S → Prop} : mw_WP d 20 16 [l0, some (jI x)] st σ Q ↔ mw_WP d 20 17 [l0, some (jI x)] (jI x :: st) σ Q := WP_iload_n mq20 dd20_16 rfl
theorem dd20_17 : decode cX3_addCell 17 = .ok (.iastore, 1) := by decide +kernel
theorem ww20_17 {d : Nat} {l0 l1 : Option mw_V} {x z : Int} {a : Nat} {st : List mw_V} {σ : mw_S} {Q : Option mw_V → mw_S → Prop} : mw_WP d 20 17 [l0, l1] (jI x :: jI z :: jR a :: st) σ Q ↔ ((0 ≤ z ∧ z < mw_lenW 0 a) ∧ mw_WP d 20 18 [l0, l1] st (upS σ a z.toNat x) Q) := WP_iastore mq20 dd20_17
theorem dd20_18 : decode cX3_addCell 18 = .ok (.iload_n 1, 1) := by decide +kernel
theorem ww20_18 {d : Nat} {l0 : Option mw_V} {x : Int} {st : List mw_V} {σ : mw_S} {Q : Option mw_V → mw_S → Prop} : mw_WP d 20 18 [l0, some (jI x)] st σ Q ↔ mw_WP d 20 19 [l0, some (jI x)] (jI x :: st) σ Q := WP_iload_n mq20 dd20_18 rfl
theorem dd20_19 : decode cX3_addCell 19 = .ok (.iconst (-1), 1) := by decide +kernel
theorem ww20_19 {d : Nat} {l0 l1 : Option mw_V} {st : List mw_V} {σ : mw_S} {Q : Option mw_V → mw_S → Prop} : mw_WP d 20 19 [l0, l1] st σ Q ↔ mw_WP d 20 20 [l0, l1] (jI (-1) :: st) σ Q := WP_iconst mq20 dd20_19 (by decide)
theorem dd20_20 : decode cX3_addCell 20 = .ok (.if_icmp .eq 11, 3) := by decide +kernel
theorem ww20_20 {d : Nat} {l0 l1 : Option mw_V} {x y : Int} {st : List mw_V} {σ : mw_S} {Q : Option mw_V → mw_S → Prop} : mw_WP d 20 20 [l0, l1] (jI y :: jI x :: st) σ Q ↔ (if x = y then mw_WP d 20 31 [l0, l1] st σ Q else mw_WP d 20 23 [l0, l1] st σ Q) := WP_icmp_eq mq20 dd20_20 (by decide)
theorem dd20_23 : decode cX3_addCell 23 = .ok (.aload_n 0, 1) := by decide +kernel
theorem ww20_23 {d : Nat} {l1 : Option mw_V} {x : Nat} {st : List mw_V} {σ : mw_S} {Q : Option mw_V → mw_S → Prop} : mw_WP d 20 23 [some (jR x), l1] st σ Q ↔ mw_WP d 20 24 [some (jR x), l1] (jR x :: st) σ Q := WP_aload_n mq20 dd20_23 rfl
theorem dd20_24 : decode cX3_addCell 24 = .ok (.aload_n 0, 1) := by decide +kernel
theorem ww20_24 {d : Nat} {l1 : Option mw_V} {x : Nat} {st : List mw_V} {σ : mw_S} {Q : Option mw_V → mw_S → Prop} : mw_WP d 20 24 [some (jR x), l1] st σ Q ↔ mw_WP d 20 25 [some (jR x), l1] (jR x :: st) σ Q := WP_aload_n mq20 dd20_24 rfl
theorem dd20_25 : decode cX3_addCell 25 = .ok (.getfield 31, 3) := by decide +kernel
theorem ww20_25 {d : Nat} {l0 l1 : Option mw_V} {st : List mw_V} {σ : mw_S} {Q : Option mw_V → mw_S → Prop} : mw_WP d 20 25 [l0, l1] (jR 55 :: st) σ Q ↔ mw_WP d 20 28 [l0, l1] (jI (σ 55 8) :: st) σ Q := WP_getI (ci := 2) (k := 8) mq20 dd20_25 (by decide) (Or.inl rfl)
theorem dd20_28 : decode cX3_addCell 28 = .ok (.putfield 35, 3) := by decide +kernel
theorem ww20_28 {d : Nat} {l0 l1 : Option mw_V} {v : Int} {st : List mw_V} {σ : mw_S} {Q : Option mw_V → mw_S → Prop} : mw_WP d 20 28 [l0, l1] (jI v :: jR 55 :: st) σ Q ↔ mw_WP d 20 31 [l0, l1] st (upS σ 55 9 v) Q := WP_putI (ci := 2) (k := 9) mq20 dd20_28 (by decide) rfl
theorem dd20_31 : decode cX3_addCell 31 = .ok (.aload_n 0, 1) := by decide +kernel
theorem ww20_31 {d : Nat} {l1 : Option mw_V} {x : Nat} {st : List mw_V} {σ : mw_S} {Q : Option mw_V → mw_S → Prop} : mw_WP d 20 31 [some (jR x), l1] st σ Q ↔ mw_WP d 20 32 [some (jR x), l1] (jR x :: st) σ Q := WP_aload_n mq20 dd20_31 rfl
theorem dd20_32 : decode cX3_addCell 32 = .ok (.dup, 1) := by decide +kernel
theorem ww20_32 {d : Nat} {l0 l1 : Option mw_V} {v : mw_V} {st : List mw_V} {σ : mw_S} {Q : Option mw_V → mw_S → Prop} (h : mw_cat v = 1) : mw_WP d 20 32 [l0, l1] (v :: st) σ Q ↔ mw_WP d 20 33 [l0, l1] (v :: v :: st) σ Q := WP_dup mq20 dd20_32 h
theorem dd20_33 : decode cX3_addCell 33 = .ok (.getfield 31, 3) := by decide +kernel
theorem ww20_33 {d : Nat} {l0 l1 : Option mw_V} {st : List mw_V} {σ : mw_S} {Q : Option mw_V → mw_S → Prop} : mw_WP d 20 33 [l0, l1] (jR 55 :: st) σ Q ↔ mw_WP d 20 36 [l0, l1] (jI (σ 55 8) :: st) σ Q := WP_getI (ci := 2) (k := 8) mq20 dd20_33 (by decide) (Or.inl rfl)
theorem dd20_36 : decode cX3_addCell 36 = .ok (.iconst 1, 1) := by decide +kernel
theorem ww20_36 {d : Nat} {l0 l1 : Option mw_V} {st : List mw_V} {σ : mw_S} {Q : Option mw_V → mw_S → Prop} : mw_WP d 20 36 [l0, l1] st σ Q ↔ mw_WP d 20 37 [l0, l1] (jI (1) :: st) σ Q := WP_iconst mq20 dd20_36 (by decide)
theorem dd20_37 : decode cX3_addCell 37 = .ok (.iadd, 1) := by decide +kernel
theorem ww20_37 {d : Nat} {l0 l1 : Option mw_V} {x y : Int} {st : List mw_V} {σ : mw_S} {Q : Option mw_V → mw_S → Prop} : mw_WP d 20 37 [l0, l1] (jI y :: jI x :: st) σ Q ↔ mw_WP d 20 38 [l0, l1] (jI (w32 (x + y)) :: st) σ Q := WP_iadd mq20 dd20_37
theorem dd20_38 : decode cX3_addCell 38 = .ok (.putfield 31, 3) := by decide +kernel
theorem ww20_38 {d : Nat} {l0 l1 : Option mw_V} {v : Int} {st : List mw_V} {σ : mw_S} {Q : Option mw_V → mw_S → Prop} : mw_WP d 20 38 [l0, l1] (jI v :: jR 55 :: st) σ Q ↔ mw_WP d 20 41 [l0, l1] st (upS σ 55 8 v) Q := WP_putI (ci := 2) (k := 8) mq20 dd20_38 (by decide) rfl
theorem dd20_41 : decode cX3_addCell 41 = .ok (.return_, 1) := by decide +kernel
theorem ww20_41 {d : Nat} {l0 l1 : Option mw_V} {σ : mw_S} {Q : Option mw_V → mw_S → Prop} : mw_WP d 20 41 [l0, l1] [] σ Q ↔ Q none σ := WP_return mq20 dd20_41 rfl
theorem ee21 {d : Nat} {a : Nat} {a0 : Nat} {z1 : Int} {z2 : Int} {z3 : Int} {σ : mw_S} {Q : Option mw_V → mw_S → Prop} : mw_Call (d + 1) 21 [jR a, jR a0, jI z1, jI z2, jI z3] σ Q ↔ mw_WP d 21 0 [some (jR a), some (jR a0), some (jI z1), some (jI z2), some (jI z3)] [] σ Q := CL_u mq21 (Nat.le_of_ble_eq_true rfl) rfl
theorem dd21_0 : decode cX3_findRows 0 = .ok (.aload_n 0, 1) := by decide +kernel
theorem ww21_0 {d : Nat} {l1 l2 l3 l4 : Option mw_V} {x : Nat} {st : List mw_V} {σ : mw_S} {Q : Option mw_V → mw_S → Prop} : mw_WP d 21 0 [some (jR x), l1, l2, l3, l4] st σ Q ↔ mw_WP d 21 1 [some (jR x), l1, l2, l3, l4] (jR x :: st) σ Q := WP_aload_n mq21 dd21_0 rfl
theorem dd21_1 : decode cX3_findRows 1 = .ok (.iload_n 2, 1) := by decide +kernel
theorem ww21_1 {d : Nat} {l0 l1 l3 l4 : Option mw_V} {x : Int} {st : List mw_V} {σ : mw_S} {Q : Option mw_V → mw_S → Prop} : mw_WP d 21 1 [l0, l1, some (jI x), l3, l4] st σ Q ↔ mw_WP d 21 2 [l0, l1, some (jI x), l3, l4] (jI x :: st) σ Q := WP_iload_n mq21 dd21_1 rfl
theorem dd21_2 : decode cX3_findRows 2 = .ok (.putfield 38, 3) := by decide +kernel
theorem ww21_2 {d : Nat} {l0 l1 l2 l3 l4 : Option mw_V} {v : Int} {st : List mw_V} {σ : mw_S} {Q : Option mw_V → mw_S → Prop} : mw_WP d 21 2 [l0, l1, l2, l3, l4] (jI v :: jR 55 :: st) σ Q ↔ mw_WP d 21 5 [l0, l1, l2, l3, l4] st (upS σ 55 10 v) Q := WP_putI (ci := 2) (k := 10) mq21 dd21_2 (by decide) rfl
theorem dd21_5 : decode cX3_findRows 5 = .ok (.aload_n 0, 1) := by decide +kernel
theorem ww21_5 {d : Nat} {l1 l2 l3 l4 : Option mw_V} {x : Nat} {st : List mw_V} {σ : mw_S} {Q : Option mw_V → mw_S → Prop} : mw_WP d 21 5 [some (jR x), l1, l2, l3, l4] st σ Q ↔ mw_WP d 21 6 [some (jR x), l1, l2, l3, l4] (jR x :: st) σ Q := WP_aload_n mq21 dd21_5 rfl
theorem dd21_6 : decode cX3_findRows 6 = .ok (.iload_n 3, 1) := by decide +kernel
theorem ww21_6 {d : Nat} {l0 l1 l2 l4 : Option mw_V} {x : Int} {st : List mw_V} {σ : mw_S} {Q : Option mw_V → mw_S → Prop} : mw_WP d 21 6 [l0, l1, l2, some (jI x), l4] st σ Q ↔ mw_WP d 21 7 [l0, l1, l2, some (jI x), l4] (jI x :: st) σ Q := WP_iload_n mq21 dd21_6 rfl
theorem dd21_7 : decode cX3_findRows 7 = .ok (.putfield 41, 3) := by decide +kernel
theorem ww21_7 {d : Nat} {l0 l1 l2 l3 l4 : Option mw_V} {v : Int} {st : List mw_V} {σ : mw_S} {Q : Option mw_V → mw_S → Prop} : mw_WP d 21 7 [l0, l1, l2, l3, l4] (jI v :: jR 55 :: st) σ Q ↔ mw_WP d 21 10 [l0, l1, l2, l3, l4] st (upS σ 55 11 v) Q := WP_putI (ci := 2) (k := 11) mq21 dd21_7 (by decide) rfl
theorem dd21_10 : decode cX3_findRows 10 = .ok (.aload_n 0, 1) := by decide +kernel
theorem ww21_10 {d : Nat} {l1 l2 l3 l4 : Option mw_V} {x : Nat} {st : List mw_V} {σ : mw_S} {Q : Option mw_V → mw_S → Prop} : mw_WP d 21 10 [some (jR x), l1, l2, l3, l4] st σ Q ↔ mw_WP d 21 11 [some (jR x), l1, l2, l3, l4] (jR x :: st) σ Q := WP_aload_n mq21 dd21_10 rfl
theorem dd21_11 : decode cX3_findRows 11 = .ok (.iload 4, 2) := by decide +kernel
theorem ww21_11 {d : Nat} {l0 l1 l2 l3 : Option mw_V} {x : Int} {st : List mw_V} {σ : mw_S} {Q : Option mw_V → mw_S → Prop} : mw_WP d 21 11 [l0, l1, l2, l3, some (jI x)] st σ Q ↔ mw_WP d 21 13 [l0, l1, l2, l3, some (jI x)] (jI x :: st) σ Q := WP_iload mq21 dd21_11 rfl
theorem dd21_13 : decode cX3_findRows 13 = .ok (.putfield 44, 3) := by decide +kernel
theorem ww21_13 {d : Nat} {l0 l1 l2 l3 l4 : Option mw_V} {v : Int} {st : List mw_V} {σ : mw_S} {Q : Option mw_V → mw_S → Prop} : mw_WP d 21 13 [l0, l1, l2, l3, l4] (jI v :: jR 55 :: st) σ Q ↔ mw_WP d 21 16 [l0, l1, l2, l3, l4] st (upS σ 55 12 v) Q := WP_putI (ci := 2) (k := 12) mq21 dd21_13 (by decide) rfl
theorem dd21_16 : decode cX3_findRows 16 = .ok (.aload_n 0, 1) := by decide +kernel
theorem ww21_16 {d : Nat} {l1 l2 l3 l4 : Option mw_V} {x : Nat} {st : List mw_V} {σ : mw_S} {Q : Option mw_V → mw_S → Prop} : mw_WP d 21 16 [some (jR x), l1, l2, l3, l4] st σ Q ↔ mw_WP d 21 17 [some (jR x), l1, l2, l3, l4] (jR x :: st) σ Q := WP_aload_n mq21 dd21_16 rfl
theorem dd21_17 : decode cX3_findRows 17 = .ok (.iconst 0, 1) := by decide +kernel
theorem ww21_17 {d : Nat} {l0 l1 l2 l3 l4 : Option mw_V} {st : List mw_V} {σ : mw_S} {Q : Option mw_V → mw_S → Prop} : mw_WP d 21 17 [l0, l1, l2, l3, l4] st σ Q ↔ mw_WP d 21 18 [l0, l1, l2, l3, l4] (jI (0) :: st) σ Q := WP_iconst mq21 dd21_17 (by decide)
theorem dd21_18 : decode cX3_findRows 18 = .ok (.putfield 47, 3) := by decide +kernel
theorem ww21_18 {d : Nat} {l0 l1 l2 l3 l4 : Option mw_V} {v : Int} {st : List mw_V} {σ : mw_S} {Q : Option mw_V → mw_S → Prop} : mw_WP d 21 18 [l0, l1, l2, l3, l4] (jI v :: jR 55 :: st) σ Q ↔ mw_WP d 21 21 [l0, l1, l2, l3, l4] st (upS σ 55 0 v) Q := WP_putI (ci := 2) (k := 0) mq21 dd21_18 (by decide) rfl
theorem dd21_21 : decode cX3_findRows 21 = .ok (.aload_n 0, 1) := by decide +kernel
theorem ww21_21 {d : Nat} {l1 l2 l3 l4 : Option mw_V} {x : Nat} {st : List mw_V} {σ : mw_S} {Q : Option mw_V → mw_S → Prop} : mw_WP d 21 21 [some (jR x), l1, l2, l3, l4] st σ Q ↔ mw_WP d 21 22 [some (jR x), l1, l2, l3, l4] (jR x :: st) σ Q := WP_aload_n mq21 dd21_21 rfl
theorem dd21_22 : decode cX3_findRows 22 = .ok (.iconst (-1), 1) := by decide +kernel
theorem ww21_22 {d : Nat} {l0 l1 l2 l3 l4 : Option mw_V} {st : List mw_V} {σ : mw_S} {Q : Option mw_V → mw_S → Prop} : mw_WP d 21 22 [l0, l1, l2, l3, l4] st σ Q ↔ mw_WP d 21 23 [l0, l1, l2, l3, l4] (jI (-1) :: st) σ Q := WP_iconst mq21 dd21_22 (by decide)
theorem dd21_23 : decode cX3_findRows 23 = .ok (.putfield 50, 3) := by decide +kernel
theorem ww21_23 {d : Nat} {l0 l1 l2 l3 l4 : Option mw_V} {v : Int} {st : List mw_V} {σ : mw_S} {Q : Option mw_V → mw_S → Prop} : mw_WP d 21 23 [l0, l1, l2, l3, l4] (jI v :: jR 55 :: st) σ Q ↔ mw_WP d 21 26 [l0, l1, l2, l3, l4] st (upS σ 55 1 v) Q := WP_putI (ci := 2) (k := 1) mq21 dd21_23 (by decide) rfl
theorem dd21_26 : decode cX3_findRows 26 = .ok (.aload_n 0, 1) := by decide +kernel
theorem ww21_26 {d : Nat} {l1 l2 l3 l4 : Option mw_V} {x : Nat} {st : List mw_V} {σ : mw_S} {Q : Option mw_V → mw_S → Prop} : mw_WP d 21 26 [some (jR x), l1, l2, l3, l4] st σ Q ↔ mw_WP d 21 27 [some (jR x), l1, l2, l3, l4] (jR x :: st) σ Q := WP_aload_n mq21 dd21_26 rfl
theorem dd21_27 : decode cX3_findRows 27 = .ok (.iconst 0, 1) := by decide +kernel
theorem ww21_27 {d : Nat} {l0 l1 l2 l3 l4 : Option mw_V} {st : List mw_V} {σ : mw_S} {Q : Option mw_V → mw_S → Prop} : mw_WP d 21 27 [l0, l1, l2, l3, l4] st σ Q ↔ mw_WP d 21 28 [l0, l1, l2, l3, l4] (jI (0) :: st) σ Q := WP_iconst mq21 dd21_27 (by decide)
theorem dd21_28 : decode cX3_findRows 28 = .ok (.putfield 53, 3) := by decide +kernel
theorem ww21_28 {d : Nat} {l0 l1 l2 l3 l4 : Option mw_V} {v : Int} {st : List mw_V} {σ : mw_S} {Q : Option mw_V → mw_S → Prop} : mw_WP d 21 28 [l0, l1, l2, l3, l4] (jI v :: jR 55 :: st) σ Q ↔ mw_WP d 21 31 [l0, l1, l2, l3, l4] st (upS σ 55 2 v) Q := WP_putI (ci := 2) (k := 2) mq21 dd21_28 (by decide) rfl
theorem dd21_31 : decode cX3_findRows 31 = .ok (.aload_n 1, 1) := by decide +kernel
theorem ww21_31 {d : Nat} {l0 l2 l3 l4 : Option mw_V} {x : Nat} {st : List mw_V} {σ : mw_S} {Q : Option mw_V → mw_S → Prop} : mw_WP d 21 31 [l0, some (jR x), l2, l3, l4] st σ Q ↔ mw_WP d 21 32 [l0, some (jR x), l2, l3, l4] (jR x :: st) σ Q := WP_aload_n mq21 dd21_31 rfl
theorem dd21_32 : decode cX3_findRows 32 = .ok (.aload_n 0, 1) := by decide +kernel
theorem ww21_32 {d : Nat} {l1 l2 l3 l4 : Option mw_V} {x : Nat} {st : List mw_V} {σ : mw_S} {Q : Option mw_V → mw_S → Prop} : mw_WP d 21 32 [some (jR x), l1, l2, l3, l4] st σ Q ↔ mw_WP d 21 33 [some (jR x), l1, l2, l3, l4] (jR x :: st) σ Q := WP_aload_n mq21 dd21_32 rfl
theorem dd21_33 : decode cX3_findRows 33 = .ok (.getfield 13, 3) := by decide +kernel
theorem ww21_33 {d : Nat} {l0 l1 l2 l3 l4 : Option mw_V} {st : List mw_V} {σ : mw_S} {Q : Option mw_V → mw_S → Prop} : mw_WP d 21 33 [l0, l1, l2, l3, l4] (jR 55 :: st) σ Q ↔ mw_WP d 21 36 [l0, l1, l2, l3, l4] (jR 56 :: st) σ Q := WP_getR (ci := 2) (k := 4) mq21 dd21_33 (by decide) rfl
theorem dd21_36 : decode cX3_findRows 36 = .ok (.iconst 0, 1) := by decide +kernel
theorem ww21_36 {d : Nat} {l0 l1 l2 l3 l4 : Option mw_V} {st : List mw_V} {σ : mw_S} {Q : Option mw_V → mw_S → Prop} : mw_WP d 21 36 [l0, l1, l2, l3, l4] st σ Q ↔ mw_WP d 21 37 [l0, l1, l2, l3, l4] (jI (0) :: st) σ Q := WP_iconst mq21 dd21_36 (by decide)
theorem dd21_37 : decode cX3_findRows 37 = .ok (.aaload, 1) := by decide +kernel
theorem ww21_37 {d : Nat} {l0 l1 l2 l3 l4 : Option mw_V} {z : Int} {a : Nat} {st : List mw_V} {σ : mw_S} {Q : Option mw_V → mw_S → Prop} : mw_WP d 21 37 [l0, l1, l2, l3, l4] (jI z :: jR a :: st) σ Q ↔ ((0 ≤ z ∧ z < (mw_rows a).length) ∧ mw_WP d 21 38 [l0, l1, l2, l3, l4] (jR ((mw_rows a).getD z.toNat 0) :: st) σ Q) := WP_aaload mq21 dd21_37
theorem dd21_38 : decode cX3_findRows 38 = .ok (.invokestatic 56, 3) := by decide +kernel
theorem ww21_38 {d : Nat} {l0 l1 l2 l3 l4 : Option mw_V} {v0 v1 : mw_V} {st : List mw_V} {σ : mw_S} {Q : Option mw_V → mw_S → Prop} (h8 : (st.map mw_cat).sum ≤ 8) : mw_WP d 21 38 [l0, l1, l2, l3, l4] (v1 :: v0 :: st) σ Q ↔ mw_Call d 169 [v0, v1] σ (fun r1 s1 => mw_WP d 21 41 [l0, l1, l2, l3, l4] (r1.toList ++ st) s1 Q) := WP_invn (as := [v1, v0]) mq21 dd21_38 (by decide) (by decide) mq169 rfl rfl h8
theorem dd21_41 : decode cX3_findRows 41 = .ok (.aload_n 0, 1) := by decide +kernel
theorem ww21_41 {d : Nat} {l1 l2 l3 l4 : Option mw_V} {x : Nat} {st : List mw_V} {σ : mw_S} {Q : Option mw_V → mw_S → Prop} : mw_WP d 21 41 [some (jR x), l1, l2, l3, l4] st σ Q ↔ mw_WP d 21 42 [some (jR x), l1, l2, l3, l4] (jR x :: st) σ Q := WP_aload_n mq21 dd21_41 rfl
theorem dd21_42 : decode cX3_findRows 42 = .ok (.iconst 0, 1) := by decide +kernel
theorem ww21_42 {d : Nat} {l0 l1 l2 l3 l4 : Option mw_V} {st : List mw_V} {σ : mw_S} {Q : Option mw_V → mw_S → Prop} : mw_WP d 21 42 [l0, l1, l2, l3, l4] st σ Q ↔ mw_WP d 21 43 [l0, l1, l2, l3, l4] (jI (0) :: st) σ Q := WP_iconst mq21 dd21_42 (by decide)
theorem dd21_43 : decode cX3_findRows 43 = .ok (.iconst 0, 1) := by decide +kernel
theorem ww21_43 {d : Nat} {l0 l1 l2 l3 l4 : Option mw_V} {st : List mw_V} {σ : mw_S} {Q : Option mw_V → mw_S → Prop} : mw_WP d 21 43 [l0, l1, l2, l3, l4] st σ Q ↔ mw_WP d 21 44 [l0, l1, l2, l3, l4] (jI (0) :: st) σ Q := WP_iconst mq21 dd21_43 (by decide)
theorem dd21_44 : decode cX3_findRows 44 = .ok (.invokevirtual 60, 3) := by decide +kernel
theorem ww21_44 {d : Nat} {l0 l1 l2 l3 l4 : Option mw_V} {v0 v1 : mw_V} {a : Nat} {st : List mw_V} {σ : mw_S} {Q : Option mw_V → mw_S → Prop} (hr : mw_rc a = 3) (h8 : (st.map mw_cat).sum ≤ 8) : mw_WP d 21 44 [l0, l1, l2, l3, l4] (v1 :: v0 :: jR a :: st) σ Q ↔ mw_Call d 22 [jR a, v0, v1] σ (fun r1 s1 => mw_WP d 21 47 [l0, l1, l2, l3, l4] (r1.toList ++ st) s1 Q) := WP_inv (as := [v1, v0]) mq21 dd21_44 (by decide) mq22 rfl hr h8
theorem dd21_47 : decode cX3_findRows 47 = .ok (.return_, 1) := by decide +kernel
theorem ww21_47 {d : Nat} {l0 l1 l2 l3 l4 : Option mw_V} {σ : mw_S} {Q : Option mw_V → mw_S → Prop} : mw_WP d 21 47 [l0, l1, l2, l3, l4] [] σ Q ↔ Q none σ := WP_return mq21 dd21_47 rfl
theorem ee22 {d : Nat} {a : Nat} {z0 : Int} {z1 : Int} {σ : mw_S} {Q : Option mw_V → mw_S → Prop} : mw_Call (d + 1) 22 [jR a, jI z0, jI z1] σ Q ↔ mw_WP d 22 0 [some (jR a), some (jI z0), some (jI z1), none, none] [] σ Q := CL_u mq22 (Nat.le_of_ble_eq_true rfl) rfl
theorem dd22_0 : decode cX3_findFrom 0 = .ok (.iload_n 1, 1) := by decide +kernel
theorem ww22_0 {d : Nat} {l0 l2 l3 l4 : Option mw_V} {x : Int} {st : List mw_V} {σ : mw_S} {Q : Option mw_V → mw_S → Prop} : mw_WP d 22 0 [l0, some (jI x), l2, l3, l4] st σ Q ↔ mw_WP d 22 1 [l0, some (jI x), l2, l3, l4] (jI x :: st) σ Q := WP_iload_n mq22 dd22_0 rfl
theorem dd22_1 : decode cX3_findFrom 1 = .ok (.aload_n 0, 1) := by decide +kernel
theorem ww22_1 {d : Nat} {l1 l2 l3 l4 : Option mw_V} {x : Nat} {st : List mw_V} {σ : mw_S} {Q : Option mw_V → mw_S → Prop} : mw_WP d 22 1 [some (jR x), l1, l2, l3, l4] st σ Q ↔ mw_WP d 22 2 [some (jR x), l1, l2, l3, l4] (jR x :: st) σ Q := WP_aload_n mq22 dd22_1 rfl
theorem dd22_2 : decode cX3_findFrom 2 = .ok (.getfield 35, 3) := by decide +kernel
theorem ww22_2 {d : Nat} {l0 l1 l2 l3 l4 : Option mw_V} {st : List mw_V} {σ : mw_S} {Q : Option mw_V → mw_S → Prop} : mw_WP d 22 2 [l0, l1, l2, l3, l4] (jR 55 :: st) σ Q ↔ mw_WP d 22 5 [l0, l1, l2, l3, l4] (jI (σ 55 9) :: st) σ Q := WP_getI (ci := 2) (k := 9) mq22 dd22_2 (by decide) (Or.inl rfl)
theorem dd22_5 : decode cX3_findFrom 5 = .ok (.if_icmp .gt 8, 3) := by decide +kernel
theorem ww22_5 {d : Nat} {l0 l1 l2 l3 l4 : Option mw_V} {x y : Int} {st : List mw_V} {σ : mw_S} {Q : Option mw_V → mw_S → Prop} : mw_WP d 22 5 [l0, l1, l2, l3, l4] (jI y :: jI x :: st) σ Q ↔ (if y < x then mw_WP d 22 13 [l0, l1, l2, l3, l4] st σ Q else mw_WP d 22 8 [l0, l1, l2, l3, l4] st σ Q) := WP_icmp_gt mq22 dd22_5 (by decide)
theorem dd22_8 : decode cX3_findFrom 8 = .ok (.iload_n 1, 1) := by decide +kernel
theorem ww22_8 {d : Nat} {l0 l2 l3 l4 : Option mw_V} {x : Int} {st : List mw_V} {σ : mw_S} {Q : Option mw_V → mw_S → Prop} : mw_WP d 22 8 [l0, some (jI x), l2, l3, l4] st σ Q ↔ mw_WP d 22 9 [l0, some (jI x), l2, l3, l4] (jI x :: st) σ Q := WP_iload_n mq22 dd22_8 rfl
theorem dd22_9 : decode cX3_findFrom 9 = .ok (.iconst 5, 1) := by decide +kernel
theorem ww22_9 {d : Nat} {l0 l1 l2 l3 l4 : Option mw_V} {st : List mw_V} {σ : mw_S} {Q : Option mw_V → mw_S → Prop} : mw_WP d 22 9 [l0, l1, l2, l3, l4] st σ Q ↔ mw_WP d 22 10 [l0, l1, l2, l3, l4] (jI (5) :: st) σ Q := WP_iconst mq22 dd22_9 (by decide)
theorem dd22_10 : decode cX3_findFrom 10 = .ok (.if_icmp .lt 10, 3) := by decide +kernel
theorem ww22_10 {d : Nat} {l0 l1 l2 l3 l4 : Option mw_V} {x y : Int} {st : List mw_V} {σ : mw_S} {Q : Option mw_V → mw_S → Prop} : mw_WP d 22 10 [l0, l1, l2, l3, l4] (jI y :: jI x :: st) σ Q ↔ (if x < y then mw_WP d 22 20 [l0, l1, l2, l3, l4] st σ Q else mw_WP d 22 13 [l0, l1, l2, l3, l4] st σ Q) := WP_icmp_lt mq22 dd22_10 (by decide)
theorem dd22_13 : decode cX3_findFrom 13 = .ok (.aload_n 0, 1) := by decide +kernel
theorem ww22_13 {d : Nat} {l1 l2 l3 l4 : Option mw_V} {x : Nat} {st : List mw_V} {σ : mw_S} {Q : Option mw_V → mw_S → Prop} : mw_WP d 22 13 [some (jR x), l1, l2, l3, l4] st σ Q ↔ mw_WP d 22 14 [some (jR x), l1, l2, l3, l4] (jR x :: st) σ Q := WP_aload_n mq22 dd22_13 rfl
theorem dd22_14 : decode cX3_findFrom 14 = .ok (.iload_n 1, 1) := by decide +kernel
theorem ww22_14 {d : Nat} {l0 l2 l3 l4 : Option mw_V} {x : Int} {st : List mw_V} {σ : mw_S} {Q : Option mw_V → mw_S → Prop} : mw_WP d 22 14 [l0, some (jI x), l2, l3, l4] st σ Q ↔ mw_WP d 22 15 [l0, some (jI x), l2, l3, l4] (jI x :: st) σ Q := WP_iload_n mq22 dd22_14 rfl
theorem dd22_15 : decode cX3_findFrom 15 = .ok (.iload_n 2, 1) := by decide +kernel
theorem ww22_15 {d : Nat} {l0 l1 l3 l4 : Option mw_V} {x : Int} {st : List mw_V} {σ : mw_S} {Q : Option mw_V → mw_S → Prop} : mw_WP d 22 15 [l0, l1, some (jI x), l3, l4] st σ Q ↔ mw_WP d 22 16 [l0, l1, some (jI x), l3, l4] (jI x :: st) σ Q := WP_iload_n mq22 dd22_15 rfl
theorem dd22_16 : decode cX3_findFrom 16 = .ok (.invokevirtual 64, 3) := by decide +kernel
theorem ww22_16 {d : Nat} {l0 l1 l2 l3 l4 : Option mw_V} {v0 v1 : mw_V} {a : Nat} {st : List mw_V} {σ : mw_S} {Q : Option mw_V → mw_S → Prop} (hr : mw_rc a = 3) (h8 : (st.map mw_cat).sum ≤ 8) : mw_WP d 22 16 [l0, l1, l2, l3, l4] (v1 :: v0 :: jR a :: st) σ Q ↔ mw_Call d 24 [jR a, v0, v1] σ (fun r1 s1 => mw_WP d 22 19 [l0, l1, l2, l3, l4] (r1.toList ++ st) s1 Q) := WP_inv (as := [v1, v0]) mq22 dd22_16 (by decide) mq24 rfl hr h8
theorem dd22_19 : decode cX3_findFrom 19 = .ok (.return_, 1) := by decide +kernel
theorem ww22_19 {d : Nat} {l0 l1 l2 l3 l4 : Option mw_V} {σ : mw_S} {Q : Option mw_V → mw_S → Prop} : mw_WP d 22 19 [l0, l1, l2, l3, l4] [] σ Q ↔ Q none σ := WP_return mq22 dd22_19 rfl
theorem dd22_20 : decode cX3_findFrom 20 = .ok (.iload_n 1, 1) := by decide +kernel
theorem ww22_20 {d : Nat} {l0 l2 l3 l4 : Option mw_V} {x : Int} {st : List mw_V} {σ : mw_S} {Q : Option mw_V → mw_S → Prop} : mw_WP d 22 20 [l0, some (jI x), l2, l3, l4] st σ Q ↔ mw_WP d 22 21 [l0, some (jI x), l2, l3, l4] (jI x :: st) σ Q := WP_iload_n mq22 dd22_20 rfl
theorem dd22_21 : decode cX3_findFrom 21 = .ok (.aload_n 0, 1) := by decide +kernel
theorem ww22_21 {d : Nat} {l1 l2 l3 l4 : Option mw_V} {x : Nat} {st : List mw_V} {σ : mw_S} {Q : Option mw_V → mw_S → Prop} : mw_WP d 22 21 [some (jR x), l1, l2, l3, l4] st σ Q ↔ mw_WP d 22 22 [some (jR x), l1, l2, l3, l4] (jR x :: st) σ Q := WP_aload_n mq22 dd22_21 rfl
theorem dd22_22 : decode cX3_findFrom 22 = .ok (.getfield 35, 3) := by decide +kernel
theorem ww22_22 {d : Nat} {l0 l1 l2 l3 l4 : Option mw_V} {st : List mw_V} {σ : mw_S} {Q : Option mw_V → mw_S → Prop} : mw_WP d 22 22 [l0, l1, l2, l3, l4] (jR 55 :: st) σ Q ↔ mw_WP d 22 25 [l0, l1, l2, l3, l4] (jI (σ 55 9) :: st) σ Q := WP_getI (ci := 2) (k := 9) mq22 dd22_22 (by decide) (Or.inl rfl)
theorem dd22_25 : decode cX3_findFrom 25 = .ok (.if_icmp .ne 10, 3) := by decide +kernel
theorem ww22_25 {d : Nat} {l0 l1 l2 l3 l4 : Option mw_V} {x y : Int} {st : List mw_V} {σ : mw_S} {Q : Option mw_V → mw_S → Prop} : mw_WP d 22 25 [l0, l1, l2, l3, l4] (jI y :: jI x :: st) σ Q ↔ (if ¬ x = y then mw_WP d 22 35 [l0, l1, l2, l3, l4] st σ Q else mw_WP d 22 28 [l0, l1, l2, l3, l4] st σ Q) := WP_icmp_ne mq22 dd22_25 (by decide)
theorem dd22_28 : decode cX3_findFrom 28 = .ok (.aload_n 0, 1) := by decide +kernel
theorem ww22_28 {d : Nat} {l1 l2 l3 l4 : Option mw_V} {x : Nat} {st : List mw_V} {σ : mw_S} {Q : Option mw_V → mw_S → Prop} : mw_WP d 22 28 [some (jR x), l1, l2, l3, l4] st σ Q ↔ mw_WP d 22 29 [some (jR x), l1, l2, l3, l4] (jR x :: st) σ Q := WP_aload_n mq22 dd22_28 rfl
theorem dd22_29 : decode cX3_findFrom 29 = .ok (.iload_n 1, 1) := by decide +kernel
theorem ww22_29 {d : Nat} {l0 l2 l3 l4 : Option mw_V} {x : Int} {st : List mw_V} {σ : mw_S} {Q : Option mw_V → mw_S → Prop} : mw_WP d 22 29 [l0, some (jI x), l2, l3, l4] st σ Q ↔ mw_WP d 22 30 [l0, some (jI x), l2, l3, l4] (jI x :: st) σ Q := WP_iload_n mq22 dd22_29 rfl
theorem dd22_30 : decode cX3_findFrom 30 = .ok (.iload_n 2, 1) := by decide +kernel
theorem ww22_30 {d : Nat} {l0 l1 l3 l4 : Option mw_V} {x : Int} {st : List mw_V} {σ : mw_S} {Q : Option mw_V → mw_S → Prop} : mw_WP d 22 30 [l0, l1, some (jI x), l3, l4] st σ Q ↔ mw_WP d 22 31 [l0, l1, some (jI x), l3, l4] (jI x :: st) σ Q := WP_iload_n mq22 dd22_30 rfl
theorem dd22_31 : decode cX3_findFrom 31 = .ok (.invokevirtual 67, 3) := by decide +kernel
theorem ww22_31 {d : Nat} {l0 l1 l2 l3 l4 : Option mw_V} {v0 v1 : mw_V} {a : Nat} {st : List mw_V} {σ : mw_S} {Q : Option mw_V → mw_S → Prop} (hr : mw_rc a = 3) (h8 : (st.map mw_cat).sum ≤ 8) : mw_WP d 22 31 [l0, l1, l2, l3, l4] (v1 :: v0 :: jR a :: st) σ Q ↔ mw_Call d 23 [jR a, v0, v1] σ (fun r1 s1 => mw_WP d 22 34 [l0, l1, l2, l3, l4] (r1.toList ++ st) s1 Q) := WP_inv (as := [v1, v0]) mq22 dd22_31 (by decide) mq23 rfl hr h8
theorem dd22_34 : decode cX3_findFrom 34 = .ok (.return_, 1) := by decide +kernel
theorem ww22_34 {d : Nat} {l0 l1 l2 l3 l4 : Option mw_V} {σ : mw_S} {Q : Option mw_V → mw_S → Prop} : mw_WP d 22 34 [l0, l1, l2, l3, l4] [] σ Q ↔ Q none σ := WP_return mq22 dd22_34 rfl
theorem dd22_35 : decode cX3_findFrom 35 = .ok (.iconst 0, 1) := by decide +kernel
theorem ww22_35 {d : Nat} {l0 l1 l2 l3 l4 : Option mw_V} {st : List mw_V} {σ : mw_S} {Q : Option mw_V → mw_S → Prop} : mw_WP d 22 35 [l0, l1, l2, l3, l4] st σ Q ↔ mw_WP d 22 36 [l0, l1, l2, l3, l4] (jI (0) :: st) σ Q := WP_iconst mq22 dd22_35 (by decide)
theorem dd22_36 : decode cX3_findFrom 36 = .ok (.istore_n 3, 1) := by decide +kernel
theorem ww22_36 {d : Nat} {l0 l1 l2 l3 l4 : Option mw_V} {x : Int} {st : List mw_V} {σ : mw_S} {Q : Option mw_V → mw_S → Prop} (h : mw_nlo l2 = true) : mw_WP d 22 36 [l0, l1, l2, l3, l4] (jI x :: st) σ Q ↔ mw_WP d 22 37 [l0, l1, l2, some (jI x), l4] st σ Q := WP_istore_n mq22 dd22_36 (Nat.le_of_ble_eq_true rfl) (mw_nl_of (i := 2) rfl h) rfl
theorem dd22_37 : decode cX3_findFrom 37 = .ok (.iload_n 3, 1) := by decide +kernel
theorem ww22_37 {d : Nat} {l0 l1 l2 l4 : Option mw_V} {x : Int} {st : List mw_V} {σ : mw_S} {Q : Option mw_V → mw_S → Prop} : mw_WP d 22 37 [l0, l1, l2, some (jI x), l4] st σ Q ↔ mw_WP d 22 38 [l0, l1, l2, some (jI x), l4] (jI x :: st) σ Q := WP_iload_n mq22 dd22_37 rfl
theorem dd22_38 : decode cX3_findFrom 38 = .ok (.bipush 9, 2) := by decide +kernel
theorem ww22_38 {d : Nat} {l0 l1 l2 l3 l4 : Option mw_V} {st : List mw_V} {σ : mw_S} {Q : Option mw_V → mw_S → Prop} : mw_WP d 22 38 [l0, l1, l2, l3, l4] st σ Q ↔ mw_WP d 22 40 [l0, l1, l2, l3, l4] (jI (9) :: st) σ Q := WP_bipush mq22 dd22_38 (by decide)
theorem dd22_40 : decode cX3_findFrom 40 = .ok (.if_icmp .ge 110, 3) := by decide +kernel
theorem ww22_40 {d : Nat} {l0 l1 l2 l3 l4 : Option mw_V} {x y : Int} {st : List mw_V} {σ : mw_S} {Q : Option mw_V → mw_S → Prop} : mw_WP d 22 40 [l0, l1, l2, l3, l4] (jI y :: jI x :: st) σ Q ↔ (if y ≤ x then mw_WP d 22 150 [l0, l1, l2, l3, l4] st σ Q else mw_WP d 22 43 [l0, l1, l2, l3, l4] st σ Q) := WP_icmp_ge mq22 dd22_40 (by decide)
theorem dd22_43 : decode cX3_findFrom 43 = .ok (.iload_n 1, 1) := by decide +kernel
theorem ww22_43 {d : Nat} {l0 l2 l3 l4 : Option mw_V} {x : Int} {st : List mw_V} {σ : mw_S} {Q : Option mw_V → mw_S → Prop} : mw_WP d 22 43 [l0, some (jI x), l2, l3, l4] st σ Q ↔ mw_WP d 22 44 [l0, some (jI x), l2, l3, l4] (jI x :: st) σ Q := WP_iload_n mq22 dd22_43 rfl
theorem dd22_44 : decode cX3_findFrom 44 = .ok (.iconst 1, 1) := by decide +kernel
theorem ww22_44 {d : Nat} {l0 l1 l2 l3 l4 : Option mw_V} {st : List mw_V} {σ : mw_S} {Q : Option mw_V → mw_S → Prop} : mw_WP d 22 44 [l0, l1, l2, l3, l4] st σ Q ↔ mw_WP d 22 45 [l0, l1, l2, l3, l4] (jI (1) :: st) σ Q := WP_iconst mq22 dd22_44 (by decide)
theorem dd22_45 : decode cX3_findFrom 45 = .ok (.iadd, 1) := by decide +kernel
theorem ww22_45 {d : Nat} {l0 l1 l2 l3 l4 : Option mw_V} {x y : Int} {st : List mw_V} {σ : mw_S} {Q : Option mw_V → mw_S → Prop} : mw_WP d 22 45 [l0, l1, l2, l3, l4] (jI y :: jI x :: st) σ Q ↔ mw_WP d 22 46 [l0, l1, l2, l3, l4] (jI (w32 (x + y)) :: st) σ Q := WP_iadd mq22 dd22_45
theorem dd22_46 : decode cX3_findFrom 46 = .ok (.iconst 5, 1) := by decide +kernel
theorem ww22_46 {d : Nat} {l0 l1 l2 l3 l4 : Option mw_V} {st : List mw_V} {σ : mw_S} {Q : Option mw_V → mw_S → Prop} : mw_WP d 22 46 [l0, l1, l2, l3, l4] st σ Q ↔ mw_WP d 22 47 [l0, l1, l2, l3, l4] (jI (5) :: st) σ Q := WP_iconst mq22 dd22_46 (by decide)
theorem dd22_47 : decode cX3_findFrom 47 = .ok (.if_icmp .ge 103, 3) := by decide +kernel
theorem ww22_47 {d : Nat} {l0 l1 l2 l3 l4 : Option mw_V} {x y : Int} {st : List mw_V} {σ : mw_S} {Q : Option mw_V → mw_S → Prop} : mw_WP d 22 47 [l0, l1, l2, l3, l4] (jI y :: jI x :: st) σ Q ↔ (if y ≤ x then mw_WP d 22 150 [l0, l1, l2, l3, l4] st σ Q else mw_WP d 22 50 [l0, l1, l2, l3, l4] st σ Q) := WP_icmp_ge mq22 dd22_47 (by decide)
theorem dd22_50 : decode cX3_findFrom 50 = .ok (.aload_n 0, 1) := by decide +kernel
theorem ww22_50 {d : Nat} {l1 l2 l3 l4 : Option mw_V} {x : Nat} {st : List mw_V} {σ : mw_S} {Q : Option mw_V → mw_S → Prop} : mw_WP d 22 50 [some (jR x), l1, l2, l3, l4] st σ Q ↔ mw_WP d 22 51 [some (jR x), l1, l2, l3, l4] (jR x :: st) σ Q := WP_aload_n mq22 dd22_50 rfl
theorem dd22_51 : decode cX3_findFrom 51 = .ok (.getfield 13, 3) := by decide +kernel
theorem ww22_51 {d : Nat} {l0 l1 l2 l3 l4 : Option mw_V} {st : List mw_V} {σ : mw_S} {Q : Option mw_V → mw_S → Prop} : mw_WP d 22 51 [l0, l1, l2, l3, l4] (jR 55 :: st) σ Q ↔ mw_WP d 22 54 [l0, l1, l2, l3, l4] (jR 56 :: st) σ Q := WP_getR (ci := 2) (k := 4) mq22 dd22_51 (by decide) rfl
theorem dd22_54 : decode cX3_findFrom 54 = .ok (.iload_n 1, 1) := by decide +kernel
theorem ww22_54 {d : Nat} {l0 l2 l3 l4 : Option mw_V} {x : Int} {st : List mw_V} {σ : mw_S} {Q : Option mw_V → mw_S → Prop} : mw_WP d 22 54 [l0, some (jI x), l2, l3, l4] st σ Q ↔ mw_WP d 22 55 [l0, some (jI x), l2, l3, l4] (jI x :: st) σ Q := WP_iload_n mq22 dd22_54 rfl
theorem dd22_55 : decode cX3_findFrom 55 = .ok (.aaload, 1) := by decide +kernel
theorem ww22_55 {d : Nat} {l0 l1 l2 l3 l4 : Option mw_V} {z : Int} {a : Nat} {st : List mw_V} {σ : mw_S} {Q : Option mw_V → mw_S → Prop} : mw_WP d 22 55 [l0, l1, l2, l3, l4] (jI z :: jR a :: st) σ Q ↔ ((0 ≤ z ∧ z < (mw_rows a).length) ∧ mw_WP d 22 56 [l0, l1, l2, l3, l4] (jR ((mw_rows a).getD z.toNat 0) :: st) σ Q) := WP_aaload mq22 dd22_55
theorem dd22_56 : decode cX3_findFrom 56 = .ok (.aload_n 0, 1) := by decide +kernel
theorem ww22_56 {d : Nat} {l1 l2 l3 l4 : Option mw_V} {x : Nat} {st : List mw_V} {σ : mw_S} {Q : Option mw_V → mw_S → Prop} : mw_WP d 22 56 [some (jR x), l1, l2, l3, l4] st σ Q ↔ mw_WP d 22 57 [some (jR x), l1, l2, l3, l4] (jR x :: st) σ Q := WP_aload_n mq22 dd22_56 rfl
theorem dd22_57 : decode cX3_findFrom 57 = .ok (.getfield 13, 3) := by decide +kernel
theorem ww22_57 {d : Nat} {l0 l1 l2 l3 l4 : Option mw_V} {st : List mw_V} {σ : mw_S} {Q : Option mw_V → mw_S → Prop} : mw_WP d 22 57 [l0, l1, l2, l3, l4] (jR 55 :: st) σ Q ↔ mw_WP d 22 60 [l0, l1, l2, l3, l4] (jR 56 :: st) σ Q := WP_getR (ci := 2) (k := 4) mq22 dd22_57 (by decide) rfl
theorem dd22_60 : decode cX3_findFrom 60 = .ok (.iload_n 1, 1) := by decide +kernel
theorem ww22_60 {d : Nat} {l0 l2 l3 l4 : Option mw_V} {x : Int} {st : List mw_V} {σ : mw_S} {Q : Option mw_V → mw_S → Prop} : mw_WP d 22 60 [l0, some (jI x), l2, l3, l4] st σ Q ↔ mw_WP d 22 61 [l0, some (jI x), l2, l3, l4] (jI x :: st) σ Q := WP_iload_n mq22 dd22_60 rfl
theorem dd22_61 : decode cX3_findFrom 61 = .ok (.iconst 1, 1) := by decide +kernel
theorem ww22_61 {d : Nat} {l0 l1 l2 l3 l4 : Option mw_V} {st : List mw_V} {σ : mw_S} {Q : Option mw_V → mw_S → Prop} : mw_WP d 22 61 [l0, l1, l2, l3, l4] st σ Q ↔ mw_WP d 22 62 [l0, l1, l2, l3, l4] (jI (1) :: st) σ Q := WP_iconst mq22 dd22_61 (by decide)
theorem dd22_62 : decode cX3_findFrom 62 = .ok (.iadd, 1) := by decide +kernel
theorem ww22_62 {d : Nat} {l0 l1 l2 l3 l4 : Option mw_V} {x y : Int} {st : List mw_V} {σ : mw_S} {Q : Option mw_V → mw_S → Prop} : mw_WP d 22 62 [l0, l1, l2, l3, l4] (jI y :: jI x :: st) σ Q ↔ mw_WP d 22 63 [l0, l1, l2, l3, l4] (jI (w32 (x + y)) :: st) σ Q := WP_iadd mq22 dd22_62
theorem dd22_63 : decode cX3_findFrom 63 = .ok (.aaload, 1) := by decide +kernel
theorem ww22_63 {d : Nat} {l0 l1 l2 l3 l4 : Option mw_V} {z : Int} {a : Nat} {st : List mw_V} {σ : mw_S} {Q : Option mw_V → mw_S → Prop} : mw_WP d 22 63 [l0, l1, l2, l3, l4] (jI z :: jR a :: st) σ Q ↔ ((0 ≤ z ∧ z < (mw_rows a).length) ∧ mw_WP d 22 64 [l0, l1, l2, l3, l4] (jR ((mw_rows a).getD z.toNat 0) :: st) σ Q) := WP_aaload mq22 dd22_63
theorem dd22_64 : decode cX3_findFrom 64 = .ok (.invokestatic 56, 3) := by decide +kernel
theorem ww22_64 {d : Nat} {l0 l1 l2 l3 l4 : Option mw_V} {v0 v1 : mw_V} {st : List mw_V} {σ : mw_S} {Q : Option mw_V → mw_S → Prop} (h8 : (st.map mw_cat).sum ≤ 8) : mw_WP d 22 64 [l0, l1, l2, l3, l4] (v1 :: v0 :: st) σ Q ↔ mw_Call d 169 [v0, v1] σ (fun r1 s1 => mw_WP d 22 67 [l0, l1, l2, l3, l4] (r1.toList ++ st) s1 Q) := WP_invn (as := [v1, v0]) mq22 dd22_64 (by decide) (by decide) mq169 rfl rfl h8
theorem dd22_67 : decode cX3_findFrom 67 = .ok (.aload_n 0, 1) := by decide +kernel
theorem ww22_67 {d : Nat} {l1 l2 l3 l4 : Option mw_V} {x : Nat} {st : List mw_V} {σ : mw_S} {Q : Option mw_V → mw_S → Prop} : mw_WP d 22 67 [some (jR x), l1, l2, l3, l4] st σ Q ↔ mw_WP d 22 68 [some (jR x), l1, l2, l3, l4] (jR x :: st) σ Q := WP_aload_n mq22 dd22_67 rfl
theorem dd22_68 : decode cX3_findFrom 68 = .ok (.getfield 27, 3) := by decide +kernel
theorem ww22_68 {d : Nat} {l0 l1 l2 l3 l4 : Option mw_V} {st : List mw_V} {σ : mw_S} {Q : Option mw_V → mw_S → Prop} : mw_WP d 22 68 [l0, l1, l2, l3, l4] (jR 55 :: st) σ Q ↔ mw_WP d 22 71 [l0, l1, l2, l3, l4] (jR 22 :: st) σ Q := WP_getR (ci := 2) (k := 3) mq22 dd22_68 (by decide) rfl
theorem dd22_71 : decode cX3_findFrom 71 = .ok (.aload_n 0, 1) := by decide +kernel
theorem ww22_71 {d : Nat} {l1 l2 l3 l4 : Option mw_V} {x : Nat} {st : List mw_V} {σ : mw_S} {Q : Option mw_V → mw_S → Prop} : mw_WP d 22 71 [some (jR x), l1, l2, l3, l4] st σ Q ↔ mw_WP d 22 72 [some (jR x), l1, l2, l3, l4] (jR x :: st) σ Q := WP_aload_n mq22 dd22_71 rfl
theorem dd22_72 : decode cX3_findFrom 72 = .ok (.getfield 13, 3) := by decide +kernel
theorem ww22_72 {d : Nat} {l0 l1 l2 l3 l4 : Option mw_V} {st : List mw_V} {σ : mw_S} {Q : Option mw_V → mw_S → Prop} : mw_WP d 22 72 [l0, l1, l2, l3, l4] (jR 55 :: st) σ Q ↔ mw_WP d 22 75 [l0, l1, l2, l3, l4] (jR 56 :: st) σ Q := WP_getR (ci := 2) (k := 4) mq22 dd22_72 (by decide) rfl
theorem dd22_75 : decode cX3_findFrom 75 = .ok (.iload_n 1, 1) := by decide +kernel
theorem ww22_75 {d : Nat} {l0 l2 l3 l4 : Option mw_V} {x : Int} {st : List mw_V} {σ : mw_S} {Q : Option mw_V → mw_S → Prop} : mw_WP d 22 75 [l0, some (jI x), l2, l3, l4] st σ Q ↔ mw_WP d 22 76 [l0, some (jI x), l2, l3, l4] (jI x :: st) σ Q := WP_iload_n mq22 dd22_75 rfl
theorem dd22_76 : decode cX3_findFrom 76 = .ok (.iconst 1, 1) := by decide +kernel
theorem ww22_76 {d : Nat} {l0 l1 l2 l3 l4 : Option mw_V} {st : List mw_V} {σ : mw_S} {Q : Option mw_V → mw_S → Prop} : mw_WP d 22 76 [l0, l1, l2, l3, l4] st σ Q ↔ mw_WP d 22 77 [l0, l1, l2, l3, l4] (jI (1) :: st) σ Q := WP_iconst mq22 dd22_76 (by decide)
theorem dd22_77 : decode cX3_findFrom 77 = .ok (.iadd, 1) := by decide +kernel
theorem ww22_77 {d : Nat} {l0 l1 l2 l3 l4 : Option mw_V} {x y : Int} {st : List mw_V} {σ : mw_S} {Q : Option mw_V → mw_S → Prop} : mw_WP d 22 77 [l0, l1, l2, l3, l4] (jI y :: jI x :: st) σ Q ↔ mw_WP d 22 78 [l0, l1, l2, l3, l4] (jI (w32 (x + y)) :: st) σ Q := WP_iadd mq22 dd22_77
theorem dd22_78 : decode cX3_findFrom 78 = .ok (.aaload, 1) := by decide +kernel
theorem ww22_78 {d : Nat} {l0 l1 l2 l3 l4 : Option mw_V} {z : Int} {a : Nat} {st : List mw_V} {σ : mw_S} {Q : Option mw_V → mw_S → Prop} : mw_WP d 22 78 [l0, l1, l2, l3, l4] (jI z :: jR a :: st) σ Q ↔ ((0 ≤ z ∧ z < (mw_rows a).length) ∧ mw_WP d 22 79 [l0, l1, l2, l3, l4] (jR ((mw_rows a).getD z.toNat 0) :: st) σ Q) := WP_aaload mq22 dd22_78
theorem dd22_79 : decode cX3_findFrom 79 = .ok (.iload_n 3, 1) := by decide +kernel
theorem ww22_79 {d : Nat} {l0 l1 l2 l4 : Option mw_V} {x : Int} {st : List mw_V} {σ : mw_S} {Q : Option mw_V → mw_S → Prop} : mw_WP d 22 79 [l0, l1, l2, some (jI x), l4] st σ Q ↔ mw_WP d 22 80 [l0, l1, l2, some (jI x), l4] (jI x :: st) σ Q := WP_iload_n mq22 dd22_79 rfl
theorem dd22_80 : decode cX3_findFrom 80 = .ok (.getstatic 70, 3) := by decide +kernel
theorem ww22_80 {d : Nat} {l0 l1 l2 l3 l4 : Option mw_V} {st : List mw_V} {σ : mw_S} {Q : Option mw_V → mw_S → Prop} : mw_WP d 22 80 [l0, l1, l2, l3, l4] st σ Q ↔ mw_WP d 22 83 [l0, l1, l2, l3, l4] (jR 3000 :: st) σ Q := WP_gets0 mq22 dd22_80 (by decide)
theorem dd22_83 : decode cX3_findFrom 83 = .ok (.aload_n 0, 1) := by decide +kernel
theorem ww22_83 {d : Nat} {l1 l2 l3 l4 : Option mw_V} {x : Nat} {st : List mw_V} {σ : mw_S} {Q : Option mw_V → mw_S → Prop} : mw_WP d 22 83 [some (jR x), l1, l2, l3, l4] st σ Q ↔ mw_WP d 22 84 [some (jR x), l1, l2, l3, l4] (jR x :: st) σ Q := WP_aload_n mq22 dd22_83 rfl
theorem dd22_84 : decode cX3_findFrom 84 = .ok (.getfield 38, 3) := by decide +kernel
theorem ww22_84 {d : Nat} {l0 l1 l2 l3 l4 : Option mw_V} {st : List mw_V} {σ : mw_S} {Q : Option mw_V → mw_S → Prop} : mw_WP d 22 84 [l0, l1, l2, l3, l4] (jR 55 :: st) σ Q ↔ mw_WP d 22 87 [l0, l1, l2, l3, l4] (jI (σ 55 10) :: st) σ Q := WP_getI (ci := 2) (k := 10) mq22 dd22_84 (by decide) (Or.inl rfl)
theorem dd22_87 : decode cX3_findFrom 87 = .ok (.iaload, 1) := by decide +kernel
theorem ww22_87 {d : Nat} {l0 l1 l2 l3 l4 : Option mw_V} {z : Int} {a : Nat} {st : List mw_V} {σ : mw_S} {Q : Option mw_V → mw_S → Prop} : mw_WP d 22 87 [l0, l1, l2, l3, l4] (jI z :: jR a :: st) σ Q ↔ ((0 ≤ z ∧ z < mw_lenI a) ∧ mw_WP d 22 88 [l0, l1, l2, l3, l4] (jI (mw_rdI σ a z.toNat) :: st) σ Q) := WP_iaload mq22 dd22_87
theorem dd22_88 : decode cX3_findFrom 88 = .ok (.imul, 1) := by decide +kernel
theorem ww22_88 {d : Nat} {l0 l1 l2 l3 l4 : Option mw_V} {x y : Int} {st : List mw_V} {σ : mw_S} {Q : Option mw_V → mw_S → Prop} : mw_WP d 22 88 [l0, l1, l2, l3, l4] (jI y :: jI x :: st) σ Q ↔ mw_WP d 22 89 [l0, l1, l2, l3, l4] (jI (w32 (x * y)) :: st) σ Q := WP_imul mq22 dd22_88
theorem dd22_89 : decode cX3_findFrom 89 = .ok (.invokevirtual 73, 3) := by decide +kernel
theorem ww22_89 {d : Nat} {l0 l1 l2 l3 l4 : Option mw_V} {v0 v1 : mw_V} {a : Nat} {st : List mw_V} {σ : mw_S} {Q : Option mw_V → mw_S → Prop} (hr : mw_rc a = 9) (h8 : (st.map mw_cat).sum ≤ 8) : mw_WP d 22 89 [l0, l1, l2, l3, l4] (v1 :: v0 :: jR a :: st) σ Q ↔ mw_Call d 88 [jR a, v0, v1] σ (fun r1 s1 => mw_WP d 22 92 [l0, l1, l2, l3, l4] (r1.toList ++ st) s1 Q) := WP_inv (as := [v1, v0]) mq22 dd22_89 (by decide) mq88 rfl hr h8
theorem dd22_92 : decode cX3_findFrom 92 = .ok (.pop, 1) := by decide +kernel
theorem ww22_92 {d : Nat} {l0 l1 l2 l3 l4 : Option mw_V} {v : mw_V} {st : List mw_V} {σ : mw_S} {Q : Option mw_V → mw_S → Prop} (h : mw_cat v = 1) : mw_WP d 22 92 [l0, l1, l2, l3, l4] (v :: st) σ Q ↔ mw_WP d 22 93 [l0, l1, l2, l3, l4] st σ Q := WP_pop mq22 dd22_92 h
theorem dd22_93 : decode cX3_findFrom 93 = .ok (.aload_n 0, 1) := by decide +kernel
theorem ww22_93 {d : Nat} {l1 l2 l3 l4 : Option mw_V} {x : Nat} {st : List mw_V} {σ : mw_S} {Q : Option mw_V → mw_S → Prop} : mw_WP d 22 93 [some (jR x), l1, l2, l3, l4] st σ Q ↔ mw_WP d 22 94 [some (jR x), l1, l2, l3, l4] (jR x :: st) σ Q := WP_aload_n mq22 dd22_93 rfl
theorem dd22_94 : decode cX3_findFrom 94 = .ok (.getfield 13, 3) := by decide +kernel
theorem ww22_94 {d : Nat} {l0 l1 l2 l3 l4 : Option mw_V} {st : List mw_V} {σ : mw_S} {Q : Option mw_V → mw_S → Prop} : mw_WP d 22 94 [l0, l1, l2, l3, l4] (jR 55 :: st) σ Q ↔ mw_WP d 22 97 [l0, l1, l2, l3, l4] (jR 56 :: st) σ Q := WP_getR (ci := 2) (k := 4) mq22 dd22_94 (by decide) rfl
theorem dd22_97 : decode cX3_findFrom 97 = .ok (.iload_n 1, 1) := by decide +kernel
theorem ww22_97 {d : Nat} {l0 l2 l3 l4 : Option mw_V} {x : Int} {st : List mw_V} {σ : mw_S} {Q : Option mw_V → mw_S → Prop} : mw_WP d 22 97 [l0, some (jI x), l2, l3, l4] st σ Q ↔ mw_WP d 22 98 [l0, some (jI x), l2, l3, l4] (jI x :: st) σ Q := WP_iload_n mq22 dd22_97 rfl
theorem dd22_98 : decode cX3_findFrom 98 = .ok (.iconst 1, 1) := by decide +kernel
theorem ww22_98 {d : Nat} {l0 l1 l2 l3 l4 : Option mw_V} {st : List mw_V} {σ : mw_S} {Q : Option mw_V → mw_S → Prop} : mw_WP d 22 98 [l0, l1, l2, l3, l4] st σ Q ↔ mw_WP d 22 99 [l0, l1, l2, l3, l4] (jI (1) :: st) σ Q := WP_iconst mq22 dd22_98 (by decide)
theorem dd22_99 : decode cX3_findFrom 99 = .ok (.iadd, 1) := by decide +kernel
theorem ww22_99 {d : Nat} {l0 l1 l2 l3 l4 : Option mw_V} {x y : Int} {st : List mw_V} {σ : mw_S} {Q : Option mw_V → mw_S → Prop} : mw_WP d 22 99 [l0, l1, l2, l3, l4] (jI y :: jI x :: st) σ Q ↔ mw_WP d 22 100 [l0, l1, l2, l3, l4] (jI (w32 (x + y)) :: st) σ Q := WP_iadd mq22 dd22_99
theorem dd22_100 : decode cX3_findFrom 100 = .ok (.aaload, 1) := by decide +kernel
theorem ww22_100 {d : Nat} {l0 l1 l2 l3 l4 : Option mw_V} {z : Int} {a : Nat} {st : List mw_V} {σ : mw_S} {Q : Option mw_V → mw_S → Prop} : mw_WP d 22 100 [l0, l1, l2, l3, l4] (jI z :: jR a :: st) σ Q ↔ ((0 ≤ z ∧ z < (mw_rows a).length) ∧ mw_WP d 22 101 [l0, l1, l2, l3, l4] (jR ((mw_rows a).getD z.toNat 0) :: st) σ Q) := WP_aaload mq22 dd22_100
theorem dd22_101 : decode cX3_findFrom 101 = .ok (.iconst 3, 1) := by decide +kernel
theorem ww22_101 {d : Nat} {l0 l1 l2 l3 l4 : Option mw_V} {st : List mw_V} {σ : mw_S} {Q : Option mw_V → mw_S → Prop} : mw_WP d 22 101 [l0, l1, l2, l3, l4] st σ Q ↔ mw_WP d 22 102 [l0, l1, l2, l3, l4] (jI (3) :: st) σ Q := WP_iconst mq22 dd22_101 (by decide)
theorem dd22_102 : decode cX3_findFrom 102 = .ok (.aload_n 0, 1) := by decide +kernel
theorem ww22_102 {d : Nat} {l1 l2 l3 l4 : Option mw_V} {x : Nat} {st : List mw_V} {σ : mw_S} {Q : Option mw_V → mw_S → Prop} : mw_WP d 22 102 [some (jR x), l1, l2, l3, l4] st σ Q ↔ mw_WP d 22 103 [some (jR x), l1, l2, l3, l4] (jR x :: st) σ Q := WP_aload_n mq22 dd22_102 rfl
theorem dd22_103 : decode cX3_findFrom 103 = .ok (.getfield 38, 3) := by decide +kernel
theorem ww22_103 {d : Nat} {l0 l1 l2 l3 l4 : Option mw_V} {st : List mw_V} {σ : mw_S} {Q : Option mw_V → mw_S → Prop} : mw_WP d 22 103 [l0, l1, l2, l3, l4] (jR 55 :: st) σ Q ↔ mw_WP d 22 106 [l0, l1, l2, l3, l4] (jI (σ 55 10) :: st) σ Q := WP_getI (ci := 2) (k := 10) mq22 dd22_103 (by decide) (Or.inl rfl)
theorem dd22_106 : decode cX3_findFrom 106 = .ok (.iadd, 1) := by decide +kernel
theorem ww22_106 {d : Nat} {l0 l1 l2 l3 l4 : Option mw_V} {x y : Int} {st : List mw_V} {σ : mw_S} {Q : Option mw_V → mw_S → Prop} : mw_WP d 22 106 [l0, l1, l2, l3, l4] (jI y :: jI x :: st) σ Q ↔ mw_WP d 22 107 [l0, l1, l2, l3, l4] (jI (w32 (x + y)) :: st) σ Q := WP_iadd mq22 dd22_106
theorem dd22_107 : decode cX3_findFrom 107 = .ok (.iaload, 1) := by decide +kernel
theorem ww22_107 {d : Nat} {l0 l1 l2 l3 l4 : Option mw_V} {z : Int} {a : Nat} {st : List mw_V} {σ : mw_S} {Q : Option mw_V → mw_S → Prop} : mw_WP d 22 107 [l0, l1, l2, l3, l4] (jI z :: jR a :: st) σ Q ↔ ((0 ≤ z ∧ z < mw_lenI a) ∧ mw_WP d 22 108 [l0, l1, l2, l3, l4] (jI (mw_rdI σ a z.toNat) :: st) σ Q) := WP_iaload mq22 dd22_107
theorem dd22_108 : decode cX3_findFrom 108 = .ok (.istore 4, 2) := by decide +kernel
theorem ww22_108 {d : Nat} {l0 l1 l2 l3 l4 : Option mw_V} {x : Int} {st : List mw_V} {σ : mw_S} {Q : Option mw_V → mw_S → Prop} (h : mw_nlo l3 = true) : mw_WP d 22 108 [l0, l1, l2, l3, l4] (jI x :: st) σ Q ↔ mw_WP d 22 110 [l0, l1, l2, l3, some (jI x)] st σ Q := WP_istore mq22 dd22_108 (Nat.le_of_ble_eq_true rfl) (mw_nl_of (i := 3) rfl h) rfl
theorem dd22_110 : decode cX3_findFrom 110 = .ok (.aload_n 0, 1) := by decide +kernel
theorem ww22_110 {d : Nat} {l1 l2 l3 l4 : Option mw_V} {x : Nat} {st : List mw_V} {σ : mw_S} {Q : Option mw_V → mw_S → Prop} : mw_WP d 22 110 [some (jR x), l1, l2, l3, l4] st σ Q ↔ mw_WP d 22 111 [some (jR x), l1, l2, l3, l4] (jR x :: st) σ Q := WP_aload_n mq22 dd22_110 rfl
theorem dd22_111 : decode cX3_findFrom 111 = .ok (.getfield 16, 3) := by decide +kernel
theorem ww22_111 {d : Nat} {l0 l1 l2 l3 l4 : Option mw_V} {st : List mw_V} {σ : mw_S} {Q : Option mw_V → mw_S → Prop} : mw_WP d 22 111 [l0, l1, l2, l3, l4] (jR 55 :: st) σ Q ↔ mw_WP d 22 114 [l0, l1, l2, l3, l4] (jR 62 :: st) σ Q := WP_getR (ci := 2) (k := 5) mq22 dd22_111 (by decide) rfl
theorem dd22_114 : decode cX3_findFrom 114 = .ok (.iload_n 1, 1) := by decide +kernel
theorem ww22_114 {d : Nat} {l0 l2 l3 l4 : Option mw_V} {x : Int} {st : List mw_V} {σ : mw_S} {Q : Option mw_V → mw_S → Prop} : mw_WP d 22 114 [l0, some (jI x), l2, l3, l4] st σ Q ↔ mw_WP d 22 115 [l0, some (jI x), l2, l3, l4] (jI x :: st) σ Q := WP_iload_n mq22 dd22_114 rfl
theorem dd22_115 : decode cX3_findFrom 115 = .ok (.iaload, 1) := by decide +kernel
theorem ww22_115 {d : Nat} {l0 l1 l2 l3 l4 : Option mw_V} {z : Int} {a : Nat} {st : List mw_V} {σ : mw_S} {Q : Option mw_V → mw_S → Prop} : mw_WP d 22 115 [l0, l1, l2, l3, l4] (jI z :: jR a :: st) σ Q ↔ ((0 ≤ z ∧ z < mw_lenI a) ∧ mw_WP d 22 116 [l0, l1, l2, l3, l4] (jI (mw_rdI σ a z.toNat) :: st) σ Q) := WP_iaload mq22 dd22_115
theorem dd22_116 : decode cX3_findFrom 116 = .ok (.iconst (-1), 1) := by decide +kernel
theorem ww22_116 {d : Nat} {l0 l1 l2 l3 l4 : Option mw_V} {st : List mw_V} {σ : mw_S} {Q : Option mw_V → mw_S → Prop} : mw_WP d 22 116 [l0, l1, l2, l3, l4] st σ Q ↔ mw_WP d 22 117 [l0, l1, l2, l3, l4] (jI (-1) :: st) σ Q := WP_iconst mq22 dd22_116 (by decide)
theorem dd22_117 : decode cX3_findFrom 117 = .ok (.if_icmp .eq 14, 3) := by decide +kernel
theorem ww22_117 {d : Nat} {l0 l1 l2 l3 l4 : Option mw_V} {x y : Int} {st : List mw_V} {σ : mw_S} {Q : Option mw_V → mw_S → Prop} : mw_WP d 22 117 [l0, l1, l2, l3, l4] (jI y :: jI x :: st) σ Q ↔ (if x = y then mw_WP d 22 131 [l0, l1, l2, l3, l4] st σ Q else mw_WP d 22 120 [l0, l1, l2, l3, l4] st σ Q) := WP_icmp_eq mq22 dd22_117 (by decide)
theorem dd22_120 : decode cX3_findFrom 120 = .ok (.aload_n 0, 1) := by decide +kernel
theorem ww22_120 {d : Nat} {l1 l2 l3 l4 : Option mw_V} {x : Nat} {st : List mw_V} {σ : mw_S} {Q : Option mw_V → mw_S → Prop} : mw_WP d 22 120 [some (jR x), l1, l2, l3, l4] st σ Q ↔ mw_WP d 22 121 [some (jR x), l1, l2, l3, l4] (jR x :: st) σ Q := WP_aload_n mq22 dd22_120 rfl
theorem dd22_121 : decode cX3_findFrom 121 = .ok (.getfield 16, 3) := by decide +kernel
theorem ww22_121 {d : Nat} {l0 l1 l2 l3 l4 : Option mw_V} {st : List mw_V} {σ : mw_S} {Q : Option mw_V → mw_S → Prop} : mw_WP d 22 121 [l0, l1, l2, l3, l4] (jR 55 :: st) σ Q ↔ mw_WP d 22 124 [l0, l1, l2, l3, l4] (jR 62 :: st) σ Q := WP_getR (ci := 2) (k := 5) mq22 dd22_121 (by decide) rfl
theorem dd22_124 : decode cX3_findFrom 124 = .ok (.iload_n 1, 1) := by decide +kernel
theorem ww22_124 {d : Nat} {l0 l2 l3 l4 : Option mw_V} {x : Int} {st : List mw_V} {σ : mw_S} {Q : Option mw_V → mw_S → Prop} : mw_WP d 22 124 [l0, some (jI x), l2, l3, l4] st σ Q ↔ mw_WP d 22 125 [l0, some (jI x), l2, l3, l4] (jI x :: st) σ Q := WP_iload_n mq22 dd22_124 rfl
theorem dd22_125 : decode cX3_findFrom 125 = .ok (.iaload, 1) := by decide +kernel
theorem ww22_125 {d : Nat} {l0 l1 l2 l3 l4 : Option mw_V} {z : Int} {a : Nat} {st : List mw_V} {σ : mw_S} {Q : Option mw_V → mw_S → Prop} : mw_WP d 22 125 [l0, l1, l2, l3, l4] (jI z :: jR a :: st) σ Q ↔ ((0 ≤ z ∧ z < mw_lenI a) ∧ mw_WP d 22 126 [l0, l1, l2, l3, l4] (jI (mw_rdI σ a z.toNat) :: st) σ Q) := WP_iaload mq22 dd22_125
theorem dd22_126 : decode cX3_findFrom 126 = .ok (.iload 4, 2) := by decide +kernel
theorem ww22_126 {d : Nat} {l0 l1 l2 l3 : Option mw_V} {x : Int} {st : List mw_V} {σ : mw_S} {Q : Option mw_V → mw_S → Prop} : mw_WP d 22 126 [l0, l1, l2, l3, some (jI x)] st σ Q ↔ mw_WP d 22 128 [l0, l1, l2, l3, some (jI x)] (jI x :: st) σ Q := WP_iload mq22 dd22_126 rfl
theorem dd22_128 : decode cX3_findFrom 128 = .ok (.if_icmp .ne 16, 3) := by decide +kernel
theorem ww22_128 {d : Nat} {l0 l1 l2 l3 l4 : Option mw_V} {x y : Int} {st : List mw_V} {σ : mw_S} {Q : Option mw_V → mw_S → Prop} : mw_WP d 22 128 [l0, l1, l2, l3, l4] (jI y :: jI x :: st) σ Q ↔ (if ¬ x = y then mw_WP d 22 144 [l0, l1, l2, l3, l4] st σ Q else mw_WP d 22 131 [l0, l1, l2, l3, l4] st σ Q) := WP_icmp_ne mq22 dd22_128 (by decide)
theorem dd22_131 : decode cX3_findFrom 131 = .ok (.aload_n 0, 1) := by decide +kernel
theorem ww22_131 {d : Nat} {l1 l2 l3 l4 : Option mw_V} {x : Nat} {st : List mw_V} {σ : mw_S} {Q : Option mw_V → mw_S → Prop} : mw_WP d 22 131 [some (jR x), l1, l2, l3, l4] st σ Q ↔ mw_WP d 22 132 [some (jR x), l1, l2, l3, l4] (jR x :: st) σ Q := WP_aload_n mq22 dd22_131 rfl
theorem dd22_132 : decode cX3_findFrom 132 = .ok (.iload_n 1, 1) := by decide +kernel
theorem ww22_132 {d : Nat} {l0 l2 l3 l4 : Option mw_V} {x : Int} {st : List mw_V} {σ : mw_S} {Q : Option mw_V → mw_S → Prop} : mw_WP d 22 132 [l0, some (jI x), l2, l3, l4] st σ Q ↔ mw_WP d 22 133 [l0, some (jI x), l2, l3, l4] (jI x :: st) σ Q := WP_iload_n mq22 dd22_132 rfl
theorem dd22_133 : decode cX3_findFrom 133 = .ok (.iconst 1, 1) := by decide +kernel
theorem ww22_133 {d : Nat} {l0 l1 l2 l3 l4 : Option mw_V} {st : List mw_V} {σ : mw_S} {Q : Option mw_V → mw_S → Prop} : mw_WP d 22 133 [l0, l1, l2, l3, l4] st σ Q ↔ mw_WP d 22 134 [l0, l1, l2, l3, l4] (jI (1) :: st) σ Q := WP_iconst mq22 dd22_133 (by decide)
theorem dd22_134 : decode cX3_findFrom 134 = .ok (.iadd, 1) := by decide +kernel
theorem ww22_134 {d : Nat} {l0 l1 l2 l3 l4 : Option mw_V} {x y : Int} {st : List mw_V} {σ : mw_S} {Q : Option mw_V → mw_S → Prop} : mw_WP d 22 134 [l0, l1, l2, l3, l4] (jI y :: jI x :: st) σ Q ↔ mw_WP d 22 135 [l0, l1, l2, l3, l4] (jI (w32 (x + y)) :: st) σ Q := WP_iadd mq22 dd22_134
theorem dd22_135 : decode cX3_findFrom 135 = .ok (.iload_n 2, 1) := by decide +kernel
theorem ww22_135 {d : Nat} {l0 l1 l3 l4 : Option mw_V} {x : Int} {st : List mw_V} {σ : mw_S} {Q : Option mw_V → mw_S → Prop} : mw_WP d 22 135 [l0, l1, some (jI x), l3, l4] st σ Q ↔ mw_WP d 22 136 [l0, l1, some (jI x), l3, l4] (jI x :: st) σ Q := WP_iload_n mq22 dd22_135 rfl
theorem dd22_136 : decode cX3_findFrom 136 = .ok (.bipush 9, 2) := by decide +kernel
theorem ww22_136 {d : Nat} {l0 l1 l2 l3 l4 : Option mw_V} {st : List mw_V} {σ : mw_S} {Q : Option mw_V → mw_S → Prop} : mw_WP d 22 136 [l0, l1, l2, l3, l4] st σ Q ↔ mw_WP d 22 138 [l0, l1, l2, l3, l4] (jI (9) :: st) σ Q := WP_bipush mq22 dd22_136 (by decide)
theorem dd22_138 : decode cX3_findFrom 138 = .ok (.imul, 1) := by decide +kernel
theorem ww22_138 {d : Nat} {l0 l1 l2 l3 l4 : Option mw_V} {x y : Int} {st : List mw_V} {σ : mw_S} {Q : Option mw_V → mw_S → Prop} : mw_WP d 22 138 [l0, l1, l2, l3, l4] (jI y :: jI x :: st) σ Q ↔ mw_WP d 22 139 [l0, l1, l2, l3, l4] (jI (w32 (x * y)) :: st) σ Q := WP_imul mq22 dd22_138
theorem dd22_139 : decode cX3_findFrom 139 = .ok (.iload_n 3, 1) := by decide +kernel
theorem ww22_139 {d : Nat} {l0 l1 l2 l4 : Option mw_V} {x : Int} {st : List mw_V} {σ : mw_S} {Q : Option mw_V → mw_S → Prop} : mw_WP d 22 139 [l0, l1, l2, some (jI x), l4] st σ Q ↔ mw_WP d 22 140 [l0, l1, l2, some (jI x), l4] (jI x :: st) σ Q := WP_iload_n mq22 dd22_139 rfl
theorem dd22_140 : decode cX3_findFrom 140 = .ok (.iadd, 1) := by decide +kernel
theorem ww22_140 {d : Nat} {l0 l1 l2 l3 l4 : Option mw_V} {x y : Int} {st : List mw_V} {σ : mw_S} {Q : Option mw_V → mw_S → Prop} : mw_WP d 22 140 [l0, l1, l2, l3, l4] (jI y :: jI x :: st) σ Q ↔ mw_WP d 22 141 [l0, l1, l2, l3, l4] (jI (w32 (x + y)) :: st) σ Q := WP_iadd mq22 dd22_140
theorem dd22_141 : decode cX3_findFrom 141 = .ok (.invokevirtual 60, 3) := by decide +kernel
theorem ww22_141 {d : Nat} {l0 l1 l2 l3 l4 : Option mw_V} {v0 v1 : mw_V} {a : Nat} {st : List mw_V} {σ : mw_S} {Q : Option mw_V → mw_S → Prop} (hr : mw_rc a = 3) (h8 : (st.map mw_cat).sum ≤ 8) : mw_WP d 22 141 [l0, l1, l2, l3, l4] (v1 :: v0 :: jR a :: st) σ Q ↔ mw_Call d 22 [jR a, v0, v1] σ (fun r1 s1 => mw_WP d 22 144 [l0, l1, l2, l3, l4] (r1.toList ++ st) s1 Q) := WP_inv (as := [v1, v0]) mq22 dd22_141 (by decide) mq22 rfl hr h8
theorem dd22_144 : decode cX3_findFrom 144 = .ok (.iinc 3 1, 3) := by decide +kernel
theorem ww22_144 {d : Nat} {l0 l1 l2 l4 : Option mw_V} {x : Int} {st : List mw_V} {σ : mw_S} {Q : Option mw_V → mw_S → Prop} (h : mw_nlo l2 = true) : mw_WP d 22 144 [l0, l1, l2, some (jI x), l4] st σ Q ↔ mw_WP d 22 147 [l0, l1, l2, some (jI (w32 (x + (1)))), l4] st σ Q := WP_iinc mq22 dd22_144 rfl (Nat.le_of_ble_eq_true rfl) (mw_nl_of (i := 2) rfl h) rfl
theorem dd22_147 : decode cX3_findFrom 147 = .ok (.goto (-110), 3) := by decide +kernel
theorem ww22_147 {d : Nat} {l0 l1 l2 l3 l4 : Option mw_V} {st : List mw_V} {σ : mw_S} {Q : Option mw_V → mw_S → Prop} : mw_WP d 22 147 [l0, l1, l2, l3, l4] st σ Q ↔ mw_WP d 22 37 [l0, l1, l2, l3, l4] st σ Q := WP_goto mq22 dd22_147 (by decide)
theorem dd22_150 : decode cX3_findFrom 150 = .ok (.return_, 1) := by decide +kernel
theorem ww22_150 {d : Nat} {l0 l1 l2 l3 l4 : Option mw_V} {σ : mw_S} {Q : Option mw_V → mw_S → Prop} : mw_WP d 22 150 [l0, l1, l2, l3, l4] [] σ Q ↔ Q none σ := WP_return mq22 dd22_150 rfl
theorem ee23 {d : Nat} {a : Nat} {z0 : Int} {z1 : Int} {σ : mw_S} {Q : Option mw_V → mw_S → Prop} : mw_Call (d + 1) 23 [jR a, jI z0, jI z1] σ Q ↔ mw_WP d 23 0 [some (jR a), some (jI z0), some (jI z1), none, none, none, none, none] [] σ Q := CL_u mq23 (Nat.le_of_ble_eq_true rfl) rfl
theorem dd23_0 : decode cX3_findLast 0 = .ok (.aload_n 0, 1) := by decide +kernel
theorem ww23_0 {d : Nat} {l1 l2 l3 l4 l5 l6 l7 : Option mw_V} {x : Nat} {st : List mw_V} {σ : mw_S} {Q : Option mw_V → mw_S → Prop} : mw_WP d 23 0 [some (jR x), l1, l2, l3, l4, l5, l6, l7] st σ Q ↔ mw_WP d 23 1 [some (jR x), l1, l2, l3, l4, l5, l6, l7] (jR x :: st) σ Q := WP_aload_n mq23 dd23_0 rfl
theorem dd23_1 : decode cX3_findLast 1 = .ok (.getfield 13, 3) := by decide +kernel
theorem ww23_1 {d : Nat} {l0 l1 l2 l3 l4 l5 l6 l7 : Option mw_V} {st : List mw_V} {σ : mw_S} {Q : Option mw_V → mw_S → Prop} : mw_WP d 23 1 [l0, l1, l2, l3, l4, l5, l6, l7] (jR 55 :: st) σ Q ↔ mw_WP d 23 4 [l0, l1, l2, l3, l4, l5, l6, l7] (jR 56 :: st) σ Q := WP_getR (ci := 2) (k := 4) mq23 dd23_1 (by decide) rfl
theorem dd23_4 : decode cX3_findLast 4 = .ok (.iload_n 1, 1) := by decide +kernel
theorem ww23_4 {d : Nat} {l0 l2 l3 l4 l5 l6 l7 : Option mw_V} {x : Int} {st : List mw_V} {σ : mw_S} {Q : Option mw_V → mw_S → Prop} : mw_WP d 23 4 [l0, some (jI x), l2, l3, l4, l5, l6, l7] st σ Q ↔ mw_WP d 23 5 [l0, some (jI x), l2, l3, l4, l5, l6, l7] (jI x :: st) σ Q := WP_iload_n mq23 dd23_4 rfl
theorem dd23_5 : decode cX3_findLast 5 = .ok (.aaload, 1) := by decide +kernel
theorem ww23_5 {d : Nat} {l0 l1 l2 l3 l4 l5 l6 l7 : Option mw_V} {z : Int} {a : Nat} {st : List mw_V} {σ : mw_S} {Q : Option mw_V → mw_S → Prop} : mw_WP d 23 5 [l0, l1, l2, l3, l4, l5, l6, l7] (jI z :: jR a :: st) σ Q ↔ ((0 ≤ z ∧ z < (mw_rows a).length) ∧ mw_WP d 23 6 [l0, l1, l2, l3, l4, l5, l6, l7] (jR ((mw_rows a).getD z.toNat 0) :: st) σ Q) := WP_aaload mq23 dd23_5
theorem dd23_6 : decode cX3_findLast 6 = .ok (.astore_n 3, 1) := by decide +kernel
theorem ww23_6 {d : Nat} {l0 l1 l2 l3 l4 l5 l6 l7 : Option mw_V} {x : Nat} {st : List mw_V} {σ : mw_S} {Q : Option mw_V → mw_S → Prop} (h : mw_nlo l2 = true) : mw_WP d 23 6 [l0, l1, l2, l3, l4, l5, l6, l7] (jR x :: st) σ Q ↔ mw_WP d 23 7 [l0, l1, l2, some (jR x), l4, l5, l6, l7] st σ Q := WP_astore_n mq23 dd23_6 (Nat.le_of_ble_eq_true rfl) (mw_nl_of (i := 2) rfl h) rfl
theorem dd23_7 : decode cX3_findLast 7 = .ok (.aload_n 3, 1) := by decide +kernel
theorem ww23_7 {d : Nat} {l0 l1 l2 l4 l5 l6 l7 : Option mw_V} {x : Nat} {st : List mw_V} {σ : mw_S} {Q : Option mw_V → mw_S → Prop} : mw_WP d 23 7 [l0, l1, l2, some (jR x), l4, l5, l6, l7] st σ Q ↔ mw_WP d 23 8 [l0, l1, l2, some (jR x), l4, l5, l6, l7] (jR x :: st) σ Q := WP_aload_n mq23 dd23_7 rfl
theorem dd23_8 : decode cX3_findLast 8 = .ok (.iconst 3, 1) := by decide +kernel
theorem ww23_8 {d : Nat} {l0 l1 l2 l3 l4 l5 l6 l7 : Option mw_V} {st : List mw_V} {σ : mw_S} {Q : Option mw_V → mw_S → Prop} : mw_WP d 23 8 [l0, l1, l2, l3, l4, l5, l6, l7] st σ Q ↔ mw_WP d 23 9 [l0, l1, l2, l3, l4, l5, l6, l7] (jI (3) :: st) σ Q := WP_iconst mq23 dd23_8 (by decide)
theorem dd23_9 : decode cX3_findLast 9 = .ok (.aload_n 0, 1) := by decide +kernel
theorem ww23_9 {d : Nat} {l1 l2 l3 l4 l5 l6 l7 : Option mw_V} {x : Nat} {st : List mw_V} {σ : mw_S} {Q : Option mw_V → mw_S → Prop} : mw_WP d 23 9 [some (jR x), l1, l2, l3, l4, l5, l6, l7] st σ Q ↔ mw_WP d 23 10 [some (jR x), l1, l2, l3, l4, l5, l6, l7] (jR x :: st) σ Q := WP_aload_n mq23 dd23_9 rfl
theorem dd23_10 : decode cX3_findLast 10 = .ok (.getfield 38, 3) := by decide +kernel
theorem ww23_10 {d : Nat} {l0 l1 l2 l3 l4 l5 l6 l7 : Option mw_V} {st : List mw_V} {σ : mw_S} {Q : Option mw_V → mw_S → Prop} : mw_WP d 23 10 [l0, l1, l2, l3, l4, l5, l6, l7] (jR 55 :: st) σ Q ↔ mw_WP d 23 13 [l0, l1, l2, l3, l4, l5, l6, l7] (jI (σ 55 10) :: st) σ Q := WP_getI (ci := 2) (k := 10) mq23 dd23_10 (by decide) (Or.inl rfl)
theorem dd23_13 : decode cX3_findLast 13 = .ok (.iadd, 1) := by decide +kernel
theorem ww23_13 {d : Nat} {l0 l1 l2 l3 l4 l5 l6 l7 : Option mw_V} {x y : Int} {st : List mw_V} {σ : mw_S} {Q : Option mw_V → mw_S → Prop} : mw_WP d 23 13 [l0, l1, l2, l3, l4, l5, l6, l7] (jI y :: jI x :: st) σ Q ↔ mw_WP d 23 14 [l0, l1, l2, l3, l4, l5, l6, l7] (jI (w32 (x + y)) :: st) σ Q := WP_iadd mq23 dd23_13
theorem dd23_14 : decode cX3_findLast 14 = .ok (.iaload, 1) := by decide +kernel
theorem ww23_14 {d : Nat} {l0 l1 l2 l3 l4 l5 l6 l7 : Option mw_V} {z : Int} {a : Nat} {st : List mw_V} {σ : mw_S} {Q : Option mw_V → mw_S → Prop} : mw_WP d 23 14 [l0, l1, l2, l3, l4, l5, l6, l7] (jI z :: jR a :: st) σ Q ↔ ((0 ≤ z ∧ z < mw_lenI a) ∧ mw_WP d 23 15 [l0, l1, l2, l3, l4, l5, l6, l7] (jI (mw_rdI σ a z.toNat) :: st) σ Q) := WP_iaload mq23 dd23_14
theorem dd23_15 : decode cX3_findLast 15 = .ok (.istore 4, 2) := by decide +kernel
theorem ww23_15 {d : Nat} {l0 l1 l2 l3 l4 l5 l6 l7 : Option mw_V} {x : Int} {st : List mw_V} {σ : mw_S} {Q : Option mw_V → mw_S → Prop} (h : mw_nlo l3 = true) : mw_WP d 23 15 [l0, l1, l2, l3, l4, l5, l6, l7] (jI x :: st) σ Q ↔ mw_WP d 23 17 [l0, l1, l2, l3, some (jI x), l5, l6, l7] st σ Q := WP_istore mq23 dd23_15 (Nat.le_of_ble_eq_true rfl) (mw_nl_of (i := 3) rfl h) rfl
theorem dd23_17 : decode cX3_findLast 17 = .ok (.aload_n 0, 1) := by decide +kernel
theorem ww23_17 {d : Nat} {l1 l2 l3 l4 l5 l6 l7 : Option mw_V} {x : Nat} {st : List mw_V} {σ : mw_S} {Q : Option mw_V → mw_S → Prop} : mw_WP d 23 17 [some (jR x), l1, l2, l3, l4, l5, l6, l7] st σ Q ↔ mw_WP d 23 18 [some (jR x), l1, l2, l3, l4, l5, l6, l7] (jR x :: st) σ Q := WP_aload_n mq23 dd23_17 rfl
theorem dd23_18 : decode cX3_findLast 18 = .ok (.getfield 27, 3) := by decide +kernel
theorem ww23_18 {d : Nat} {l0 l1 l2 l3 l4 l5 l6 l7 : Option mw_V} {st : List mw_V} {σ : mw_S} {Q : Option mw_V → mw_S → Prop} : mw_WP d 23 18 [l0, l1, l2, l3, l4, l5, l6, l7] (jR 55 :: st) σ Q ↔ mw_WP d 23 21 [l0, l1, l2, l3, l4, l5, l6, l7] (jR 22 :: st) σ Q := WP_getR (ci := 2) (k := 3) mq23 dd23_18 (by decide) rfl
theorem dd23_21 : decode cX3_findLast 21 = .ok (.iload 4, 2) := by decide +kernel
theorem ww23_21 {d : Nat} {l0 l1 l2 l3 l5 l6 l7 : Option mw_V} {x : Int} {st : List mw_V} {σ : mw_S} {Q : Option mw_V → mw_S → Prop} : mw_WP d 23 21 [l0, l1, l2, l3, some (jI x), l5, l6, l7] st σ Q ↔ mw_WP d 23 23 [l0, l1, l2, l3, some (jI x), l5, l6, l7] (jI x :: st) σ Q := WP_iload mq23 dd23_21 rfl
theorem dd23_23 : decode cX3_findLast 23 = .ok (.aload_n 0, 1) := by decide +kernel
theorem ww23_23 {d : Nat} {l1 l2 l3 l4 l5 l6 l7 : Option mw_V} {x : Nat} {st : List mw_V} {σ : mw_S} {Q : Option mw_V → mw_S → Prop} : mw_WP d 23 23 [some (jR x), l1, l2, l3, l4, l5, l6, l7] st σ Q ↔ mw_WP d 23 24 [some (jR x), l1, l2, l3, l4, l5, l6, l7] (jR x :: st) σ Q := WP_aload_n mq23 dd23_23 rfl
theorem dd23_24 : decode cX3_findLast 24 = .ok (.getfield 27, 3) := by decide +kernel
theorem ww23_24 {d : Nat} {l0 l1 l2 l3 l4 l5 l6 l7 : Option mw_V} {st : List mw_V} {σ : mw_S} {Q : Option mw_V → mw_S → Prop} : mw_WP d 23 24 [l0, l1, l2, l3, l4, l5, l6, l7] (jR 55 :: st) σ Q ↔ mw_WP d 23 27 [l0, l1, l2, l3, l4, l5, l6, l7] (jR 22 :: st) σ Q := WP_getR (ci := 2) (k := 3) mq23 dd23_24 (by decide) rfl
theorem dd23_27 : decode cX3_findLast 27 = .ok (.aload_n 3, 1) := by decide +kernel
theorem ww23_27 {d : Nat} {l0 l1 l2 l4 l5 l6 l7 : Option mw_V} {x : Nat} {st : List mw_V} {σ : mw_S} {Q : Option mw_V → mw_S → Prop} : mw_WP d 23 27 [l0, l1, l2, some (jR x), l4, l5, l6, l7] st σ Q ↔ mw_WP d 23 28 [l0, l1, l2, some (jR x), l4, l5, l6, l7] (jR x :: st) σ Q := WP_aload_n mq23 dd23_27 rfl
theorem dd23_28 : decode cX3_findLast 28 = .ok (.aload_n 0, 1) := by decide +kernel
theorem ww23_28 {d : Nat} {l1 l2 l3 l4 l5 l6 l7 : Option mw_V} {x : Nat} {st : List mw_V} {σ : mw_S} {Q : Option mw_V → mw_S → Prop} : mw_WP d 23 28 [some (jR x), l1, l2, l3, l4, l5, l6, l7] st σ Q ↔ mw_WP d 23 29 [some (jR x), l1, l2, l3, l4, l5, l6, l7] (jR x :: st) σ Q := WP_aload_n mq23 dd23_28 rfl
theorem dd23_29 : decode cX3_findLast 29 = .ok (.getfield 38, 3) := by decide +kernel
theorem ww23_29 {d : Nat} {l0 l1 l2 l3 l4 l5 l6 l7 : Option mw_V} {st : List mw_V} {σ : mw_S} {Q : Option mw_V → mw_S → Prop} : mw_WP d 23 29 [l0, l1, l2, l3, l4, l5, l6, l7] (jR 55 :: st) σ Q ↔ mw_WP d 23 32 [l0, l1, l2, l3, l4, l5, l6, l7] (jI (σ 55 10) :: st) σ Q := WP_getI (ci := 2) (k := 10) mq23 dd23_29 (by decide) (Or.inl rfl)
theorem dd23_32 : decode cX3_findLast 32 = .ok (.iconst 0, 1) := by decide +kernel
theorem ww23_32 {d : Nat} {l0 l1 l2 l3 l4 l5 l6 l7 : Option mw_V} {st : List mw_V} {σ : mw_S} {Q : Option mw_V → mw_S → Prop} : mw_WP d 23 32 [l0, l1, l2, l3, l4, l5, l6, l7] st σ Q ↔ mw_WP d 23 33 [l0, l1, l2, l3, l4, l5, l6, l7] (jI (0) :: st) σ Q := WP_iconst mq23 dd23_32 (by decide)
theorem dd23_33 : decode cX3_findLast 33 = .ok (.invokevirtual 79, 3) := by decide +kernel
theorem ww23_33 {d : Nat} {l0 l1 l2 l3 l4 l5 l6 l7 : Option mw_V} {v0 v1 v2 : mw_V} {a : Nat} {st : List mw_V} {σ : mw_S} {Q : Option mw_V → mw_S → Prop} (hr : mw_rc a = 9) (h8 : (st.map mw_cat).sum ≤ 8) : mw_WP d 23 33 [l0, l1, l2, l3, l4, l5, l6, l7] (v2 :: v1 :: v0 :: jR a :: st) σ Q ↔ mw_Call d 89 [jR a, v0, v1, v2] σ (fun r1 s1 => mw_WP d 23 36 [l0, l1, l2, l3, l4, l5, l6, l7] (r1.toList ++ st) s1 Q) := WP_inv (as := [v2, v1, v0]) mq23 dd23_33 (by decide) mq89 rfl hr h8
theorem dd23_36 : decode cX3_findLast 36 = .ok (.invokevirtual 83, 3) := by decide +kernel
theorem ww23_36 {d : Nat} {l0 l1 l2 l3 l4 l5 l6 l7 : Option mw_V} {v0 v1 : mw_V} {a : Nat} {st : List mw_V} {σ : mw_S} {Q : Option mw_V → mw_S → Prop} (hr : mw_rc a = 9) (h8 : (st.map mw_cat).sum ≤ 8) : mw_WP d 23 36 [l0, l1, l2, l3, l4, l5, l6, l7] (v1 :: v0 :: jR a :: st) σ Q ↔ mw_Call d 91 [jR a, v0, v1] σ (fun r1 s1 => mw_WP d 23 39 [l0, l1, l2, l3, l4, l5, l6, l7] (r1.toList ++ st) s1 Q) := WP_inv (as := [v1, v0]) mq23 dd23_36 (by decide) mq91 rfl hr h8
theorem dd23_39 : decode cX3_findLast 39 = .ok (.istore 5, 2) := by decide +kernel
theorem ww23_39 {d : Nat} {l0 l1 l2 l3 l4 l5 l6 l7 : Option mw_V} {x : Int} {st : List mw_V} {σ : mw_S} {Q : Option mw_V → mw_S → Prop} (h : mw_nlo l4 = true) : mw_WP d 23 39 [l0, l1, l2, l3, l4, l5, l6, l7] (jI x :: st) σ Q ↔ mw_WP d 23 41 [l0, l1, l2, l3, l4, some (jI x), l6, l7] st σ Q := WP_istore mq23 dd23_39 (Nat.le_of_ble_eq_true rfl) (mw_nl_of (i := 4) rfl h) rfl
theorem dd23_41 : decode cX3_findLast 41 = .ok (.iconst 0, 1) := by decide +kernel
theorem ww23_41 {d : Nat} {l0 l1 l2 l3 l4 l5 l6 l7 : Option mw_V} {st : List mw_V} {σ : mw_S} {Q : Option mw_V → mw_S → Prop} : mw_WP d 23 41 [l0, l1, l2, l3, l4, l5, l6, l7] st σ Q ↔ mw_WP d 23 42 [l0, l1, l2, l3, l4, l5, l6, l7] (jI (0) :: st) σ Q := WP_iconst mq23 dd23_41 (by decide)
theorem dd23_42 : decode cX3_findLast 42 = .ok (.istore 6, 2) := by decide +kernel
theorem ww23_42 {d : Nat} {l0 l1 l2 l3 l4 l5 l6 l7 : Option mw_V} {x : Int} {st : List mw_V} {σ : mw_S} {Q : Option mw_V → mw_S → Prop} (h : mw_nlo l5 = true) : mw_WP d 23 42 [l0, l1, l2, l3, l4, l5, l6, l7] (jI x :: st) σ Q ↔ mw_WP d 23 44 [l0, l1, l2, l3, l4, l5, some (jI x), l7] st σ Q := WP_istore mq23 dd23_42 (Nat.le_of_ble_eq_true rfl) (mw_nl_of (i := 5) rfl h) rfl
theorem dd23_44 : decode cX3_findLast 44 = .ok (.iload 6, 2) := by decide +kernel
theorem ww23_44 {d : Nat} {l0 l1 l2 l3 l4 l5 l7 : Option mw_V} {x : Int} {st : List mw_V} {σ : mw_S} {Q : Option mw_V → mw_S → Prop} : mw_WP d 23 44 [l0, l1, l2, l3, l4, l5, some (jI x), l7] st σ Q ↔ mw_WP d 23 46 [l0, l1, l2, l3, l4, l5, some (jI x), l7] (jI x :: st) σ Q := WP_iload mq23 dd23_44 rfl
theorem dd23_46 : decode cX3_findLast 46 = .ok (.bipush 9, 2) := by decide +kernel
theorem ww23_46 {d : Nat} {l0 l1 l2 l3 l4 l5 l6 l7 : Option mw_V} {st : List mw_V} {σ : mw_S} {Q : Option mw_V → mw_S → Prop} : mw_WP d 23 46 [l0, l1, l2, l3, l4, l5, l6, l7] st σ Q ↔ mw_WP d 23 48 [l0, l1, l2, l3, l4, l5, l6, l7] (jI (9) :: st) σ Q := WP_bipush mq23 dd23_46 (by decide)
theorem dd23_48 : decode cX3_findLast 48 = .ok (.if_icmp .ge 80, 3) := by decide +kernel
theorem ww23_48 {d : Nat} {l0 l1 l2 l3 l4 l5 l6 l7 : Option mw_V} {x y : Int} {st : List mw_V} {σ : mw_S} {Q : Option mw_V → mw_S → Prop} : mw_WP d 23 48 [l0, l1, l2, l3, l4, l5, l6, l7] (jI y :: jI x :: st) σ Q ↔ (if y ≤ x then mw_WP d 23 128 [l0, l1, l2, l3, l4, l5, l6, l7] st σ Q else mw_WP d 23 51 [l0, l1, l2, l3, l4, l5, l6, l7] st σ Q) := WP_icmp_ge mq23 dd23_48 (by decide)
theorem dd23_51 : decode cX3_findLast 51 = .ok (.aload_n 0, 1) := by decide +kernel
theorem ww23_51 {d : Nat} {l1 l2 l3 l4 l5 l6 l7 : Option mw_V} {x : Nat} {st : List mw_V} {σ : mw_S} {Q : Option mw_V → mw_S → Prop} : mw_WP d 23 51 [some (jR x), l1, l2, l3, l4, l5, l6, l7] st σ Q ↔ mw_WP d 23 52 [some (jR x), l1, l2, l3, l4, l5, l6, l7] (jR x :: st) σ Q := WP_aload_n mq23 dd23_51 rfl
theorem dd23_52 : decode cX3_findLast 52 = .ok (.getfield 27, 3) := by decide +kernel
theorem ww23_52 {d : Nat} {l0 l1 l2 l3 l4 l5 l6 l7 : Option mw_V} {st : List mw_V} {σ : mw_S} {Q : Option mw_V → mw_S → Prop} : mw_WP d 23 52 [l0, l1, l2, l3, l4, l5, l6, l7] (jR 55 :: st) σ Q ↔ mw_WP d 23 55 [l0, l1, l2, l3, l4, l5, l6, l7] (jR 22 :: st) σ Q := WP_getR (ci := 2) (k := 3) mq23 dd23_52 (by decide) rfl
theorem dd23_55 : decode cX3_findLast 55 = .ok (.aload_n 0, 1) := by decide +kernel
theorem ww23_55 {d : Nat} {l1 l2 l3 l4 l5 l6 l7 : Option mw_V} {x : Nat} {st : List mw_V} {σ : mw_S} {Q : Option mw_V → mw_S → Prop} : mw_WP d 23 55 [some (jR x), l1, l2, l3, l4, l5, l6, l7] st σ Q ↔ mw_WP d 23 56 [some (jR x), l1, l2, l3, l4, l5, l6, l7] (jR x :: st) σ Q := WP_aload_n mq23 dd23_55 rfl
theorem dd23_56 : decode cX3_findLast 56 = .ok (.getfield 38, 3) := by decide +kernel
theorem ww23_56 {d : Nat} {l0 l1 l2 l3 l4 l5 l6 l7 : Option mw_V} {st : List mw_V} {σ : mw_S} {Q : Option mw_V → mw_S → Prop} : mw_WP d 23 56 [l0, l1, l2, l3, l4, l5, l6, l7] (jR 55 :: st) σ Q ↔ mw_WP d 23 59 [l0, l1, l2, l3, l4, l5, l6, l7] (jI (σ 55 10) :: st) σ Q := WP_getI (ci := 2) (k := 10) mq23 dd23_56 (by decide) (Or.inl rfl)
theorem dd23_59 : decode cX3_findLast 59 = .ok (.iload 6, 2) := by decide +kernel
theorem ww23_59 {d : Nat} {l0 l1 l2 l3 l4 l5 l7 : Option mw_V} {x : Int} {st : List mw_V} {σ : mw_S} {Q : Option mw_V → mw_S → Prop} : mw_WP d 23 59 [l0, l1, l2, l3, l4, l5, some (jI x), l7] st σ Q ↔ mw_WP d 23 61 [l0, l1, l2, l3, l4, l5, some (jI x), l7] (jI x :: st) σ Q := WP_iload mq23 dd23_59 rfl
theorem dd23_61 : decode cX3_findLast 61 = .ok (.invokevirtual 87, 3) := by decide +kernel
theorem ww23_61 {d : Nat} {l0 l1 l2 l3 l4 l5 l6 l7 : Option mw_V} {v0 v1 : mw_V} {a : Nat} {st : List mw_V} {σ : mw_S} {Q : Option mw_V → mw_S → Prop} (hr : mw_rc a = 9) (h8 : (st.map mw_cat).sum ≤ 8) : mw_WP d 23 61 [l0, l1, l2, l3, l4, l5, l6, l7] (v1 :: v0 :: jR a :: st) σ Q ↔ mw_Call d 90 [jR a, v0, v1] σ (fun r1 s1 => mw_WP d 23 64 [l0, l1, l2, l3, l4, l5, l6, l7] (r1.toList ++ st) s1 Q) := WP_inv (as := [v1, v0]) mq23 dd23_61 (by decide) mq90 rfl hr h8
theorem dd23_64 : decode cX3_findLast 64 = .ok (.ifCond .eq 8, 3) := by decide +kernel
theorem ww23_64 {d : Nat} {l0 l1 l2 l3 l4 l5 l6 l7 : Option mw_V} {x : Int} {st : List mw_V} {σ : mw_S} {Q : Option mw_V → mw_S → Prop} : mw_WP d 23 64 [l0, l1, l2, l3, l4, l5, l6, l7] (jI x :: st) σ Q ↔ (if x = 0 then mw_WP d 23 72 [l0, l1, l2, l3, l4, l5, l6, l7] st σ Q else mw_WP d 23 67 [l0, l1, l2, l3, l4, l5, l6, l7] st σ Q) := WP_if_eq mq23 dd23_64 (by decide)
theorem dd23_67 : decode cX3_findLast 67 = .ok (.iload 5, 2) := by decide +kernel
theorem ww23_67 {d : Nat} {l0 l1 l2 l3 l4 l6 l7 : Option mw_V} {x : Int} {st : List mw_V} {σ : mw_S} {Q : Option mw_V → mw_S → Prop} : mw_WP d 23 67 [l0, l1, l2, l3, l4, some (jI x), l6, l7] st σ Q ↔ mw_WP d 23 69 [l0, l1, l2, l3, l4, some (jI x), l6, l7] (jI x :: st) σ Q := WP_iload mq23 dd23_67 rfl
theorem dd23_69 : decode cX3_findLast 69 = .ok (.goto 26, 3) := by decide +kernel
theorem ww23_69 {d : Nat} {l0 l1 l2 l3 l4 l5 l6 l7 : Option mw_V} {st : List mw_V} {σ : mw_S} {Q : Option mw_V → mw_S → Prop} : mw_WP d 23 69 [l0, l1, l2, l3, l4, l5, l6, l7] st σ Q ↔ mw_WP d 23 95 [l0, l1, l2, l3, l4, l5, l6, l7] st σ Q := WP_goto mq23 dd23_69 (by decide)
theorem dd23_72 : decode cX3_findLast 72 = .ok (.aload_n 0, 1) := by decide +kernel
theorem ww23_72 {d : Nat} {l1 l2 l3 l4 l5 l6 l7 : Option mw_V} {x : Nat} {st : List mw_V} {σ : mw_S} {Q : Option mw_V → mw_S → Prop} : mw_WP d 23 72 [some (jR x), l1, l2, l3, l4, l5, l6, l7] st σ Q ↔ mw_WP d 23 73 [some (jR x), l1, l2, l3, l4, l5, l6, l7] (jR x :: st) σ Q := WP_aload_n mq23 dd23_72 rfl
theorem dd23_73 : decode cX3_findLast 73 = .ok (.getfield 27, 3) := by decide +kernel
theorem ww23_73 {d : Nat} {l0 l1 l2 l3 l4 l5 l6 l7 : Option mw_V} {st : List mw_V} {σ : mw_S} {Q : Option mw_V → mw_S → Prop} : mw_WP d 23 73 [l0, l1, l2, l3, l4, l5, l6, l7] (jR 55 :: st) σ Q ↔ mw_WP d 23 76 [l0, l1, l2, l3, l4, l5, l6, l7] (jR 22 :: st) σ Q := WP_getR (ci := 2) (k := 3) mq23 dd23_73 (by decide) rfl
theorem dd23_76 : decode cX3_findLast 76 = .ok (.iload 4, 2) := by decide +kernel
theorem ww23_76 {d : Nat} {l0 l1 l2 l3 l5 l6 l7 : Option mw_V} {x : Int} {st : List mw_V} {σ : mw_S} {Q : Option mw_V → mw_S → Prop} : mw_WP d 23 76 [l0, l1, l2, l3, some (jI x), l5, l6, l7] st σ Q ↔ mw_WP d 23 78 [l0, l1, l2, l3, some (jI x), l5, l6, l7] (jI x :: st) σ Q := WP_iload mq23 dd23_76 rfl
theorem dd23_78 : decode cX3_findLast 78 = .ok (.aload_n 0, 1) := by decide +kernel
theorem ww23_78 {d : Nat} {l1 l2 l3 l4 l5 l6 l7 : Option mw_V} {x : Nat} {st : List mw_V} {σ : mw_S} {Q : Option mw_V → mw_S → Prop} : mw_WP d 23 78 [some (jR x), l1, l2, l3, l4, l5, l6, l7] st σ Q ↔ mw_WP d 23 79 [some (jR x), l1, l2, l3, l4, l5, l6, l7] (jR x :: st) σ Q := WP_aload_n mq23 dd23_78 rfl
theorem dd23_79 : decode cX3_findLast 79 = .ok (.getfield 27, 3) := by decide +kernel
theorem ww23_79 {d : Nat} {l0 l1 l2 l3 l4 l5 l6 l7 : Option mw_V} {st : List mw_V} {σ : mw_S} {Q : Option mw_V → mw_S → Prop} : mw_WP d 23 79 [l0, l1, l2, l3, l4, l5, l6, l7] (jR 55 :: st) σ Q ↔ mw_WP d 23 82 [l0, l1, l2, l3, l4, l5, l6, l7] (jR 22 :: st) σ Q := WP_getR (ci := 2) (k := 3) mq23 dd23_79 (by decide) rfl
theorem dd23_82 : decode cX3_findLast 82 = .ok (.aload_n 3, 1) := by decide +kernel
theorem ww23_82 {d : Nat} {l0 l1 l2 l4 l5 l6 l7 : Option mw_V} {x : Nat} {st : List mw_V} {σ : mw_S} {Q : Option mw_V → mw_S → Prop} : mw_WP d 23 82 [l0, l1, l2, some (jR x), l4, l5, l6, l7] st σ Q ↔ mw_WP d 23 83 [l0, l1, l2, some (jR x), l4, l5, l6, l7] (jR x :: st) σ Q := WP_aload_n mq23 dd23_82 rfl
theorem dd23_83 : decode cX3_findLast 83 = .ok (.aload_n 0, 1) := by decide +kernel
theorem ww23_83 {d : Nat} {l1 l2 l3 l4 l5 l6 l7 : Option mw_V} {x : Nat} {st : List mw_V} {σ : mw_S} {Q : Option mw_V → mw_S → Prop} : mw_WP d 23 83 [some (jR x), l1, l2, l3, l4, l5, l6, l7] st σ Q ↔ mw_WP d 23 84 [some (jR x), l1, l2, l3, l4, l5, l6, l7] (jR x :: st) σ Q := WP_aload_n mq23 dd23_83 rfl
theorem dd23_84 : decode cX3_findLast 84 = .ok (.getfield 38, 3) := by decide +kernel
theorem ww23_84 {d : Nat} {l0 l1 l2 l3 l4 l5 l6 l7 : Option mw_V} {st : List mw_V} {σ : mw_S} {Q : Option mw_V → mw_S → Prop} : mw_WP d 23 84 [l0, l1, l2, l3, l4, l5, l6, l7] (jR 55 :: st) σ Q ↔ mw_WP d 23 87 [l0, l1, l2, l3, l4, l5, l6, l7] (jI (σ 55 10) :: st) σ Q := WP_getI (ci := 2) (k := 10) mq23 dd23_84 (by decide) (Or.inl rfl)
theorem dd23_87 : decode cX3_findLast 87 = .ok (.iload 6, 2) := by decide +kernel
theorem ww23_87 {d : Nat} {l0 l1 l2 l3 l4 l5 l7 : Option mw_V} {x : Int} {st : List mw_V} {σ : mw_S} {Q : Option mw_V → mw_S → Prop} : mw_WP d 23 87 [l0, l1, l2, l3, l4, l5, some (jI x), l7] st σ Q ↔ mw_WP d 23 89 [l0, l1, l2, l3, l4, l5, some (jI x), l7] (jI x :: st) σ Q := WP_iload mq23 dd23_87 rfl
theorem dd23_89 : decode cX3_findLast 89 = .ok (.invokevirtual 79, 3) := by decide +kernel
theorem ww23_89 {d : Nat} {l0 l1 l2 l3 l4 l5 l6 l7 : Option mw_V} {v0 v1 v2 : mw_V} {a : Nat} {st : List mw_V} {σ : mw_S} {Q : Option mw_V → mw_S → Prop} (hr : mw_rc a = 9) (h8 : (st.map mw_cat).sum ≤ 8) : mw_WP d 23 89 [l0, l1, l2, l3, l4, l5, l6, l7] (v2 :: v1 :: v0 :: jR a :: st) σ Q ↔ mw_Call d 89 [jR a, v0, v1, v2] σ (fun r1 s1 => mw_WP d 23 92 [l0, l1, l2, l3, l4, l5, l6, l7] (r1.toList ++ st) s1 Q) := WP_inv (as := [v2, v1, v0]) mq23 dd23_89 (by decide) mq89 rfl hr h8
theorem dd23_92 : decode cX3_findLast 92 = .ok (.invokevirtual 83, 3) := by decide +kernel
theorem ww23_92 {d : Nat} {l0 l1 l2 l3 l4 l5 l6 l7 : Option mw_V} {v0 v1 : mw_V} {a : Nat} {st : List mw_V} {σ : mw_S} {Q : Option mw_V → mw_S → Prop} (hr : mw_rc a = 9) (h8 : (st.map mw_cat).sum ≤ 8) : mw_WP d 23 92 [l0, l1, l2, l3, l4, l5, l6, l7] (v1 :: v0 :: jR a :: st) σ Q ↔ mw_Call d 91 [jR a, v0, v1] σ (fun r1 s1 => mw_WP d 23 95 [l0, l1, l2, l3, l4, l5, l6, l7] (r1.toList ++ st) s1 Q) := WP_inv (as := [v1, v0]) mq23 dd23_92 (by decide) mq91 rfl hr h8
theorem dd23_95 : decode cX3_findLast 95 = .ok (.istore 7, 2) := by decide +kernel
theorem ww23_95 {d : Nat} {l0 l1 l2 l3 l4 l5 l6 l7 : Option mw_V} {x : Int} {st : List mw_V} {σ : mw_S} {Q : Option mw_V → mw_S → Prop} (h : mw_nlo l6 = true) : mw_WP d 23 95 [l0, l1, l2, l3, l4, l5, l6, l7] (jI x :: st) σ Q ↔ mw_WP d 23 97 [l0, l1, l2, l3, l4, l5, l6, some (jI x)] st σ Q := WP_istore mq23 dd23_95 (Nat.le_of_ble_eq_true rfl) (mw_nl_of (i := 6) rfl h) rfl
theorem dd23_97 : decode cX3_findLast 97 = .ok (.iload 7, 2) := by decide +kernel
theorem ww23_97 {d : Nat} {l0 l1 l2 l3 l4 l5 l6 : Option mw_V} {x : Int} {st : List mw_V} {σ : mw_S} {Q : Option mw_V → mw_S → Prop} : mw_WP d 23 97 [l0, l1, l2, l3, l4, l5, l6, some (jI x)] st σ Q ↔ mw_WP d 23 99 [l0, l1, l2, l3, l4, l5, l6, some (jI x)] (jI x :: st) σ Q := WP_iload mq23 dd23_97 rfl
theorem dd23_99 : decode cX3_findLast 99 = .ok (.aload_n 0, 1) := by decide +kernel
theorem ww23_99 {d : Nat} {l1 l2 l3 l4 l5 l6 l7 : Option mw_V} {x : Nat} {st : List mw_V} {σ : mw_S} {Q : Option mw_V → mw_S → Prop} : mw_WP d 23 99 [some (jR x), l1, l2, l3, l4, l5, l6, l7] st σ Q ↔ mw_WP d 23 100 [some (jR x), l1, l2, l3, l4, l5, l6, l7] (jR x :: st) σ Q := WP_aload_n mq23 dd23_99 rfl
theorem dd23_100 : decode cX3_findLast 100 = .ok (.getfield 16, 3) := by decide +kernel
theorem ww23_100 {d : Nat} {l0 l1 l2 l3 l4 l5 l6 l7 : Option mw_V} {st : List mw_V} {σ : mw_S} {Q : Option mw_V → mw_S → Prop} : mw_WP d 23 100 [l0, l1, l2, l3, l4, l5, l6, l7] (jR 55 :: st) σ Q ↔ mw_WP d 23 103 [l0, l1, l2, l3, l4, l5, l6, l7] (jR 62 :: st) σ Q := WP_getR (ci := 2) (k := 5) mq23 dd23_100 (by decide) rfl
theorem dd23_103 : decode cX3_findLast 103 = .ok (.iload_n 1, 1) := by decide +kernel
theorem ww23_103 {d : Nat} {l0 l2 l3 l4 l5 l6 l7 : Option mw_V} {x : Int} {st : List mw_V} {σ : mw_S} {Q : Option mw_V → mw_S → Prop} : mw_WP d 23 103 [l0, some (jI x), l2, l3, l4, l5, l6, l7] st σ Q ↔ mw_WP d 23 104 [l0, some (jI x), l2, l3, l4, l5, l6, l7] (jI x :: st) σ Q := WP_iload_n mq23 dd23_103 rfl
theorem dd23_104 : decode cX3_findLast 104 = .ok (.iaload, 1) := by decide +kernel
theorem ww23_104 {d : Nat} {l0 l1 l2 l3 l4 l5 l6 l7 : Option mw_V} {z : Int} {a : Nat} {st : List mw_V} {σ : mw_S} {Q : Option mw_V → mw_S → Prop} : mw_WP d 23 104 [l0, l1, l2, l3, l4, l5, l6, l7] (jI z :: jR a :: st) σ Q ↔ ((0 ≤ z ∧ z < mw_lenI a) ∧ mw_WP d 23 105 [l0, l1, l2, l3, l4, l5, l6, l7] (jI (mw_rdI σ a z.toNat) :: st) σ Q) := WP_iaload mq23 dd23_104
theorem dd23_105 : decode cX3_findLast 105 = .ok (.if_icmp .ne 17, 3) := by decide +kernel
theorem ww23_105 {d : Nat} {l0 l1 l2 l3 l4 l5 l6 l7 : Option mw_V} {x y : Int} {st : List mw_V} {σ : mw_S} {Q : Option mw_V → mw_S → Prop} : mw_WP d 23 105 [l0, l1, l2, l3, l4, l5, l6, l7] (jI y :: jI x :: st) σ Q ↔ (if ¬ x = y then mw_WP d 23 122 [l0, l1, l2, l3, l4, l5, l6, l7] st σ Q else mw_WP d 23 108 [l0, l1, l2, l3, l4, l5, l6, l7] st σ Q) := WP_icmp_ne mq23 dd23_105 (by decide)
theorem dd23_108 : decode cX3_findLast 108 = .ok (.aload_n 0, 1) := by decide +kernel
theorem ww23_108 {d : Nat} {l1 l2 l3 l4 l5 l6 l7 : Option mw_V} {x : Nat} {st : List mw_V} {σ : mw_S} {Q : Option mw_V → mw_S → Prop} : mw_WP d 23 108 [some (jR x), l1, l2, l3, l4, l5, l6, l7] st σ Q ↔ mw_WP d 23 109 [some (jR x), l1, l2, l3, l4, l5, l6, l7] (jR x :: st) σ Q := WP_aload_n mq23 dd23_108 rfl
theorem dd23_109 : decode cX3_findLast 109 = .ok (.iload_n 1, 1) := by decide +kernel
theorem ww23_109 {d : Nat} {l0 l2 l3 l4 l5 l6 l7 : Option mw_V} {x : Int} {st : List mw_V} {σ : mw_S} {Q : Option mw_V → mw_S → Prop} : mw_WP d 23 109 [l0, some (jI x), l2, l3, l4, l5, l6, l7] st σ Q ↔ mw_WP d 23 110 [l0, some (jI x), l2, l3, l4, l5, l6, l7] (jI x :: st) σ Q := WP_iload_n mq23 dd23_109 rfl
theorem dd23_110 : decode cX3_findLast 110 = .ok (.iconst 1, 1) := by decide +kernel
theorem ww23_110 {d : Nat} {l0 l1 l2 l3 l4 l5 l6 l7 : Option mw_V} {st : List mw_V} {σ : mw_S} {Q : Option mw_V → mw_S → Prop} : mw_WP d 23 110 [l0, l1, l2, l3, l4, l5, l6, l7] st σ Q ↔ mw_WP d 23 111 [l0, l1, l2, l3, l4, l5, l6, l7] (jI (1) :: st) σ Q := WP_iconst mq23 dd23_110 (by decide)
theorem dd23_111 : decode cX3_findLast 111 = .ok (.iadd, 1) := by decide +kernel
theorem ww23_111 {d : Nat} {l0 l1 l2 l3 l4 l5 l6 l7 : Option mw_V} {x y : Int} {st : List mw_V} {σ : mw_S} {Q : Option mw_V → mw_S → Prop} : mw_WP d 23 111 [l0, l1, l2, l3, l4, l5, l6, l7] (jI y :: jI x :: st) σ Q ↔ mw_WP d 23 112 [l0, l1, l2, l3, l4, l5, l6, l7] (jI (w32 (x + y)) :: st) σ Q := WP_iadd mq23 dd23_111
theorem dd23_112 : decode cX3_findLast 112 = .ok (.iload_n 2, 1) := by decide +kernel
theorem ww23_112 {d : Nat} {l0 l1 l3 l4 l5 l6 l7 : Option mw_V} {x : Int} {st : List mw_V} {σ : mw_S} {Q : Option mw_V → mw_S → Prop} : mw_WP d 23 112 [l0, l1, some (jI x), l3, l4, l5, l6, l7] st σ Q ↔ mw_WP d 23 113 [l0, l1, some (jI x), l3, l4, l5, l6, l7] (jI x :: st) σ Q := WP_iload_n mq23 dd23_112 rfl
theorem dd23_113 : decode cX3_findLast 113 = .ok (.bipush 9, 2) := by decide +kernel
theorem ww23_113 {d : Nat} {l0 l1 l2 l3 l4 l5 l6 l7 : Option mw_V} {st : List mw_V} {σ : mw_S} {Q : Option mw_V → mw_S → Prop} : mw_WP d 23 113 [l0, l1, l2, l3, l4, l5, l6, l7] st σ Q ↔ mw_WP d 23 115 [l0, l1, l2, l3, l4, l5, l6, l7] (jI (9) :: st) σ Q := WP_bipush mq23 dd23_113 (by decide)
theorem dd23_115 : decode cX3_findLast 115 = .ok (.imul, 1) := by decide +kernel
theorem ww23_115 {d : Nat} {l0 l1 l2 l3 l4 l5 l6 l7 : Option mw_V} {x y : Int} {st : List mw_V} {σ : mw_S} {Q : Option mw_V → mw_S → Prop} : mw_WP d 23 115 [l0, l1, l2, l3, l4, l5, l6, l7] (jI y :: jI x :: st) σ Q ↔ mw_WP d 23 116 [l0, l1, l2, l3, l4, l5, l6, l7] (jI (w32 (x * y)) :: st) σ Q := WP_imul mq23 dd23_115
theorem dd23_116 : decode cX3_findLast 116 = .ok (.iload 6, 2) := by decide +kernel
theorem ww23_116 {d : Nat} {l0 l1 l2 l3 l4 l5 l7 : Option mw_V} {x : Int} {st : List mw_V} {σ : mw_S} {Q : Option mw_V → mw_S → Prop} : mw_WP d 23 116 [l0, l1, l2, l3, l4, l5, some (jI x), l7] st σ Q ↔ mw_WP d 23 118 [l0, l1, l2, l3, l4, l5, some (jI x), l7] (jI x :: st) σ Q := WP_iload mq23 dd23_116 rfl
theorem dd23_118 : decode cX3_findLast 118 = .ok (.iadd, 1) := by decide +kernel
theorem ww23_118 {d : Nat} {l0 l1 l2 l3 l4 l5 l6 l7 : Option mw_V} {x y : Int} {st : List mw_V} {σ : mw_S} {Q : Option mw_V → mw_S → Prop} : mw_WP d 23 118 [l0, l1, l2, l3, l4, l5, l6, l7] (jI y :: jI x :: st) σ Q ↔ mw_WP d 23 119 [l0, l1, l2, l3, l4, l5, l6, l7] (jI (w32 (x + y)) :: st) σ Q := WP_iadd mq23 dd23_118
theorem dd23_119 : decode cX3_findLast 119 = .ok (.invokevirtual 64, 3) := by decide +kernel
theorem ww23_119 {d : Nat} {l0 l1 l2 l3 l4 l5 l6 l7 : Option mw_V} {v0 v1 : mw_V} {a : Nat} {st : List mw_V} {σ : mw_S} {Q : Option mw_V → mw_S → Prop} (hr : mw_rc a = 3) (h8 : (st.map mw_cat).sum ≤ 8) : mw_WP d 23 119 [l0, l1, l2, l3, l4, l5, l6, l7] (v1 :: v0 :: jR a :: st) σ Q ↔ mw_Call d 24 [jR a, v0, v1] σ (fun r1 s1 => mw_WP d 23 122 [l0, l1, l2, l3, l4, l5, l6, l7] (r1.toList ++ st) s1 Q) := WP_inv (as := [v1, v0]) mq23 dd23_119 (by decide) mq24 rfl hr h8
theorem dd23_122 : decode cX3_findLast 122 = .ok (.iinc 6 1, 3) := by decide +kernel
theorem ww23_122 {d : Nat} {l0 l1 l2 l3 l4 l5 l7 : Option mw_V} {x : Int} {st : List mw_V} {σ : mw_S} {Q : Option mw_V → mw_S → Prop} (h : mw_nlo l5 = true) : mw_WP d 23 122 [l0, l1, l2, l3, l4, l5, some (jI x), l7] st σ Q ↔ mw_WP d 23 125 [l0, l1, l2, l3, l4, l5, some (jI (w32 (x + (1)))), l7] st σ Q := WP_iinc mq23 dd23_122 rfl (Nat.le_of_ble_eq_true rfl) (mw_nl_of (i := 5) rfl h) rfl
theorem dd23_125 : decode cX3_findLast 125 = .ok (.goto (-81), 3) := by decide +kernel
theorem ww23_125 {d : Nat} {l0 l1 l2 l3 l4 l5 l6 l7 : Option mw_V} {st : List mw_V} {σ : mw_S} {Q : Option mw_V → mw_S → Prop} : mw_WP d 23 125 [l0, l1, l2, l3, l4, l5, l6, l7] st σ Q ↔ mw_WP d 23 44 [l0, l1, l2, l3, l4, l5, l6, l7] st σ Q := WP_goto mq23 dd23_125 (by decide)
theorem dd23_128 : decode cX3_findLast 128 = .ok (.return_, 1) := by decide +kernel
theorem ww23_128 {d : Nat} {l0 l1 l2 l3 l4 l5 l6 l7 : Option mw_V} {σ : mw_S} {Q : Option mw_V → mw_S → Prop} : mw_WP d 23 128 [l0, l1, l2, l3, l4, l5, l6, l7] [] σ Q ↔ Q none σ := WP_return mq23 dd23_128 rfl
theorem ee24 {d : Nat} {a : Nat} {z0 : Int} {z1 : Int} {σ : mw_S} {Q : Option mw_V → mw_S → Prop} : mw_Call (d + 1) 24 [jR a, jI z0, jI z1] σ Q ↔ mw_WP d 24 0 [some (jR a), some (jI z0), some (jI z1), none] [] σ Q := CL_u mq24 (Nat.le_of_ble_eq_true rfl) rfl
theorem dd24_0 : decode cX3_takeAllFrom 0 = .ok (.iload_n 1, 1) := by decide +kernel
theorem ww24_0 {d : Nat} {l0 l2 l3 : Option mw_V} {x : Int} {st : List mw_V} {σ : mw_S} {Q : Option mw_V → mw_S → Prop} : mw_WP d 24 0 [l0, some (jI x), l2, l3] st σ Q ↔ mw_WP d 24 1 [l0, some (jI x), l2, l3] (jI x :: st) σ Q := WP_iload_n mq24 dd24_0 rfl
theorem dd24_1 : decode cX3_takeAllFrom 1 = .ok (.ifCond .lt 24, 3) := by decide +kernel
theorem ww24_1 {d : Nat} {l0 l1 l2 l3 : Option mw_V} {x : Int} {st : List mw_V} {σ : mw_S} {Q : Option mw_V → mw_S → Prop} : mw_WP d 24 1 [l0, l1, l2, l3] (jI x :: st) σ Q ↔ (if x < 0 then mw_WP d 24 25 [l0, l1, l2, l3] st σ Q else mw_WP d 24 4 [l0, l1, l2, l3] st σ Q) := WP_if_lt mq24 dd24_1 (by decide)
theorem dd24_4 : decode cX3_takeAllFrom 4 = .ok (.iload_n 1, 1) := by decide +kernel
theorem ww24_4 {d : Nat} {l0 l2 l3 : Option mw_V} {x : Int} {st : List mw_V} {σ : mw_S} {Q : Option mw_V → mw_S → Prop} : mw_WP d 24 4 [l0, some (jI x), l2, l3] st σ Q ↔ mw_WP d 24 5 [l0, some (jI x), l2, l3] (jI x :: st) σ Q := WP_iload_n mq24 dd24_4 rfl
theorem dd24_5 : decode cX3_takeAllFrom 5 = .ok (.aload_n 0, 1) := by decide +kernel
theorem ww24_5 {d : Nat} {l1 l2 l3 : Option mw_V} {x : Nat} {st : List mw_V} {σ : mw_S} {Q : Option mw_V → mw_S → Prop} : mw_WP d 24 5 [some (jR x), l1, l2, l3] st σ Q ↔ mw_WP d 24 6 [some (jR x), l1, l2, l3] (jR x :: st) σ Q := WP_aload_n mq24 dd24_5 rfl
theorem dd24_6 : decode cX3_takeAllFrom 6 = .ok (.getfield 31, 3) := by decide +kernel
theorem ww24_6 {d : Nat} {l0 l1 l2 l3 : Option mw_V} {st : List mw_V} {σ : mw_S} {Q : Option mw_V → mw_S → Prop} : mw_WP d 24 6 [l0, l1, l2, l3] (jR 55 :: st) σ Q ↔ mw_WP d 24 9 [l0, l1, l2, l3] (jI (σ 55 8) :: st) σ Q := WP_getI (ci := 2) (k := 8) mq24 dd24_6 (by decide) (Or.inl rfl)
theorem dd24_9 : decode cX3_takeAllFrom 9 = .ok (.if_icmp .gt 16, 3) := by decide +kernel
theorem ww24_9 {d : Nat} {l0 l1 l2 l3 : Option mw_V} {x y : Int} {st : List mw_V} {σ : mw_S} {Q : Option mw_V → mw_S → Prop} : mw_WP d 24 9 [l0, l1, l2, l3] (jI y :: jI x :: st) σ Q ↔ (if y < x then mw_WP d 24 25 [l0, l1, l2, l3] st σ Q else mw_WP d 24 12 [l0, l1, l2, l3] st σ Q) := WP_icmp_gt mq24 dd24_9 (by decide)
theorem dd24_12 : decode cX3_takeAllFrom 12 = .ok (.getstatic 70, 3) := by decide +kernel
theorem ww24_12 {d : Nat} {l0 l1 l2 l3 : Option mw_V} {st : List mw_V} {σ : mw_S} {Q : Option mw_V → mw_S → Prop} : mw_WP d 24 12 [l0, l1, l2, l3] st σ Q ↔ mw_WP d 24 15 [l0, l1, l2, l3] (jR 3000 :: st) σ Q := WP_gets0 mq24 dd24_12 (by decide)
theorem dd24_15 : decode cX3_takeAllFrom 15 = .ok (.aload_n 0, 1) := by decide +kernel
theorem ww24_15 {d : Nat} {l1 l2 l3 : Option mw_V} {x : Nat} {st : List mw_V} {σ : mw_S} {Q : Option mw_V → mw_S → Prop} : mw_WP d 24 15 [some (jR x), l1, l2, l3] st σ Q ↔ mw_WP d 24 16 [some (jR x), l1, l2, l3] (jR x :: st) σ Q := WP_aload_n mq24 dd24_15 rfl
theorem dd24_16 : decode cX3_takeAllFrom 16 = .ok (.getfield 31, 3) := by decide +kernel
theorem ww24_16 {d : Nat} {l0 l1 l2 l3 : Option mw_V} {st : List mw_V} {σ : mw_S} {Q : Option mw_V → mw_S → Prop} : mw_WP d 24 16 [l0, l1, l2, l3] (jR 55 :: st) σ Q ↔ mw_WP d 24 19 [l0, l1, l2, l3] (jI (σ 55 8) :: st) σ Q := WP_getI (ci := 2) (k := 8) mq24 dd24_16 (by decide) (Or.inl rfl)
theorem dd24_19 : decode cX3_takeAllFrom 19 = .ok (.iload_n 1, 1) := by decide +kernel
theorem ww24_19 {d : Nat} {l0 l2 l3 : Option mw_V} {x : Int} {st : List mw_V} {σ : mw_S} {Q : Option mw_V → mw_S → Prop} : mw_WP d 24 19 [l0, some (jI x), l2, l3] st σ Q ↔ mw_WP d 24 20 [l0, some (jI x), l2, l3] (jI x :: st) σ Q := WP_iload_n mq24 dd24_19 rfl
theorem dd24_20 : decode cX3_takeAllFrom 20 = .ok (.isub, 1) := by decide +kernel
theorem ww24_20 {d : Nat} {l0 l1 l2 l3 : Option mw_V} {x y : Int} {st : List mw_V} {σ : mw_S} {Q : Option mw_V → mw_S → Prop} : mw_WP d 24 20 [l0, l1, l2, l3] (jI y :: jI x :: st) σ Q ↔ mw_WP d 24 21 [l0, l1, l2, l3] (jI (w32 (x - y)) :: st) σ Q := WP_isub mq24 dd24_20
theorem dd24_21 : decode cX3_takeAllFrom 21 = .ok (.iaload, 1) := by decide +kernel
theorem ww24_21 {d : Nat} {l0 l1 l2 l3 : Option mw_V} {z : Int} {a : Nat} {st : List mw_V} {σ : mw_S} {Q : Option mw_V → mw_S → Prop} : mw_WP d 24 21 [l0, l1, l2, l3] (jI z :: jR a :: st) σ Q ↔ ((0 ≤ z ∧ z < mw_lenI a) ∧ mw_WP d 24 22 [l0, l1, l2, l3] (jI (mw_rdI σ a z.toNat) :: st) σ Q) := WP_iaload mq24 dd24_21
theorem dd24_22 : decode cX3_takeAllFrom 22 = .ok (.goto 4, 3) := by decide +kernel
theorem ww24_22 {d : Nat} {l0 l1 l2 l3 : Option mw_V} {st : List mw_V} {σ : mw_S} {Q : Option mw_V → mw_S → Prop} : mw_WP d 24 22 [l0, l1, l2, l3] st σ Q ↔ mw_WP d 24 26 [l0, l1, l2, l3] st σ Q := WP_goto mq24 dd24_22 (by decide)
theorem dd24_25 : decode cX3_takeAllFrom 25 = .ok (.iconst 1, 1) := by decide +kernel
theorem ww24_25 {d : Nat} {l0 l1 l2 l3 : Option mw_V} {st : List mw_V} {σ : mw_S} {Q : Option mw_V → mw_S → Prop} : mw_WP d 24 25 [l0, l1, l2, l3] st σ Q ↔ mw_WP d 24 26 [l0, l1, l2, l3] (jI (1) :: st) σ Q := WP_iconst mq24 dd24_25 (by decide)
theorem dd24_26 : decode cX3_takeAllFrom 26 = .ok (.istore_n 3, 1) := by decide +kernel
theorem ww24_26 {d : Nat} {l0 l1 l2 l3 : Option mw_V} {x : Int} {st : List mw_V} {σ : mw_S} {Q : Option mw_V → mw_S → Prop} (h : mw_nlo l2 = true) : mw_WP d 24 26 [l0, l1, l2, l3] (jI x :: st) σ Q ↔ mw_WP d 24 27 [l0, l1, l2, some (jI x)] st σ Q := WP_istore_n mq24 dd24_26 (Nat.le_of_ble_eq_true rfl) (mw_nl_of (i := 2) rfl h) rfl
theorem dd24_27 : decode cX3_takeAllFrom 27 = .ok (.aload_n 0, 1) := by decide +kernel
theorem ww24_27 {d : Nat} {l1 l2 l3 : Option mw_V} {x : Nat} {st : List mw_V} {σ : mw_S} {Q : Option mw_V → mw_S → Prop} : mw_WP d 24 27 [some (jR x), l1, l2, l3] st σ Q ↔ mw_WP d 24 28 [some (jR x), l1, l2, l3] (jR x :: st) σ Q := WP_aload_n mq24 dd24_27 rfl
theorem dd24_28 : decode cX3_takeAllFrom 28 = .ok (.getfield 41, 3) := by decide +kernel
theorem ww24_28 {d : Nat} {l0 l1 l2 l3 : Option mw_V} {st : List mw_V} {σ : mw_S} {Q : Option mw_V → mw_S → Prop} : mw_WP d 24 28 [l0, l1, l2, l3] (jR 55 :: st) σ Q ↔ mw_WP d 24 31 [l0, l1, l2, l3] (jI (σ 55 11) :: st) σ Q := WP_getI (ci := 2) (k := 11) mq24 dd24_28 (by decide) (Or.inl rfl)
theorem dd24_31 : decode cX3_takeAllFrom 31 = .ok (.aload_n 0, 1) := by decide +kernel
theorem ww24_31 {d : Nat} {l1 l2 l3 : Option mw_V} {x : Nat} {st : List mw_V} {σ : mw_S} {Q : Option mw_V → mw_S → Prop} : mw_WP d 24 31 [some (jR x), l1, l2, l3] st σ Q ↔ mw_WP d 24 32 [some (jR x), l1, l2, l3] (jR x :: st) σ Q := WP_aload_n mq24 dd24_31 rfl
theorem dd24_32 : decode cX3_takeAllFrom 32 = .ok (.getfield 47, 3) := by decide +kernel
theorem ww24_32 {d : Nat} {l0 l1 l2 l3 : Option mw_V} {st : List mw_V} {σ : mw_S} {Q : Option mw_V → mw_S → Prop} : mw_WP d 24 32 [l0, l1, l2, l3] (jR 55 :: st) σ Q ↔ mw_WP d 24 35 [l0, l1, l2, l3] (jI (σ 55 0) :: st) σ Q := WP_getI (ci := 2) (k := 0) mq24 dd24_32 (by decide) (Or.inl rfl)
theorem dd24_35 : decode cX3_takeAllFrom 35 = .ok (.if_icmp .lt 33, 3) := by decide +kernel
theorem ww24_35 {d : Nat} {l0 l1 l2 l3 : Option mw_V} {x y : Int} {st : List mw_V} {σ : mw_S} {Q : Option mw_V → mw_S → Prop} : mw_WP d 24 35 [l0, l1, l2, l3] (jI y :: jI x :: st) σ Q ↔ (if x < y then mw_WP d 24 68 [l0, l1, l2, l3] st σ Q else mw_WP d 24 38 [l0, l1, l2, l3] st σ Q) := WP_icmp_lt mq24 dd24_35 (by decide)
theorem dd24_38 : decode cX3_takeAllFrom 38 = .ok (.aload_n 0, 1) := by decide +kernel
theorem ww24_38 {d : Nat} {l1 l2 l3 : Option mw_V} {x : Nat} {st : List mw_V} {σ : mw_S} {Q : Option mw_V → mw_S → Prop} : mw_WP d 24 38 [some (jR x), l1, l2, l3] st σ Q ↔ mw_WP d 24 39 [some (jR x), l1, l2, l3] (jR x :: st) σ Q := WP_aload_n mq24 dd24_38 rfl
theorem dd24_39 : decode cX3_takeAllFrom 39 = .ok (.getfield 41, 3) := by decide +kernel
theorem ww24_39 {d : Nat} {l0 l1 l2 l3 : Option mw_V} {st : List mw_V} {σ : mw_S} {Q : Option mw_V → mw_S → Prop} : mw_WP d 24 39 [l0, l1, l2, l3] (jR 55 :: st) σ Q ↔ mw_WP d 24 42 [l0, l1, l2, l3] (jI (σ 55 11) :: st) σ Q := WP_getI (ci := 2) (k := 11) mq24 dd24_39 (by decide) (Or.inl rfl)
theorem dd24_42 : decode cX3_takeAllFrom 42 = .ok (.aload_n 0, 1) := by decide +kernel
theorem ww24_42 {d : Nat} {l1 l2 l3 : Option mw_V} {x : Nat} {st : List mw_V} {σ : mw_S} {Q : Option mw_V → mw_S → Prop} : mw_WP d 24 42 [some (jR x), l1, l2, l3] st σ Q ↔ mw_WP d 24 43 [some (jR x), l1, l2, l3] (jR x :: st) σ Q := WP_aload_n mq24 dd24_42 rfl
theorem dd24_43 : decode cX3_takeAllFrom 43 = .ok (.getfield 47, 3) := by decide +kernel
theorem ww24_43 {d : Nat} {l0 l1 l2 l3 : Option mw_V} {st : List mw_V} {σ : mw_S} {Q : Option mw_V → mw_S → Prop} : mw_WP d 24 43 [l0, l1, l2, l3] (jR 55 :: st) σ Q ↔ mw_WP d 24 46 [l0, l1, l2, l3] (jI (σ 55 0) :: st) σ Q := WP_getI (ci := 2) (k := 0) mq24 dd24_43 (by decide) (Or.inl rfl)
theorem dd24_46 : decode cX3_takeAllFrom 46 = .ok (.iload_n 3, 1) := by decide +kernel
theorem ww24_46 {d : Nat} {l0 l1 l2 : Option mw_V} {x : Int} {st : List mw_V} {σ : mw_S} {Q : Option mw_V → mw_S → Prop} : mw_WP d 24 46 [l0, l1, l2, some (jI x)] st σ Q ↔ mw_WP d 24 47 [l0, l1, l2, some (jI x)] (jI x :: st) σ Q := WP_iload_n mq24 dd24_46 rfl
theorem dd24_47 : decode cX3_takeAllFrom 47 = .ok (.iadd, 1) := by decide +kernel
theorem ww24_47 {d : Nat} {l0 l1 l2 l3 : Option mw_V} {x y : Int} {st : List mw_V} {σ : mw_S} {Q : Option mw_V → mw_S → Prop} : mw_WP d 24 47 [l0, l1, l2, l3] (jI y :: jI x :: st) σ Q ↔ mw_WP d 24 48 [l0, l1, l2, l3] (jI (w32 (x + y)) :: st) σ Q := WP_iadd mq24 dd24_47
theorem dd24_48 : decode cX3_takeAllFrom 48 = .ok (.if_icmp .ge 20, 3) := by decide +kernel
theorem ww24_48 {d : Nat} {l0 l1 l2 l3 : Option mw_V} {x y : Int} {st : List mw_V} {σ : mw_S} {Q : Option mw_V → mw_S → Prop} : mw_WP d 24 48 [l0, l1, l2, l3] (jI y :: jI x :: st) σ Q ↔ (if y ≤ x then mw_WP d 24 68 [l0, l1, l2, l3] st σ Q else mw_WP d 24 51 [l0, l1, l2, l3] st σ Q) := WP_icmp_ge mq24 dd24_48 (by decide)
theorem dd24_51 : decode cX3_takeAllFrom 51 = .ok (.aload_n 0, 1) := by decide +kernel
theorem ww24_51 {d : Nat} {l1 l2 l3 : Option mw_V} {x : Nat} {st : List mw_V} {σ : mw_S} {Q : Option mw_V → mw_S → Prop} : mw_WP d 24 51 [some (jR x), l1, l2, l3] st σ Q ↔ mw_WP d 24 52 [some (jR x), l1, l2, l3] (jR x :: st) σ Q := WP_aload_n mq24 dd24_51 rfl
theorem dd24_52 : decode cX3_takeAllFrom 52 = .ok (.iload_n 2, 1) := by decide +kernel
theorem ww24_52 {d : Nat} {l0 l1 l3 : Option mw_V} {x : Int} {st : List mw_V} {σ : mw_S} {Q : Option mw_V → mw_S → Prop} : mw_WP d 24 52 [l0, l1, some (jI x), l3] st σ Q ↔ mw_WP d 24 53 [l0, l1, some (jI x), l3] (jI x :: st) σ Q := WP_iload_n mq24 dd24_52 rfl
theorem dd24_53 : decode cX3_takeAllFrom 53 = .ok (.iload_n 3, 1) := by decide +kernel
theorem ww24_53 {d : Nat} {l0 l1 l2 : Option mw_V} {x : Int} {st : List mw_V} {σ : mw_S} {Q : Option mw_V → mw_S → Prop} : mw_WP d 24 53 [l0, l1, l2, some (jI x)] st σ Q ↔ mw_WP d 24 54 [l0, l1, l2, some (jI x)] (jI x :: st) σ Q := WP_iload_n mq24 dd24_53 rfl
theorem dd24_54 : decode cX3_takeAllFrom 54 = .ok (.imul, 1) := by decide +kernel
theorem ww24_54 {d : Nat} {l0 l1 l2 l3 : Option mw_V} {x y : Int} {st : List mw_V} {σ : mw_S} {Q : Option mw_V → mw_S → Prop} : mw_WP d 24 54 [l0, l1, l2, l3] (jI y :: jI x :: st) σ Q ↔ mw_WP d 24 55 [l0, l1, l2, l3] (jI (w32 (x * y)) :: st) σ Q := WP_imul mq24 dd24_54
theorem dd24_55 : decode cX3_takeAllFrom 55 = .ok (.aload_n 0, 1) := by decide +kernel
theorem ww24_55 {d : Nat} {l1 l2 l3 : Option mw_V} {x : Nat} {st : List mw_V} {σ : mw_S} {Q : Option mw_V → mw_S → Prop} : mw_WP d 24 55 [some (jR x), l1, l2, l3] st σ Q ↔ mw_WP d 24 56 [some (jR x), l1, l2, l3] (jR x :: st) σ Q := WP_aload_n mq24 dd24_55 rfl
theorem dd24_56 : decode cX3_takeAllFrom 56 = .ok (.getfield 41, 3) := by decide +kernel
theorem ww24_56 {d : Nat} {l0 l1 l2 l3 : Option mw_V} {st : List mw_V} {σ : mw_S} {Q : Option mw_V → mw_S → Prop} : mw_WP d 24 56 [l0, l1, l2, l3] (jR 55 :: st) σ Q ↔ mw_WP d 24 59 [l0, l1, l2, l3] (jI (σ 55 11) :: st) σ Q := WP_getI (ci := 2) (k := 11) mq24 dd24_56 (by decide) (Or.inl rfl)
theorem dd24_59 : decode cX3_takeAllFrom 59 = .ok (.iadd, 1) := by decide +kernel
theorem ww24_59 {d : Nat} {l0 l1 l2 l3 : Option mw_V} {x y : Int} {st : List mw_V} {σ : mw_S} {Q : Option mw_V → mw_S → Prop} : mw_WP d 24 59 [l0, l1, l2, l3] (jI y :: jI x :: st) σ Q ↔ mw_WP d 24 60 [l0, l1, l2, l3] (jI (w32 (x + y)) :: st) σ Q := WP_iadd mq24 dd24_59
theorem dd24_60 : decode cX3_takeAllFrom 60 = .ok (.aload_n 0, 1) := by decide +kernel
theorem ww24_60 {d : Nat} {l1 l2 l3 : Option mw_V} {x : Nat} {st : List mw_V} {σ : mw_S} {Q : Option mw_V → mw_S → Prop} : mw_WP d 24 60 [some (jR x), l1, l2, l3] st σ Q ↔ mw_WP d 24 61 [some (jR x), l1, l2, l3] (jR x :: st) σ Q := WP_aload_n mq24 dd24_60 rfl
theorem dd24_61 : decode cX3_takeAllFrom 61 = .ok (.getfield 47, 3) := by decide +kernel
theorem ww24_61 {d : Nat} {l0 l1 l2 l3 : Option mw_V} {st : List mw_V} {σ : mw_S} {Q : Option mw_V → mw_S → Prop} : mw_WP d 24 61 [l0, l1, l2, l3] (jR 55 :: st) σ Q ↔ mw_WP d 24 64 [l0, l1, l2, l3] (jI (σ 55 0) :: st) σ Q := WP_getI (ci := 2) (k := 0) mq24 dd24_61 (by decide) (Or.inl rfl)
theorem dd24_64 : decode cX3_takeAllFrom 64 = .ok (.isub, 1) := by decide +kernel
theorem ww24_64 {d : Nat} {l0 l1 l2 l3 : Option mw_V} {x y : Int} {st : List mw_V} {σ : mw_S} {Q : Option mw_V → mw_S → Prop} : mw_WP d 24 64 [l0, l1, l2, l3] (jI y :: jI x :: st) σ Q ↔ mw_WP d 24 65 [l0, l1, l2, l3] (jI (w32 (x - y)) :: st) σ Q := WP_isub mq24 dd24_64
theorem dd24_65 : decode cX3_takeAllFrom 65 = .ok (.putfield 50, 3) := by decide +kernel
theorem ww24_65 {d : Nat} {l0 l1 l2 l3 : Option mw_V} {v : Int} {st : List mw_V} {σ : mw_S} {Q : Option mw_V → mw_S → Prop} : mw_WP d 24 65 [l0, l1, l2, l3] (jI v :: jR 55 :: st) σ Q ↔ mw_WP d 24 68 [l0, l1, l2, l3] st (upS σ 55 1 v) Q := WP_putI (ci := 2) (k := 1) mq24 dd24_65 (by decide) rfl
theorem dd24_68 : decode cX3_takeAllFrom 68 = .ok (.aload_n 0, 1) := by decide +kernel
theorem ww24_68 {d : Nat} {l1 l2 l3 : Option mw_V} {x : Nat} {st : List mw_V} {σ : mw_S} {Q : Option mw_V → mw_S → Prop} : mw_WP d 24 68 [some (jR x), l1, l2, l3] st σ Q ↔ mw_WP d 24 69 [some (jR x), l1, l2, l3] (jR x :: st) σ Q := WP_aload_n mq24 dd24_68 rfl
theorem dd24_69 : decode cX3_takeAllFrom 69 = .ok (.dup, 1) := by decide +kernel
theorem ww24_69 {d : Nat} {l0 l1 l2 l3 : Option mw_V} {v : mw_V} {st : List mw_V} {σ : mw_S} {Q : Option mw_V → mw_S → Prop} (h : mw_cat v = 1) : mw_WP d 24 69 [l0, l1, l2, l3] (v :: st) σ Q ↔ mw_WP d 24 70 [l0, l1, l2, l3] (v :: v :: st) σ Q := WP_dup mq24 dd24_69 h
theorem dd24_70 : decode cX3_takeAllFrom 70 = .ok (.getfield 47, 3) := by decide +kernel
theorem ww24_70 {d : Nat} {l0 l1 l2 l3 : Option mw_V} {st : List mw_V} {σ : mw_S} {Q : Option mw_V → mw_S → Prop} : mw_WP d 24 70 [l0, l1, l2, l3] (jR 55 :: st) σ Q ↔ mw_WP d 24 73 [l0, l1, l2, l3] (jI (σ 55 0) :: st) σ Q := WP_getI (ci := 2) (k := 0) mq24 dd24_70 (by decide) (Or.inl rfl)
theorem dd24_73 : decode cX3_takeAllFrom 73 = .ok (.iload_n 3, 1) := by decide +kernel
theorem ww24_73 {d : Nat} {l0 l1 l2 : Option mw_V} {x : Int} {st : List mw_V} {σ : mw_S} {Q : Option mw_V → mw_S → Prop} : mw_WP d 24 73 [l0, l1, l2, some (jI x)] st σ Q ↔ mw_WP d 24 74 [l0, l1, l2, some (jI x)] (jI x :: st) σ Q := WP_iload_n mq24 dd24_73 rfl
theorem dd24_74 : decode cX3_takeAllFrom 74 = .ok (.iadd, 1) := by decide +kernel
theorem ww24_74 {d : Nat} {l0 l1 l2 l3 : Option mw_V} {x y : Int} {st : List mw_V} {σ : mw_S} {Q : Option mw_V → mw_S → Prop} : mw_WP d 24 74 [l0, l1, l2, l3] (jI y :: jI x :: st) σ Q ↔ mw_WP d 24 75 [l0, l1, l2, l3] (jI (w32 (x + y)) :: st) σ Q := WP_iadd mq24 dd24_74
theorem dd24_75 : decode cX3_takeAllFrom 75 = .ok (.putfield 47, 3) := by decide +kernel
theorem ww24_75 {d : Nat} {l0 l1 l2 l3 : Option mw_V} {v : Int} {st : List mw_V} {σ : mw_S} {Q : Option mw_V → mw_S → Prop} : mw_WP d 24 75 [l0, l1, l2, l3] (jI v :: jR 55 :: st) σ Q ↔ mw_WP d 24 78 [l0, l1, l2, l3] st (upS σ 55 0 v) Q := WP_putI (ci := 2) (k := 0) mq24 dd24_75 (by decide) rfl
theorem dd24_78 : decode cX3_takeAllFrom 78 = .ok (.aload_n 0, 1) := by decide +kernel
theorem ww24_78 {d : Nat} {l1 l2 l3 : Option mw_V} {x : Nat} {st : List mw_V} {σ : mw_S} {Q : Option mw_V → mw_S → Prop} : mw_WP d 24 78 [some (jR x), l1, l2, l3] st σ Q ↔ mw_WP d 24 79 [some (jR x), l1, l2, l3] (jR x :: st) σ Q := WP_aload_n mq24 dd24_78 rfl
theorem dd24_79 : decode cX3_takeAllFrom 79 = .ok (.getfield 44, 3) := by decide +kernel
theorem ww24_79 {d : Nat} {l0 l1 l2 l3 : Option mw_V} {st : List mw_V} {σ : mw_S} {Q : Option mw_V → mw_S → Prop} : mw_WP d 24 79 [l0, l1, l2, l3] (jR 55 :: st) σ Q ↔ mw_WP d 24 82 [l0, l1, l2, l3] (jI (σ 55 12) :: st) σ Q := WP_getI (ci := 2) (k := 12) mq24 dd24_79 (by decide) (Or.inl rfl)
theorem dd24_82 : decode cX3_takeAllFrom 82 = .ok (.iload_n 1, 1) := by decide +kernel
theorem ww24_82 {d : Nat} {l0 l2 l3 : Option mw_V} {x : Int} {st : List mw_V} {σ : mw_S} {Q : Option mw_V → mw_S → Prop} : mw_WP d 24 82 [l0, some (jI x), l2, l3] st σ Q ↔ mw_WP d 24 83 [l0, some (jI x), l2, l3] (jI x :: st) σ Q := WP_iload_n mq24 dd24_82 rfl
theorem dd24_83 : decode cX3_takeAllFrom 83 = .ok (.if_icmp .lt 13, 3) := by decide +kernel
theorem ww24_83 {d : Nat} {l0 l1 l2 l3 : Option mw_V} {x y : Int} {st : List mw_V} {σ : mw_S} {Q : Option mw_V → mw_S → Prop} : mw_WP d 24 83 [l0, l1, l2, l3] (jI y :: jI x :: st) σ Q ↔ (if x < y then mw_WP d 24 96 [l0, l1, l2, l3] st σ Q else mw_WP d 24 86 [l0, l1, l2, l3] st σ Q) := WP_icmp_lt mq24 dd24_83 (by decide)
theorem dd24_86 : decode cX3_takeAllFrom 86 = .ok (.aload_n 0, 1) := by decide +kernel
theorem ww24_86 {d : Nat} {l1 l2 l3 : Option mw_V} {x : Nat} {st : List mw_V} {σ : mw_S} {Q : Option mw_V → mw_S → Prop} : mw_WP d 24 86 [some (jR x), l1, l2, l3] st σ Q ↔ mw_WP d 24 87 [some (jR x), l1, l2, l3] (jR x :: st) σ Q := WP_aload_n mq24 dd24_86 rfl
theorem dd24_87 : decode cX3_takeAllFrom 87 = .ok (.sipush 511, 3) := by decide +kernel
theorem ww24_87 {d : Nat} {l0 l1 l2 l3 : Option mw_V} {st : List mw_V} {σ : mw_S} {Q : Option mw_V → mw_S → Prop} : mw_WP d 24 87 [l0, l1, l2, l3] st σ Q ↔ mw_WP d 24 90 [l0, l1, l2, l3] (jI (511) :: st) σ Q := WP_sipush mq24 dd24_87 (by decide)
theorem dd24_90 : decode cX3_takeAllFrom 90 = .ok (.putfield 53, 3) := by decide +kernel
theorem ww24_90 {d : Nat} {l0 l1 l2 l3 : Option mw_V} {v : Int} {st : List mw_V} {σ : mw_S} {Q : Option mw_V → mw_S → Prop} : mw_WP d 24 90 [l0, l1, l2, l3] (jI v :: jR 55 :: st) σ Q ↔ mw_WP d 24 93 [l0, l1, l2, l3] st (upS σ 55 2 v) Q := WP_putI (ci := 2) (k := 2) mq24 dd24_90 (by decide) rfl
theorem dd24_93 : decode cX3_takeAllFrom 93 = .ok (.goto 43, 3) := by decide +kernel
theorem ww24_93 {d : Nat} {l0 l1 l2 l3 : Option mw_V} {st : List mw_V} {σ : mw_S} {Q : Option mw_V → mw_S → Prop} : mw_WP d 24 93 [l0, l1, l2, l3] st σ Q ↔ mw_WP d 24 136 [l0, l1, l2, l3] st σ Q := WP_goto mq24 dd24_93 (by decide)
theorem dd24_96 : decode cX3_takeAllFrom 96 = .ok (.aload_n 0, 1) := by decide +kernel
theorem ww24_96 {d : Nat} {l1 l2 l3 : Option mw_V} {x : Nat} {st : List mw_V} {σ : mw_S} {Q : Option mw_V → mw_S → Prop} : mw_WP d 24 96 [some (jR x), l1, l2, l3] st σ Q ↔ mw_WP d 24 97 [some (jR x), l1, l2, l3] (jR x :: st) σ Q := WP_aload_n mq24 dd24_96 rfl
theorem dd24_97 : decode cX3_takeAllFrom 97 = .ok (.getfield 44, 3) := by decide +kernel
theorem ww24_97 {d : Nat} {l0 l1 l2 l3 : Option mw_V} {st : List mw_V} {σ : mw_S} {Q : Option mw_V → mw_S → Prop} : mw_WP d 24 97 [l0, l1, l2, l3] (jR 55 :: st) σ Q ↔ mw_WP d 24 100 [l0, l1, l2, l3] (jI (σ 55 12) :: st) σ Q := WP_getI (ci := 2) (k := 12) mq24 dd24_97 (by decide) (Or.inl rfl)
theorem dd24_100 : decode cX3_takeAllFrom 100 = .ok (.ifCond .lt 36, 3) := by decide +kernel
theorem ww24_100 {d : Nat} {l0 l1 l2 l3 : Option mw_V} {x : Int} {st : List mw_V} {σ : mw_S} {Q : Option mw_V → mw_S → Prop} : mw_WP d 24 100 [l0, l1, l2, l3] (jI x :: st) σ Q ↔ (if x < 0 then mw_WP d 24 136 [l0, l1, l2, l3] st σ Q else mw_WP d 24 103 [l0, l1, l2, l3] st σ Q) := WP_if_lt mq24 dd24_100 (by decide)
theorem dd24_103 : decode cX3_takeAllFrom 103 = .ok (.iload_n 1, 1) := by decide +kernel
theorem ww24_103 {d : Nat} {l0 l2 l3 : Option mw_V} {x : Int} {st : List mw_V} {σ : mw_S} {Q : Option mw_V → mw_S → Prop} : mw_WP d 24 103 [l0, some (jI x), l2, l3] st σ Q ↔ mw_WP d 24 104 [l0, some (jI x), l2, l3] (jI x :: st) σ Q := WP_iload_n mq24 dd24_103 rfl
theorem dd24_104 : decode cX3_takeAllFrom 104 = .ok (.iconst 5, 1) := by decide +kernel
theorem ww24_104 {d : Nat} {l0 l1 l2 l3 : Option mw_V} {st : List mw_V} {σ : mw_S} {Q : Option mw_V → mw_S → Prop} : mw_WP d 24 104 [l0, l1, l2, l3] st σ Q ↔ mw_WP d 24 105 [l0, l1, l2, l3] (jI (5) :: st) σ Q := WP_iconst mq24 dd24_104 (by decide)
theorem dd24_105 : decode cX3_takeAllFrom 105 = .ok (.if_icmp .gt 31, 3) := by decide +kernel
theorem ww24_105 {d : Nat} {l0 l1 l2 l3 : Option mw_V} {x y : Int} {st : List mw_V} {σ : mw_S} {Q : Option mw_V → mw_S → Prop} : mw_WP d 24 105 [l0, l1, l2, l3] (jI y :: jI x :: st) σ Q ↔ (if y < x then mw_WP d 24 136 [l0, l1, l2, l3] st σ Q else mw_WP d 24 108 [l0, l1, l2, l3] st σ Q) := WP_icmp_gt mq24 dd24_105 (by decide)
theorem dd24_108 : decode cX3_takeAllFrom 108 = .ok (.aload_n 0, 1) := by decide +kernel
theorem ww24_108 {d : Nat} {l1 l2 l3 : Option mw_V} {x : Nat} {st : List mw_V} {σ : mw_S} {Q : Option mw_V → mw_S → Prop} : mw_WP d 24 108 [some (jR x), l1, l2, l3] st σ Q ↔ mw_WP d 24 109 [some (jR x), l1, l2, l3] (jR x :: st) σ Q := WP_aload_n mq24 dd24_108 rfl
theorem dd24_109 : decode cX3_takeAllFrom 109 = .ok (.dup, 1) := by decide +kernel
theorem ww24_109 {d : Nat} {l0 l1 l2 l3 : Option mw_V} {v : mw_V} {st : List mw_V} {σ : mw_S} {Q : Option mw_V → mw_S → Prop} (h : mw_cat v = 1) : mw_WP d 24 109 [l0, l1, l2, l3] (v :: st) σ Q ↔ mw_WP d 24 110 [l0, l1, l2, l3] (v :: v :: st) σ Q := WP_dup mq24 dd24_109 h
theorem dd24_110 : decode cX3_takeAllFrom 110 = .ok (.getfield 53, 3) := by decide +kernel
theorem ww24_110 {d : Nat} {l0 l1 l2 l3 : Option mw_V} {st : List mw_V} {σ : mw_S} {Q : Option mw_V → mw_S → Prop} : mw_WP d 24 110 [l0, l1, l2, l3] (jR 55 :: st) σ Q ↔ mw_WP d 24 113 [l0, l1, l2, l3] (jI (σ 55 2) :: st) σ Q := WP_getI (ci := 2) (k := 2) mq24 dd24_110 (by decide) (Or.inl rfl)
theorem dd24_113 : decode cX3_takeAllFrom 113 = .ok (.iconst 1, 1) := by decide +kernel
theorem ww24_113 {d : Nat} {l0 l1 l2 l3 : Option mw_V} {st : List mw_V} {σ : mw_S} {Q : Option mw_V → mw_S → Prop} : mw_WP d 24 113 [l0, l1, l2, l3] st σ Q ↔ mw_WP d 24 114 [l0, l1, l2, l3] (jI (1) :: st) σ Q := WP_iconst mq24 dd24_113 (by decide)
theorem dd24_114 : decode cX3_takeAllFrom 114 = .ok (.iload_n 2, 1) := by decide +kernel
theorem ww24_114 {d : Nat} {l0 l1 l3 : Option mw_V} {x : Int} {st : List mw_V} {σ : mw_S} {Q : Option mw_V → mw_S → Prop} : mw_WP d 24 114 [l0, l1, some (jI x), l3] st σ Q ↔ mw_WP d 24 115 [l0, l1, some (jI x), l3] (jI x :: st) σ Q := WP_iload_n mq24 dd24_114 rfl
theorem dd24_115 : decode cX3_takeAllFrom 115 = .ok (.getstatic 70, 3) := by decide +kernel
theorem ww24_115 {d : Nat} {l0 l1 l2 l3 : Option mw_V} {st : List mw_V} {σ : mw_S} {Q : Option mw_V → mw_S → Prop} : mw_WP d 24 115 [l0, l1, l2, l3] st σ Q ↔ mw_WP d 24 118 [l0, l1, l2, l3] (jR 3000 :: st) σ Q := WP_gets0 mq24 dd24_115 (by decide)
theorem dd24_118 : decode cX3_takeAllFrom 118 = .ok (.iload_n 1, 1) := by decide +kernel
theorem ww24_118 {d : Nat} {l0 l2 l3 : Option mw_V} {x : Int} {st : List mw_V} {σ : mw_S} {Q : Option mw_V → mw_S → Prop} : mw_WP d 24 118 [l0, some (jI x), l2, l3] st σ Q ↔ mw_WP d 24 119 [l0, some (jI x), l2, l3] (jI x :: st) σ Q := WP_iload_n mq24 dd24_118 rfl
theorem dd24_119 : decode cX3_takeAllFrom 119 = .ok (.iconst 1, 1) := by decide +kernel
theorem ww24_119 {d : Nat} {l0 l1 l2 l3 : Option mw_V} {st : List mw_V} {σ : mw_S} {Q : Option mw_V → mw_S → Prop} : mw_WP d 24 119 [l0, l1, l2, l3] st σ Q ↔ mw_WP d 24 120 [l0, l1, l2, l3] (jI (1) :: st) σ Q := WP_iconst mq24 dd24_119 (by decide)
theorem dd24_120 : decode cX3_takeAllFrom 120 = .ok (.isub, 1) := by decide +kernel
theorem ww24_120 {d : Nat} {l0 l1 l2 l3 : Option mw_V} {x y : Int} {st : List mw_V} {σ : mw_S} {Q : Option mw_V → mw_S → Prop} : mw_WP d 24 120 [l0, l1, l2, l3] (jI y :: jI x :: st) σ Q ↔ mw_WP d 24 121 [l0, l1, l2, l3] (jI (w32 (x - y)) :: st) σ Q := WP_isub mq24 dd24_120
theorem dd24_121 : decode cX3_takeAllFrom 121 = .ok (.aload_n 0, 1) := by decide +kernel
theorem ww24_121 {d : Nat} {l1 l2 l3 : Option mw_V} {x : Nat} {st : List mw_V} {σ : mw_S} {Q : Option mw_V → mw_S → Prop} : mw_WP d 24 121 [some (jR x), l1, l2, l3] st σ Q ↔ mw_WP d 24 122 [some (jR x), l1, l2, l3] (jR x :: st) σ Q := WP_aload_n mq24 dd24_121 rfl
theorem dd24_122 : decode cX3_takeAllFrom 122 = .ok (.getfield 44, 3) := by decide +kernel
theorem ww24_122 {d : Nat} {l0 l1 l2 l3 : Option mw_V} {st : List mw_V} {σ : mw_S} {Q : Option mw_V → mw_S → Prop} : mw_WP d 24 122 [l0, l1, l2, l3] (jR 55 :: st) σ Q ↔ mw_WP d 24 125 [l0, l1, l2, l3] (jI (σ 55 12) :: st) σ Q := WP_getI (ci := 2) (k := 12) mq24 dd24_122 (by decide) (Or.inl rfl)
theorem dd24_125 : decode cX3_takeAllFrom 125 = .ok (.isub, 1) := by decide +kernel
theorem ww24_125 {d : Nat} {l0 l1 l2 l3 : Option mw_V} {x y : Int} {st : List mw_V} {σ : mw_S} {Q : Option mw_V → mw_S → Prop} : mw_WP d 24 125 [l0, l1, l2, l3] (jI y :: jI x :: st) σ Q ↔ mw_WP d 24 126 [l0, l1, l2, l3] (jI (w32 (x - y)) :: st) σ Q := WP_isub mq24 dd24_125
theorem dd24_126 : decode cX3_takeAllFrom 126 = .ok (.iaload, 1) := by decide +kernel
theorem ww24_126 {d : Nat} {l0 l1 l2 l3 : Option mw_V} {z : Int} {a : Nat} {st : List mw_V} {σ : mw_S} {Q : Option mw_V → mw_S → Prop} : mw_WP d 24 126 [l0, l1, l2, l3] (jI z :: jR a :: st) σ Q ↔ ((0 ≤ z ∧ z < mw_lenI a) ∧ mw_WP d 24 127 [l0, l1, l2, l3] (jI (mw_rdI σ a z.toNat) :: st) σ Q) := WP_iaload mq24 dd24_126
theorem dd24_127 : decode cX3_takeAllFrom 127 = .ok (.idiv, 1) := by decide +kernel
theorem ww24_127 {d : Nat} {l0 l1 l2 l3 : Option mw_V} {x y : Int} {st : List mw_V} {σ : mw_S} {Q : Option mw_V → mw_S → Prop} : mw_WP d 24 127 [l0, l1, l2, l3] (jI y :: jI x :: st) σ Q ↔ (¬ i32 y = 0 ∧ mw_WP d 24 128 [l0, l1, l2, l3] (jI (zDiv x y) :: st) σ Q) := WP_idiv mq24 dd24_127
theorem dd24_128 : decode cX3_takeAllFrom 128 = .ok (.bipush 9, 2) := by decide +kernel
theorem ww24_128 {d : Nat} {l0 l1 l2 l3 : Option mw_V} {st : List mw_V} {σ : mw_S} {Q : Option mw_V → mw_S → Prop} : mw_WP d 24 128 [l0, l1, l2, l3] st σ Q ↔ mw_WP d 24 130 [l0, l1, l2, l3] (jI (9) :: st) σ Q := WP_bipush mq24 dd24_128 (by decide)
theorem dd24_130 : decode cX3_takeAllFrom 130 = .ok (.irem, 1) := by decide +kernel
theorem ww24_130 {d : Nat} {l0 l1 l2 l3 : Option mw_V} {x y : Int} {st : List mw_V} {σ : mw_S} {Q : Option mw_V → mw_S → Prop} : mw_WP d 24 130 [l0, l1, l2, l3] (jI y :: jI x :: st) σ Q ↔ (¬ i32 y = 0 ∧ mw_WP d 24 131 [l0, l1, l2, l3] (jI (zRem x y) :: st) σ Q) := WP_irem mq24 dd24_130
theorem dd24_131 : decode cX3_takeAllFrom 131 = .ok (.ishl, 1) := by decide +kernel
theorem ww24_131 {d : Nat} {l0 l1 l2 l3 : Option mw_V} {x y : Int} {st : List mw_V} {σ : mw_S} {Q : Option mw_V → mw_S → Prop} : mw_WP d 24 131 [l0, l1, l2, l3] (jI y :: jI x :: st) σ Q ↔ mw_WP d 24 132 [l0, l1, l2, l3] (jI (zShl x y) :: st) σ Q := WP_ishl mq24 dd24_131
theorem dd24_132 : decode cX3_takeAllFrom 132 = .ok (.ior, 1) := by decide +kernel
theorem ww24_132 {d : Nat} {l0 l1 l2 l3 : Option mw_V} {x y : Int} {st : List mw_V} {σ : mw_S} {Q : Option mw_V → mw_S → Prop} : mw_WP d 24 132 [l0, l1, l2, l3] (jI y :: jI x :: st) σ Q ↔ mw_WP d 24 133 [l0, l1, l2, l3] (jI (zOr x y) :: st) σ Q := WP_ior mq24 dd24_132
theorem dd24_133 : decode cX3_takeAllFrom 133 = .ok (.putfield 53, 3) := by decide +kernel
theorem ww24_133 {d : Nat} {l0 l1 l2 l3 : Option mw_V} {v : Int} {st : List mw_V} {σ : mw_S} {Q : Option mw_V → mw_S → Prop} : mw_WP d 24 133 [l0, l1, l2, l3] (jI v :: jR 55 :: st) σ Q ↔ mw_WP d 24 136 [l0, l1, l2, l3] st (upS σ 55 2 v) Q := WP_putI (ci := 2) (k := 2) mq24 dd24_133 (by decide) rfl
theorem dd24_136 : decode cX3_takeAllFrom 136 = .ok (.return_, 1) := by decide +kernel
theorem ww24_136 {d : Nat} {l0 l1 l2 l3 : Option mw_V} {σ : mw_S} {Q : Option mw_V → mw_S → Prop} : mw_WP d 24 136 [l0, l1, l2, l3] [] σ Q ↔ Q none σ := WP_return mq24 dd24_136 rfl
theorem ee25 {d : Nat} {a : Nat} {a0 : Nat} {z1 : Int} {a2 : Nat} {z3 : Int} {z4 : Int} {σ : mw_S} {Q : Option mw_V → mw_S → Prop} : mw_Call (d + 1) 25 [jR a, jR a0, jI z1, jR a2, jI z3, jI z4] σ Q ↔ mw_WP d 25 0 [some (jR a), some (jR a0), some (jI z1), some (jR a2), some (jI z3), some (jI z4), none, none, none] [] σ Q := CL_u mq25 (Nat.le_of_ble_eq_true rfl) rfl
theorem dd25_0 : decode cX3_weightOf 0 = .ok (.iconst 0, 1) := by decide +kernel
theorem ww25_0 {d : Nat} {l0 l1 l2 l3 l4 l5 l6 l7 l8 : Option mw_V} {st : List mw_V} {σ : mw_S} {Q : Option mw_V → mw_S → Prop} : mw_WP d 25 0 [l0, l1, l2, l3, l4, l5, l6, l7, l8] st σ Q ↔ mw_WP d 25 1 [l0, l1, l2, l3, l4, l5, l6, l7, l8] (jI (0) :: st) σ Q := WP_iconst mq25 dd25_0 (by decide)
theorem dd25_1 : decode cX3_weightOf 1 = .ok (.istore 6, 2) := by decide +kernel
theorem ww25_1 {d : Nat} {l0 l1 l2 l3 l4 l5 l6 l7 l8 : Option mw_V} {x : Int} {st : List mw_V} {σ : mw_S} {Q : Option mw_V → mw_S → Prop} (h : mw_nlo l5 = true) : mw_WP d 25 1 [l0, l1, l2, l3, l4, l5, l6, l7, l8] (jI x :: st) σ Q ↔ mw_WP d 25 3 [l0, l1, l2, l3, l4, l5, some (jI x), l7, l8] st σ Q := WP_istore mq25 dd25_1 (Nat.le_of_ble_eq_true rfl) (mw_nl_of (i := 5) rfl h) rfl
theorem dd25_3 : decode cX3_weightOf 3 = .ok (.iload 6, 2) := by decide +kernel
theorem ww25_3 {d : Nat} {l0 l1 l2 l3 l4 l5 l7 l8 : Option mw_V} {x : Int} {st : List mw_V} {σ : mw_S} {Q : Option mw_V → mw_S → Prop} : mw_WP d 25 3 [l0, l1, l2, l3, l4, l5, some (jI x), l7, l8] st σ Q ↔ mw_WP d 25 5 [l0, l1, l2, l3, l4, l5, some (jI x), l7, l8] (jI x :: st) σ Q := WP_iload mq25 dd25_3 rfl
theorem dd25_5 : decode cX3_weightOf 5 = .ok (.bipush 9, 2) := by decide +kernel
theorem ww25_5 {d : Nat} {l0 l1 l2 l3 l4 l5 l6 l7 l8 : Option mw_V} {st : List mw_V} {σ : mw_S} {Q : Option mw_V → mw_S → Prop} : mw_WP d 25 5 [l0, l1, l2, l3, l4, l5, l6, l7, l8] st σ Q ↔ mw_WP d 25 7 [l0, l1, l2, l3, l4, l5, l6, l7, l8] (jI (9) :: st) σ Q := WP_bipush mq25 dd25_5 (by decide)
theorem dd25_7 : decode cX3_weightOf 7 = .ok (.if_icmp .ge 17, 3) := by decide +kernel
theorem ww25_7 {d : Nat} {l0 l1 l2 l3 l4 l5 l6 l7 l8 : Option mw_V} {x y : Int} {st : List mw_V} {σ : mw_S} {Q : Option mw_V → mw_S → Prop} : mw_WP d 25 7 [l0, l1, l2, l3, l4, l5, l6, l7, l8] (jI y :: jI x :: st) σ Q ↔ (if y ≤ x then mw_WP d 25 24 [l0, l1, l2, l3, l4, l5, l6, l7, l8] st σ Q else mw_WP d 25 10 [l0, l1, l2, l3, l4, l5, l6, l7, l8] st σ Q) := WP_icmp_ge mq25 dd25_7 (by decide)
theorem dd25_10 : decode cX3_weightOf 10 = .ok (.aload_n 0, 1) := by decide +kernel
theorem ww25_10 {d : Nat} {l1 l2 l3 l4 l5 l6 l7 l8 : Option mw_V} {x : Nat} {st : List mw_V} {σ : mw_S} {Q : Option mw_V → mw_S → Prop} : mw_WP d 25 10 [some (jR x), l1, l2, l3, l4, l5, l6, l7, l8] st σ Q ↔ mw_WP d 25 11 [some (jR x), l1, l2, l3, l4, l5, l6, l7, l8] (jR x :: st) σ Q := WP_aload_n mq25 dd25_10 rfl
theorem dd25_11 : decode cX3_weightOf 11 = .ok (.getfield 20, 3) := by decide +kernel
theorem ww25_11 {d : Nat} {l0 l1 l2 l3 l4 l5 l6 l7 l8 : Option mw_V} {st : List mw_V} {σ : mw_S} {Q : Option mw_V → mw_S → Prop} : mw_WP d 25 11 [l0, l1, l2, l3, l4, l5, l6, l7, l8] (jR 55 :: st) σ Q ↔ mw_WP d 25 14 [l0, l1, l2, l3, l4, l5, l6, l7, l8] (jR 63 :: st) σ Q := WP_getR (ci := 2) (k := 6) mq25 dd25_11 (by decide) rfl
theorem dd25_14 : decode cX3_weightOf 14 = .ok (.iload 6, 2) := by decide +kernel
theorem ww25_14 {d : Nat} {l0 l1 l2 l3 l4 l5 l7 l8 : Option mw_V} {x : Int} {st : List mw_V} {σ : mw_S} {Q : Option mw_V → mw_S → Prop} : mw_WP d 25 14 [l0, l1, l2, l3, l4, l5, some (jI x), l7, l8] st σ Q ↔ mw_WP d 25 16 [l0, l1, l2, l3, l4, l5, some (jI x), l7, l8] (jI x :: st) σ Q := WP_iload mq25 dd25_14 rfl
theorem dd25_16 : decode cX3_weightOf 16 = .ok (.lconst 0, 1) := by decide +kernel
theorem ww25_16 {d : Nat} {l0 l1 l2 l3 l4 l5 l6 l7 l8 : Option mw_V} {st : List mw_V} {σ : mw_S} {Q : Option mw_V → mw_S → Prop} : mw_WP d 25 16 [l0, l1, l2, l3, l4, l5, l6, l7, l8] st σ Q ↔ mw_WP d 25 17 [l0, l1, l2, l3, l4, l5, l6, l7, l8] (jL (0) :: st) σ Q := WP_lconst mq25 dd25_16 (by decide)
theorem dd25_17 : decode cX3_weightOf 17 = .ok (.lastore, 1) := by decide +kernel
theorem ww25_17 {d : Nat} {l0 l1 l2 l3 l4 l5 l6 l7 l8 : Option mw_V} {x z : Int} {a : Nat} {st : List mw_V} {σ : mw_S} {Q : Option mw_V → mw_S → Prop} : mw_WP d 25 17 [l0, l1, l2, l3, l4, l5, l6, l7, l8] (jL x :: jI z :: jR a :: st) σ Q ↔ ((0 ≤ z ∧ z < mw_lenW 2 a) ∧ mw_WP d 25 18 [l0, l1, l2, l3, l4, l5, l6, l7, l8] st (upS σ a z.toNat x) Q) := WP_lastore mq25 dd25_17
theorem dd25_18 : decode cX3_weightOf 18 = .ok (.iinc 6 1, 3) := by decide +kernel
theorem ww25_18 {d : Nat} {l0 l1 l2 l3 l4 l5 l7 l8 : Option mw_V} {x : Int} {st : List mw_V} {σ : mw_S} {Q : Option mw_V → mw_S → Prop} (h : mw_nlo l5 = true) : mw_WP d 25 18 [l0, l1, l2, l3, l4, l5, some (jI x), l7, l8] st σ Q ↔ mw_WP d 25 21 [l0, l1, l2, l3, l4, l5, some (jI (w32 (x + (1)))), l7, l8] st σ Q := WP_iinc mq25 dd25_18 rfl (Nat.le_of_ble_eq_true rfl) (mw_nl_of (i := 5) rfl h) rfl
theorem dd25_21 : decode cX3_weightOf 21 = .ok (.goto (-18), 3) := by decide +kernel
theorem ww25_21 {d : Nat} {l0 l1 l2 l3 l4 l5 l6 l7 l8 : Option mw_V} {st : List mw_V} {σ : mw_S} {Q : Option mw_V → mw_S → Prop} : mw_WP d 25 21 [l0, l1, l2, l3, l4, l5, l6, l7, l8] st σ Q ↔ mw_WP d 25 3 [l0, l1, l2, l3, l4, l5, l6, l7, l8] st σ Q := WP_goto mq25 dd25_21 (by decide)
theorem dd25_24 : decode cX3_weightOf 24 = .ok (.aload_n 0, 1) := by decide +kernel
theorem ww25_24 {d : Nat} {l1 l2 l3 l4 l5 l6 l7 l8 : Option mw_V} {x : Nat} {st : List mw_V} {σ : mw_S} {Q : Option mw_V → mw_S → Prop} : mw_WP d 25 24 [some (jR x), l1, l2, l3, l4, l5, l6, l7, l8] st σ Q ↔ mw_WP d 25 25 [some (jR x), l1, l2, l3, l4, l5, l6, l7, l8] (jR x :: st) σ Q := WP_aload_n mq25 dd25_24 rfl
theorem dd25_25 : decode cX3_weightOf 25 = .ok (.getfield 20, 3) := by decide +kernel
theorem ww25_25 {d : Nat} {l0 l1 l2 l3 l4 l5 l6 l7 l8 : Option mw_V} {st : List mw_V} {σ : mw_S} {Q : Option mw_V → mw_S → Prop} : mw_WP d 25 25 [l0, l1, l2, l3, l4, l5, l6, l7, l8] (jR 55 :: st) σ Q ↔ mw_WP d 25 28 [l0, l1, l2, l3, l4, l5, l6, l7, l8] (jR 63 :: st) σ Q := WP_getR (ci := 2) (k := 6) mq25 dd25_25 (by decide) rfl
theorem dd25_28 : decode cX3_weightOf 28 = .ok (.aload_n 1, 1) := by decide +kernel
theorem ww25_28 {d : Nat} {l0 l2 l3 l4 l5 l6 l7 l8 : Option mw_V} {x : Nat} {st : List mw_V} {σ : mw_S} {Q : Option mw_V → mw_S → Prop} : mw_WP d 25 28 [l0, some (jR x), l2, l3, l4, l5, l6, l7, l8] st σ Q ↔ mw_WP d 25 29 [l0, some (jR x), l2, l3, l4, l5, l6, l7, l8] (jR x :: st) σ Q := WP_aload_n mq25 dd25_28 rfl
theorem dd25_29 : decode cX3_weightOf 29 = .ok (.iconst 3, 1) := by decide +kernel
theorem ww25_29 {d : Nat} {l0 l1 l2 l3 l4 l5 l6 l7 l8 : Option mw_V} {st : List mw_V} {σ : mw_S} {Q : Option mw_V → mw_S → Prop} : mw_WP d 25 29 [l0, l1, l2, l3, l4, l5, l6, l7, l8] st σ Q ↔ mw_WP d 25 30 [l0, l1, l2, l3, l4, l5, l6, l7, l8] (jI (3) :: st) σ Q := WP_iconst mq25 dd25_29 (by decide)
theorem dd25_30 : decode cX3_weightOf 30 = .ok (.iload_n 2, 1) := by decide +kernel
theorem ww25_30 {d : Nat} {l0 l1 l3 l4 l5 l6 l7 l8 : Option mw_V} {x : Int} {st : List mw_V} {σ : mw_S} {Q : Option mw_V → mw_S → Prop} : mw_WP d 25 30 [l0, l1, some (jI x), l3, l4, l5, l6, l7, l8] st σ Q ↔ mw_WP d 25 31 [l0, l1, some (jI x), l3, l4, l5, l6, l7, l8] (jI x :: st) σ Q := WP_iload_n mq25 dd25_30 rfl
theorem dd25_31 : decode cX3_weightOf 31 = .ok (.iadd, 1) := by decide +kernel
theorem ww25_31 {d : Nat} {l0 l1 l2 l3 l4 l5 l6 l7 l8 : Option mw_V} {x y : Int} {st : List mw_V} {σ : mw_S} {Q : Option mw_V → mw_S → Prop} : mw_WP d 25 31 [l0, l1, l2, l3, l4, l5, l6, l7, l8] (jI y :: jI x :: st) σ Q ↔ mw_WP d 25 32 [l0, l1, l2, l3, l4, l5, l6, l7, l8] (jI (w32 (x + y)) :: st) σ Q := WP_iadd mq25 dd25_31
theorem dd25_32 : decode cX3_weightOf 32 = .ok (.iaload, 1) := by decide +kernel
theorem ww25_32 {d : Nat} {l0 l1 l2 l3 l4 l5 l6 l7 l8 : Option mw_V} {z : Int} {a : Nat} {st : List mw_V} {σ : mw_S} {Q : Option mw_V → mw_S → Prop} : mw_WP d 25 32 [l0, l1, l2, l3, l4, l5, l6, l7, l8] (jI z :: jR a :: st) σ Q ↔ ((0 ≤ z ∧ z < mw_lenI a) ∧ mw_WP d 25 33 [l0, l1, l2, l3, l4, l5, l6, l7, l8] (jI (mw_rdI σ a z.toNat) :: st) σ Q) := WP_iaload mq25 dd25_32
theorem dd25_33 : decode cX3_weightOf 33 = .ok (.lconst 1, 1) := by decide +kernel
theorem ww25_33 {d : Nat} {l0 l1 l2 l3 l4 l5 l6 l7 l8 : Option mw_V} {st : List mw_V} {σ : mw_S} {Q : Option mw_V → mw_S → Prop} : mw_WP d 25 33 [l0, l1, l2, l3, l4, l5, l6, l7, l8] st σ Q ↔ mw_WP d 25 34 [l0, l1, l2, l3, l4, l5, l6, l7, l8] (jL (1) :: st) σ Q := WP_lconst mq25 dd25_33 (by decide)
theorem dd25_34 : decode cX3_weightOf 34 = .ok (.lastore, 1) := by decide +kernel
theorem ww25_34 {d : Nat} {l0 l1 l2 l3 l4 l5 l6 l7 l8 : Option mw_V} {x z : Int} {a : Nat} {st : List mw_V} {σ : mw_S} {Q : Option mw_V → mw_S → Prop} : mw_WP d 25 34 [l0, l1, l2, l3, l4, l5, l6, l7, l8] (jL x :: jI z :: jR a :: st) σ Q ↔ ((0 ≤ z ∧ z < mw_lenW 2 a) ∧ mw_WP d 25 35 [l0, l1, l2, l3, l4, l5, l6, l7, l8] st (upS σ a z.toNat x) Q) := WP_lastore mq25 dd25_34
theorem dd25_35 : decode cX3_weightOf 35 = .ok (.aload_n 1, 1) := by decide +kernel
theorem ww25_35 {d : Nat} {l0 l2 l3 l4 l5 l6 l7 l8 : Option mw_V} {x : Nat} {st : List mw_V} {σ : mw_S} {Q : Option mw_V → mw_S → Prop} : mw_WP d 25 35 [l0, some (jR x), l2, l3, l4, l5, l6, l7, l8] st σ Q ↔ mw_WP d 25 36 [l0, some (jR x), l2, l3, l4, l5, l6, l7, l8] (jR x :: st) σ Q := WP_aload_n mq25 dd25_35 rfl
theorem dd25_36 : decode cX3_weightOf 36 = .ok (.bipush 13, 2) := by decide +kernel
theorem ww25_36 {d : Nat} {l0 l1 l2 l3 l4 l5 l6 l7 l8 : Option mw_V} {st : List mw_V} {σ : mw_S} {Q : Option mw_V → mw_S → Prop} : mw_WP d 25 36 [l0, l1, l2, l3, l4, l5, l6, l7, l8] st σ Q ↔ mw_WP d 25 38 [l0, l1, l2, l3, l4, l5, l6, l7, l8] (jI (13) :: st) σ Q := WP_bipush mq25 dd25_36 (by decide)
theorem dd25_38 : decode cX3_weightOf 38 = .ok (.iload_n 2, 1) := by decide +kernel
theorem ww25_38 {d : Nat} {l0 l1 l3 l4 l5 l6 l7 l8 : Option mw_V} {x : Int} {st : List mw_V} {σ : mw_S} {Q : Option mw_V → mw_S → Prop} : mw_WP d 25 38 [l0, l1, some (jI x), l3, l4, l5, l6, l7, l8] st σ Q ↔ mw_WP d 25 39 [l0, l1, some (jI x), l3, l4, l5, l6, l7, l8] (jI x :: st) σ Q := WP_iload_n mq25 dd25_38 rfl
theorem dd25_39 : decode cX3_weightOf 39 = .ok (.iadd, 1) := by decide +kernel
theorem ww25_39 {d : Nat} {l0 l1 l2 l3 l4 l5 l6 l7 l8 : Option mw_V} {x y : Int} {st : List mw_V} {σ : mw_S} {Q : Option mw_V → mw_S → Prop} : mw_WP d 25 39 [l0, l1, l2, l3, l4, l5, l6, l7, l8] (jI y :: jI x :: st) σ Q ↔ mw_WP d 25 40 [l0, l1, l2, l3, l4, l5, l6, l7, l8] (jI (w32 (x + y)) :: st) σ Q := WP_iadd mq25 dd25_39
theorem dd25_40 : decode cX3_weightOf 40 = .ok (.iaload, 1) := by decide +kernel
theorem ww25_40 {d : Nat} {l0 l1 l2 l3 l4 l5 l6 l7 l8 : Option mw_V} {z : Int} {a : Nat} {st : List mw_V} {σ : mw_S} {Q : Option mw_V → mw_S → Prop} : mw_WP d 25 40 [l0, l1, l2, l3, l4, l5, l6, l7, l8] (jI z :: jR a :: st) σ Q ↔ ((0 ≤ z ∧ z < mw_lenI a) ∧ mw_WP d 25 41 [l0, l1, l2, l3, l4, l5, l6, l7, l8] (jI (mw_rdI σ a z.toNat) :: st) σ Q) := WP_iaload mq25 dd25_40
theorem dd25_41 : decode cX3_weightOf 41 = .ok (.istore 6, 2) := by decide +kernel
theorem ww25_41 {d : Nat} {l0 l1 l2 l3 l4 l5 l6 l7 l8 : Option mw_V} {x : Int} {st : List mw_V} {σ : mw_S} {Q : Option mw_V → mw_S → Prop} (h : mw_nlo l5 = true) : mw_WP d 25 41 [l0, l1, l2, l3, l4, l5, l6, l7, l8] (jI x :: st) σ Q ↔ mw_WP d 25 43 [l0, l1, l2, l3, l4, l5, some (jI x), l7, l8] st σ Q := WP_istore mq25 dd25_41 (Nat.le_of_ble_eq_true rfl) (mw_nl_of (i := 5) rfl h) rfl
theorem dd25_43 : decode cX3_weightOf 43 = .ok (.iconst 0, 1) := by decide +kernel
theorem ww25_43 {d : Nat} {l0 l1 l2 l3 l4 l5 l6 l7 l8 : Option mw_V} {st : List mw_V} {σ : mw_S} {Q : Option mw_V → mw_S → Prop} : mw_WP d 25 43 [l0, l1, l2, l3, l4, l5, l6, l7, l8] st σ Q ↔ mw_WP d 25 44 [l0, l1, l2, l3, l4, l5, l6, l7, l8] (jI (0) :: st) σ Q := WP_iconst mq25 dd25_43 (by decide)
theorem dd25_44 : decode cX3_weightOf 44 = .ok (.istore 7, 2) := by decide +kernel
theorem ww25_44 {d : Nat} {l0 l1 l2 l3 l4 l5 l6 l7 l8 : Option mw_V} {x : Int} {st : List mw_V} {σ : mw_S} {Q : Option mw_V → mw_S → Prop} (h : mw_nlo l6 = true) : mw_WP d 25 44 [l0, l1, l2, l3, l4, l5, l6, l7, l8] (jI x :: st) σ Q ↔ mw_WP d 25 46 [l0, l1, l2, l3, l4, l5, l6, some (jI x), l8] st σ Q := WP_istore mq25 dd25_44 (Nat.le_of_ble_eq_true rfl) (mw_nl_of (i := 6) rfl h) rfl
theorem dd25_46 : decode cX3_weightOf 46 = .ok (.iload 7, 2) := by decide +kernel
theorem ww25_46 {d : Nat} {l0 l1 l2 l3 l4 l5 l6 l8 : Option mw_V} {x : Int} {st : List mw_V} {σ : mw_S} {Q : Option mw_V → mw_S → Prop} : mw_WP d 25 46 [l0, l1, l2, l3, l4, l5, l6, some (jI x), l8] st σ Q ↔ mw_WP d 25 48 [l0, l1, l2, l3, l4, l5, l6, some (jI x), l8] (jI x :: st) σ Q := WP_iload mq25 dd25_46 rfl
theorem dd25_48 : decode cX3_weightOf 48 = .ok (.aload_n 3, 1) := by decide +kernel
theorem ww25_48 {d : Nat} {l0 l1 l2 l4 l5 l6 l7 l8 : Option mw_V} {x : Nat} {st : List mw_V} {σ : mw_S} {Q : Option mw_V → mw_S → Prop} : mw_WP d 25 48 [l0, l1, l2, some (jR x), l4, l5, l6, l7, l8] st σ Q ↔ mw_WP d 25 49 [l0, l1, l2, some (jR x), l4, l5, l6, l7, l8] (jR x :: st) σ Q := WP_aload_n mq25 dd25_48 rfl
theorem dd25_49 : decode cX3_weightOf 49 = .ok (.iload 4, 2) := by decide +kernel
theorem ww25_49 {d : Nat} {l0 l1 l2 l3 l5 l6 l7 l8 : Option mw_V} {x : Int} {st : List mw_V} {σ : mw_S} {Q : Option mw_V → mw_S → Prop} : mw_WP d 25 49 [l0, l1, l2, l3, some (jI x), l5, l6, l7, l8] st σ Q ↔ mw_WP d 25 51 [l0, l1, l2, l3, some (jI x), l5, l6, l7, l8] (jI x :: st) σ Q := WP_iload mq25 dd25_49 rfl
theorem dd25_51 : decode cX3_weightOf 51 = .ok (.invokevirtual 91, 3) := by decide +kernel
theorem ww25_51 {d : Nat} {l0 l1 l2 l3 l4 l5 l6 l7 l8 : Option mw_V} {v0 : mw_V} {a : Nat} {st : List mw_V} {σ : mw_S} {Q : Option mw_V → mw_S → Prop} (hr : mw_rc a = 10) (h8 : (st.map mw_cat).sum ≤ 8) : mw_WP d 25 51 [l0, l1, l2, l3, l4, l5, l6, l7, l8] (v0 :: jR a :: st) σ Q ↔ mw_Call d 114 [jR a, v0] σ (fun r1 s1 => mw_WP d 25 54 [l0, l1, l2, l3, l4, l5, l6, l7, l8] (r1.toList ++ st) s1 Q) := WP_inv (as := [v0]) mq25 dd25_51 (by decide) mq114 rfl hr h8
theorem dd25_54 : decode cX3_weightOf 54 = .ok (.if_icmp .ge 54, 3) := by decide +kernel
theorem ww25_54 {d : Nat} {l0 l1 l2 l3 l4 l5 l6 l7 l8 : Option mw_V} {x y : Int} {st : List mw_V} {σ : mw_S} {Q : Option mw_V → mw_S → Prop} : mw_WP d 25 54 [l0, l1, l2, l3, l4, l5, l6, l7, l8] (jI y :: jI x :: st) σ Q ↔ (if y ≤ x then mw_WP d 25 108 [l0, l1, l2, l3, l4, l5, l6, l7, l8] st σ Q else mw_WP d 25 57 [l0, l1, l2, l3, l4, l5, l6, l7, l8] st σ Q) := WP_icmp_ge mq25 dd25_54 (by decide)
theorem dd25_57 : decode cX3_weightOf 57 = .ok (.aload_n 3, 1) := by decide +kernel
theorem ww25_57 {d : Nat} {l0 l1 l2 l4 l5 l6 l7 l8 : Option mw_V} {x : Nat} {st : List mw_V} {σ : mw_S} {Q : Option mw_V → mw_S → Prop} : mw_WP d 25 57 [l0, l1, l2, some (jR x), l4, l5, l6, l7, l8] st σ Q ↔ mw_WP d 25 58 [l0, l1, l2, some (jR x), l4, l5, l6, l7, l8] (jR x :: st) σ Q := WP_aload_n mq25 dd25_57 rfl
theorem dd25_58 : decode cX3_weightOf 58 = .ok (.iload 4, 2) := by decide +kernel
theorem ww25_58 {d : Nat} {l0 l1 l2 l3 l5 l6 l7 l8 : Option mw_V} {x : Int} {st : List mw_V} {σ : mw_S} {Q : Option mw_V → mw_S → Prop} : mw_WP d 25 58 [l0, l1, l2, l3, some (jI x), l5, l6, l7, l8] st σ Q ↔ mw_WP d 25 60 [l0, l1, l2, l3, some (jI x), l5, l6, l7, l8] (jI x :: st) σ Q := WP_iload mq25 dd25_58 rfl
theorem dd25_60 : decode cX3_weightOf 60 = .ok (.iload 7, 2) := by decide +kernel
theorem ww25_60 {d : Nat} {l0 l1 l2 l3 l4 l5 l6 l8 : Option mw_V} {x : Int} {st : List mw_V} {σ : mw_S} {Q : Option mw_V → mw_S → Prop} : mw_WP d 25 60 [l0, l1, l2, l3, l4, l5, l6, some (jI x), l8] st σ Q ↔ mw_WP d 25 62 [l0, l1, l2, l3, l4, l5, l6, some (jI x), l8] (jI x :: st) σ Q := WP_iload mq25 dd25_60 rfl
theorem dd25_62 : decode cX3_weightOf 62 = .ok (.invokevirtual 96, 3) := by decide +kernel
theorem ww25_62 {d : Nat} {l0 l1 l2 l3 l4 l5 l6 l7 l8 : Option mw_V} {v0 v1 : mw_V} {a : Nat} {st : List mw_V} {σ : mw_S} {Q : Option mw_V → mw_S → Prop} (hr : mw_rc a = 10) (h8 : (st.map mw_cat).sum ≤ 8) : mw_WP d 25 62 [l0, l1, l2, l3, l4, l5, l6, l7, l8] (v1 :: v0 :: jR a :: st) σ Q ↔ mw_Call d 115 [jR a, v0, v1] σ (fun r1 s1 => mw_WP d 25 65 [l0, l1, l2, l3, l4, l5, l6, l7, l8] (r1.toList ++ st) s1 Q) := WP_inv (as := [v1, v0]) mq25 dd25_62 (by decide) mq115 rfl hr h8
theorem dd25_65 : decode cX3_weightOf 65 = .ok (.getstatic 70, 3) := by decide +kernel
theorem ww25_65 {d : Nat} {l0 l1 l2 l3 l4 l5 l6 l7 l8 : Option mw_V} {st : List mw_V} {σ : mw_S} {Q : Option mw_V → mw_S → Prop} : mw_WP d 25 65 [l0, l1, l2, l3, l4, l5, l6, l7, l8] st σ Q ↔ mw_WP d 25 68 [l0, l1, l2, l3, l4, l5, l6, l7, l8] (jR 3000 :: st) σ Q := WP_gets0 mq25 dd25_65 (by decide)
theorem dd25_68 : decode cX3_weightOf 68 = .ok (.iload_n 2, 1) := by decide +kernel
theorem ww25_68 {d : Nat} {l0 l1 l3 l4 l5 l6 l7 l8 : Option mw_V} {x : Int} {st : List mw_V} {σ : mw_S} {Q : Option mw_V → mw_S → Prop} : mw_WP d 25 68 [l0, l1, some (jI x), l3, l4, l5, l6, l7, l8] st σ Q ↔ mw_WP d 25 69 [l0, l1, some (jI x), l3, l4, l5, l6, l7, l8] (jI x :: st) σ Q := WP_iload_n mq25 dd25_68 rfl
theorem dd25_69 : decode cX3_weightOf 69 = .ok (.iaload, 1) := by decide +kernel
theorem ww25_69 {d : Nat} {l0 l1 l2 l3 l4 l5 l6 l7 l8 : Option mw_V} {z : Int} {a : Nat} {st : List mw_V} {σ : mw_S} {Q : Option mw_V → mw_S → Prop} : mw_WP d 25 69 [l0, l1, l2, l3, l4, l5, l6, l7, l8] (jI z :: jR a :: st) σ Q ↔ ((0 ≤ z ∧ z < mw_lenI a) ∧ mw_WP d 25 70 [l0, l1, l2, l3, l4, l5, l6, l7, l8] (jI (mw_rdI σ a z.toNat) :: st) σ Q) := WP_iaload mq25 dd25_69
theorem dd25_70 : decode cX3_weightOf 70 = .ok (.i2l, 1) := by decide +kernel
theorem ww25_70 {d : Nat} {l0 l1 l2 l3 l4 l5 l6 l7 l8 : Option mw_V} {x : Int} {st : List mw_V} {σ : mw_S} {Q : Option mw_V → mw_S → Prop} : mw_WP d 25 70 [l0, l1, l2, l3, l4, l5, l6, l7, l8] (jI x :: st) σ Q ↔ mw_WP d 25 71 [l0, l1, l2, l3, l4, l5, l6, l7, l8] (jL (yL x) :: st) σ Q := WP_i2l mq25 dd25_70
theorem dd25_71 : decode cX3_weightOf 71 = .ok (.ldiv, 1) := by decide +kernel
theorem ww25_71 {d : Nat} {l0 l1 l2 l3 l4 l5 l6 l7 l8 : Option mw_V} {x y : Int} {st : List mw_V} {σ : mw_S} {Q : Option mw_V → mw_S → Prop} : mw_WP d 25 71 [l0, l1, l2, l3, l4, l5, l6, l7, l8] (jL y :: jL x :: st) σ Q ↔ (¬ i64 y = 0 ∧ mw_WP d 25 72 [l0, l1, l2, l3, l4, l5, l6, l7, l8] (jL (yDiv x y) :: st) σ Q) := WP_ldiv mq25 dd25_71
theorem dd25_72 : decode cX3_weightOf 72 = .ok (.ldc2_w 100, 3) := by decide +kernel
theorem ww25_72 {d : Nat} {l0 l1 l2 l3 l4 l5 l6 l7 l8 : Option mw_V} {st : List mw_V} {σ : mw_S} {Q : Option mw_V → mw_S → Prop} : mw_WP d 25 72 [l0, l1, l2, l3, l4, l5, l6, l7, l8] st σ Q ↔ mw_WP d 25 75 [l0, l1, l2, l3, l4, l5, l6, l7, l8] (jL (9) :: st) σ Q := WP_ldc2_w (v := 9) mq25 dd25_72 (by decide) (by decide)
theorem dd25_75 : decode cX3_weightOf 75 = .ok (.lrem, 1) := by decide +kernel
theorem ww25_75 {d : Nat} {l0 l1 l2 l3 l4 l5 l6 l7 l8 : Option mw_V} {x y : Int} {st : List mw_V} {σ : mw_S} {Q : Option mw_V → mw_S → Prop} : mw_WP d 25 75 [l0, l1, l2, l3, l4, l5, l6, l7, l8] (jL y :: jL x :: st) σ Q ↔ (¬ i64 y = 0 ∧ mw_WP d 25 76 [l0, l1, l2, l3, l4, l5, l6, l7, l8] (jL (yRem x y) :: st) σ Q) := WP_lrem mq25 dd25_75
theorem dd25_76 : decode cX3_weightOf 76 = .ok (.l2i, 1) := by decide +kernel
theorem ww25_76 {d : Nat} {l0 l1 l2 l3 l4 l5 l6 l7 l8 : Option mw_V} {x : Int} {st : List mw_V} {σ : mw_S} {Q : Option mw_V → mw_S → Prop} : mw_WP d 25 76 [l0, l1, l2, l3, l4, l5, l6, l7, l8] (jL x :: st) σ Q ↔ mw_WP d 25 77 [l0, l1, l2, l3, l4, l5, l6, l7, l8] (jI (zI x) :: st) σ Q := WP_l2i mq25 dd25_76
theorem dd25_77 : decode cX3_weightOf 77 = .ok (.istore 8, 2) := by decide +kernel
theorem ww25_77 {d : Nat} {l0 l1 l2 l3 l4 l5 l6 l7 l8 : Option mw_V} {x : Int} {st : List mw_V} {σ : mw_S} {Q : Option mw_V → mw_S → Prop} (h : mw_nlo l7 = true) : mw_WP d 25 77 [l0, l1, l2, l3, l4, l5, l6, l7, l8] (jI x :: st) σ Q ↔ mw_WP d 25 79 [l0, l1, l2, l3, l4, l5, l6, l7, some (jI x)] st σ Q := WP_istore mq25 dd25_77 (Nat.le_of_ble_eq_true rfl) (mw_nl_of (i := 7) rfl h) rfl
theorem dd25_79 : decode cX3_weightOf 79 = .ok (.iload 6, 2) := by decide +kernel
theorem ww25_79 {d : Nat} {l0 l1 l2 l3 l4 l5 l7 l8 : Option mw_V} {x : Int} {st : List mw_V} {σ : mw_S} {Q : Option mw_V → mw_S → Prop} : mw_WP d 25 79 [l0, l1, l2, l3, l4, l5, some (jI x), l7, l8] st σ Q ↔ mw_WP d 25 81 [l0, l1, l2, l3, l4, l5, some (jI x), l7, l8] (jI x :: st) σ Q := WP_iload mq25 dd25_79 rfl
theorem dd25_81 : decode cX3_weightOf 81 = .ok (.iload 8, 2) := by decide +kernel
theorem ww25_81 {d : Nat} {l0 l1 l2 l3 l4 l5 l6 l7 : Option mw_V} {x : Int} {st : List mw_V} {σ : mw_S} {Q : Option mw_V → mw_S → Prop} : mw_WP d 25 81 [l0, l1, l2, l3, l4, l5, l6, l7, some (jI x)] st σ Q ↔ mw_WP d 25 83 [l0, l1, l2, l3, l4, l5, l6, l7, some (jI x)] (jI x :: st) σ Q := WP_iload mq25 dd25_81 rfl
theorem dd25_83 : decode cX3_weightOf 83 = .ok (.invokestatic 102, 3) := by decide +kernel
theorem ww25_83 {d : Nat} {l0 l1 l2 l3 l4 l5 l6 l7 l8 : Option mw_V} {v0 v1 : mw_V} {st : List mw_V} {σ : mw_S} {Q : Option mw_V → mw_S → Prop} (h8 : (st.map mw_cat).sum ≤ 8) : mw_WP d 25 83 [l0, l1, l2, l3, l4, l5, l6, l7, l8] (v1 :: v0 :: st) σ Q ↔ mw_Call d 93 [v0, v1] σ (fun r1 s1 => mw_WP d 25 86 [l0, l1, l2, l3, l4, l5, l6, l7, l8] (r1.toList ++ st) s1 Q) := WP_invs (as := [v1, v0]) mq25 dd25_83 (by decide) mq93 rfl rfl h8
theorem dd25_86 : decode cX3_weightOf 86 = .ok (.istore 6, 2) := by decide +kernel
theorem ww25_86 {d : Nat} {l0 l1 l2 l3 l4 l5 l6 l7 l8 : Option mw_V} {x : Int} {st : List mw_V} {σ : mw_S} {Q : Option mw_V → mw_S → Prop} (h : mw_nlo l5 = true) : mw_WP d 25 86 [l0, l1, l2, l3, l4, l5, l6, l7, l8] (jI x :: st) σ Q ↔ mw_WP d 25 88 [l0, l1, l2, l3, l4, l5, some (jI x), l7, l8] st σ Q := WP_istore mq25 dd25_86 (Nat.le_of_ble_eq_true rfl) (mw_nl_of (i := 5) rfl h) rfl
theorem dd25_88 : decode cX3_weightOf 88 = .ok (.aload_n 0, 1) := by decide +kernel
theorem ww25_88 {d : Nat} {l1 l2 l3 l4 l5 l6 l7 l8 : Option mw_V} {x : Nat} {st : List mw_V} {σ : mw_S} {Q : Option mw_V → mw_S → Prop} : mw_WP d 25 88 [some (jR x), l1, l2, l3, l4, l5, l6, l7, l8] st σ Q ↔ mw_WP d 25 89 [some (jR x), l1, l2, l3, l4, l5, l6, l7, l8] (jR x :: st) σ Q := WP_aload_n mq25 dd25_88 rfl
theorem dd25_89 : decode cX3_weightOf 89 = .ok (.aload_n 0, 1) := by decide +kernel
theorem ww25_89 {d : Nat} {l1 l2 l3 l4 l5 l6 l7 l8 : Option mw_V} {x : Nat} {st : List mw_V} {σ : mw_S} {Q : Option mw_V → mw_S → Prop} : mw_WP d 25 89 [some (jR x), l1, l2, l3, l4, l5, l6, l7, l8] st σ Q ↔ mw_WP d 25 90 [some (jR x), l1, l2, l3, l4, l5, l6, l7, l8] (jR x :: st) σ Q := WP_aload_n mq25 dd25_89 rfl
theorem dd25_90 : decode cX3_weightOf 90 = .ok (.getfield 27, 3) := by decide +kernel
theorem ww25_90 {d : Nat} {l0 l1 l2 l3 l4 l5 l6 l7 l8 : Option mw_V} {st : List mw_V} {σ : mw_S} {Q : Option mw_V → mw_S → Prop} : mw_WP d 25 90 [l0, l1, l2, l3, l4, l5, l6, l7, l8] (jR 55 :: st) σ Q ↔ mw_WP d 25 93 [l0, l1, l2, l3, l4, l5, l6, l7, l8] (jR 22 :: st) σ Q := WP_getR (ci := 2) (k := 3) mq25 dd25_90 (by decide) rfl
theorem dd25_93 : decode cX3_weightOf 93 = .ok (.iload 6, 2) := by decide +kernel
theorem ww25_93 {d : Nat} {l0 l1 l2 l3 l4 l5 l7 l8 : Option mw_V} {x : Int} {st : List mw_V} {σ : mw_S} {Q : Option mw_V → mw_S → Prop} : mw_WP d 25 93 [l0, l1, l2, l3, l4, l5, some (jI x), l7, l8] st σ Q ↔ mw_WP d 25 95 [l0, l1, l2, l3, l4, l5, some (jI x), l7, l8] (jI x :: st) σ Q := WP_iload mq25 dd25_93 rfl
theorem dd25_95 : decode cX3_weightOf 95 = .ok (.iload_n 2, 1) := by decide +kernel
theorem ww25_95 {d : Nat} {l0 l1 l3 l4 l5 l6 l7 l8 : Option mw_V} {x : Int} {st : List mw_V} {σ : mw_S} {Q : Option mw_V → mw_S → Prop} : mw_WP d 25 95 [l0, l1, some (jI x), l3, l4, l5, l6, l7, l8] st σ Q ↔ mw_WP d 25 96 [l0, l1, some (jI x), l3, l4, l5, l6, l7, l8] (jI x :: st) σ Q := WP_iload_n mq25 dd25_95 rfl
theorem dd25_96 : decode cX3_weightOf 96 = .ok (.invokevirtual 105, 3) := by decide +kernel
theorem ww25_96 {d : Nat} {l0 l1 l2 l3 l4 l5 l6 l7 l8 : Option mw_V} {v0 v1 : mw_V} {a : Nat} {st : List mw_V} {σ : mw_S} {Q : Option mw_V → mw_S → Prop} (hr : mw_rc a = 9) (h8 : (st.map mw_cat).sum ≤ 8) : mw_WP d 25 96 [l0, l1, l2, l3, l4, l5, l6, l7, l8] (v1 :: v0 :: jR a :: st) σ Q ↔ mw_Call d 92 [jR a, v0, v1] σ (fun r1 s1 => mw_WP d 25 99 [l0, l1, l2, l3, l4, l5, l6, l7, l8] (r1.toList ++ st) s1 Q) := WP_inv (as := [v1, v0]) mq25 dd25_96 (by decide) mq92 rfl hr h8
theorem dd25_99 : decode cX3_weightOf 99 = .ok (.invokevirtual 108, 3) := by decide +kernel
theorem ww25_99 {d : Nat} {l0 l1 l2 l3 l4 l5 l6 l7 l8 : Option mw_V} {v0 : mw_V} {a : Nat} {st : List mw_V} {σ : mw_S} {Q : Option mw_V → mw_S → Prop} (hr : mw_rc a = 3) (h8 : (st.map mw_cat).sum ≤ 8) : mw_WP d 25 99 [l0, l1, l2, l3, l4, l5, l6, l7, l8] (v0 :: jR a :: st) σ Q ↔ mw_Call d 26 [jR a, v0] σ (fun r1 s1 => mw_WP d 25 102 [l0, l1, l2, l3, l4, l5, l6, l7, l8] (r1.toList ++ st) s1 Q) := WP_inv (as := [v0]) mq25 dd25_99 (by decide) mq26 rfl hr h8
theorem dd25_102 : decode cX3_weightOf 102 = .ok (.iinc 7 1, 3) := by decide +kernel
theorem ww25_102 {d : Nat} {l0 l1 l2 l3 l4 l5 l6 l8 : Option mw_V} {x : Int} {st : List mw_V} {σ : mw_S} {Q : Option mw_V → mw_S → Prop} (h : mw_nlo l6 = true) : mw_WP d 25 102 [l0, l1, l2, l3, l4, l5, l6, some (jI x), l8] st σ Q ↔ mw_WP d 25 105 [l0, l1, l2, l3, l4, l5, l6, some (jI (w32 (x + (1)))), l8] st σ Q := WP_iinc mq25 dd25_102 rfl (Nat.le_of_ble_eq_true rfl) (mw_nl_of (i := 6) rfl h) rfl
theorem dd25_105 : decode cX3_weightOf 105 = .ok (.goto (-59), 3) := by decide +kernel
theorem ww25_105 {d : Nat} {l0 l1 l2 l3 l4 l5 l6 l7 l8 : Option mw_V} {st : List mw_V} {σ : mw_S} {Q : Option mw_V → mw_S → Prop} : mw_WP d 25 105 [l0, l1, l2, l3, l4, l5, l6, l7, l8] st σ Q ↔ mw_WP d 25 46 [l0, l1, l2, l3, l4, l5, l6, l7, l8] st σ Q := WP_goto mq25 dd25_105 (by decide)
theorem dd25_108 : decode cX3_weightOf 108 = .ok (.iload 5, 2) := by decide +kernel
theorem ww25_108 {d : Nat} {l0 l1 l2 l3 l4 l6 l7 l8 : Option mw_V} {x : Int} {st : List mw_V} {σ : mw_S} {Q : Option mw_V → mw_S → Prop} : mw_WP d 25 108 [l0, l1, l2, l3, l4, some (jI x), l6, l7, l8] st σ Q ↔ mw_WP d 25 110 [l0, l1, l2, l3, l4, some (jI x), l6, l7, l8] (jI x :: st) σ Q := WP_iload mq25 dd25_108 rfl
theorem dd25_110 : decode cX3_weightOf 110 = .ok (.ifCond .lt 20, 3) := by decide +kernel
theorem ww25_110 {d : Nat} {l0 l1 l2 l3 l4 l5 l6 l7 l8 : Option mw_V} {x : Int} {st : List mw_V} {σ : mw_S} {Q : Option mw_V → mw_S → Prop} : mw_WP d 25 110 [l0, l1, l2, l3, l4, l5, l6, l7, l8] (jI x :: st) σ Q ↔ (if x < 0 then mw_WP d 25 130 [l0, l1, l2, l3, l4, l5, l6, l7, l8] st σ Q else mw_WP d 25 113 [l0, l1, l2, l3, l4, l5, l6, l7, l8] st σ Q) := WP_if_lt mq25 dd25_110 (by decide)
theorem dd25_113 : decode cX3_weightOf 113 = .ok (.iload 5, 2) := by decide +kernel
theorem ww25_113 {d : Nat} {l0 l1 l2 l3 l4 l6 l7 l8 : Option mw_V} {x : Int} {st : List mw_V} {σ : mw_S} {Q : Option mw_V → mw_S → Prop} : mw_WP d 25 113 [l0, l1, l2, l3, l4, some (jI x), l6, l7, l8] st σ Q ↔ mw_WP d 25 115 [l0, l1, l2, l3, l4, some (jI x), l6, l7, l8] (jI x :: st) σ Q := WP_iload mq25 dd25_113 rfl
theorem dd25_115 : decode cX3_weightOf 115 = .ok (.bipush 9, 2) := by decide +kernel
theorem ww25_115 {d : Nat} {l0 l1 l2 l3 l4 l5 l6 l7 l8 : Option mw_V} {st : List mw_V} {σ : mw_S} {Q : Option mw_V → mw_S → Prop} : mw_WP d 25 115 [l0, l1, l2, l3, l4, l5, l6, l7, l8] st σ Q ↔ mw_WP d 25 117 [l0, l1, l2, l3, l4, l5, l6, l7, l8] (jI (9) :: st) σ Q := WP_bipush mq25 dd25_115 (by decide)
theorem dd25_117 : decode cX3_weightOf 117 = .ok (.if_icmp .ge 13, 3) := by decide +kernel
theorem ww25_117 {d : Nat} {l0 l1 l2 l3 l4 l5 l6 l7 l8 : Option mw_V} {x y : Int} {st : List mw_V} {σ : mw_S} {Q : Option mw_V → mw_S → Prop} : mw_WP d 25 117 [l0, l1, l2, l3, l4, l5, l6, l7, l8] (jI y :: jI x :: st) σ Q ↔ (if y ≤ x then mw_WP d 25 130 [l0, l1, l2, l3, l4, l5, l6, l7, l8] st σ Q else mw_WP d 25 120 [l0, l1, l2, l3, l4, l5, l6, l7, l8] st σ Q) := WP_icmp_ge mq25 dd25_117 (by decide)
theorem dd25_120 : decode cX3_weightOf 120 = .ok (.aload_n 0, 1) := by decide +kernel
theorem ww25_120 {d : Nat} {l1 l2 l3 l4 l5 l6 l7 l8 : Option mw_V} {x : Nat} {st : List mw_V} {σ : mw_S} {Q : Option mw_V → mw_S → Prop} : mw_WP d 25 120 [some (jR x), l1, l2, l3, l4, l5, l6, l7, l8] st σ Q ↔ mw_WP d 25 121 [some (jR x), l1, l2, l3, l4, l5, l6, l7, l8] (jR x :: st) σ Q := WP_aload_n mq25 dd25_120 rfl
theorem dd25_121 : decode cX3_weightOf 121 = .ok (.getfield 20, 3) := by decide +kernel
theorem ww25_121 {d : Nat} {l0 l1 l2 l3 l4 l5 l6 l7 l8 : Option mw_V} {st : List mw_V} {σ : mw_S} {Q : Option mw_V → mw_S → Prop} : mw_WP d 25 121 [l0, l1, l2, l3, l4, l5, l6, l7, l8] (jR 55 :: st) σ Q ↔ mw_WP d 25 124 [l0, l1, l2, l3, l4, l5, l6, l7, l8] (jR 63 :: st) σ Q := WP_getR (ci := 2) (k := 6) mq25 dd25_121 (by decide) rfl
theorem dd25_124 : decode cX3_weightOf 124 = .ok (.iload 5, 2) := by decide +kernel
theorem ww25_124 {d : Nat} {l0 l1 l2 l3 l4 l6 l7 l8 : Option mw_V} {x : Int} {st : List mw_V} {σ : mw_S} {Q : Option mw_V → mw_S → Prop} : mw_WP d 25 124 [l0, l1, l2, l3, l4, some (jI x), l6, l7, l8] st σ Q ↔ mw_WP d 25 126 [l0, l1, l2, l3, l4, some (jI x), l6, l7, l8] (jI x :: st) σ Q := WP_iload mq25 dd25_124 rfl
theorem dd25_126 : decode cX3_weightOf 126 = .ok (.laload, 1) := by decide +kernel
theorem ww25_126 {d : Nat} {l0 l1 l2 l3 l4 l5 l6 l7 l8 : Option mw_V} {z : Int} {a : Nat} {st : List mw_V} {σ : mw_S} {Q : Option mw_V → mw_S → Prop} : mw_WP d 25 126 [l0, l1, l2, l3, l4, l5, l6, l7, l8] (jI z :: jR a :: st) σ Q ↔ ((0 ≤ z ∧ z < mw_lenW 2 a) ∧ mw_WP d 25 127 [l0, l1, l2, l3, l4, l5, l6, l7, l8] (jL (σ a z.toNat) :: st) σ Q) := WP_laload mq25 dd25_126
theorem dd25_127 : decode cX3_weightOf 127 = .ok (.goto 4, 3) := by decide +kernel
theorem ww25_127 {d : Nat} {l0 l1 l2 l3 l4 l5 l6 l7 l8 : Option mw_V} {st : List mw_V} {σ : mw_S} {Q : Option mw_V → mw_S → Prop} : mw_WP d 25 127 [l0, l1, l2, l3, l4, l5, l6, l7, l8] st σ Q ↔ mw_WP d 25 131 [l0, l1, l2, l3, l4, l5, l6, l7, l8] st σ Q := WP_goto mq25 dd25_127 (by decide)
theorem dd25_130 : decode cX3_weightOf 130 = .ok (.lconst 0, 1) := by decide +kernel
theorem ww25_130 {d : Nat} {l0 l1 l2 l3 l4 l5 l6 l7 l8 : Option mw_V} {st : List mw_V} {σ : mw_S} {Q : Option mw_V → mw_S → Prop} : mw_WP d 25 130 [l0, l1, l2, l3, l4, l5, l6, l7, l8] st σ Q ↔ mw_WP d 25 131 [l0, l1, l2, l3, l4, l5, l6, l7, l8] (jL (0) :: st) σ Q := WP_lconst mq25 dd25_130 (by decide)
theorem dd25_131 : decode cX3_weightOf 131 = .ok (.lreturn, 1) := by decide +kernel
theorem ww25_131 {d : Nat} {l0 l1 l2 l3 l4 l5 l6 l7 l8 : Option mw_V} {z : Int} {σ : mw_S} {Q : Option mw_V → mw_S → Prop} : mw_WP d 25 131 [l0, l1, l2, l3, l4, l5, l6, l7, l8] [jL z] σ Q ↔ Q (some (jL z)) σ := WP_lreturn mq25 dd25_131 rfl
theorem ee26 {d : Nat} {a : Nat} {z0 : Int} {σ : mw_S} {Q : Option mw_V → mw_S → Prop} : mw_Call (d + 1) 26 [jR a, jI z0] σ Q ↔ mw_WP d 26 0 [some (jR a), some (jI z0), none, none] [] σ Q := CL_u mq26 (Nat.le_of_ble_eq_true rfl) rfl
theorem dd26_0 : decode cX3_spreadWeights 0 = .ok (.aload_n 0, 1) := by decide +kernel
theorem ww26_0 {d : Nat} {l1 l2 l3 : Option mw_V} {x : Nat} {st : List mw_V} {σ : mw_S} {Q : Option mw_V → mw_S → Prop} : mw_WP d 26 0 [some (jR x), l1, l2, l3] st σ Q ↔ mw_WP d 26 1 [some (jR x), l1, l2, l3] (jR x :: st) σ Q := WP_aload_n mq26 dd26_0 rfl
theorem dd26_1 : decode cX3_spreadWeights 1 = .ok (.getfield 27, 3) := by decide +kernel
theorem ww26_1 {d : Nat} {l0 l1 l2 l3 : Option mw_V} {st : List mw_V} {σ : mw_S} {Q : Option mw_V → mw_S → Prop} : mw_WP d 26 1 [l0, l1, l2, l3] (jR 55 :: st) σ Q ↔ mw_WP d 26 4 [l0, l1, l2, l3] (jR 22 :: st) σ Q := WP_getR (ci := 2) (k := 3) mq26 dd26_1 (by decide) rfl
theorem dd26_4 : decode cX3_spreadWeights 4 = .ok (.getfield 112, 3) := by decide +kernel
theorem ww26_4 {d : Nat} {l0 l1 l2 l3 : Option mw_V} {st : List mw_V} {σ : mw_S} {Q : Option mw_V → mw_S → Prop} : mw_WP d 26 4 [l0, l1, l2, l3] (jR 22 :: st) σ Q ↔ mw_WP d 26 7 [l0, l1, l2, l3] (jR 13 :: st) σ Q := WP_getR (ci := 8) (k := 0) mq26 dd26_4 (by decide) rfl
theorem dd26_7 : decode cX3_spreadWeights 7 = .ok (.getfield 116, 3) := by decide +kernel
theorem ww26_7i3 {d : Nat} {l0 l1 l2 l3 : Option mw_V} {st : List mw_V} {σ : mw_S} {Q : Option mw_V → mw_S → Prop} : mw_WP d 26 7 [l0, l1, l2, l3] (jR 3 :: st) σ Q ↔ mw_WP d 26 10 [l0, l1, l2, l3] (jI (σ 3 4) :: st) σ Q := WP_getI (ci := 0) (k := 4) mq26 dd26_7 (by decide) (Or.inl rfl)
theorem ww26_7i13 {d : Nat} {l0 l1 l2 l3 : Option mw_V} {st : List mw_V} {σ : mw_S} {Q : Option mw_V → mw_S → Prop} : mw_WP d 26 7 [l0, l1, l2, l3] (jR 13 :: st) σ Q ↔ mw_WP d 26 10 [l0, l1, l2, l3] (jI (σ 13 4) :: st) σ Q := WP_getI (ci := 0) (k := 4) mq26 dd26_7 (by decide) (Or.inl rfl)
theorem ww26_7i77 {d : Nat} {l0 l1 l2 l3 : Option mw_V} {st : List mw_V} {σ : mw_S} {Q : Option mw_V → mw_S → Prop} : mw_WP d 26 7 [l0, l1, l2, l3] (jR 77 :: st) σ Q ↔ mw_WP d 26 10 [l0, l1, l2, l3] (jI (σ 77 4) :: st) σ Q := WP_getI (ci := 0) (k := 4) mq26 dd26_7 (by decide) (Or.inl rfl)
theorem ww26_7i88 {d : Nat} {l0 l1 l2 l3 : Option mw_V} {st : List mw_V} {σ : mw_S} {Q : Option mw_V → mw_S → Prop} : mw_WP d 26 7 [l0, l1, l2, l3] (jR 88 :: st) σ Q ↔ mw_WP d 26 10 [l0, l1, l2, l3] (jI (σ 88 4) :: st) σ Q := WP_getI (ci := 0) (k := 4) mq26 dd26_7 (by decide) (Or.inl rfl)
theorem dd26_10 : decode cX3_spreadWeights 10 = .ok (.istore_n 2, 1) := by decide +kernel
theorem ww26_10 {d : Nat} {l0 l1 l2 l3 : Option mw_V} {x : Int} {st : List mw_V} {σ : mw_S} {Q : Option mw_V → mw_S → Prop} (h : mw_nlo l1 = true) : mw_WP d 26 10 [l0, l1, l2, l3] (jI x :: st) σ Q ↔ mw_WP d 26 11 [l0, l1, some (jI x), l3] st σ Q := WP_istore_n mq26 dd26_10 (Nat.le_of_ble_eq_true rfl) (mw_nl_of (i := 1) rfl h) rfl
theorem dd26_11 : decode cX3_spreadWeights 11 = .ok (.iconst 0, 1) := by decide +kernel
theorem ww26_11 {d : Nat} {l0 l1 l2 l3 : Option mw_V} {st : List mw_V} {σ : mw_S} {Q : Option mw_V → mw_S → Prop} : mw_WP d 26 11 [l0, l1, l2, l3] st σ Q ↔ mw_WP d 26 12 [l0, l1, l2, l3] (jI (0) :: st) σ Q := WP_iconst mq26 dd26_11 (by decide)
theorem dd26_12 : decode cX3_spreadWeights 12 = .ok (.istore_n 3, 1) := by decide +kernel
theorem ww26_12 {d : Nat} {l0 l1 l2 l3 : Option mw_V} {x : Int} {st : List mw_V} {σ : mw_S} {Q : Option mw_V → mw_S → Prop} (h : mw_nlo l2 = true) : mw_WP d 26 12 [l0, l1, l2, l3] (jI x :: st) σ Q ↔ mw_WP d 26 13 [l0, l1, l2, some (jI x)] st σ Q := WP_istore_n mq26 dd26_12 (Nat.le_of_ble_eq_true rfl) (mw_nl_of (i := 2) rfl h) rfl
theorem dd26_13 : decode cX3_spreadWeights 13 = .ok (.iload_n 3, 1) := by decide +kernel
theorem ww26_13 {d : Nat} {l0 l1 l2 : Option mw_V} {x : Int} {st : List mw_V} {σ : mw_S} {Q : Option mw_V → mw_S → Prop} : mw_WP d 26 13 [l0, l1, l2, some (jI x)] st σ Q ↔ mw_WP d 26 14 [l0, l1, l2, some (jI x)] (jI x :: st) σ Q := WP_iload_n mq26 dd26_13 rfl
theorem dd26_14 : decode cX3_spreadWeights 14 = .ok (.bipush 9, 2) := by decide +kernel
theorem ww26_14 {d : Nat} {l0 l1 l2 l3 : Option mw_V} {st : List mw_V} {σ : mw_S} {Q : Option mw_V → mw_S → Prop} : mw_WP d 26 14 [l0, l1, l2, l3] st σ Q ↔ mw_WP d 26 16 [l0, l1, l2, l3] (jI (9) :: st) σ Q := WP_bipush mq26 dd26_14 (by decide)
theorem dd26_16 : decode cX3_spreadWeights 16 = .ok (.if_icmp .ge 16, 3) := by decide +kernel
theorem ww26_16 {d : Nat} {l0 l1 l2 l3 : Option mw_V} {x y : Int} {st : List mw_V} {σ : mw_S} {Q : Option mw_V → mw_S → Prop} : mw_WP d 26 16 [l0, l1, l2, l3] (jI y :: jI x :: st) σ Q ↔ (if y ≤ x then mw_WP d 26 32 [l0, l1, l2, l3] st σ Q else mw_WP d 26 19 [l0, l1, l2, l3] st σ Q) := WP_icmp_ge mq26 dd26_16 (by decide)
theorem dd26_19 : decode cX3_spreadWeights 19 = .ok (.aload_n 0, 1) := by decide +kernel
theorem ww26_19 {d : Nat} {l1 l2 l3 : Option mw_V} {x : Nat} {st : List mw_V} {σ : mw_S} {Q : Option mw_V → mw_S → Prop} : mw_WP d 26 19 [some (jR x), l1, l2, l3] st σ Q ↔ mw_WP d 26 20 [some (jR x), l1, l2, l3] (jR x :: st) σ Q := WP_aload_n mq26 dd26_19 rfl
theorem dd26_20 : decode cX3_spreadWeights 20 = .ok (.getfield 24, 3) := by decide +kernel
theorem ww26_20 {d : Nat} {l0 l1 l2 l3 : Option mw_V} {st : List mw_V} {σ : mw_S} {Q : Option mw_V → mw_S → Prop} : mw_WP d 26 20 [l0, l1, l2, l3] (jR 55 :: st) σ Q ↔ mw_WP d 26 23 [l0, l1, l2, l3] (jR 64 :: st) σ Q := WP_getR (ci := 2) (k := 7) mq26 dd26_20 (by decide) rfl
theorem dd26_23 : decode cX3_spreadWeights 23 = .ok (.iload_n 3, 1) := by decide +kernel
theorem ww26_23 {d : Nat} {l0 l1 l2 : Option mw_V} {x : Int} {st : List mw_V} {σ : mw_S} {Q : Option mw_V → mw_S → Prop} : mw_WP d 26 23 [l0, l1, l2, some (jI x)] st σ Q ↔ mw_WP d 26 24 [l0, l1, l2, some (jI x)] (jI x :: st) σ Q := WP_iload_n mq26 dd26_23 rfl
theorem dd26_24 : decode cX3_spreadWeights 24 = .ok (.lconst 0, 1) := by decide +kernel
theorem ww26_24 {d : Nat} {l0 l1 l2 l3 : Option mw_V} {st : List mw_V} {σ : mw_S} {Q : Option mw_V → mw_S → Prop} : mw_WP d 26 24 [l0, l1, l2, l3] st σ Q ↔ mw_WP d 26 25 [l0, l1, l2, l3] (jL (0) :: st) σ Q := WP_lconst mq26 dd26_24 (by decide)
theorem dd26_25 : decode cX3_spreadWeights 25 = .ok (.lastore, 1) := by decide +kernel
theorem ww26_25 {d : Nat} {l0 l1 l2 l3 : Option mw_V} {x z : Int} {a : Nat} {st : List mw_V} {σ : mw_S} {Q : Option mw_V → mw_S → Prop} : mw_WP d 26 25 [l0, l1, l2, l3] (jL x :: jI z :: jR a :: st) σ Q ↔ ((0 ≤ z ∧ z < mw_lenW 2 a) ∧ mw_WP d 26 26 [l0, l1, l2, l3] st (upS σ a z.toNat x) Q) := WP_lastore mq26 dd26_25
theorem dd26_26 : decode cX3_spreadWeights 26 = .ok (.iinc 3 1, 3) := by decide +kernel
theorem ww26_26 {d : Nat} {l0 l1 l2 : Option mw_V} {x : Int} {st : List mw_V} {σ : mw_S} {Q : Option mw_V → mw_S → Prop} (h : mw_nlo l2 = true) : mw_WP d 26 26 [l0, l1, l2, some (jI x)] st σ Q ↔ mw_WP d 26 29 [l0, l1, l2, some (jI (w32 (x + (1))))] st σ Q := WP_iinc mq26 dd26_26 rfl (Nat.le_of_ble_eq_true rfl) (mw_nl_of (i := 2) rfl h) rfl
theorem dd26_29 : decode cX3_spreadWeights 29 = .ok (.goto (-16), 3) := by decide +kernel
theorem ww26_29 {d : Nat} {l0 l1 l2 l3 : Option mw_V} {st : List mw_V} {σ : mw_S} {Q : Option mw_V → mw_S → Prop} : mw_WP d 26 29 [l0, l1, l2, l3] st σ Q ↔ mw_WP d 26 13 [l0, l1, l2, l3] st σ Q := WP_goto mq26 dd26_29 (by decide)
theorem dd26_32 : decode cX3_spreadWeights 32 = .ok (.iconst 0, 1) := by decide +kernel
theorem ww26_32 {d : Nat} {l0 l1 l2 l3 : Option mw_V} {st : List mw_V} {σ : mw_S} {Q : Option mw_V → mw_S → Prop} : mw_WP d 26 32 [l0, l1, l2, l3] st σ Q ↔ mw_WP d 26 33 [l0, l1, l2, l3] (jI (0) :: st) σ Q := WP_iconst mq26 dd26_32 (by decide)
theorem dd26_33 : decode cX3_spreadWeights 33 = .ok (.istore_n 3, 1) := by decide +kernel
theorem ww26_33 {d : Nat} {l0 l1 l2 l3 : Option mw_V} {x : Int} {st : List mw_V} {σ : mw_S} {Q : Option mw_V → mw_S → Prop} (h : mw_nlo l2 = true) : mw_WP d 26 33 [l0, l1, l2, l3] (jI x :: st) σ Q ↔ mw_WP d 26 34 [l0, l1, l2, some (jI x)] st σ Q := WP_istore_n mq26 dd26_33 (Nat.le_of_ble_eq_true rfl) (mw_nl_of (i := 2) rfl h) rfl
theorem dd26_34 : decode cX3_spreadWeights 34 = .ok (.iload_n 3, 1) := by decide +kernel
theorem ww26_34 {d : Nat} {l0 l1 l2 : Option mw_V} {x : Int} {st : List mw_V} {σ : mw_S} {Q : Option mw_V → mw_S → Prop} : mw_WP d 26 34 [l0, l1, l2, some (jI x)] st σ Q ↔ mw_WP d 26 35 [l0, l1, l2, some (jI x)] (jI x :: st) σ Q := WP_iload_n mq26 dd26_34 rfl
theorem dd26_35 : decode cX3_spreadWeights 35 = .ok (.aload_n 0, 1) := by decide +kernel
theorem ww26_35 {d : Nat} {l1 l2 l3 : Option mw_V} {x : Nat} {st : List mw_V} {σ : mw_S} {Q : Option mw_V → mw_S → Prop} : mw_WP d 26 35 [some (jR x), l1, l2, l3] st σ Q ↔ mw_WP d 26 36 [some (jR x), l1, l2, l3] (jR x :: st) σ Q := WP_aload_n mq26 dd26_35 rfl
theorem dd26_36 : decode cX3_spreadWeights 36 = .ok (.getfield 27, 3) := by decide +kernel
theorem ww26_36 {d : Nat} {l0 l1 l2 l3 : Option mw_V} {st : List mw_V} {σ : mw_S} {Q : Option mw_V → mw_S → Prop} : mw_WP d 26 36 [l0, l1, l2, l3] (jR 55 :: st) σ Q ↔ mw_WP d 26 39 [l0, l1, l2, l3] (jR 22 :: st) σ Q := WP_getR (ci := 2) (k := 3) mq26 dd26_36 (by decide) rfl
theorem dd26_39 : decode cX3_spreadWeights 39 = .ok (.getfield 112, 3) := by decide +kernel
theorem ww26_39 {d : Nat} {l0 l1 l2 l3 : Option mw_V} {st : List mw_V} {σ : mw_S} {Q : Option mw_V → mw_S → Prop} : mw_WP d 26 39 [l0, l1, l2, l3] (jR 22 :: st) σ Q ↔ mw_WP d 26 42 [l0, l1, l2, l3] (jR 13 :: st) σ Q := WP_getR (ci := 8) (k := 0) mq26 dd26_39 (by decide) rfl
theorem dd26_42 : decode cX3_spreadWeights 42 = .ok (.getfield 121, 3) := by decide +kernel
theorem ww26_42i3 {d : Nat} {l0 l1 l2 l3 : Option mw_V} {st : List mw_V} {σ : mw_S} {Q : Option mw_V → mw_S → Prop} : mw_WP d 26 42 [l0, l1, l2, l3] (jR 3 :: st) σ Q ↔ mw_WP d 26 45 [l0, l1, l2, l3] (jI (σ 3 0) :: st) σ Q := WP_getI (ci := 0) (k := 0) mq26 dd26_42 (by decide) (Or.inl rfl)
theorem ww26_42i13 {d : Nat} {l0 l1 l2 l3 : Option mw_V} {st : List mw_V} {σ : mw_S} {Q : Option mw_V → mw_S → Prop} : mw_WP d 26 42 [l0, l1, l2, l3] (jR 13 :: st) σ Q ↔ mw_WP d 26 45 [l0, l1, l2, l3] (jI (σ 13 0) :: st) σ Q := WP_getI (ci := 0) (k := 0) mq26 dd26_42 (by decide) (Or.inl rfl)
theorem ww26_42i77 {d : Nat} {l0 l1 l2 l3 : Option mw_V} {st : List mw_V} {σ : mw_S} {Q : Option mw_V → mw_S → Prop} : mw_WP d 26 42 [l0, l1, l2, l3] (jR 77 :: st) σ Q ↔ mw_WP d 26 45 [l0, l1, l2, l3] (jI (σ 77 0) :: st) σ Q := WP_getI (ci := 0) (k := 0) mq26 dd26_42 (by decide) (Or.inl rfl)
theorem ww26_42i88 {d : Nat} {l0 l1 l2 l3 : Option mw_V} {st : List mw_V} {σ : mw_S} {Q : Option mw_V → mw_S → Prop} : mw_WP d 26 42 [l0, l1, l2, l3] (jR 88 :: st) σ Q ↔ mw_WP d 26 45 [l0, l1, l2, l3] (jI (σ 88 0) :: st) σ Q := WP_getI (ci := 0) (k := 0) mq26 dd26_42 (by decide) (Or.inl rfl)
theorem dd26_45 : decode cX3_spreadWeights 45 = .ok (.if_icmp .ge 56, 3) := by decide +kernel
theorem ww26_45 {d : Nat} {l0 l1 l2 l3 : Option mw_V} {x y : Int} {st : List mw_V} {σ : mw_S} {Q : Option mw_V → mw_S → Prop} : mw_WP d 26 45 [l0, l1, l2, l3] (jI y :: jI x :: st) σ Q ↔ (if y ≤ x then mw_WP d 26 101 [l0, l1, l2, l3] st σ Q else mw_WP d 26 48 [l0, l1, l2, l3] st σ Q) := WP_icmp_ge mq26 dd26_45 (by decide)
theorem dd26_48 : decode cX3_spreadWeights 48 = .ok (.aload_n 0, 1) := by decide +kernel
theorem ww26_48 {d : Nat} {l1 l2 l3 : Option mw_V} {x : Nat} {st : List mw_V} {σ : mw_S} {Q : Option mw_V → mw_S → Prop} : mw_WP d 26 48 [some (jR x), l1, l2, l3] st σ Q ↔ mw_WP d 26 49 [some (jR x), l1, l2, l3] (jR x :: st) σ Q := WP_aload_n mq26 dd26_48 rfl
theorem dd26_49 : decode cX3_spreadWeights 49 = .ok (.getfield 24, 3) := by decide +kernel
theorem ww26_49 {d : Nat} {l0 l1 l2 l3 : Option mw_V} {st : List mw_V} {σ : mw_S} {Q : Option mw_V → mw_S → Prop} : mw_WP d 26 49 [l0, l1, l2, l3] (jR 55 :: st) σ Q ↔ mw_WP d 26 52 [l0, l1, l2, l3] (jR 64 :: st) σ Q := WP_getR (ci := 2) (k := 7) mq26 dd26_49 (by decide) rfl
theorem dd26_52 : decode cX3_spreadWeights 52 = .ok (.iload_n 3, 1) := by decide +kernel
theorem ww26_52 {d : Nat} {l0 l1 l2 : Option mw_V} {x : Int} {st : List mw_V} {σ : mw_S} {Q : Option mw_V → mw_S → Prop} : mw_WP d 26 52 [l0, l1, l2, some (jI x)] st σ Q ↔ mw_WP d 26 53 [l0, l1, l2, some (jI x)] (jI x :: st) σ Q := WP_iload_n mq26 dd26_52 rfl
theorem dd26_53 : decode cX3_spreadWeights 53 = .ok (.dup2, 1) := by decide +kernel
theorem ww26_53 {d : Nat} {l0 l1 l2 l3 : Option mw_V} {v w : mw_V} {st : List mw_V} {σ : mw_S} {Q : Option mw_V → mw_S → Prop} (h : mw_cat v = 1) (h2 : mw_cat w = 1) : mw_WP d 26 53 [l0, l1, l2, l3] (v :: w :: st) σ Q ↔ mw_WP d 26 54 [l0, l1, l2, l3] (v :: w :: v :: w :: st) σ Q := WP_dup2 mq26 dd26_53 h h2
theorem dd26_54 : decode cX3_spreadWeights 54 = .ok (.laload, 1) := by decide +kernel
theorem ww26_54 {d : Nat} {l0 l1 l2 l3 : Option mw_V} {z : Int} {a : Nat} {st : List mw_V} {σ : mw_S} {Q : Option mw_V → mw_S → Prop} : mw_WP d 26 54 [l0, l1, l2, l3] (jI z :: jR a :: st) σ Q ↔ ((0 ≤ z ∧ z < mw_lenW 2 a) ∧ mw_WP d 26 55 [l0, l1, l2, l3] (jL (σ a z.toNat) :: st) σ Q) := WP_laload mq26 dd26_54
theorem dd26_55 : decode cX3_spreadWeights 55 = .ok (.aload_n 0, 1) := by decide +kernel
theorem ww26_55 {d : Nat} {l1 l2 l3 : Option mw_V} {x : Nat} {st : List mw_V} {σ : mw_S} {Q : Option mw_V → mw_S → Prop} : mw_WP d 26 55 [some (jR x), l1, l2, l3] st σ Q ↔ mw_WP d 26 56 [some (jR x), l1, l2, l3] (jR x :: st) σ Q := WP_aload_n mq26 dd26_55 rfl
theorem dd26_56 : decode cX3_spreadWeights 56 = .ok (.getfield 20, 3) := by decide +kernel
theorem ww26_56 {d : Nat} {l0 l1 l2 l3 : Option mw_V} {st : List mw_V} {σ : mw_S} {Q : Option mw_V → mw_S → Prop} : mw_WP d 26 56 [l0, l1, l2, l3] (jR 55 :: st) σ Q ↔ mw_WP d 26 59 [l0, l1, l2, l3] (jR 63 :: st) σ Q := WP_getR (ci := 2) (k := 6) mq26 dd26_56 (by decide) rfl
theorem dd26_59 : decode cX3_spreadWeights 59 = .ok (.iload_n 3, 1) := by decide +kernel
theorem ww26_59 {d : Nat} {l0 l1 l2 : Option mw_V} {x : Int} {st : List mw_V} {σ : mw_S} {Q : Option mw_V → mw_S → Prop} : mw_WP d 26 59 [l0, l1, l2, some (jI x)] st σ Q ↔ mw_WP d 26 60 [l0, l1, l2, some (jI x)] (jI x :: st) σ Q := WP_iload_n mq26 dd26_59 rfl
theorem dd26_60 : decode cX3_spreadWeights 60 = .ok (.laload, 1) := by decide +kernel
theorem ww26_60 {d : Nat} {l0 l1 l2 l3 : Option mw_V} {z : Int} {a : Nat} {st : List mw_V} {σ : mw_S} {Q : Option mw_V → mw_S → Prop} : mw_WP d 26 60 [l0, l1, l2, l3] (jI z :: jR a :: st) σ Q ↔ ((0 ≤ z ∧ z < mw_lenW 2 a) ∧ mw_WP d 26 61 [l0, l1, l2, l3] (jL (σ a z.toNat) :: st) σ Q) := WP_laload mq26 dd26_60
theorem dd26_61 : decode cX3_spreadWeights 61 = .ok (.iload_n 2, 1) := by decide +kernel
theorem ww26_61 {d : Nat} {l0 l1 l3 : Option mw_V} {x : Int} {st : List mw_V} {σ : mw_S} {Q : Option mw_V → mw_S → Prop} : mw_WP d 26 61 [l0, l1, some (jI x), l3] st σ Q ↔ mw_WP d 26 62 [l0, l1, some (jI x), l3] (jI x :: st) σ Q := WP_iload_n mq26 dd26_61 rfl
theorem dd26_62 : decode cX3_spreadWeights 62 = .ok (.i2l, 1) := by decide +kernel
theorem ww26_62 {d : Nat} {l0 l1 l2 l3 : Option mw_V} {x : Int} {st : List mw_V} {σ : mw_S} {Q : Option mw_V → mw_S → Prop} : mw_WP d 26 62 [l0, l1, l2, l3] (jI x :: st) σ Q ↔ mw_WP d 26 63 [l0, l1, l2, l3] (jL (yL x) :: st) σ Q := WP_i2l mq26 dd26_62
theorem dd26_63 : decode cX3_spreadWeights 63 = .ok (.lmul, 1) := by decide +kernel
theorem ww26_63 {d : Nat} {l0 l1 l2 l3 : Option mw_V} {x y : Int} {st : List mw_V} {σ : mw_S} {Q : Option mw_V → mw_S → Prop} : mw_WP d 26 63 [l0, l1, l2, l3] (jL y :: jL x :: st) σ Q ↔ mw_WP d 26 64 [l0, l1, l2, l3] (jL (w64 (x * y)) :: st) σ Q := WP_lmul mq26 dd26_63
theorem dd26_64 : decode cX3_spreadWeights 64 = .ok (.ladd, 1) := by decide +kernel
theorem ww26_64 {d : Nat} {l0 l1 l2 l3 : Option mw_V} {x y : Int} {st : List mw_V} {σ : mw_S} {Q : Option mw_V → mw_S → Prop} : mw_WP d 26 64 [l0, l1, l2, l3] (jL y :: jL x :: st) σ Q ↔ mw_WP d 26 65 [l0, l1, l2, l3] (jL (w64 (x + y)) :: st) σ Q := WP_ladd mq26 dd26_64
theorem dd26_65 : decode cX3_spreadWeights 65 = .ok (.lastore, 1) := by decide +kernel
theorem ww26_65 {d : Nat} {l0 l1 l2 l3 : Option mw_V} {x z : Int} {a : Nat} {st : List mw_V} {σ : mw_S} {Q : Option mw_V → mw_S → Prop} : mw_WP d 26 65 [l0, l1, l2, l3] (jL x :: jI z :: jR a :: st) σ Q ↔ ((0 ≤ z ∧ z < mw_lenW 2 a) ∧ mw_WP d 26 66 [l0, l1, l2, l3] st (upS σ a z.toNat x) Q) := WP_lastore mq26 dd26_65
theorem dd26_66 : decode cX3_spreadWeights 66 = .ok (.aload_n 0, 1) := by decide +kernel
theorem ww26_66 {d : Nat} {l1 l2 l3 : Option mw_V} {x : Nat} {st : List mw_V} {σ : mw_S} {Q : Option mw_V → mw_S → Prop} : mw_WP d 26 66 [some (jR x), l1, l2, l3] st σ Q ↔ mw_WP d 26 67 [some (jR x), l1, l2, l3] (jR x :: st) σ Q := WP_aload_n mq26 dd26_66 rfl
theorem dd26_67 : decode cX3_spreadWeights 67 = .ok (.getfield 24, 3) := by decide +kernel
theorem ww26_67 {d : Nat} {l0 l1 l2 l3 : Option mw_V} {st : List mw_V} {σ : mw_S} {Q : Option mw_V → mw_S → Prop} : mw_WP d 26 67 [l0, l1, l2, l3] (jR 55 :: st) σ Q ↔ mw_WP d 26 70 [l0, l1, l2, l3] (jR 64 :: st) σ Q := WP_getR (ci := 2) (k := 7) mq26 dd26_67 (by decide) rfl
theorem dd26_70 : decode cX3_spreadWeights 70 = .ok (.aload_n 0, 1) := by decide +kernel
theorem ww26_70 {d : Nat} {l1 l2 l3 : Option mw_V} {x : Nat} {st : List mw_V} {σ : mw_S} {Q : Option mw_V → mw_S → Prop} : mw_WP d 26 70 [some (jR x), l1, l2, l3] st σ Q ↔ mw_WP d 26 71 [some (jR x), l1, l2, l3] (jR x :: st) σ Q := WP_aload_n mq26 dd26_70 rfl
theorem dd26_71 : decode cX3_spreadWeights 71 = .ok (.getfield 27, 3) := by decide +kernel
theorem ww26_71 {d : Nat} {l0 l1 l2 l3 : Option mw_V} {st : List mw_V} {σ : mw_S} {Q : Option mw_V → mw_S → Prop} : mw_WP d 26 71 [l0, l1, l2, l3] (jR 55 :: st) σ Q ↔ mw_WP d 26 74 [l0, l1, l2, l3] (jR 22 :: st) σ Q := WP_getR (ci := 2) (k := 3) mq26 dd26_71 (by decide) rfl
theorem dd26_74 : decode cX3_spreadWeights 74 = .ok (.iload_n 3, 1) := by decide +kernel
theorem ww26_74 {d : Nat} {l0 l1 l2 : Option mw_V} {x : Int} {st : List mw_V} {σ : mw_S} {Q : Option mw_V → mw_S → Prop} : mw_WP d 26 74 [l0, l1, l2, some (jI x)] st σ Q ↔ mw_WP d 26 75 [l0, l1, l2, some (jI x)] (jI x :: st) σ Q := WP_iload_n mq26 dd26_74 rfl
theorem dd26_75 : decode cX3_spreadWeights 75 = .ok (.iload_n 1, 1) := by decide +kernel
theorem ww26_75 {d : Nat} {l0 l2 l3 : Option mw_V} {x : Int} {st : List mw_V} {σ : mw_S} {Q : Option mw_V → mw_S → Prop} : mw_WP d 26 75 [l0, some (jI x), l2, l3] st σ Q ↔ mw_WP d 26 76 [l0, some (jI x), l2, l3] (jI x :: st) σ Q := WP_iload_n mq26 dd26_75 rfl
theorem dd26_76 : decode cX3_spreadWeights 76 = .ok (.invokevirtual 83, 3) := by decide +kernel
theorem ww26_76 {d : Nat} {l0 l1 l2 l3 : Option mw_V} {v0 v1 : mw_V} {a : Nat} {st : List mw_V} {σ : mw_S} {Q : Option mw_V → mw_S → Prop} (hr : mw_rc a = 9) (h8 : (st.map mw_cat).sum ≤ 8) : mw_WP d 26 76 [l0, l1, l2, l3] (v1 :: v0 :: jR a :: st) σ Q ↔ mw_Call d 91 [jR a, v0, v1] σ (fun r1 s1 => mw_WP d 26 79 [l0, l1, l2, l3] (r1.toList ++ st) s1 Q) := WP_inv (as := [v1, v0]) mq26 dd26_76 (by decide) mq91 rfl hr h8
theorem dd26_79 : decode cX3_spreadWeights 79 = .ok (.dup2, 1) := by decide +kernel
theorem ww26_79 {d : Nat} {l0 l1 l2 l3 : Option mw_V} {v w : mw_V} {st : List mw_V} {σ : mw_S} {Q : Option mw_V → mw_S → Prop} (h : mw_cat v = 1) (h2 : mw_cat w = 1) : mw_WP d 26 79 [l0, l1, l2, l3] (v :: w :: st) σ Q ↔ mw_WP d 26 80 [l0, l1, l2, l3] (v :: w :: v :: w :: st) σ Q := WP_dup2 mq26 dd26_79 h h2
theorem dd26_80 : decode cX3_spreadWeights 80 = .ok (.laload, 1) := by decide +kernel
theorem ww26_80 {d : Nat} {l0 l1 l2 l3 : Option mw_V} {z : Int} {a : Nat} {st : List mw_V} {σ : mw_S} {Q : Option mw_V → mw_S → Prop} : mw_WP d 26 80 [l0, l1, l2, l3] (jI z :: jR a :: st) σ Q ↔ ((0 ≤ z ∧ z < mw_lenW 2 a) ∧ mw_WP d 26 81 [l0, l1, l2, l3] (jL (σ a z.toNat) :: st) σ Q) := WP_laload mq26 dd26_80
theorem dd26_81 : decode cX3_spreadWeights 81 = .ok (.aload_n 0, 1) := by decide +kernel
theorem ww26_81 {d : Nat} {l1 l2 l3 : Option mw_V} {x : Nat} {st : List mw_V} {σ : mw_S} {Q : Option mw_V → mw_S → Prop} : mw_WP d 26 81 [some (jR x), l1, l2, l3] st σ Q ↔ mw_WP d 26 82 [some (jR x), l1, l2, l3] (jR x :: st) σ Q := WP_aload_n mq26 dd26_81 rfl
theorem dd26_82 : decode cX3_spreadWeights 82 = .ok (.getfield 20, 3) := by decide +kernel
theorem ww26_82 {d : Nat} {l0 l1 l2 l3 : Option mw_V} {st : List mw_V} {σ : mw_S} {Q : Option mw_V → mw_S → Prop} : mw_WP d 26 82 [l0, l1, l2, l3] (jR 55 :: st) σ Q ↔ mw_WP d 26 85 [l0, l1, l2, l3] (jR 63 :: st) σ Q := WP_getR (ci := 2) (k := 6) mq26 dd26_82 (by decide) rfl
theorem dd26_85 : decode cX3_spreadWeights 85 = .ok (.iload_n 3, 1) := by decide +kernel
theorem ww26_85 {d : Nat} {l0 l1 l2 : Option mw_V} {x : Int} {st : List mw_V} {σ : mw_S} {Q : Option mw_V → mw_S → Prop} : mw_WP d 26 85 [l0, l1, l2, some (jI x)] st σ Q ↔ mw_WP d 26 86 [l0, l1, l2, some (jI x)] (jI x :: st) σ Q := WP_iload_n mq26 dd26_85 rfl
theorem dd26_86 : decode cX3_spreadWeights 86 = .ok (.laload, 1) := by decide +kernel
theorem ww26_86 {d : Nat} {l0 l1 l2 l3 : Option mw_V} {z : Int} {a : Nat} {st : List mw_V} {σ : mw_S} {Q : Option mw_V → mw_S → Prop} : mw_WP d 26 86 [l0, l1, l2, l3] (jI z :: jR a :: st) σ Q ↔ ((0 ≤ z ∧ z < mw_lenW 2 a) ∧ mw_WP d 26 87 [l0, l1, l2, l3] (jL (σ a z.toNat) :: st) σ Q) := WP_laload mq26 dd26_86
theorem dd26_87 : decode cX3_spreadWeights 87 = .ok (.bipush 10, 2) := by decide +kernel
theorem ww26_87 {d : Nat} {l0 l1 l2 l3 : Option mw_V} {st : List mw_V} {σ : mw_S} {Q : Option mw_V → mw_S → Prop} : mw_WP d 26 87 [l0, l1, l2, l3] st σ Q ↔ mw_WP d 26 89 [l0, l1, l2, l3] (jI (10) :: st) σ Q := WP_bipush mq26 dd26_87 (by decide)
theorem dd26_89 : decode cX3_spreadWeights 89 = .ok (.iload_n 2, 1) := by decide +kernel
theorem ww26_89 {d : Nat} {l0 l1 l3 : Option mw_V} {x : Int} {st : List mw_V} {σ : mw_S} {Q : Option mw_V → mw_S → Prop} : mw_WP d 26 89 [l0, l1, some (jI x), l3] st σ Q ↔ mw_WP d 26 90 [l0, l1, some (jI x), l3] (jI x :: st) σ Q := WP_iload_n mq26 dd26_89 rfl
theorem dd26_90 : decode cX3_spreadWeights 90 = .ok (.isub, 1) := by decide +kernel
theorem ww26_90 {d : Nat} {l0 l1 l2 l3 : Option mw_V} {x y : Int} {st : List mw_V} {σ : mw_S} {Q : Option mw_V → mw_S → Prop} : mw_WP d 26 90 [l0, l1, l2, l3] (jI y :: jI x :: st) σ Q ↔ mw_WP d 26 91 [l0, l1, l2, l3] (jI (w32 (x - y)) :: st) σ Q := WP_isub mq26 dd26_90
theorem dd26_91 : decode cX3_spreadWeights 91 = .ok (.i2l, 1) := by decide +kernel
theorem ww26_91 {d : Nat} {l0 l1 l2 l3 : Option mw_V} {x : Int} {st : List mw_V} {σ : mw_S} {Q : Option mw_V → mw_S → Prop} : mw_WP d 26 91 [l0, l1, l2, l3] (jI x :: st) σ Q ↔ mw_WP d 26 92 [l0, l1, l2, l3] (jL (yL x) :: st) σ Q := WP_i2l mq26 dd26_91
theorem dd26_92 : decode cX3_spreadWeights 92 = .ok (.lmul, 1) := by decide +kernel
theorem ww26_92 {d : Nat} {l0 l1 l2 l3 : Option mw_V} {x y : Int} {st : List mw_V} {σ : mw_S} {Q : Option mw_V → mw_S → Prop} : mw_WP d 26 92 [l0, l1, l2, l3] (jL y :: jL x :: st) σ Q ↔ mw_WP d 26 93 [l0, l1, l2, l3] (jL (w64 (x * y)) :: st) σ Q := WP_lmul mq26 dd26_92
theorem dd26_93 : decode cX3_spreadWeights 93 = .ok (.ladd, 1) := by decide +kernel
theorem ww26_93 {d : Nat} {l0 l1 l2 l3 : Option mw_V} {x y : Int} {st : List mw_V} {σ : mw_S} {Q : Option mw_V → mw_S → Prop} : mw_WP d 26 93 [l0, l1, l2, l3] (jL y :: jL x :: st) σ Q ↔ mw_WP d 26 94 [l0, l1, l2, l3] (jL (w64 (x + y)) :: st) σ Q := WP_ladd mq26 dd26_93
theorem dd26_94 : decode cX3_spreadWeights 94 = .ok (.lastore, 1) := by decide +kernel
theorem ww26_94 {d : Nat} {l0 l1 l2 l3 : Option mw_V} {x z : Int} {a : Nat} {st : List mw_V} {σ : mw_S} {Q : Option mw_V → mw_S → Prop} : mw_WP d 26 94 [l0, l1, l2, l3] (jL x :: jI z :: jR a :: st) σ Q ↔ ((0 ≤ z ∧ z < mw_lenW 2 a) ∧ mw_WP d 26 95 [l0, l1, l2, l3] st (upS σ a z.toNat x) Q) := WP_lastore mq26 dd26_94
theorem dd26_95 : decode cX3_spreadWeights 95 = .ok (.iinc 3 1, 3) := by decide +kernel
theorem ww26_95 {d : Nat} {l0 l1 l2 : Option mw_V} {x : Int} {st : List mw_V} {σ : mw_S} {Q : Option mw_V → mw_S → Prop} (h : mw_nlo l2 = true) : mw_WP d 26 95 [l0, l1, l2, some (jI x)] st σ Q ↔ mw_WP d 26 98 [l0, l1, l2, some (jI (w32 (x + (1))))] st σ Q := WP_iinc mq26 dd26_95 rfl (Nat.le_of_ble_eq_true rfl) (mw_nl_of (i := 2) rfl h) rfl
theorem dd26_98 : decode cX3_spreadWeights 98 = .ok (.goto (-64), 3) := by decide +kernel
theorem ww26_98 {d : Nat} {l0 l1 l2 l3 : Option mw_V} {st : List mw_V} {σ : mw_S} {Q : Option mw_V → mw_S → Prop} : mw_WP d 26 98 [l0, l1, l2, l3] st σ Q ↔ mw_WP d 26 34 [l0, l1, l2, l3] st σ Q := WP_goto mq26 dd26_98 (by decide)
theorem dd26_101 : decode cX3_spreadWeights 101 = .ok (.aload_n 0, 1) := by decide +kernel
theorem ww26_101 {d : Nat} {l1 l2 l3 : Option mw_V} {x : Nat} {st : List mw_V} {σ : mw_S} {Q : Option mw_V → mw_S → Prop} : mw_WP d 26 101 [some (jR x), l1, l2, l3] st σ Q ↔ mw_WP d 26 102 [some (jR x), l1, l2, l3] (jR x :: st) σ Q := WP_aload_n mq26 dd26_101 rfl
theorem dd26_102 : decode cX3_spreadWeights 102 = .ok (.getfield 24, 3) := by decide +kernel
theorem ww26_102 {d : Nat} {l0 l1 l2 l3 : Option mw_V} {st : List mw_V} {σ : mw_S} {Q : Option mw_V → mw_S → Prop} : mw_WP d 26 102 [l0, l1, l2, l3] (jR 55 :: st) σ Q ↔ mw_WP d 26 105 [l0, l1, l2, l3] (jR 64 :: st) σ Q := WP_getR (ci := 2) (k := 7) mq26 dd26_102 (by decide) rfl
theorem dd26_105 : decode cX3_spreadWeights 105 = .ok (.iconst 0, 1) := by decide +kernel
theorem ww26_105 {d : Nat} {l0 l1 l2 l3 : Option mw_V} {st : List mw_V} {σ : mw_S} {Q : Option mw_V → mw_S → Prop} : mw_WP d 26 105 [l0, l1, l2, l3] st σ Q ↔ mw_WP d 26 106 [l0, l1, l2, l3] (jI (0) :: st) σ Q := WP_iconst mq26 dd26_105 (by decide)
theorem dd26_106 : decode cX3_spreadWeights 106 = .ok (.aload_n 0, 1) := by decide +kernel
theorem ww26_106 {d : Nat} {l1 l2 l3 : Option mw_V} {x : Nat} {st : List mw_V} {σ : mw_S} {Q : Option mw_V → mw_S → Prop} : mw_WP d 26 106 [some (jR x), l1, l2, l3] st σ Q ↔ mw_WP d 26 107 [some (jR x), l1, l2, l3] (jR x :: st) σ Q := WP_aload_n mq26 dd26_106 rfl
theorem dd26_107 : decode cX3_spreadWeights 107 = .ok (.getfield 20, 3) := by decide +kernel
theorem ww26_107 {d : Nat} {l0 l1 l2 l3 : Option mw_V} {st : List mw_V} {σ : mw_S} {Q : Option mw_V → mw_S → Prop} : mw_WP d 26 107 [l0, l1, l2, l3] (jR 55 :: st) σ Q ↔ mw_WP d 26 110 [l0, l1, l2, l3] (jR 63 :: st) σ Q := WP_getR (ci := 2) (k := 6) mq26 dd26_107 (by decide) rfl
theorem dd26_110 : decode cX3_spreadWeights 110 = .ok (.iconst 0, 1) := by decide +kernel
theorem ww26_110 {d : Nat} {l0 l1 l2 l3 : Option mw_V} {st : List mw_V} {σ : mw_S} {Q : Option mw_V → mw_S → Prop} : mw_WP d 26 110 [l0, l1, l2, l3] st σ Q ↔ mw_WP d 26 111 [l0, l1, l2, l3] (jI (0) :: st) σ Q := WP_iconst mq26 dd26_110 (by decide)
theorem dd26_111 : decode cX3_spreadWeights 111 = .ok (.bipush 9, 2) := by decide +kernel
theorem ww26_111 {d : Nat} {l0 l1 l2 l3 : Option mw_V} {st : List mw_V} {σ : mw_S} {Q : Option mw_V → mw_S → Prop} : mw_WP d 26 111 [l0, l1, l2, l3] st σ Q ↔ mw_WP d 26 113 [l0, l1, l2, l3] (jI (9) :: st) σ Q := WP_bipush mq26 dd26_111 (by decide)
theorem dd26_113 : decode cX3_spreadWeights 113 = .ok (.invokestatic 124, 3) := by decide +kernel
theorem ww26_113 {d : Nat} {l0 l1 l2 l3 : Option mw_V} {n dp sp : Int} {a b : Nat} {st : List mw_V} {σ : mw_S} {Q : Option mw_V → mw_S → Prop} (h8 : (st.map mw_cat).sum ≤ 8) (h1 : 0 ≤ sp ∧ 0 ≤ dp ∧ 0 < n ∧ sp + n ≤ mw_lenW 2 a ∧ dp + n ≤ mw_lenW 2 b) : mw_WP d 26 113 [l0, l1, l2, l3] (jI n :: jI dp :: jR b :: jI sp :: jR a :: st) σ Q ↔ mw_WP d 26 116 [l0, l1, l2, l3] st (cpS σ a sp.toNat b dp.toNat n.toNat) Q := WP_acp (t := 2) (by decide) mq26 dd26_113 (by decide) (by decide) (by decide) h8 h1
theorem dd26_116 : decode cX3_spreadWeights 116 = .ok (.return_, 1) := by decide +kernel
theorem ww26_116 {d : Nat} {l0 l1 l2 l3 : Option mw_V} {σ : mw_S} {Q : Option mw_V → mw_S → Prop} : mw_WP d 26 116 [l0, l1, l2, l3] [] σ Q ↔ Q none σ := WP_return mq26 dd26_116 rfl
theorem ee28 {d : Nat} {a : Nat} {a0 : Nat} {z1 : Int} {σ : mw_S} {Q : Option mw_V → mw_S → Prop} : mw_Call (d + 1) 28 [jR a, jR a0, jI z1] σ Q ↔ mw_WP d 28 0 [some (jR a), some (jR a0), some (jI z1), none, none] [] σ Q := CL_u mq28 (Nat.le_of_ble_eq_true rfl) rfl
theorem dd28_0 : decode cX5_learn 0 = .ok (.aload_n 0, 1) := by decide +kernel
theorem ww28_0 {d : Nat} {l1 l2 l3 l4 : Option mw_V} {x : Nat} {st : List mw_V} {σ : mw_S} {Q : Option mw_V → mw_S → Prop} : mw_WP d 28 0 [some (jR x), l1, l2, l3, l4] st σ Q ↔ mw_WP d 28 1 [some (jR x), l1, l2, l3, l4] (jR x :: st) σ Q := WP_aload_n mq28 dd28_0 rfl
theorem dd28_1 : decode cX5_learn 1 = .ok (.bipush 30, 2) := by decide +kernel
theorem ww28_1 {d : Nat} {l0 l1 l2 l3 l4 : Option mw_V} {st : List mw_V} {σ : mw_S} {Q : Option mw_V → mw_S → Prop} : mw_WP d 28 1 [l0, l1, l2, l3, l4] st σ Q ↔ mw_WP d 28 3 [l0, l1, l2, l3, l4] (jI (30) :: st) σ Q := WP_bipush mq28 dd28_1 (by decide)
theorem dd28_3 : decode cX5_learn 3 = .ok (.aload_n 1, 1) := by decide +kernel
theorem ww28_3 {d : Nat} {l0 l2 l3 l4 : Option mw_V} {x : Nat} {st : List mw_V} {σ : mw_S} {Q : Option mw_V → mw_S → Prop} : mw_WP d 28 3 [l0, some (jR x), l2, l3, l4] st σ Q ↔ mw_WP d 28 4 [l0, some (jR x), l2, l3, l4] (jR x :: st) σ Q := WP_aload_n mq28 dd28_3 rfl
theorem dd28_4 : decode cX5_learn 4 = .ok (.iload_n 2, 1) := by decide +kernel
theorem ww28_4 {d : Nat} {l0 l1 l3 l4 : Option mw_V} {x : Int} {st : List mw_V} {σ : mw_S} {Q : Option mw_V → mw_S → Prop} : mw_WP d 28 4 [l0, l1, some (jI x), l3, l4] st σ Q ↔ mw_WP d 28 5 [l0, l1, some (jI x), l3, l4] (jI x :: st) σ Q := WP_iload_n mq28 dd28_4 rfl
theorem dd28_5 : decode cX5_learn 5 = .ok (.invokevirtual 37, 3) := by decide +kernel
theorem ww28_5 {d : Nat} {l0 l1 l2 l3 l4 : Option mw_V} {v0 : mw_V} {a : Nat} {st : List mw_V} {σ : mw_S} {Q : Option mw_V → mw_S → Prop} (hr : mw_rc a = 10) (h8 : (st.map mw_cat).sum ≤ 8) : mw_WP d 28 5 [l0, l1, l2, l3, l4] (v0 :: jR a :: st) σ Q ↔ mw_Call d 114 [jR a, v0] σ (fun r1 s1 => mw_WP d 28 8 [l0, l1, l2, l3, l4] (r1.toList ++ st) s1 Q) := WP_inv (as := [v0]) mq28 dd28_5 (by decide) mq114 rfl hr h8
theorem dd28_8 : decode cX5_learn 8 = .ok (.invokestatic 43, 3) := by decide +kernel
theorem ww28_8 {d : Nat} {l0 l1 l2 l3 l4 : Option mw_V} {v0 v1 : mw_V} {st : List mw_V} {σ : mw_S} {Q : Option mw_V → mw_S → Prop} (h8 : (st.map mw_cat).sum ≤ 8) : mw_WP d 28 8 [l0, l1, l2, l3, l4] (v1 :: v0 :: st) σ Q ↔ mw_Call d 283 [v0, v1] σ (fun r1 s1 => mw_WP d 28 11 [l0, l1, l2, l3, l4] (r1.toList ++ st) s1 Q) := WP_invs (as := [v1, v0]) mq28 dd28_8 (by decide) mq283 rfl rfl h8
theorem dd28_11 : decode cX5_learn 11 = .ok (.putfield 49, 3) := by decide +kernel
theorem ww28_11 {d : Nat} {l0 l1 l2 l3 l4 : Option mw_V} {v : Int} {st : List mw_V} {σ : mw_S} {Q : Option mw_V → mw_S → Prop} : mw_WP d 28 11 [l0, l1, l2, l3, l4] (jI v :: jR 65 :: st) σ Q ↔ mw_WP d 28 14 [l0, l1, l2, l3, l4] st (upS σ 65 10 v) Q := WP_putI (ci := 4) (k := 10) mq28 dd28_11 (by decide) rfl
theorem dd28_14 : decode cX5_learn 14 = .ok (.iconst 0, 1) := by decide +kernel
theorem ww28_14 {d : Nat} {l0 l1 l2 l3 l4 : Option mw_V} {st : List mw_V} {σ : mw_S} {Q : Option mw_V → mw_S → Prop} : mw_WP d 28 14 [l0, l1, l2, l3, l4] st σ Q ↔ mw_WP d 28 15 [l0, l1, l2, l3, l4] (jI (0) :: st) σ Q := WP_iconst mq28 dd28_14 (by decide)
theorem dd28_15 : decode cX5_learn 15 = .ok (.istore_n 3, 1) := by decide +kernel
theorem ww28_15 {d : Nat} {l0 l1 l2 l3 l4 : Option mw_V} {x : Int} {st : List mw_V} {σ : mw_S} {Q : Option mw_V → mw_S → Prop} (h : mw_nlo l2 = true) : mw_WP d 28 15 [l0, l1, l2, l3, l4] (jI x :: st) σ Q ↔ mw_WP d 28 16 [l0, l1, l2, some (jI x), l4] st σ Q := WP_istore_n mq28 dd28_15 (Nat.le_of_ble_eq_true rfl) (mw_nl_of (i := 2) rfl h) rfl
theorem dd28_16 : decode cX5_learn 16 = .ok (.iload_n 3, 1) := by decide +kernel
theorem ww28_16 {d : Nat} {l0 l1 l2 l4 : Option mw_V} {x : Int} {st : List mw_V} {σ : mw_S} {Q : Option mw_V → mw_S → Prop} : mw_WP d 28 16 [l0, l1, l2, some (jI x), l4] st σ Q ↔ mw_WP d 28 17 [l0, l1, l2, some (jI x), l4] (jI x :: st) σ Q := WP_iload_n mq28 dd28_16 rfl
theorem dd28_17 : decode cX5_learn 17 = .ok (.aload_n 0, 1) := by decide +kernel
theorem ww28_17 {d : Nat} {l1 l2 l3 l4 : Option mw_V} {x : Nat} {st : List mw_V} {σ : mw_S} {Q : Option mw_V → mw_S → Prop} : mw_WP d 28 17 [some (jR x), l1, l2, l3, l4] st σ Q ↔ mw_WP d 28 18 [some (jR x), l1, l2, l3, l4] (jR x :: st) σ Q := WP_aload_n mq28 dd28_17 rfl
theorem dd28_18 : decode cX5_learn 18 = .ok (.getfield 49, 3) := by decide +kernel
theorem ww28_18 {d : Nat} {l0 l1 l2 l3 l4 : Option mw_V} {st : List mw_V} {σ : mw_S} {Q : Option mw_V → mw_S → Prop} : mw_WP d 28 18 [l0, l1, l2, l3, l4] (jR 65 :: st) σ Q ↔ mw_WP d 28 21 [l0, l1, l2, l3, l4] (jI (σ 65 10) :: st) σ Q := WP_getI (ci := 4) (k := 10) mq28 dd28_18 (by decide) (Or.inl rfl)
theorem dd28_21 : decode cX5_learn 21 = .ok (.if_icmp .ge 40, 3) := by decide +kernel
theorem ww28_21 {d : Nat} {l0 l1 l2 l3 l4 : Option mw_V} {x y : Int} {st : List mw_V} {σ : mw_S} {Q : Option mw_V → mw_S → Prop} : mw_WP d 28 21 [l0, l1, l2, l3, l4] (jI y :: jI x :: st) σ Q ↔ (if y ≤ x then mw_WP d 28 61 [l0, l1, l2, l3, l4] st σ Q else mw_WP d 28 24 [l0, l1, l2, l3, l4] st σ Q) := WP_icmp_ge mq28 dd28_21 (by decide)
theorem dd28_24 : decode cX5_learn 24 = .ok (.aload_n 1, 1) := by decide +kernel
theorem ww28_24 {d : Nat} {l0 l2 l3 l4 : Option mw_V} {x : Nat} {st : List mw_V} {σ : mw_S} {Q : Option mw_V → mw_S → Prop} : mw_WP d 28 24 [l0, some (jR x), l2, l3, l4] st σ Q ↔ mw_WP d 28 25 [l0, some (jR x), l2, l3, l4] (jR x :: st) σ Q := WP_aload_n mq28 dd28_24 rfl
theorem dd28_25 : decode cX5_learn 25 = .ok (.iload_n 2, 1) := by decide +kernel
theorem ww28_25 {d : Nat} {l0 l1 l3 l4 : Option mw_V} {x : Int} {st : List mw_V} {σ : mw_S} {Q : Option mw_V → mw_S → Prop} : mw_WP d 28 25 [l0, l1, some (jI x), l3, l4] st σ Q ↔ mw_WP d 28 26 [l0, l1, some (jI x), l3, l4] (jI x :: st) σ Q := WP_iload_n mq28 dd28_25 rfl
theorem dd28_26 : decode cX5_learn 26 = .ok (.iload_n 3, 1) := by decide +kernel
theorem ww28_26 {d : Nat} {l0 l1 l2 l4 : Option mw_V} {x : Int} {st : List mw_V} {σ : mw_S} {Q : Option mw_V → mw_S → Prop} : mw_WP d 28 26 [l0, l1, l2, some (jI x), l4] st σ Q ↔ mw_WP d 28 27 [l0, l1, l2, some (jI x), l4] (jI x :: st) σ Q := WP_iload_n mq28 dd28_26 rfl
theorem dd28_27 : decode cX5_learn 27 = .ok (.invokevirtual 52, 3) := by decide +kernel
theorem ww28_27 {d : Nat} {l0 l1 l2 l3 l4 : Option mw_V} {v0 v1 : mw_V} {a : Nat} {st : List mw_V} {σ : mw_S} {Q : Option mw_V → mw_S → Prop} (hr : mw_rc a = 10) (h8 : (st.map mw_cat).sum ≤ 8) : mw_WP d 28 27 [l0, l1, l2, l3, l4] (v1 :: v0 :: jR a :: st) σ Q ↔ mw_Call d 115 [jR a, v0, v1] σ (fun r1 s1 => mw_WP d 28 30 [l0, l1, l2, l3, l4] (r1.toList ++ st) s1 Q) := WP_inv (as := [v1, v0]) mq28 dd28_27 (by decide) mq115 rfl hr h8
theorem dd28_30 : decode cX5_learn 30 = .ok (.l2i, 1) := by decide +kernel
theorem ww28_30 {d : Nat} {l0 l1 l2 l3 l4 : Option mw_V} {x : Int} {st : List mw_V} {σ : mw_S} {Q : Option mw_V → mw_S → Prop} : mw_WP d 28 30 [l0, l1, l2, l3, l4] (jL x :: st) σ Q ↔ mw_WP d 28 31 [l0, l1, l2, l3, l4] (jI (zI x) :: st) σ Q := WP_l2i mq28 dd28_30
theorem dd28_31 : decode cX5_learn 31 = .ok (.istore 4, 2) := by decide +kernel
theorem ww28_31 {d : Nat} {l0 l1 l2 l3 l4 : Option mw_V} {x : Int} {st : List mw_V} {σ : mw_S} {Q : Option mw_V → mw_S → Prop} (h : mw_nlo l3 = true) : mw_WP d 28 31 [l0, l1, l2, l3, l4] (jI x :: st) σ Q ↔ mw_WP d 28 33 [l0, l1, l2, l3, some (jI x)] st σ Q := WP_istore mq28 dd28_31 (Nat.le_of_ble_eq_true rfl) (mw_nl_of (i := 3) rfl h) rfl
theorem dd28_33 : decode cX5_learn 33 = .ok (.aload_n 0, 1) := by decide +kernel
theorem ww28_33 {d : Nat} {l1 l2 l3 l4 : Option mw_V} {x : Nat} {st : List mw_V} {σ : mw_S} {Q : Option mw_V → mw_S → Prop} : mw_WP d 28 33 [some (jR x), l1, l2, l3, l4] st σ Q ↔ mw_WP d 28 34 [some (jR x), l1, l2, l3, l4] (jR x :: st) σ Q := WP_aload_n mq28 dd28_33 rfl
theorem dd28_34 : decode cX5_learn 34 = .ok (.getfield 22, 3) := by decide +kernel
theorem ww28_34 {d : Nat} {l0 l1 l2 l3 l4 : Option mw_V} {st : List mw_V} {σ : mw_S} {Q : Option mw_V → mw_S → Prop} : mw_WP d 28 34 [l0, l1, l2, l3, l4] (jR 65 :: st) σ Q ↔ mw_WP d 28 37 [l0, l1, l2, l3, l4] (jR 69 :: st) σ Q := WP_getR (ci := 4) (k := 5) mq28 dd28_34 (by decide) rfl
theorem dd28_37 : decode cX5_learn 37 = .ok (.iload_n 3, 1) := by decide +kernel
theorem ww28_37 {d : Nat} {l0 l1 l2 l4 : Option mw_V} {x : Int} {st : List mw_V} {σ : mw_S} {Q : Option mw_V → mw_S → Prop} : mw_WP d 28 37 [l0, l1, l2, some (jI x), l4] st σ Q ↔ mw_WP d 28 38 [l0, l1, l2, some (jI x), l4] (jI x :: st) σ Q := WP_iload_n mq28 dd28_37 rfl
theorem dd28_38 : decode cX5_learn 38 = .ok (.iload 4, 2) := by decide +kernel
theorem ww28_38 {d : Nat} {l0 l1 l2 l3 : Option mw_V} {x : Int} {st : List mw_V} {σ : mw_S} {Q : Option mw_V → mw_S → Prop} : mw_WP d 28 38 [l0, l1, l2, l3, some (jI x)] st σ Q ↔ mw_WP d 28 40 [l0, l1, l2, l3, some (jI x)] (jI x :: st) σ Q := WP_iload mq28 dd28_38 rfl
theorem dd28_40 : decode cX5_learn 40 = .ok (.bipush 9, 2) := by decide +kernel
theorem ww28_40 {d : Nat} {l0 l1 l2 l3 l4 : Option mw_V} {st : List mw_V} {σ : mw_S} {Q : Option mw_V → mw_S → Prop} : mw_WP d 28 40 [l0, l1, l2, l3, l4] st σ Q ↔ mw_WP d 28 42 [l0, l1, l2, l3, l4] (jI (9) :: st) σ Q := WP_bipush mq28 dd28_40 (by decide)
theorem dd28_42 : decode cX5_learn 42 = .ok (.idiv, 1) := by decide +kernel
theorem ww28_42 {d : Nat} {l0 l1 l2 l3 l4 : Option mw_V} {x y : Int} {st : List mw_V} {σ : mw_S} {Q : Option mw_V → mw_S → Prop} : mw_WP d 28 42 [l0, l1, l2, l3, l4] (jI y :: jI x :: st) σ Q ↔ (¬ i32 y = 0 ∧ mw_WP d 28 43 [l0, l1, l2, l3, l4] (jI (zDiv x y) :: st) σ Q) := WP_idiv mq28 dd28_42
theorem dd28_43 : decode cX5_learn 43 = .ok (.iastore, 1) := by decide +kernel
theorem ww28_43 {d : Nat} {l0 l1 l2 l3 l4 : Option mw_V} {x z : Int} {a : Nat} {st : List mw_V} {σ : mw_S} {Q : Option mw_V → mw_S → Prop} : mw_WP d 28 43 [l0, l1, l2, l3, l4] (jI x :: jI z :: jR a :: st) σ Q ↔ ((0 ≤ z ∧ z < mw_lenW 0 a) ∧ mw_WP d 28 44 [l0, l1, l2, l3, l4] st (upS σ a z.toNat x) Q) := WP_iastore mq28 dd28_43
theorem dd28_44 : decode cX5_learn 44 = .ok (.aload_n 0, 1) := by decide +kernel
theorem ww28_44 {d : Nat} {l1 l2 l3 l4 : Option mw_V} {x : Nat} {st : List mw_V} {σ : mw_S} {Q : Option mw_V → mw_S → Prop} : mw_WP d 28 44 [some (jR x), l1, l2, l3, l4] st σ Q ↔ mw_WP d 28 45 [some (jR x), l1, l2, l3, l4] (jR x :: st) σ Q := WP_aload_n mq28 dd28_44 rfl
theorem dd28_45 : decode cX5_learn 45 = .ok (.getfield 25, 3) := by decide +kernel
theorem ww28_45 {d : Nat} {l0 l1 l2 l3 l4 : Option mw_V} {st : List mw_V} {σ : mw_S} {Q : Option mw_V → mw_S → Prop} : mw_WP d 28 45 [l0, l1, l2, l3, l4] (jR 65 :: st) σ Q ↔ mw_WP d 28 48 [l0, l1, l2, l3, l4] (jR 70 :: st) σ Q := WP_getR (ci := 4) (k := 6) mq28 dd28_45 (by decide) rfl
theorem dd28_48 : decode cX5_learn 48 = .ok (.iload_n 3, 1) := by decide +kernel
theorem ww28_48 {d : Nat} {l0 l1 l2 l4 : Option mw_V} {x : Int} {st : List mw_V} {σ : mw_S} {Q : Option mw_V → mw_S → Prop} : mw_WP d 28 48 [l0, l1, l2, some (jI x), l4] st σ Q ↔ mw_WP d 28 49 [l0, l1, l2, some (jI x), l4] (jI x :: st) σ Q := WP_iload_n mq28 dd28_48 rfl
theorem dd28_49 : decode cX5_learn 49 = .ok (.iload 4, 2) := by decide +kernel
theorem ww28_49 {d : Nat} {l0 l1 l2 l3 : Option mw_V} {x : Int} {st : List mw_V} {σ : mw_S} {Q : Option mw_V → mw_S → Prop} : mw_WP d 28 49 [l0, l1, l2, l3, some (jI x)] st σ Q ↔ mw_WP d 28 51 [l0, l1, l2, l3, some (jI x)] (jI x :: st) σ Q := WP_iload mq28 dd28_49 rfl
theorem dd28_51 : decode cX5_learn 51 = .ok (.bipush 9, 2) := by decide +kernel
theorem ww28_51 {d : Nat} {l0 l1 l2 l3 l4 : Option mw_V} {st : List mw_V} {σ : mw_S} {Q : Option mw_V → mw_S → Prop} : mw_WP d 28 51 [l0, l1, l2, l3, l4] st σ Q ↔ mw_WP d 28 53 [l0, l1, l2, l3, l4] (jI (9) :: st) σ Q := WP_bipush mq28 dd28_51 (by decide)
theorem dd28_53 : decode cX5_learn 53 = .ok (.irem, 1) := by decide +kernel
theorem ww28_53 {d : Nat} {l0 l1 l2 l3 l4 : Option mw_V} {x y : Int} {st : List mw_V} {σ : mw_S} {Q : Option mw_V → mw_S → Prop} : mw_WP d 28 53 [l0, l1, l2, l3, l4] (jI y :: jI x :: st) σ Q ↔ (¬ i32 y = 0 ∧ mw_WP d 28 54 [l0, l1, l2, l3, l4] (jI (zRem x y) :: st) σ Q) := WP_irem mq28 dd28_53
theorem dd28_54 : decode cX5_learn 54 = .ok (.iastore, 1) := by decide +kernel
theorem ww28_54 {d : Nat} {l0 l1 l2 l3 l4 : Option mw_V} {x z : Int} {a : Nat} {st : List mw_V} {σ : mw_S} {Q : Option mw_V → mw_S → Prop} : mw_WP d 28 54 [l0, l1, l2, l3, l4] (jI x :: jI z :: jR a :: st) σ Q ↔ ((0 ≤ z ∧ z < mw_lenW 0 a) ∧ mw_WP d 28 55 [l0, l1, l2, l3, l4] st (upS σ a z.toNat x) Q) := WP_iastore mq28 dd28_54
theorem dd28_55 : decode cX5_learn 55 = .ok (.iinc 3 1, 3) := by decide +kernel
theorem ww28_55 {d : Nat} {l0 l1 l2 l4 : Option mw_V} {x : Int} {st : List mw_V} {σ : mw_S} {Q : Option mw_V → mw_S → Prop} (h : mw_nlo l2 = true) : mw_WP d 28 55 [l0, l1, l2, some (jI x), l4] st σ Q ↔ mw_WP d 28 58 [l0, l1, l2, some (jI (w32 (x + (1)))), l4] st σ Q := WP_iinc mq28 dd28_55 rfl (Nat.le_of_ble_eq_true rfl) (mw_nl_of (i := 2) rfl h) rfl
theorem dd28_58 : decode cX5_learn 58 = .ok (.goto (-42), 3) := by decide +kernel
theorem ww28_58 {d : Nat} {l0 l1 l2 l3 l4 : Option mw_V} {st : List mw_V} {σ : mw_S} {Q : Option mw_V → mw_S → Prop} : mw_WP d 28 58 [l0, l1, l2, l3, l4] st σ Q ↔ mw_WP d 28 16 [l0, l1, l2, l3, l4] st σ Q := WP_goto mq28 dd28_58 (by decide)
theorem dd28_61 : decode cX5_learn 61 = .ok (.iconst 0, 1) := by decide +kernel
theorem ww28_61 {d : Nat} {l0 l1 l2 l3 l4 : Option mw_V} {st : List mw_V} {σ : mw_S} {Q : Option mw_V → mw_S → Prop} : mw_WP d 28 61 [l0, l1, l2, l3, l4] st σ Q ↔ mw_WP d 28 62 [l0, l1, l2, l3, l4] (jI (0) :: st) σ Q := WP_iconst mq28 dd28_61 (by decide)
theorem dd28_62 : decode cX5_learn 62 = .ok (.istore_n 3, 1) := by decide +kernel
theorem ww28_62 {d : Nat} {l0 l1 l2 l3 l4 : Option mw_V} {x : Int} {st : List mw_V} {σ : mw_S} {Q : Option mw_V → mw_S → Prop} (h : mw_nlo l2 = true) : mw_WP d 28 62 [l0, l1, l2, l3, l4] (jI x :: st) σ Q ↔ mw_WP d 28 63 [l0, l1, l2, some (jI x), l4] st σ Q := WP_istore_n mq28 dd28_62 (Nat.le_of_ble_eq_true rfl) (mw_nl_of (i := 2) rfl h) rfl
theorem dd28_63 : decode cX5_learn 63 = .ok (.iload_n 3, 1) := by decide +kernel
theorem ww28_63 {d : Nat} {l0 l1 l2 l4 : Option mw_V} {x : Int} {st : List mw_V} {σ : mw_S} {Q : Option mw_V → mw_S → Prop} : mw_WP d 28 63 [l0, l1, l2, some (jI x), l4] st σ Q ↔ mw_WP d 28 64 [l0, l1, l2, some (jI x), l4] (jI x :: st) σ Q := WP_iload_n mq28 dd28_63 rfl
theorem dd28_64 : decode cX5_learn 64 = .ok (.iconst 5, 1) := by decide +kernel
theorem ww28_64 {d : Nat} {l0 l1 l2 l3 l4 : Option mw_V} {st : List mw_V} {σ : mw_S} {Q : Option mw_V → mw_S → Prop} : mw_WP d 28 64 [l0, l1, l2, l3, l4] st σ Q ↔ mw_WP d 28 65 [l0, l1, l2, l3, l4] (jI (5) :: st) σ Q := WP_iconst mq28 dd28_64 (by decide)
theorem dd28_65 : decode cX5_learn 65 = .ok (.if_icmp .ge 14, 3) := by decide +kernel
theorem ww28_65 {d : Nat} {l0 l1 l2 l3 l4 : Option mw_V} {x y : Int} {st : List mw_V} {σ : mw_S} {Q : Option mw_V → mw_S → Prop} : mw_WP d 28 65 [l0, l1, l2, l3, l4] (jI y :: jI x :: st) σ Q ↔ (if y ≤ x then mw_WP d 28 79 [l0, l1, l2, l3, l4] st σ Q else mw_WP d 28 68 [l0, l1, l2, l3, l4] st σ Q) := WP_icmp_ge mq28 dd28_65 (by decide)
theorem dd28_68 : decode cX5_learn 68 = .ok (.aload_n 0, 1) := by decide +kernel
theorem ww28_68 {d : Nat} {l1 l2 l3 l4 : Option mw_V} {x : Nat} {st : List mw_V} {σ : mw_S} {Q : Option mw_V → mw_S → Prop} : mw_WP d 28 68 [some (jR x), l1, l2, l3, l4] st σ Q ↔ mw_WP d 28 69 [some (jR x), l1, l2, l3, l4] (jR x :: st) σ Q := WP_aload_n mq28 dd28_68 rfl
theorem dd28_69 : decode cX5_learn 69 = .ok (.iload_n 3, 1) := by decide +kernel
theorem ww28_69 {d : Nat} {l0 l1 l2 l4 : Option mw_V} {x : Int} {st : List mw_V} {σ : mw_S} {Q : Option mw_V → mw_S → Prop} : mw_WP d 28 69 [l0, l1, l2, some (jI x), l4] st σ Q ↔ mw_WP d 28 70 [l0, l1, l2, some (jI x), l4] (jI x :: st) σ Q := WP_iload_n mq28 dd28_69 rfl
theorem dd28_70 : decode cX5_learn 70 = .ok (.invokevirtual 56, 3) := by decide +kernel
theorem ww28_70 {d : Nat} {l0 l1 l2 l3 l4 : Option mw_V} {v0 : mw_V} {a : Nat} {st : List mw_V} {σ : mw_S} {Q : Option mw_V → mw_S → Prop} (hr : mw_rc a = 5) (h8 : (st.map mw_cat).sum ≤ 8) : mw_WP d 28 70 [l0, l1, l2, l3, l4] (v0 :: jR a :: st) σ Q ↔ mw_Call d 29 [jR a, v0] σ (fun r1 s1 => mw_WP d 28 73 [l0, l1, l2, l3, l4] (r1.toList ++ st) s1 Q) := WP_inv (as := [v0]) mq28 dd28_70 (by decide) mq29 rfl hr h8
theorem dd28_73 : decode cX5_learn 73 = .ok (.iinc 3 1, 3) := by decide +kernel
theorem ww28_73 {d : Nat} {l0 l1 l2 l4 : Option mw_V} {x : Int} {st : List mw_V} {σ : mw_S} {Q : Option mw_V → mw_S → Prop} (h : mw_nlo l2 = true) : mw_WP d 28 73 [l0, l1, l2, some (jI x), l4] st σ Q ↔ mw_WP d 28 76 [l0, l1, l2, some (jI (w32 (x + (1)))), l4] st σ Q := WP_iinc mq28 dd28_73 rfl (Nat.le_of_ble_eq_true rfl) (mw_nl_of (i := 2) rfl h) rfl
theorem dd28_76 : decode cX5_learn 76 = .ok (.goto (-13), 3) := by decide +kernel
theorem ww28_76 {d : Nat} {l0 l1 l2 l3 l4 : Option mw_V} {st : List mw_V} {σ : mw_S} {Q : Option mw_V → mw_S → Prop} : mw_WP d 28 76 [l0, l1, l2, l3, l4] st σ Q ↔ mw_WP d 28 63 [l0, l1, l2, l3, l4] st σ Q := WP_goto mq28 dd28_76 (by decide)
theorem dd28_79 : decode cX5_learn 79 = .ok (.return_, 1) := by decide +kernel
theorem ww28_79 {d : Nat} {l0 l1 l2 l3 l4 : Option mw_V} {σ : mw_S} {Q : Option mw_V → mw_S → Prop} : mw_WP d 28 79 [l0, l1, l2, l3, l4] [] σ Q ↔ Q none σ := WP_return mq28 dd28_79 rfl
theorem ee29 {d : Nat} {a : Nat} {z0 : Int} {σ : mw_S} {Q : Option mw_V → mw_S → Prop} : mw_Call (d + 1) 29 [jR a, jI z0] σ Q ↔ mw_WP d 29 0 [some (jR a), some (jI z0), none, none, none, none, none] [] σ Q := CL_u mq29 (Nat.le_of_ble_eq_true rfl) rfl
theorem dd29_0 : decode cX5_learnFor 0 = .ok (.iconst 0, 1) := by decide +kernel
theorem ww29_0 {d : Nat} {l0 l1 l2 l3 l4 l5 l6 : Option mw_V} {st : List mw_V} {σ : mw_S} {Q : Option mw_V → mw_S → Prop} : mw_WP d 29 0 [l0, l1, l2, l3, l4, l5, l6] st σ Q ↔ mw_WP d 29 1 [l0, l1, l2, l3, l4, l5, l6] (jI (0) :: st) σ Q := WP_iconst mq29 dd29_0 (by decide)
theorem dd29_1 : decode cX5_learnFor 1 = .ok (.istore_n 2, 1) := by decide +kernel
theorem ww29_1 {d : Nat} {l0 l1 l2 l3 l4 l5 l6 : Option mw_V} {x : Int} {st : List mw_V} {σ : mw_S} {Q : Option mw_V → mw_S → Prop} (h : mw_nlo l1 = true) : mw_WP d 29 1 [l0, l1, l2, l3, l4, l5, l6] (jI x :: st) σ Q ↔ mw_WP d 29 2 [l0, l1, some (jI x), l3, l4, l5, l6] st σ Q := WP_istore_n mq29 dd29_1 (Nat.le_of_ble_eq_true rfl) (mw_nl_of (i := 1) rfl h) rfl
theorem dd29_2 : decode cX5_learnFor 2 = .ok (.iconst 0, 1) := by decide +kernel
theorem ww29_2 {d : Nat} {l0 l1 l2 l3 l4 l5 l6 : Option mw_V} {st : List mw_V} {σ : mw_S} {Q : Option mw_V → mw_S → Prop} : mw_WP d 29 2 [l0, l1, l2, l3, l4, l5, l6] st σ Q ↔ mw_WP d 29 3 [l0, l1, l2, l3, l4, l5, l6] (jI (0) :: st) σ Q := WP_iconst mq29 dd29_2 (by decide)
theorem dd29_3 : decode cX5_learnFor 3 = .ok (.istore_n 3, 1) := by decide +kernel
theorem ww29_3 {d : Nat} {l0 l1 l2 l3 l4 l5 l6 : Option mw_V} {x : Int} {st : List mw_V} {σ : mw_S} {Q : Option mw_V → mw_S → Prop} (h : mw_nlo l2 = true) : mw_WP d 29 3 [l0, l1, l2, l3, l4, l5, l6] (jI x :: st) σ Q ↔ mw_WP d 29 4 [l0, l1, l2, some (jI x), l4, l5, l6] st σ Q := WP_istore_n mq29 dd29_3 (Nat.le_of_ble_eq_true rfl) (mw_nl_of (i := 2) rfl h) rfl
theorem dd29_4 : decode cX5_learnFor 4 = .ok (.iconst 1, 1) := by decide +kernel
theorem ww29_4 {d : Nat} {l0 l1 l2 l3 l4 l5 l6 : Option mw_V} {st : List mw_V} {σ : mw_S} {Q : Option mw_V → mw_S → Prop} : mw_WP d 29 4 [l0, l1, l2, l3, l4, l5, l6] st σ Q ↔ mw_WP d 29 5 [l0, l1, l2, l3, l4, l5, l6] (jI (1) :: st) σ Q := WP_iconst mq29 dd29_4 (by decide)
theorem dd29_5 : decode cX5_learnFor 5 = .ok (.istore 4, 2) := by decide +kernel
theorem ww29_5 {d : Nat} {l0 l1 l2 l3 l4 l5 l6 : Option mw_V} {x : Int} {st : List mw_V} {σ : mw_S} {Q : Option mw_V → mw_S → Prop} (h : mw_nlo l3 = true) : mw_WP d 29 5 [l0, l1, l2, l3, l4, l5, l6] (jI x :: st) σ Q ↔ mw_WP d 29 7 [l0, l1, l2, l3, some (jI x), l5, l6] st σ Q := WP_istore mq29 dd29_5 (Nat.le_of_ble_eq_true rfl) (mw_nl_of (i := 3) rfl h) rfl
theorem dd29_7 : decode cX5_learnFor 7 = .ok (.iconst 0, 1) := by decide +kernel
theorem ww29_7 {d : Nat} {l0 l1 l2 l3 l4 l5 l6 : Option mw_V} {st : List mw_V} {σ : mw_S} {Q : Option mw_V → mw_S → Prop} : mw_WP d 29 7 [l0, l1, l2, l3, l4, l5, l6] st σ Q ↔ mw_WP d 29 8 [l0, l1, l2, l3, l4, l5, l6] (jI (0) :: st) σ Q := WP_iconst mq29 dd29_7 (by decide)
theorem dd29_8 : decode cX5_learnFor 8 = .ok (.istore 5, 2) := by decide +kernel
theorem ww29_8 {d : Nat} {l0 l1 l2 l3 l4 l5 l6 : Option mw_V} {x : Int} {st : List mw_V} {σ : mw_S} {Q : Option mw_V → mw_S → Prop} (h : mw_nlo l4 = true) : mw_WP d 29 8 [l0, l1, l2, l3, l4, l5, l6] (jI x :: st) σ Q ↔ mw_WP d 29 10 [l0, l1, l2, l3, l4, some (jI x), l6] st σ Q := WP_istore mq29 dd29_8 (Nat.le_of_ble_eq_true rfl) (mw_nl_of (i := 4) rfl h) rfl
theorem dd29_10 : decode cX5_learnFor 10 = .ok (.iload 5, 2) := by decide +kernel
theorem ww29_10 {d : Nat} {l0 l1 l2 l3 l4 l6 : Option mw_V} {x : Int} {st : List mw_V} {σ : mw_S} {Q : Option mw_V → mw_S → Prop} : mw_WP d 29 10 [l0, l1, l2, l3, l4, some (jI x), l6] st σ Q ↔ mw_WP d 29 12 [l0, l1, l2, l3, l4, some (jI x), l6] (jI x :: st) σ Q := WP_iload mq29 dd29_10 rfl
theorem dd29_12 : decode cX5_learnFor 12 = .ok (.aload_n 0, 1) := by decide +kernel
theorem ww29_12 {d : Nat} {l1 l2 l3 l4 l5 l6 : Option mw_V} {x : Nat} {st : List mw_V} {σ : mw_S} {Q : Option mw_V → mw_S → Prop} : mw_WP d 29 12 [some (jR x), l1, l2, l3, l4, l5, l6] st σ Q ↔ mw_WP d 29 13 [some (jR x), l1, l2, l3, l4, l5, l6] (jR x :: st) σ Q := WP_aload_n mq29 dd29_12 rfl
theorem dd29_13 : decode cX5_learnFor 13 = .ok (.getfield 49, 3) := by decide +kernel
theorem ww29_13 {d : Nat} {l0 l1 l2 l3 l4 l5 l6 : Option mw_V} {st : List mw_V} {σ : mw_S} {Q : Option mw_V → mw_S → Prop} : mw_WP d 29 13 [l0, l1, l2, l3, l4, l5, l6] (jR 65 :: st) σ Q ↔ mw_WP d 29 16 [l0, l1, l2, l3, l4, l5, l6] (jI (σ 65 10) :: st) σ Q := WP_getI (ci := 4) (k := 10) mq29 dd29_13 (by decide) (Or.inl rfl)
theorem dd29_16 : decode cX5_learnFor 16 = .ok (.if_icmp .ge 74, 3) := by decide +kernel
theorem ww29_16 {d : Nat} {l0 l1 l2 l3 l4 l5 l6 : Option mw_V} {x y : Int} {st : List mw_V} {σ : mw_S} {Q : Option mw_V → mw_S → Prop} : mw_WP d 29 16 [l0, l1, l2, l3, l4, l5, l6] (jI y :: jI x :: st) σ Q ↔ (if y ≤ x then mw_WP d 29 90 [l0, l1, l2, l3, l4, l5, l6] st σ Q else mw_WP d 29 19 [l0, l1, l2, l3, l4, l5, l6] st σ Q) := WP_icmp_ge mq29 dd29_16 (by decide)
theorem dd29_19 : decode cX5_learnFor 19 = .ok (.aload_n 0, 1) := by decide +kernel
theorem ww29_19 {d : Nat} {l1 l2 l3 l4 l5 l6 : Option mw_V} {x : Nat} {st : List mw_V} {σ : mw_S} {Q : Option mw_V → mw_S → Prop} : mw_WP d 29 19 [some (jR x), l1, l2, l3, l4, l5, l6] st σ Q ↔ mw_WP d 29 20 [some (jR x), l1, l2, l3, l4, l5, l6] (jR x :: st) σ Q := WP_aload_n mq29 dd29_19 rfl
theorem dd29_20 : decode cX5_learnFor 20 = .ok (.iload 5, 2) := by decide +kernel
theorem ww29_20 {d : Nat} {l0 l1 l2 l3 l4 l6 : Option mw_V} {x : Int} {st : List mw_V} {σ : mw_S} {Q : Option mw_V → mw_S → Prop} : mw_WP d 29 20 [l0, l1, l2, l3, l4, some (jI x), l6] st σ Q ↔ mw_WP d 29 22 [l0, l1, l2, l3, l4, some (jI x), l6] (jI x :: st) σ Q := WP_iload mq29 dd29_20 rfl
theorem dd29_22 : decode cX5_learnFor 22 = .ok (.iload_n 1, 1) := by decide +kernel
theorem ww29_22 {d : Nat} {l0 l2 l3 l4 l5 l6 : Option mw_V} {x : Int} {st : List mw_V} {σ : mw_S} {Q : Option mw_V → mw_S → Prop} : mw_WP d 29 22 [l0, some (jI x), l2, l3, l4, l5, l6] st σ Q ↔ mw_WP d 29 23 [l0, some (jI x), l2, l3, l4, l5, l6] (jI x :: st) σ Q := WP_iload_n mq29 dd29_22 rfl
theorem dd29_23 : decode cX5_learnFor 23 = .ok (.invokevirtual 60, 3) := by decide +kernel
theorem ww29_23 {d : Nat} {l0 l1 l2 l3 l4 l5 l6 : Option mw_V} {v0 v1 : mw_V} {a : Nat} {st : List mw_V} {σ : mw_S} {Q : Option mw_V → mw_S → Prop} (hr : mw_rc a = 5) (h8 : (st.map mw_cat).sum ≤ 8) : mw_WP d 29 23 [l0, l1, l2, l3, l4, l5, l6] (v1 :: v0 :: jR a :: st) σ Q ↔ mw_Call d 30 [jR a, v0, v1] σ (fun r1 s1 => mw_WP d 29 26 [l0, l1, l2, l3, l4, l5, l6] (r1.toList ++ st) s1 Q) := WP_inv (as := [v1, v0]) mq29 dd29_23 (by decide) mq30 rfl hr h8
theorem dd29_26 : decode cX5_learnFor 26 = .ok (.istore 6, 2) := by decide +kernel
theorem ww29_26 {d : Nat} {l0 l1 l2 l3 l4 l5 l6 : Option mw_V} {x : Int} {st : List mw_V} {σ : mw_S} {Q : Option mw_V → mw_S → Prop} (h : mw_nlo l5 = true) : mw_WP d 29 26 [l0, l1, l2, l3, l4, l5, l6] (jI x :: st) σ Q ↔ mw_WP d 29 28 [l0, l1, l2, l3, l4, l5, some (jI x)] st σ Q := WP_istore mq29 dd29_26 (Nat.le_of_ble_eq_true rfl) (mw_nl_of (i := 5) rfl h) rfl
theorem dd29_28 : decode cX5_learnFor 28 = .ok (.aload_n 0, 1) := by decide +kernel
theorem ww29_28 {d : Nat} {l1 l2 l3 l4 l5 l6 : Option mw_V} {x : Nat} {st : List mw_V} {σ : mw_S} {Q : Option mw_V → mw_S → Prop} : mw_WP d 29 28 [some (jR x), l1, l2, l3, l4, l5, l6] st σ Q ↔ mw_WP d 29 29 [some (jR x), l1, l2, l3, l4, l5, l6] (jR x :: st) σ Q := WP_aload_n mq29 dd29_28 rfl
theorem dd29_29 : decode cX5_learnFor 29 = .ok (.getfield 25, 3) := by decide +kernel
theorem ww29_29 {d : Nat} {l0 l1 l2 l3 l4 l5 l6 : Option mw_V} {st : List mw_V} {σ : mw_S} {Q : Option mw_V → mw_S → Prop} : mw_WP d 29 29 [l0, l1, l2, l3, l4, l5, l6] (jR 65 :: st) σ Q ↔ mw_WP d 29 32 [l0, l1, l2, l3, l4, l5, l6] (jR 70 :: st) σ Q := WP_getR (ci := 4) (k := 6) mq29 dd29_29 (by decide) rfl
theorem dd29_32 : decode cX5_learnFor 32 = .ok (.iload 5, 2) := by decide +kernel
theorem ww29_32 {d : Nat} {l0 l1 l2 l3 l4 l6 : Option mw_V} {x : Int} {st : List mw_V} {σ : mw_S} {Q : Option mw_V → mw_S → Prop} : mw_WP d 29 32 [l0, l1, l2, l3, l4, some (jI x), l6] st σ Q ↔ mw_WP d 29 34 [l0, l1, l2, l3, l4, some (jI x), l6] (jI x :: st) σ Q := WP_iload mq29 dd29_32 rfl
theorem dd29_34 : decode cX5_learnFor 34 = .ok (.iaload, 1) := by decide +kernel
theorem ww29_34 {d : Nat} {l0 l1 l2 l3 l4 l5 l6 : Option mw_V} {z : Int} {a : Nat} {st : List mw_V} {σ : mw_S} {Q : Option mw_V → mw_S → Prop} : mw_WP d 29 34 [l0, l1, l2, l3, l4, l5, l6] (jI z :: jR a :: st) σ Q ↔ ((0 ≤ z ∧ z < mw_lenI a) ∧ mw_WP d 29 35 [l0, l1, l2, l3, l4, l5, l6] (jI (mw_rdI σ a z.toNat) :: st) σ Q) := WP_iaload mq29 dd29_34
theorem dd29_35 : decode cX5_learnFor 35 = .ok (.ifCond .eq 37, 3) := by decide +kernel
theorem ww29_35 {d : Nat} {l0 l1 l2 l3 l4 l5 l6 : Option mw_V} {x : Int} {st : List mw_V} {σ : mw_S} {Q : Option mw_V → mw_S → Prop} : mw_WP d 29 35 [l0, l1, l2, l3, l4, l5, l6] (jI x :: st) σ Q ↔ (if x = 0 then mw_WP d 29 72 [l0, l1, l2, l3, l4, l5, l6] st σ Q else mw_WP d 29 38 [l0, l1, l2, l3, l4, l5, l6] st σ Q) := WP_if_eq mq29 dd29_35 (by decide)
theorem dd29_38 : decode cX5_learnFor 38 = .ok (.iload 4, 2) := by decide +kernel
theorem ww29_38 {d : Nat} {l0 l1 l2 l3 l5 l6 : Option mw_V} {x : Int} {st : List mw_V} {σ : mw_S} {Q : Option mw_V → mw_S → Prop} : mw_WP d 29 38 [l0, l1, l2, l3, some (jI x), l5, l6] st σ Q ↔ mw_WP d 29 40 [l0, l1, l2, l3, some (jI x), l5, l6] (jI x :: st) σ Q := WP_iload mq29 dd29_38 rfl
theorem dd29_40 : decode cX5_learnFor 40 = .ok (.ifCond .eq 19, 3) := by decide +kernel
theorem ww29_40 {d : Nat} {l0 l1 l2 l3 l4 l5 l6 : Option mw_V} {x : Int} {st : List mw_V} {σ : mw_S} {Q : Option mw_V → mw_S → Prop} : mw_WP d 29 40 [l0, l1, l2, l3, l4, l5, l6] (jI x :: st) σ Q ↔ (if x = 0 then mw_WP d 29 59 [l0, l1, l2, l3, l4, l5, l6] st σ Q else mw_WP d 29 43 [l0, l1, l2, l3, l4, l5, l6] st σ Q) := WP_if_eq mq29 dd29_40 (by decide)
theorem dd29_43 : decode cX5_learnFor 43 = .ok (.aload_n 0, 1) := by decide +kernel
theorem ww29_43 {d : Nat} {l1 l2 l3 l4 l5 l6 : Option mw_V} {x : Nat} {st : List mw_V} {σ : mw_S} {Q : Option mw_V → mw_S → Prop} : mw_WP d 29 43 [some (jR x), l1, l2, l3, l4, l5, l6] st σ Q ↔ mw_WP d 29 44 [some (jR x), l1, l2, l3, l4, l5, l6] (jR x :: st) σ Q := WP_aload_n mq29 dd29_43 rfl
theorem dd29_44 : decode cX5_learnFor 44 = .ok (.getfield 25, 3) := by decide +kernel
theorem ww29_44 {d : Nat} {l0 l1 l2 l3 l4 l5 l6 : Option mw_V} {st : List mw_V} {σ : mw_S} {Q : Option mw_V → mw_S → Prop} : mw_WP d 29 44 [l0, l1, l2, l3, l4, l5, l6] (jR 65 :: st) σ Q ↔ mw_WP d 29 47 [l0, l1, l2, l3, l4, l5, l6] (jR 70 :: st) σ Q := WP_getR (ci := 4) (k := 6) mq29 dd29_44 (by decide) rfl
theorem dd29_47 : decode cX5_learnFor 47 = .ok (.iload 5, 2) := by decide +kernel
theorem ww29_47 {d : Nat} {l0 l1 l2 l3 l4 l6 : Option mw_V} {x : Int} {st : List mw_V} {σ : mw_S} {Q : Option mw_V → mw_S → Prop} : mw_WP d 29 47 [l0, l1, l2, l3, l4, some (jI x), l6] st σ Q ↔ mw_WP d 29 49 [l0, l1, l2, l3, l4, some (jI x), l6] (jI x :: st) σ Q := WP_iload mq29 dd29_47 rfl
theorem dd29_49 : decode cX5_learnFor 49 = .ok (.iaload, 1) := by decide +kernel
theorem ww29_49 {d : Nat} {l0 l1 l2 l3 l4 l5 l6 : Option mw_V} {z : Int} {a : Nat} {st : List mw_V} {σ : mw_S} {Q : Option mw_V → mw_S → Prop} : mw_WP d 29 49 [l0, l1, l2, l3, l4, l5, l6] (jI z :: jR a :: st) σ Q ↔ ((0 ≤ z ∧ z < mw_lenI a) ∧ mw_WP d 29 50 [l0, l1, l2, l3, l4, l5, l6] (jI (mw_rdI σ a z.toNat) :: st) σ Q) := WP_iaload mq29 dd29_49
theorem dd29_50 : decode cX5_learnFor 50 = .ok (.iload 6, 2) := by decide +kernel
theorem ww29_50 {d : Nat} {l0 l1 l2 l3 l4 l5 : Option mw_V} {x : Int} {st : List mw_V} {σ : mw_S} {Q : Option mw_V → mw_S → Prop} : mw_WP d 29 50 [l0, l1, l2, l3, l4, l5, some (jI x)] st σ Q ↔ mw_WP d 29 52 [l0, l1, l2, l3, l4, l5, some (jI x)] (jI x :: st) σ Q := WP_iload mq29 dd29_50 rfl
theorem dd29_52 : decode cX5_learnFor 52 = .ok (.if_icmp .ne 7, 3) := by decide +kernel
theorem ww29_52 {d : Nat} {l0 l1 l2 l3 l4 l5 l6 : Option mw_V} {x y : Int} {st : List mw_V} {σ : mw_S} {Q : Option mw_V → mw_S → Prop} : mw_WP d 29 52 [l0, l1, l2, l3, l4, l5, l6] (jI y :: jI x :: st) σ Q ↔ (if ¬ x = y then mw_WP d 29 59 [l0, l1, l2, l3, l4, l5, l6] st σ Q else mw_WP d 29 55 [l0, l1, l2, l3, l4, l5, l6] st σ Q) := WP_icmp_ne mq29 dd29_52 (by decide)
theorem dd29_55 : decode cX5_learnFor 55 = .ok (.iconst 1, 1) := by decide +kernel
theorem ww29_55 {d : Nat} {l0 l1 l2 l3 l4 l5 l6 : Option mw_V} {st : List mw_V} {σ : mw_S} {Q : Option mw_V → mw_S → Prop} : mw_WP d 29 55 [l0, l1, l2, l3, l4, l5, l6] st σ Q ↔ mw_WP d 29 56 [l0, l1, l2, l3, l4, l5, l6] (jI (1) :: st) σ Q := WP_iconst mq29 dd29_55 (by decide)
theorem dd29_56 : decode cX5_learnFor 56 = .ok (.goto 4, 3) := by decide +kernel
theorem ww29_56 {d : Nat} {l0 l1 l2 l3 l4 l5 l6 : Option mw_V} {st : List mw_V} {σ : mw_S} {Q : Option mw_V → mw_S → Prop} : mw_WP d 29 56 [l0, l1, l2, l3, l4, l5, l6] st σ Q ↔ mw_WP d 29 60 [l0, l1, l2, l3, l4, l5, l6] st σ Q := WP_goto mq29 dd29_56 (by decide)
theorem dd29_59 : decode cX5_learnFor 59 = .ok (.iconst 0, 1) := by decide +kernel
theorem ww29_59 {d : Nat} {l0 l1 l2 l3 l4 l5 l6 : Option mw_V} {st : List mw_V} {σ : mw_S} {Q : Option mw_V → mw_S → Prop} : mw_WP d 29 59 [l0, l1, l2, l3, l4, l5, l6] st σ Q ↔ mw_WP d 29 60 [l0, l1, l2, l3, l4, l5, l6] (jI (0) :: st) σ Q := WP_iconst mq29 dd29_59 (by decide)
theorem dd29_60 : decode cX5_learnFor 60 = .ok (.istore 4, 2) := by decide +kernel
theorem ww29_60 {d : Nat} {l0 l1 l2 l3 l4 l5 l6 : Option mw_V} {x : Int} {st : List mw_V} {σ : mw_S} {Q : Option mw_V → mw_S → Prop} (h : mw_nlo l3 = true) : mw_WP d 29 60 [l0, l1, l2, l3, l4, l5, l6] (jI x :: st) σ Q ↔ mw_WP d 29 62 [l0, l1, l2, l3, some (jI x), l5, l6] st σ Q := WP_istore mq29 dd29_60 (Nat.le_of_ble_eq_true rfl) (mw_nl_of (i := 3) rfl h) rfl
theorem dd29_62 : decode cX5_learnFor 62 = .ok (.iload_n 3, 1) := by decide +kernel
theorem ww29_62 {d : Nat} {l0 l1 l2 l4 l5 l6 : Option mw_V} {x : Int} {st : List mw_V} {σ : mw_S} {Q : Option mw_V → mw_S → Prop} : mw_WP d 29 62 [l0, l1, l2, some (jI x), l4, l5, l6] st σ Q ↔ mw_WP d 29 63 [l0, l1, l2, some (jI x), l4, l5, l6] (jI x :: st) σ Q := WP_iload_n mq29 dd29_62 rfl
theorem dd29_63 : decode cX5_learnFor 63 = .ok (.iconst 1, 1) := by decide +kernel
theorem ww29_63 {d : Nat} {l0 l1 l2 l3 l4 l5 l6 : Option mw_V} {st : List mw_V} {σ : mw_S} {Q : Option mw_V → mw_S → Prop} : mw_WP d 29 63 [l0, l1, l2, l3, l4, l5, l6] st σ Q ↔ mw_WP d 29 64 [l0, l1, l2, l3, l4, l5, l6] (jI (1) :: st) σ Q := WP_iconst mq29 dd29_63 (by decide)
theorem dd29_64 : decode cX5_learnFor 64 = .ok (.iload 6, 2) := by decide +kernel
theorem ww29_64 {d : Nat} {l0 l1 l2 l3 l4 l5 : Option mw_V} {x : Int} {st : List mw_V} {σ : mw_S} {Q : Option mw_V → mw_S → Prop} : mw_WP d 29 64 [l0, l1, l2, l3, l4, l5, some (jI x)] st σ Q ↔ mw_WP d 29 66 [l0, l1, l2, l3, l4, l5, some (jI x)] (jI x :: st) σ Q := WP_iload mq29 dd29_64 rfl
theorem dd29_66 : decode cX5_learnFor 66 = .ok (.ishl, 1) := by decide +kernel
theorem ww29_66 {d : Nat} {l0 l1 l2 l3 l4 l5 l6 : Option mw_V} {x y : Int} {st : List mw_V} {σ : mw_S} {Q : Option mw_V → mw_S → Prop} : mw_WP d 29 66 [l0, l1, l2, l3, l4, l5, l6] (jI y :: jI x :: st) σ Q ↔ mw_WP d 29 67 [l0, l1, l2, l3, l4, l5, l6] (jI (zShl x y) :: st) σ Q := WP_ishl mq29 dd29_66
theorem dd29_67 : decode cX5_learnFor 67 = .ok (.ior, 1) := by decide +kernel
theorem ww29_67 {d : Nat} {l0 l1 l2 l3 l4 l5 l6 : Option mw_V} {x y : Int} {st : List mw_V} {σ : mw_S} {Q : Option mw_V → mw_S → Prop} : mw_WP d 29 67 [l0, l1, l2, l3, l4, l5, l6] (jI y :: jI x :: st) σ Q ↔ mw_WP d 29 68 [l0, l1, l2, l3, l4, l5, l6] (jI (zOr x y) :: st) σ Q := WP_ior mq29 dd29_67
theorem dd29_68 : decode cX5_learnFor 68 = .ok (.istore_n 3, 1) := by decide +kernel
theorem ww29_68 {d : Nat} {l0 l1 l2 l3 l4 l5 l6 : Option mw_V} {x : Int} {st : List mw_V} {σ : mw_S} {Q : Option mw_V → mw_S → Prop} (h : mw_nlo l2 = true) : mw_WP d 29 68 [l0, l1, l2, l3, l4, l5, l6] (jI x :: st) σ Q ↔ mw_WP d 29 69 [l0, l1, l2, some (jI x), l4, l5, l6] st σ Q := WP_istore_n mq29 dd29_68 (Nat.le_of_ble_eq_true rfl) (mw_nl_of (i := 2) rfl h) rfl
theorem dd29_69 : decode cX5_learnFor 69 = .ok (.goto 15, 3) := by decide +kernel
theorem ww29_69 {d : Nat} {l0 l1 l2 l3 l4 l5 l6 : Option mw_V} {st : List mw_V} {σ : mw_S} {Q : Option mw_V → mw_S → Prop} : mw_WP d 29 69 [l0, l1, l2, l3, l4, l5, l6] st σ Q ↔ mw_WP d 29 84 [l0, l1, l2, l3, l4, l5, l6] st σ Q := WP_goto mq29 dd29_69 (by decide)
theorem dd29_72 : decode cX5_learnFor 72 = .ok (.iload 6, 2) := by decide +kernel
theorem ww29_72 {d : Nat} {l0 l1 l2 l3 l4 l5 : Option mw_V} {x : Int} {st : List mw_V} {σ : mw_S} {Q : Option mw_V → mw_S → Prop} : mw_WP d 29 72 [l0, l1, l2, l3, l4, l5, some (jI x)] st σ Q ↔ mw_WP d 29 74 [l0, l1, l2, l3, l4, l5, some (jI x)] (jI x :: st) σ Q := WP_iload mq29 dd29_72 rfl
theorem dd29_74 : decode cX5_learnFor 74 = .ok (.ifCond .eq 10, 3) := by decide +kernel
theorem ww29_74 {d : Nat} {l0 l1 l2 l3 l4 l5 l6 : Option mw_V} {x : Int} {st : List mw_V} {σ : mw_S} {Q : Option mw_V → mw_S → Prop} : mw_WP d 29 74 [l0, l1, l2, l3, l4, l5, l6] (jI x :: st) σ Q ↔ (if x = 0 then mw_WP d 29 84 [l0, l1, l2, l3, l4, l5, l6] st σ Q else mw_WP d 29 77 [l0, l1, l2, l3, l4, l5, l6] st σ Q) := WP_if_eq mq29 dd29_74 (by decide)
theorem dd29_77 : decode cX5_learnFor 77 = .ok (.iload_n 2, 1) := by decide +kernel
theorem ww29_77 {d : Nat} {l0 l1 l3 l4 l5 l6 : Option mw_V} {x : Int} {st : List mw_V} {σ : mw_S} {Q : Option mw_V → mw_S → Prop} : mw_WP d 29 77 [l0, l1, some (jI x), l3, l4, l5, l6] st σ Q ↔ mw_WP d 29 78 [l0, l1, some (jI x), l3, l4, l5, l6] (jI x :: st) σ Q := WP_iload_n mq29 dd29_77 rfl
theorem dd29_78 : decode cX5_learnFor 78 = .ok (.iconst 1, 1) := by decide +kernel
theorem ww29_78 {d : Nat} {l0 l1 l2 l3 l4 l5 l6 : Option mw_V} {st : List mw_V} {σ : mw_S} {Q : Option mw_V → mw_S → Prop} : mw_WP d 29 78 [l0, l1, l2, l3, l4, l5, l6] st σ Q ↔ mw_WP d 29 79 [l0, l1, l2, l3, l4, l5, l6] (jI (1) :: st) σ Q := WP_iconst mq29 dd29_78 (by decide)
theorem dd29_79 : decode cX5_learnFor 79 = .ok (.iload 6, 2) := by decide +kernel
theorem ww29_79 {d : Nat} {l0 l1 l2 l3 l4 l5 : Option mw_V} {x : Int} {st : List mw_V} {σ : mw_S} {Q : Option mw_V → mw_S → Prop} : mw_WP d 29 79 [l0, l1, l2, l3, l4, l5, some (jI x)] st σ Q ↔ mw_WP d 29 81 [l0, l1, l2, l3, l4, l5, some (jI x)] (jI x :: st) σ Q := WP_iload mq29 dd29_79 rfl
theorem dd29_81 : decode cX5_learnFor 81 = .ok (.ishl, 1) := by decide +kernel
theorem ww29_81 {d : Nat} {l0 l1 l2 l3 l4 l5 l6 : Option mw_V} {x y : Int} {st : List mw_V} {σ : mw_S} {Q : Option mw_V → mw_S → Prop} : mw_WP d 29 81 [l0, l1, l2, l3, l4, l5, l6] (jI y :: jI x :: st) σ Q ↔ mw_WP d 29 82 [l0, l1, l2, l3, l4, l5, l6] (jI (zShl x y) :: st) σ Q := WP_ishl mq29 dd29_81
theorem dd29_82 : decode cX5_learnFor 82 = .ok (.ior, 1) := by decide +kernel
theorem ww29_82 {d : Nat} {l0 l1 l2 l3 l4 l5 l6 : Option mw_V} {x y : Int} {st : List mw_V} {σ : mw_S} {Q : Option mw_V → mw_S → Prop} : mw_WP d 29 82 [l0, l1, l2, l3, l4, l5, l6] (jI y :: jI x :: st) σ Q ↔ mw_WP d 29 83 [l0, l1, l2, l3, l4, l5, l6] (jI (zOr x y) :: st) σ Q := WP_ior mq29 dd29_82
theorem dd29_83 : decode cX5_learnFor 83 = .ok (.istore_n 2, 1) := by decide +kernel
theorem ww29_83 {d : Nat} {l0 l1 l2 l3 l4 l5 l6 : Option mw_V} {x : Int} {st : List mw_V} {σ : mw_S} {Q : Option mw_V → mw_S → Prop} (h : mw_nlo l1 = true) : mw_WP d 29 83 [l0, l1, l2, l3, l4, l5, l6] (jI x :: st) σ Q ↔ mw_WP d 29 84 [l0, l1, some (jI x), l3, l4, l5, l6] st σ Q := WP_istore_n mq29 dd29_83 (Nat.le_of_ble_eq_true rfl) (mw_nl_of (i := 1) rfl h) rfl
theorem dd29_84 : decode cX5_learnFor 84 = .ok (.iinc 5 1, 3) := by decide +kernel
theorem ww29_84 {d : Nat} {l0 l1 l2 l3 l4 l6 : Option mw_V} {x : Int} {st : List mw_V} {σ : mw_S} {Q : Option mw_V → mw_S → Prop} (h : mw_nlo l4 = true) : mw_WP d 29 84 [l0, l1, l2, l3, l4, some (jI x), l6] st σ Q ↔ mw_WP d 29 87 [l0, l1, l2, l3, l4, some (jI (w32 (x + (1)))), l6] st σ Q := WP_iinc mq29 dd29_84 rfl (Nat.le_of_ble_eq_true rfl) (mw_nl_of (i := 4) rfl h) rfl
theorem dd29_87 : decode cX5_learnFor 87 = .ok (.goto (-77), 3) := by decide +kernel
theorem ww29_87 {d : Nat} {l0 l1 l2 l3 l4 l5 l6 : Option mw_V} {st : List mw_V} {σ : mw_S} {Q : Option mw_V → mw_S → Prop} : mw_WP d 29 87 [l0, l1, l2, l3, l4, l5, l6] st σ Q ↔ mw_WP d 29 10 [l0, l1, l2, l3, l4, l5, l6] st σ Q := WP_goto mq29 dd29_87 (by decide)
theorem dd29_90 : decode cX5_learnFor 90 = .ok (.aload_n 0, 1) := by decide +kernel
theorem ww29_90 {d : Nat} {l1 l2 l3 l4 l5 l6 : Option mw_V} {x : Nat} {st : List mw_V} {σ : mw_S} {Q : Option mw_V → mw_S → Prop} : mw_WP d 29 90 [some (jR x), l1, l2, l3, l4, l5, l6] st σ Q ↔ mw_WP d 29 91 [some (jR x), l1, l2, l3, l4, l5, l6] (jR x :: st) σ Q := WP_aload_n mq29 dd29_90 rfl
theorem dd29_91 : decode cX5_learnFor 91 = .ok (.getfield 11, 3) := by decide +kernel
theorem ww29_91 {d : Nat} {l0 l1 l2 l3 l4 l5 l6 : Option mw_V} {st : List mw_V} {σ : mw_S} {Q : Option mw_V → mw_S → Prop} : mw_WP d 29 91 [l0, l1, l2, l3, l4, l5, l6] (jR 65 :: st) σ Q ↔ mw_WP d 29 94 [l0, l1, l2, l3, l4, l5, l6] (jR 66 :: st) σ Q := WP_getR (ci := 4) (k := 0) mq29 dd29_91 (by decide) rfl
theorem dd29_94 : decode cX5_learnFor 94 = .ok (.iload_n 1, 1) := by decide +kernel
theorem ww29_94 {d : Nat} {l0 l2 l3 l4 l5 l6 : Option mw_V} {x : Int} {st : List mw_V} {σ : mw_S} {Q : Option mw_V → mw_S → Prop} : mw_WP d 29 94 [l0, some (jI x), l2, l3, l4, l5, l6] st σ Q ↔ mw_WP d 29 95 [l0, some (jI x), l2, l3, l4, l5, l6] (jI x :: st) σ Q := WP_iload_n mq29 dd29_94 rfl
theorem dd29_95 : decode cX5_learnFor 95 = .ok (.iload_n 2, 1) := by decide +kernel
theorem ww29_95 {d : Nat} {l0 l1 l3 l4 l5 l6 : Option mw_V} {x : Int} {st : List mw_V} {σ : mw_S} {Q : Option mw_V → mw_S → Prop} : mw_WP d 29 95 [l0, l1, some (jI x), l3, l4, l5, l6] st σ Q ↔ mw_WP d 29 96 [l0, l1, some (jI x), l3, l4, l5, l6] (jI x :: st) σ Q := WP_iload_n mq29 dd29_95 rfl
theorem dd29_96 : decode cX5_learnFor 96 = .ok (.iastore, 1) := by decide +kernel
theorem ww29_96 {d : Nat} {l0 l1 l2 l3 l4 l5 l6 : Option mw_V} {x z : Int} {a : Nat} {st : List mw_V} {σ : mw_S} {Q : Option mw_V → mw_S → Prop} : mw_WP d 29 96 [l0, l1, l2, l3, l4, l5, l6] (jI x :: jI z :: jR a :: st) σ Q ↔ ((0 ≤ z ∧ z < mw_lenW 0 a) ∧ mw_WP d 29 97 [l0, l1, l2, l3, l4, l5, l6] st (upS σ a z.toNat x) Q) := WP_iastore mq29 dd29_96
theorem dd29_97 : decode cX5_learnFor 97 = .ok (.aload_n 0, 1) := by decide +kernel
theorem ww29_97 {d : Nat} {l1 l2 l3 l4 l5 l6 : Option mw_V} {x : Nat} {st : List mw_V} {σ : mw_S} {Q : Option mw_V → mw_S → Prop} : mw_WP d 29 97 [some (jR x), l1, l2, l3, l4, l5, l6] st σ Q ↔ mw_WP d 29 98 [some (jR x), l1, l2, l3, l4, l5, l6] (jR x :: st) σ Q := WP_aload_n mq29 dd29_97 rfl
theorem dd29_98 : decode cX5_learnFor 98 = .ok (.getfield 15, 3) := by decide +kernel
theorem ww29_98 {d : Nat} {l0 l1 l2 l3 l4 l5 l6 : Option mw_V} {st : List mw_V} {σ : mw_S} {Q : Option mw_V → mw_S → Prop} : mw_WP d 29 98 [l0, l1, l2, l3, l4, l5, l6] (jR 65 :: st) σ Q ↔ mw_WP d 29 101 [l0, l1, l2, l3, l4, l5, l6] (jR 67 :: st) σ Q := WP_getR (ci := 4) (k := 3) mq29 dd29_98 (by decide) rfl
theorem dd29_101 : decode cX5_learnFor 101 = .ok (.iload_n 1, 1) := by decide +kernel
theorem ww29_101 {d : Nat} {l0 l2 l3 l4 l5 l6 : Option mw_V} {x : Int} {st : List mw_V} {σ : mw_S} {Q : Option mw_V → mw_S → Prop} : mw_WP d 29 101 [l0, some (jI x), l2, l3, l4, l5, l6] st σ Q ↔ mw_WP d 29 102 [l0, some (jI x), l2, l3, l4, l5, l6] (jI x :: st) σ Q := WP_iload_n mq29 dd29_101 rfl
theorem dd29_102 : decode cX5_learnFor 102 = .ok (.iload_n 3, 1) := by decide +kernel
theorem ww29_102 {d : Nat} {l0 l1 l2 l4 l5 l6 : Option mw_V} {x : Int} {st : List mw_V} {σ : mw_S} {Q : Option mw_V → mw_S → Prop} : mw_WP d 29 102 [l0, l1, l2, some (jI x), l4, l5, l6] st σ Q ↔ mw_WP d 29 103 [l0, l1, l2, some (jI x), l4, l5, l6] (jI x :: st) σ Q := WP_iload_n mq29 dd29_102 rfl
theorem dd29_103 : decode cX5_learnFor 103 = .ok (.iastore, 1) := by decide +kernel
theorem ww29_103 {d : Nat} {l0 l1 l2 l3 l4 l5 l6 : Option mw_V} {x z : Int} {a : Nat} {st : List mw_V} {σ : mw_S} {Q : Option mw_V → mw_S → Prop} : mw_WP d 29 103 [l0, l1, l2, l3, l4, l5, l6] (jI x :: jI z :: jR a :: st) σ Q ↔ ((0 ≤ z ∧ z < mw_lenW 0 a) ∧ mw_WP d 29 104 [l0, l1, l2, l3, l4, l5, l6] st (upS σ a z.toNat x) Q) := WP_iastore mq29 dd29_103
theorem dd29_104 : decode cX5_learnFor 104 = .ok (.aload_n 0, 1) := by decide +kernel
theorem ww29_104 {d : Nat} {l1 l2 l3 l4 l5 l6 : Option mw_V} {x : Nat} {st : List mw_V} {σ : mw_S} {Q : Option mw_V → mw_S → Prop} : mw_WP d 29 104 [some (jR x), l1, l2, l3, l4, l5, l6] st σ Q ↔ mw_WP d 29 105 [some (jR x), l1, l2, l3, l4, l5, l6] (jR x :: st) σ Q := WP_aload_n mq29 dd29_104 rfl
theorem dd29_105 : decode cX5_learnFor 105 = .ok (.getfield 18, 3) := by decide +kernel
theorem ww29_105 {d : Nat} {l0 l1 l2 l3 l4 l5 l6 : Option mw_V} {st : List mw_V} {σ : mw_S} {Q : Option mw_V → mw_S → Prop} : mw_WP d 29 105 [l0, l1, l2, l3, l4, l5, l6] (jR 65 :: st) σ Q ↔ mw_WP d 29 108 [l0, l1, l2, l3, l4, l5, l6] (jR 68 :: st) σ Q := WP_getR (ci := 4) (k := 4) mq29 dd29_105 (by decide) rfl
theorem dd29_108 : decode cX5_learnFor 108 = .ok (.iload_n 1, 1) := by decide +kernel
theorem ww29_108 {d : Nat} {l0 l2 l3 l4 l5 l6 : Option mw_V} {x : Int} {st : List mw_V} {σ : mw_S} {Q : Option mw_V → mw_S → Prop} : mw_WP d 29 108 [l0, some (jI x), l2, l3, l4, l5, l6] st σ Q ↔ mw_WP d 29 109 [l0, some (jI x), l2, l3, l4, l5, l6] (jI x :: st) σ Q := WP_iload_n mq29 dd29_108 rfl
theorem dd29_109 : decode cX5_learnFor 109 = .ok (.iload 4, 2) := by decide +kernel
theorem ww29_109 {d : Nat} {l0 l1 l2 l3 l5 l6 : Option mw_V} {x : Int} {st : List mw_V} {σ : mw_S} {Q : Option mw_V → mw_S → Prop} : mw_WP d 29 109 [l0, l1, l2, l3, some (jI x), l5, l6] st σ Q ↔ mw_WP d 29 111 [l0, l1, l2, l3, some (jI x), l5, l6] (jI x :: st) σ Q := WP_iload mq29 dd29_109 rfl
theorem dd29_111 : decode cX5_learnFor 111 = .ok (.ifCond .eq 13, 3) := by decide +kernel
theorem ww29_111 {d : Nat} {l0 l1 l2 l3 l4 l5 l6 : Option mw_V} {x : Int} {st : List mw_V} {σ : mw_S} {Q : Option mw_V → mw_S → Prop} : mw_WP d 29 111 [l0, l1, l2, l3, l4, l5, l6] (jI x :: st) σ Q ↔ (if x = 0 then mw_WP d 29 124 [l0, l1, l2, l3, l4, l5, l6] st σ Q else mw_WP d 29 114 [l0, l1, l2, l3, l4, l5, l6] st σ Q) := WP_if_eq mq29 dd29_111 (by decide)
theorem dd29_114 : decode cX5_learnFor 114 = .ok (.iload_n 2, 1) := by decide +kernel
theorem ww29_114 {d : Nat} {l0 l1 l3 l4 l5 l6 : Option mw_V} {x : Int} {st : List mw_V} {σ : mw_S} {Q : Option mw_V → mw_S → Prop} : mw_WP d 29 114 [l0, l1, some (jI x), l3, l4, l5, l6] st σ Q ↔ mw_WP d 29 115 [l0, l1, some (jI x), l3, l4, l5, l6] (jI x :: st) σ Q := WP_iload_n mq29 dd29_114 rfl
theorem dd29_115 : decode cX5_learnFor 115 = .ok (.iload_n 3, 1) := by decide +kernel
theorem ww29_115 {d : Nat} {l0 l1 l2 l4 l5 l6 : Option mw_V} {x : Int} {st : List mw_V} {σ : mw_S} {Q : Option mw_V → mw_S → Prop} : mw_WP d 29 115 [l0, l1, l2, some (jI x), l4, l5, l6] st σ Q ↔ mw_WP d 29 116 [l0, l1, l2, some (jI x), l4, l5, l6] (jI x :: st) σ Q := WP_iload_n mq29 dd29_115 rfl
theorem dd29_116 : decode cX5_learnFor 116 = .ok (.iand, 1) := by decide +kernel
theorem ww29_116 {d : Nat} {l0 l1 l2 l3 l4 l5 l6 : Option mw_V} {x y : Int} {st : List mw_V} {σ : mw_S} {Q : Option mw_V → mw_S → Prop} : mw_WP d 29 116 [l0, l1, l2, l3, l4, l5, l6] (jI y :: jI x :: st) σ Q ↔ mw_WP d 29 117 [l0, l1, l2, l3, l4, l5, l6] (jI (zAnd x y) :: st) σ Q := WP_iand mq29 dd29_116
theorem dd29_117 : decode cX5_learnFor 117 = .ok (.ifCond .ne 7, 3) := by decide +kernel
theorem ww29_117 {d : Nat} {l0 l1 l2 l3 l4 l5 l6 : Option mw_V} {x : Int} {st : List mw_V} {σ : mw_S} {Q : Option mw_V → mw_S → Prop} : mw_WP d 29 117 [l0, l1, l2, l3, l4, l5, l6] (jI x :: st) σ Q ↔ (if ¬ x = 0 then mw_WP d 29 124 [l0, l1, l2, l3, l4, l5, l6] st σ Q else mw_WP d 29 120 [l0, l1, l2, l3, l4, l5, l6] st σ Q) := WP_if_ne mq29 dd29_117 (by decide)
theorem dd29_120 : decode cX5_learnFor 120 = .ok (.iconst 1, 1) := by decide +kernel
theorem ww29_120 {d : Nat} {l0 l1 l2 l3 l4 l5 l6 : Option mw_V} {st : List mw_V} {σ : mw_S} {Q : Option mw_V → mw_S → Prop} : mw_WP d 29 120 [l0, l1, l2, l3, l4, l5, l6] st σ Q ↔ mw_WP d 29 121 [l0, l1, l2, l3, l4, l5, l6] (jI (1) :: st) σ Q := WP_iconst mq29 dd29_120 (by decide)
theorem dd29_121 : decode cX5_learnFor 121 = .ok (.goto 4, 3) := by decide +kernel
theorem ww29_121 {d : Nat} {l0 l1 l2 l3 l4 l5 l6 : Option mw_V} {st : List mw_V} {σ : mw_S} {Q : Option mw_V → mw_S → Prop} : mw_WP d 29 121 [l0, l1, l2, l3, l4, l5, l6] st σ Q ↔ mw_WP d 29 125 [l0, l1, l2, l3, l4, l5, l6] st σ Q := WP_goto mq29 dd29_121 (by decide)
theorem dd29_124 : decode cX5_learnFor 124 = .ok (.iconst 0, 1) := by decide +kernel
theorem ww29_124 {d : Nat} {l0 l1 l2 l3 l4 l5 l6 : Option mw_V} {st : List mw_V} {σ : mw_S} {Q : Option mw_V → mw_S → Prop} : mw_WP d 29 124 [l0, l1, l2, l3, l4, l5, l6] st σ Q ↔ mw_WP d 29 125 [l0, l1, l2, l3, l4, l5, l6] (jI (0) :: st) σ Q := WP_iconst mq29 dd29_124 (by decide)
theorem dd29_125 : decode cX5_learnFor 125 = .ok (.bastore, 1) := by decide +kernel
theorem ww29_125 {d : Nat} {l0 l1 l2 l3 l4 l5 l6 : Option mw_V} {x z : Int} {a : Nat} {st : List mw_V} {σ : mw_S} {Q : Option mw_V → mw_S → Prop} : mw_WP d 29 125 [l0, l1, l2, l3, l4, l5, l6] (jI x :: jI z :: jR a :: st) σ Q ↔ ((0 ≤ z ∧ z < mw_lenW 1 a ∧ (x = 0 ∨ x = 1)) ∧ mw_WP d 29 126 [l0, l1, l2, l3, l4, l5, l6] st (upS σ a z.toNat x) Q) := WP_bastore mq29 dd29_125
theorem dd29_126 : decode cX5_learnFor 126 = .ok (.return_, 1) := by decide +kernel
theorem ww29_126 {d : Nat} {l0 l1 l2 l3 l4 l5 l6 : Option mw_V} {σ : mw_S} {Q : Option mw_V → mw_S → Prop} : mw_WP d 29 126 [l0, l1, l2, l3, l4, l5, l6] [] σ Q ↔ Q none σ := WP_return mq29 dd29_126 rfl
theorem ee30 {d : Nat} {a : Nat} {z0 : Int} {z1 : Int} {σ : mw_S} {Q : Option mw_V → mw_S → Prop} : mw_Call (d + 1) 30 [jR a, jI z0, jI z1] σ Q ↔ mw_WP d 30 0 [some (jR a), some (jI z0), some (jI z1), none] [] σ Q := CL_u mq30 (Nat.le_of_ble_eq_true rfl) rfl
theorem dd30_0 : decode cX5_doingAt 0 = .ok (.iload_n 1, 1) := by decide +kernel
theorem ww30_0 {d : Nat} {l0 l2 l3 : Option mw_V} {x : Int} {st : List mw_V} {σ : mw_S} {Q : Option mw_V → mw_S → Prop} : mw_WP d 30 0 [l0, some (jI x), l2, l3] st σ Q ↔ mw_WP d 30 1 [l0, some (jI x), l2, l3] (jI x :: st) σ Q := WP_iload_n mq30 dd30_0 rfl
theorem dd30_1 : decode cX5_doingAt 1 = .ok (.iload_n 2, 1) := by decide +kernel
theorem ww30_1 {d : Nat} {l0 l1 l3 : Option mw_V} {x : Int} {st : List mw_V} {σ : mw_S} {Q : Option mw_V → mw_S → Prop} : mw_WP d 30 1 [l0, l1, some (jI x), l3] st σ Q ↔ mw_WP d 30 2 [l0, l1, some (jI x), l3] (jI x :: st) σ Q := WP_iload_n mq30 dd30_1 rfl
theorem dd30_2 : decode cX5_doingAt 2 = .ok (.isub, 1) := by decide +kernel
theorem ww30_2 {d : Nat} {l0 l1 l2 l3 : Option mw_V} {x y : Int} {st : List mw_V} {σ : mw_S} {Q : Option mw_V → mw_S → Prop} : mw_WP d 30 2 [l0, l1, l2, l3] (jI y :: jI x :: st) σ Q ↔ mw_WP d 30 3 [l0, l1, l2, l3] (jI (w32 (x - y)) :: st) σ Q := WP_isub mq30 dd30_2
theorem dd30_3 : decode cX5_doingAt 3 = .ok (.istore_n 3, 1) := by decide +kernel
theorem ww30_3 {d : Nat} {l0 l1 l2 l3 : Option mw_V} {x : Int} {st : List mw_V} {σ : mw_S} {Q : Option mw_V → mw_S → Prop} (h : mw_nlo l2 = true) : mw_WP d 30 3 [l0, l1, l2, l3] (jI x :: st) σ Q ↔ mw_WP d 30 4 [l0, l1, l2, some (jI x)] st σ Q := WP_istore_n mq30 dd30_3 (Nat.le_of_ble_eq_true rfl) (mw_nl_of (i := 2) rfl h) rfl
theorem dd30_4 : decode cX5_doingAt 4 = .ok (.iload_n 3, 1) := by decide +kernel
theorem ww30_4 {d : Nat} {l0 l1 l2 : Option mw_V} {x : Int} {st : List mw_V} {σ : mw_S} {Q : Option mw_V → mw_S → Prop} : mw_WP d 30 4 [l0, l1, l2, some (jI x)] st σ Q ↔ mw_WP d 30 5 [l0, l1, l2, some (jI x)] (jI x :: st) σ Q := WP_iload_n mq30 dd30_4 rfl
theorem dd30_5 : decode cX5_doingAt 5 = .ok (.ifCond .lt 12, 3) := by decide +kernel
theorem ww30_5 {d : Nat} {l0 l1 l2 l3 : Option mw_V} {x : Int} {st : List mw_V} {σ : mw_S} {Q : Option mw_V → mw_S → Prop} : mw_WP d 30 5 [l0, l1, l2, l3] (jI x :: st) σ Q ↔ (if x < 0 then mw_WP d 30 17 [l0, l1, l2, l3] st σ Q else mw_WP d 30 8 [l0, l1, l2, l3] st σ Q) := WP_if_lt mq30 dd30_5 (by decide)
theorem dd30_8 : decode cX5_doingAt 8 = .ok (.iload_n 3, 1) := by decide +kernel
theorem ww30_8 {d : Nat} {l0 l1 l2 : Option mw_V} {x : Int} {st : List mw_V} {σ : mw_S} {Q : Option mw_V → mw_S → Prop} : mw_WP d 30 8 [l0, l1, l2, some (jI x)] st σ Q ↔ mw_WP d 30 9 [l0, l1, l2, some (jI x)] (jI x :: st) σ Q := WP_iload_n mq30 dd30_8 rfl
theorem dd30_9 : decode cX5_doingAt 9 = .ok (.aload_n 0, 1) := by decide +kernel
theorem ww30_9 {d : Nat} {l1 l2 l3 : Option mw_V} {x : Nat} {st : List mw_V} {σ : mw_S} {Q : Option mw_V → mw_S → Prop} : mw_WP d 30 9 [some (jR x), l1, l2, l3] st σ Q ↔ mw_WP d 30 10 [some (jR x), l1, l2, l3] (jR x :: st) σ Q := WP_aload_n mq30 dd30_9 rfl
theorem dd30_10 : decode cX5_doingAt 10 = .ok (.getfield 22, 3) := by decide +kernel
theorem ww30_10 {d : Nat} {l0 l1 l2 l3 : Option mw_V} {st : List mw_V} {σ : mw_S} {Q : Option mw_V → mw_S → Prop} : mw_WP d 30 10 [l0, l1, l2, l3] (jR 65 :: st) σ Q ↔ mw_WP d 30 13 [l0, l1, l2, l3] (jR 69 :: st) σ Q := WP_getR (ci := 4) (k := 5) mq30 dd30_10 (by decide) rfl
theorem dd30_13 : decode cX5_doingAt 13 = .ok (.arraylength, 1) := by decide +kernel
theorem ww30_13 {d : Nat} {l0 l1 l2 l3 : Option mw_V} {st : List mw_V} {σ : mw_S} {Q : Option mw_V → mw_S → Prop} : mw_WP d 30 13 [l0, l1, l2, l3] (jR 69 :: st) σ Q ↔ mw_WP d 30 14 [l0, l1, l2, l3] (jI 35 :: st) σ Q := WP_alen (t := 0) mq30 dd30_13 rfl rfl
theorem dd30_14 : decode cX5_doingAt 14 = .ok (.if_icmp .lt 5, 3) := by decide +kernel
theorem ww30_14 {d : Nat} {l0 l1 l2 l3 : Option mw_V} {x y : Int} {st : List mw_V} {σ : mw_S} {Q : Option mw_V → mw_S → Prop} : mw_WP d 30 14 [l0, l1, l2, l3] (jI y :: jI x :: st) σ Q ↔ (if x < y then mw_WP d 30 19 [l0, l1, l2, l3] st σ Q else mw_WP d 30 17 [l0, l1, l2, l3] st σ Q) := WP_icmp_lt mq30 dd30_14 (by decide)
theorem dd30_17 : decode cX5_doingAt 17 = .ok (.iconst 0, 1) := by decide +kernel
theorem ww30_17 {d : Nat} {l0 l1 l2 l3 : Option mw_V} {st : List mw_V} {σ : mw_S} {Q : Option mw_V → mw_S → Prop} : mw_WP d 30 17 [l0, l1, l2, l3] st σ Q ↔ mw_WP d 30 18 [l0, l1, l2, l3] (jI (0) :: st) σ Q := WP_iconst mq30 dd30_17 (by decide)
theorem dd30_18 : decode cX5_doingAt 18 = .ok (.ireturn, 1) := by decide +kernel
theorem ww30_18 {d : Nat} {l0 l1 l2 l3 : Option mw_V} {z : Int} {σ : mw_S} {Q : Option mw_V → mw_S → Prop} : mw_WP d 30 18 [l0, l1, l2, l3] [jI z] σ Q ↔ Q (some (jI z)) σ := WP_ireturn (ty := .int) mq30 dd30_18 rfl rfl
theorem dd30_19 : decode cX5_doingAt 19 = .ok (.aload_n 0, 1) := by decide +kernel
theorem ww30_19 {d : Nat} {l1 l2 l3 : Option mw_V} {x : Nat} {st : List mw_V} {σ : mw_S} {Q : Option mw_V → mw_S → Prop} : mw_WP d 30 19 [some (jR x), l1, l2, l3] st σ Q ↔ mw_WP d 30 20 [some (jR x), l1, l2, l3] (jR x :: st) σ Q := WP_aload_n mq30 dd30_19 rfl
theorem dd30_20 : decode cX5_doingAt 20 = .ok (.getfield 22, 3) := by decide +kernel
theorem ww30_20 {d : Nat} {l0 l1 l2 l3 : Option mw_V} {st : List mw_V} {σ : mw_S} {Q : Option mw_V → mw_S → Prop} : mw_WP d 30 20 [l0, l1, l2, l3] (jR 65 :: st) σ Q ↔ mw_WP d 30 23 [l0, l1, l2, l3] (jR 69 :: st) σ Q := WP_getR (ci := 4) (k := 5) mq30 dd30_20 (by decide) rfl
theorem dd30_23 : decode cX5_doingAt 23 = .ok (.iload_n 3, 1) := by decide +kernel
theorem ww30_23 {d : Nat} {l0 l1 l2 : Option mw_V} {x : Int} {st : List mw_V} {σ : mw_S} {Q : Option mw_V → mw_S → Prop} : mw_WP d 30 23 [l0, l1, l2, some (jI x)] st σ Q ↔ mw_WP d 30 24 [l0, l1, l2, some (jI x)] (jI x :: st) σ Q := WP_iload_n mq30 dd30_23 rfl
theorem dd30_24 : decode cX5_doingAt 24 = .ok (.iaload, 1) := by decide +kernel
theorem ww30_24 {d : Nat} {l0 l1 l2 l3 : Option mw_V} {z : Int} {a : Nat} {st : List mw_V} {σ : mw_S} {Q : Option mw_V → mw_S → Prop} : mw_WP d 30 24 [l0, l1, l2, l3] (jI z :: jR a :: st) σ Q ↔ ((0 ≤ z ∧ z < mw_lenI a) ∧ mw_WP d 30 25 [l0, l1, l2, l3] (jI (mw_rdI σ a z.toNat) :: st) σ Q) := WP_iaload mq30 dd30_24
theorem dd30_25 : decode cX5_doingAt 25 = .ok (.invokestatic 63, 3) := by decide +kernel
theorem ww30_25 {d : Nat} {l0 l1 l2 l3 : Option mw_V} {v0 : mw_V} {st : List mw_V} {σ : mw_S} {Q : Option mw_V → mw_S → Prop} (h8 : (st.map mw_cat).sum ≤ 8) : mw_WP d 30 25 [l0, l1, l2, l3] (v0 :: st) σ Q ↔ mw_Call d 94 [v0] σ (fun r1 s1 => mw_WP d 30 28 [l0, l1, l2, l3] (r1.toList ++ st) s1 Q) := WP_invs (as := [v0]) mq30 dd30_25 (by decide) mq94 rfl rfl h8
theorem dd30_28 : decode cX5_doingAt 28 = .ok (.ireturn, 1) := by decide +kernel
theorem ww30_28 {d : Nat} {l0 l1 l2 l3 : Option mw_V} {z : Int} {σ : mw_S} {Q : Option mw_V → mw_S → Prop} : mw_WP d 30 28 [l0, l1, l2, l3] [jI z] σ Q ↔ Q (some (jI z)) σ := WP_ireturn (ty := .int) mq30 dd30_28 rfl rfl
theorem ee31 {d : Nat} {a : Nat} {z0 : Int} {σ : mw_S} {Q : Option mw_V → mw_S → Prop} : mw_Call (d + 1) 31 [jR a, jI z0] σ Q ↔ mw_WP d 31 0 [some (jR a), some (jI z0)] [] σ Q := CL_u mq31 (Nat.le_of_ble_eq_true rfl) rfl
theorem dd31_0 : decode cX5_openLaws 0 = .ok (.bipush 8, 2) := by decide +kernel
theorem ww31_0 {d : Nat} {l0 l1 : Option mw_V} {st : List mw_V} {σ : mw_S} {Q : Option mw_V → mw_S → Prop} : mw_WP d 31 0 [l0, l1] st σ Q ↔ mw_WP d 31 2 [l0, l1] (jI (8) :: st) σ Q := WP_bipush mq31 dd31_0 (by decide)
theorem dd31_2 : decode cX5_openLaws 2 = .ok (.aload_n 0, 1) := by decide +kernel
theorem ww31_2 {d : Nat} {l1 : Option mw_V} {x : Nat} {st : List mw_V} {σ : mw_S} {Q : Option mw_V → mw_S → Prop} : mw_WP d 31 2 [some (jR x), l1] st σ Q ↔ mw_WP d 31 3 [some (jR x), l1] (jR x :: st) σ Q := WP_aload_n mq31 dd31_2 rfl
theorem dd31_3 : decode cX5_openLaws 3 = .ok (.getfield 11, 3) := by decide +kernel
theorem ww31_3 {d : Nat} {l0 l1 : Option mw_V} {st : List mw_V} {σ : mw_S} {Q : Option mw_V → mw_S → Prop} : mw_WP d 31 3 [l0, l1] (jR 65 :: st) σ Q ↔ mw_WP d 31 6 [l0, l1] (jR 66 :: st) σ Q := WP_getR (ci := 4) (k := 0) mq31 dd31_3 (by decide) rfl
theorem dd31_6 : decode cX5_openLaws 6 = .ok (.iload_n 1, 1) := by decide +kernel
theorem ww31_6 {d : Nat} {l0 : Option mw_V} {x : Int} {st : List mw_V} {σ : mw_S} {Q : Option mw_V → mw_S → Prop} : mw_WP d 31 6 [l0, some (jI x)] st σ Q ↔ mw_WP d 31 7 [l0, some (jI x)] (jI x :: st) σ Q := WP_iload_n mq31 dd31_6 rfl
theorem dd31_7 : decode cX5_openLaws 7 = .ok (.iaload, 1) := by decide +kernel
theorem ww31_7 {d : Nat} {l0 l1 : Option mw_V} {z : Int} {a : Nat} {st : List mw_V} {σ : mw_S} {Q : Option mw_V → mw_S → Prop} : mw_WP d 31 7 [l0, l1] (jI z :: jR a :: st) σ Q ↔ ((0 ≤ z ∧ z < mw_lenI a) ∧ mw_WP d 31 8 [l0, l1] (jI (mw_rdI σ a z.toNat) :: st) σ Q) := WP_iaload mq31 dd31_7
theorem dd31_8 : decode cX5_openLaws 8 = .ok (.aload_n 0, 1) := by decide +kernel
theorem ww31_8 {d : Nat} {l1 : Option mw_V} {x : Nat} {st : List mw_V} {σ : mw_S} {Q : Option mw_V → mw_S → Prop} : mw_WP d 31 8 [some (jR x), l1] st σ Q ↔ mw_WP d 31 9 [some (jR x), l1] (jR x :: st) σ Q := WP_aload_n mq31 dd31_8 rfl
theorem dd31_9 : decode cX5_openLaws 9 = .ok (.getfield 15, 3) := by decide +kernel
theorem ww31_9 {d : Nat} {l0 l1 : Option mw_V} {st : List mw_V} {σ : mw_S} {Q : Option mw_V → mw_S → Prop} : mw_WP d 31 9 [l0, l1] (jR 65 :: st) σ Q ↔ mw_WP d 31 12 [l0, l1] (jR 67 :: st) σ Q := WP_getR (ci := 4) (k := 3) mq31 dd31_9 (by decide) rfl
theorem dd31_12 : decode cX5_openLaws 12 = .ok (.iload_n 1, 1) := by decide +kernel
theorem ww31_12 {d : Nat} {l0 : Option mw_V} {x : Int} {st : List mw_V} {σ : mw_S} {Q : Option mw_V → mw_S → Prop} : mw_WP d 31 12 [l0, some (jI x)] st σ Q ↔ mw_WP d 31 13 [l0, some (jI x)] (jI x :: st) σ Q := WP_iload_n mq31 dd31_12 rfl
theorem dd31_13 : decode cX5_openLaws 13 = .ok (.iaload, 1) := by decide +kernel
theorem ww31_13 {d : Nat} {l0 l1 : Option mw_V} {z : Int} {a : Nat} {st : List mw_V} {σ : mw_S} {Q : Option mw_V → mw_S → Prop} : mw_WP d 31 13 [l0, l1] (jI z :: jR a :: st) σ Q ↔ ((0 ≤ z ∧ z < mw_lenI a) ∧ mw_WP d 31 14 [l0, l1] (jI (mw_rdI σ a z.toNat) :: st) σ Q) := WP_iaload mq31 dd31_13
theorem dd31_14 : decode cX5_openLaws 14 = .ok (.ior, 1) := by decide +kernel
theorem ww31_14 {d : Nat} {l0 l1 : Option mw_V} {x y : Int} {st : List mw_V} {σ : mw_S} {Q : Option mw_V → mw_S → Prop} : mw_WP d 31 14 [l0, l1] (jI y :: jI x :: st) σ Q ↔ mw_WP d 31 15 [l0, l1] (jI (zOr x y) :: st) σ Q := WP_ior mq31 dd31_14
theorem dd31_15 : decode cX5_openLaws 15 = .ok (.invokestatic 68, 3) := by decide +kernel
theorem ww31_15 {d : Nat} {l0 l1 : Option mw_V} {v0 : mw_V} {st : List mw_V} {σ : mw_S} {Q : Option mw_V → mw_S → Prop} (h8 : (st.map mw_cat).sum ≤ 8) : mw_WP d 31 15 [l0, l1] (v0 :: st) σ Q ↔ mw_Call d 279 [v0] σ (fun r1 s1 => mw_WP d 31 18 [l0, l1] (r1.toList ++ st) s1 Q) := WP_invs (as := [v0]) mq31 dd31_15 (by decide) mq279 rfl rfl h8
theorem dd31_18 : decode cX5_openLaws 18 = .ok (.isub, 1) := by decide +kernel
theorem ww31_18 {d : Nat} {l0 l1 : Option mw_V} {x y : Int} {st : List mw_V} {σ : mw_S} {Q : Option mw_V → mw_S → Prop} : mw_WP d 31 18 [l0, l1] (jI y :: jI x :: st) σ Q ↔ mw_WP d 31 19 [l0, l1] (jI (w32 (x - y)) :: st) σ Q := WP_isub mq31 dd31_18
theorem dd31_19 : decode cX5_openLaws 19 = .ok (.ireturn, 1) := by decide +kernel
theorem ww31_19 {d : Nat} {l0 l1 : Option mw_V} {z : Int} {σ : mw_S} {Q : Option mw_V → mw_S → Prop} : mw_WP d 31 19 [l0, l1] [jI z] σ Q ↔ Q (some (jI z)) σ := WP_ireturn (ty := .int) mq31 dd31_19 rfl rfl
theorem ee32 {d : Nat} {a : Nat} {σ : mw_S} {Q : Option mw_V → mw_S → Prop} : mw_Call (d + 1) 32 [jR a] σ Q ↔ mw_WP d 32 0 [some (jR a), none, none] [] σ Q := CL_u mq32 (Nat.le_of_ble_eq_true rfl) rfl
theorem dd32_0 : decode cX5_fitting 0 = .ok (.iconst 0, 1) := by decide +kernel
theorem ww32_0 {d : Nat} {l0 l1 l2 : Option mw_V} {st : List mw_V} {σ : mw_S} {Q : Option mw_V → mw_S → Prop} : mw_WP d 32 0 [l0, l1, l2] st σ Q ↔ mw_WP d 32 1 [l0, l1, l2] (jI (0) :: st) σ Q := WP_iconst mq32 dd32_0 (by decide)
theorem dd32_1 : decode cX5_fitting 1 = .ok (.istore_n 1, 1) := by decide +kernel
theorem ww32_1 {d : Nat} {l0 l1 l2 : Option mw_V} {x : Int} {st : List mw_V} {σ : mw_S} {Q : Option mw_V → mw_S → Prop} (h : mw_nlo l0 = true) : mw_WP d 32 1 [l0, l1, l2] (jI x :: st) σ Q ↔ mw_WP d 32 2 [l0, some (jI x), l2] st σ Q := WP_istore_n mq32 dd32_1 (Nat.le_of_ble_eq_true rfl) (mw_nl_of (i := 0) rfl h) rfl
theorem dd32_2 : decode cX5_fitting 2 = .ok (.iconst 0, 1) := by decide +kernel
theorem ww32_2 {d : Nat} {l0 l1 l2 : Option mw_V} {st : List mw_V} {σ : mw_S} {Q : Option mw_V → mw_S → Prop} : mw_WP d 32 2 [l0, l1, l2] st σ Q ↔ mw_WP d 32 3 [l0, l1, l2] (jI (0) :: st) σ Q := WP_iconst mq32 dd32_2 (by decide)
theorem dd32_3 : decode cX5_fitting 3 = .ok (.istore_n 2, 1) := by decide +kernel
theorem ww32_3 {d : Nat} {l0 l1 l2 : Option mw_V} {x : Int} {st : List mw_V} {σ : mw_S} {Q : Option mw_V → mw_S → Prop} (h : mw_nlo l1 = true) : mw_WP d 32 3 [l0, l1, l2] (jI x :: st) σ Q ↔ mw_WP d 32 4 [l0, l1, some (jI x)] st σ Q := WP_istore_n mq32 dd32_3 (Nat.le_of_ble_eq_true rfl) (mw_nl_of (i := 1) rfl h) rfl
theorem dd32_4 : decode cX5_fitting 4 = .ok (.iload_n 2, 1) := by decide +kernel
theorem ww32_4 {d : Nat} {l0 l1 : Option mw_V} {x : Int} {st : List mw_V} {σ : mw_S} {Q : Option mw_V → mw_S → Prop} : mw_WP d 32 4 [l0, l1, some (jI x)] st σ Q ↔ mw_WP d 32 5 [l0, l1, some (jI x)] (jI x :: st) σ Q := WP_iload_n mq32 dd32_4 rfl
theorem dd32_5 : decode cX5_fitting 5 = .ok (.iconst 5, 1) := by decide +kernel
theorem ww32_5 {d : Nat} {l0 l1 l2 : Option mw_V} {st : List mw_V} {σ : mw_S} {Q : Option mw_V → mw_S → Prop} : mw_WP d 32 5 [l0, l1, l2] st σ Q ↔ mw_WP d 32 6 [l0, l1, l2] (jI (5) :: st) σ Q := WP_iconst mq32 dd32_5 (by decide)
theorem dd32_6 : decode cX5_fitting 6 = .ok (.if_icmp .ge 28, 3) := by decide +kernel
theorem ww32_6 {d : Nat} {l0 l1 l2 : Option mw_V} {x y : Int} {st : List mw_V} {σ : mw_S} {Q : Option mw_V → mw_S → Prop} : mw_WP d 32 6 [l0, l1, l2] (jI y :: jI x :: st) σ Q ↔ (if y ≤ x then mw_WP d 32 34 [l0, l1, l2] st σ Q else mw_WP d 32 9 [l0, l1, l2] st σ Q) := WP_icmp_ge mq32 dd32_6 (by decide)
theorem dd32_9 : decode cX5_fitting 9 = .ok (.aload_n 0, 1) := by decide +kernel
theorem ww32_9 {d : Nat} {l1 l2 : Option mw_V} {x : Nat} {st : List mw_V} {σ : mw_S} {Q : Option mw_V → mw_S → Prop} : mw_WP d 32 9 [some (jR x), l1, l2] st σ Q ↔ mw_WP d 32 10 [some (jR x), l1, l2] (jR x :: st) σ Q := WP_aload_n mq32 dd32_9 rfl
theorem dd32_10 : decode cX5_fitting 10 = .ok (.getfield 18, 3) := by decide +kernel
theorem ww32_10 {d : Nat} {l0 l1 l2 : Option mw_V} {st : List mw_V} {σ : mw_S} {Q : Option mw_V → mw_S → Prop} : mw_WP d 32 10 [l0, l1, l2] (jR 65 :: st) σ Q ↔ mw_WP d 32 13 [l0, l1, l2] (jR 68 :: st) σ Q := WP_getR (ci := 4) (k := 4) mq32 dd32_10 (by decide) rfl
theorem dd32_13 : decode cX5_fitting 13 = .ok (.iload_n 2, 1) := by decide +kernel
theorem ww32_13 {d : Nat} {l0 l1 : Option mw_V} {x : Int} {st : List mw_V} {σ : mw_S} {Q : Option mw_V → mw_S → Prop} : mw_WP d 32 13 [l0, l1, some (jI x)] st σ Q ↔ mw_WP d 32 14 [l0, l1, some (jI x)] (jI x :: st) σ Q := WP_iload_n mq32 dd32_13 rfl
theorem dd32_14 : decode cX5_fitting 14 = .ok (.baload, 1) := by decide +kernel
theorem ww32_14 {d : Nat} {l0 l1 l2 : Option mw_V} {z : Int} {a : Nat} {st : List mw_V} {σ : mw_S} {Q : Option mw_V → mw_S → Prop} : mw_WP d 32 14 [l0, l1, l2] (jI z :: jR a :: st) σ Q ↔ ((0 ≤ z ∧ z < mw_lenB a) ∧ mw_WP d 32 15 [l0, l1, l2] (jI (mw_rdB σ a z.toNat) :: st) σ Q) := WP_baload mq32 dd32_14
theorem dd32_15 : decode cX5_fitting 15 = .ok (.ifCond .eq 13, 3) := by decide +kernel
theorem ww32_15 {d : Nat} {l0 l1 l2 : Option mw_V} {x : Int} {st : List mw_V} {σ : mw_S} {Q : Option mw_V → mw_S → Prop} : mw_WP d 32 15 [l0, l1, l2] (jI x :: st) σ Q ↔ (if x = 0 then mw_WP d 32 28 [l0, l1, l2] st σ Q else mw_WP d 32 18 [l0, l1, l2] st σ Q) := WP_if_eq mq32 dd32_15 (by decide)
theorem dd32_18 : decode cX5_fitting 18 = .ok (.iload_n 1, 1) := by decide +kernel
theorem ww32_18 {d : Nat} {l0 l2 : Option mw_V} {x : Int} {st : List mw_V} {σ : mw_S} {Q : Option mw_V → mw_S → Prop} : mw_WP d 32 18 [l0, some (jI x), l2] st σ Q ↔ mw_WP d 32 19 [l0, some (jI x), l2] (jI x :: st) σ Q := WP_iload_n mq32 dd32_18 rfl
theorem dd32_19 : decode cX5_fitting 19 = .ok (.iconst 1, 1) := by decide +kernel
theorem ww32_19 {d : Nat} {l0 l1 l2 : Option mw_V} {st : List mw_V} {σ : mw_S} {Q : Option mw_V → mw_S → Prop} : mw_WP d 32 19 [l0, l1, l2] st σ Q ↔ mw_WP d 32 20 [l0, l1, l2] (jI (1) :: st) σ Q := WP_iconst mq32 dd32_19 (by decide)
theorem dd32_20 : decode cX5_fitting 20 = .ok (.aload_n 0, 1) := by decide +kernel
theorem ww32_20 {d : Nat} {l1 l2 : Option mw_V} {x : Nat} {st : List mw_V} {σ : mw_S} {Q : Option mw_V → mw_S → Prop} : mw_WP d 32 20 [some (jR x), l1, l2] st σ Q ↔ mw_WP d 32 21 [some (jR x), l1, l2] (jR x :: st) σ Q := WP_aload_n mq32 dd32_20 rfl
theorem dd32_21 : decode cX5_fitting 21 = .ok (.iload_n 2, 1) := by decide +kernel
theorem ww32_21 {d : Nat} {l0 l1 : Option mw_V} {x : Int} {st : List mw_V} {σ : mw_S} {Q : Option mw_V → mw_S → Prop} : mw_WP d 32 21 [l0, l1, some (jI x)] st σ Q ↔ mw_WP d 32 22 [l0, l1, some (jI x)] (jI x :: st) σ Q := WP_iload_n mq32 dd32_21 rfl
theorem dd32_22 : decode cX5_fitting 22 = .ok (.invokevirtual 73, 3) := by decide +kernel
theorem ww32_22 {d : Nat} {l0 l1 l2 : Option mw_V} {v0 : mw_V} {a : Nat} {st : List mw_V} {σ : mw_S} {Q : Option mw_V → mw_S → Prop} (hr : mw_rc a = 5) (h8 : (st.map mw_cat).sum ≤ 8) : mw_WP d 32 22 [l0, l1, l2] (v0 :: jR a :: st) σ Q ↔ mw_Call d 31 [jR a, v0] σ (fun r1 s1 => mw_WP d 32 25 [l0, l1, l2] (r1.toList ++ st) s1 Q) := WP_inv (as := [v0]) mq32 dd32_22 (by decide) mq31 rfl hr h8
theorem dd32_25 : decode cX5_fitting 25 = .ok (.ishl, 1) := by decide +kernel
theorem ww32_25 {d : Nat} {l0 l1 l2 : Option mw_V} {x y : Int} {st : List mw_V} {σ : mw_S} {Q : Option mw_V → mw_S → Prop} : mw_WP d 32 25 [l0, l1, l2] (jI y :: jI x :: st) σ Q ↔ mw_WP d 32 26 [l0, l1, l2] (jI (zShl x y) :: st) σ Q := WP_ishl mq32 dd32_25
theorem dd32_26 : decode cX5_fitting 26 = .ok (.iadd, 1) := by decide +kernel
theorem ww32_26 {d : Nat} {l0 l1 l2 : Option mw_V} {x y : Int} {st : List mw_V} {σ : mw_S} {Q : Option mw_V → mw_S → Prop} : mw_WP d 32 26 [l0, l1, l2] (jI y :: jI x :: st) σ Q ↔ mw_WP d 32 27 [l0, l1, l2] (jI (w32 (x + y)) :: st) σ Q := WP_iadd mq32 dd32_26
theorem dd32_27 : decode cX5_fitting 27 = .ok (.istore_n 1, 1) := by decide +kernel
theorem ww32_27 {d : Nat} {l0 l1 l2 : Option mw_V} {x : Int} {st : List mw_V} {σ : mw_S} {Q : Option mw_V → mw_S → Prop} (h : mw_nlo l0 = true) : mw_WP d 32 27 [l0, l1, l2] (jI x :: st) σ Q ↔ mw_WP d 32 28 [l0, some (jI x), l2] st σ Q := WP_istore_n mq32 dd32_27 (Nat.le_of_ble_eq_true rfl) (mw_nl_of (i := 0) rfl h) rfl
theorem dd32_28 : decode cX5_fitting 28 = .ok (.iinc 2 1, 3) := by decide +kernel
theorem ww32_28 {d : Nat} {l0 l1 : Option mw_V} {x : Int} {st : List mw_V} {σ : mw_S} {Q : Option mw_V → mw_S → Prop} (h : mw_nlo l1 = true) : mw_WP d 32 28 [l0, l1, some (jI x)] st σ Q ↔ mw_WP d 32 31 [l0, l1, some (jI (w32 (x + (1))))] st σ Q := WP_iinc mq32 dd32_28 rfl (Nat.le_of_ble_eq_true rfl) (mw_nl_of (i := 1) rfl h) rfl
theorem dd32_31 : decode cX5_fitting 31 = .ok (.goto (-27), 3) := by decide +kernel
theorem ww32_31 {d : Nat} {l0 l1 l2 : Option mw_V} {st : List mw_V} {σ : mw_S} {Q : Option mw_V → mw_S → Prop} : mw_WP d 32 31 [l0, l1, l2] st σ Q ↔ mw_WP d 32 4 [l0, l1, l2] st σ Q := WP_goto mq32 dd32_31 (by decide)
theorem dd32_34 : decode cX5_fitting 34 = .ok (.iload_n 1, 1) := by decide +kernel
theorem ww32_34 {d : Nat} {l0 l2 : Option mw_V} {x : Int} {st : List mw_V} {σ : mw_S} {Q : Option mw_V → mw_S → Prop} : mw_WP d 32 34 [l0, some (jI x), l2] st σ Q ↔ mw_WP d 32 35 [l0, some (jI x), l2] (jI x :: st) σ Q := WP_iload_n mq32 dd32_34 rfl
theorem dd32_35 : decode cX5_fitting 35 = .ok (.ireturn, 1) := by decide +kernel
theorem ww32_35 {d : Nat} {l0 l1 l2 : Option mw_V} {z : Int} {σ : mw_S} {Q : Option mw_V → mw_S → Prop} : mw_WP d 32 35 [l0, l1, l2] [jI z] σ Q ↔ Q (some (jI z)) σ := WP_ireturn (ty := .int) mq32 dd32_35 rfl rfl
theorem ee33 {d : Nat} {a : Nat} {σ : mw_S} {Q : Option mw_V → mw_S → Prop} : mw_Call (d + 1) 33 [jR a] σ Q ↔ mw_WP d 33 0 [some (jR a), none, none, none, none] [] σ Q := CL_u mq33 (Nat.le_of_ble_eq_true rfl) rfl
theorem dd33_0 : decode cX5_latenessOfSmallest 0 = .ok (.iconst (-1), 1) := by decide +kernel
theorem ww33_0 {d : Nat} {l0 l1 l2 l3 l4 : Option mw_V} {st : List mw_V} {σ : mw_S} {Q : Option mw_V → mw_S → Prop} : mw_WP d 33 0 [l0, l1, l2, l3, l4] st σ Q ↔ mw_WP d 33 1 [l0, l1, l2, l3, l4] (jI (-1) :: st) σ Q := WP_iconst mq33 dd33_0 (by decide)
theorem dd33_1 : decode cX5_latenessOfSmallest 1 = .ok (.istore_n 1, 1) := by decide +kernel
theorem ww33_1 {d : Nat} {l0 l1 l2 l3 l4 : Option mw_V} {x : Int} {st : List mw_V} {σ : mw_S} {Q : Option mw_V → mw_S → Prop} (h : mw_nlo l0 = true) : mw_WP d 33 1 [l0, l1, l2, l3, l4] (jI x :: st) σ Q ↔ mw_WP d 33 2 [l0, some (jI x), l2, l3, l4] st σ Q := WP_istore_n mq33 dd33_1 (Nat.le_of_ble_eq_true rfl) (mw_nl_of (i := 0) rfl h) rfl
theorem dd33_2 : decode cX5_latenessOfSmallest 2 = .ok (.bipush 9, 2) := by decide +kernel
theorem ww33_2 {d : Nat} {l0 l1 l2 l3 l4 : Option mw_V} {st : List mw_V} {σ : mw_S} {Q : Option mw_V → mw_S → Prop} : mw_WP d 33 2 [l0, l1, l2, l3, l4] st σ Q ↔ mw_WP d 33 4 [l0, l1, l2, l3, l4] (jI (9) :: st) σ Q := WP_bipush mq33 dd33_2 (by decide)
theorem dd33_4 : decode cX5_latenessOfSmallest 4 = .ok (.istore_n 2, 1) := by decide +kernel
theorem ww33_4 {d : Nat} {l0 l1 l2 l3 l4 : Option mw_V} {x : Int} {st : List mw_V} {σ : mw_S} {Q : Option mw_V → mw_S → Prop} (h : mw_nlo l1 = true) : mw_WP d 33 4 [l0, l1, l2, l3, l4] (jI x :: st) σ Q ↔ mw_WP d 33 5 [l0, l1, some (jI x), l3, l4] st σ Q := WP_istore_n mq33 dd33_4 (Nat.le_of_ble_eq_true rfl) (mw_nl_of (i := 1) rfl h) rfl
theorem dd33_5 : decode cX5_latenessOfSmallest 5 = .ok (.iconst 0, 1) := by decide +kernel
theorem ww33_5 {d : Nat} {l0 l1 l2 l3 l4 : Option mw_V} {st : List mw_V} {σ : mw_S} {Q : Option mw_V → mw_S → Prop} : mw_WP d 33 5 [l0, l1, l2, l3, l4] st σ Q ↔ mw_WP d 33 6 [l0, l1, l2, l3, l4] (jI (0) :: st) σ Q := WP_iconst mq33 dd33_5 (by decide)
theorem dd33_6 : decode cX5_latenessOfSmallest 6 = .ok (.istore_n 3, 1) := by decide +kernel
theorem ww33_6 {d : Nat} {l0 l1 l2 l3 l4 : Option mw_V} {x : Int} {st : List mw_V} {σ : mw_S} {Q : Option mw_V → mw_S → Prop} (h : mw_nlo l2 = true) : mw_WP d 33 6 [l0, l1, l2, l3, l4] (jI x :: st) σ Q ↔ mw_WP d 33 7 [l0, l1, l2, some (jI x), l4] st σ Q := WP_istore_n mq33 dd33_6 (Nat.le_of_ble_eq_true rfl) (mw_nl_of (i := 2) rfl h) rfl
theorem dd33_7 : decode cX5_latenessOfSmallest 7 = .ok (.iload_n 3, 1) := by decide +kernel
theorem ww33_7 {d : Nat} {l0 l1 l2 l4 : Option mw_V} {x : Int} {st : List mw_V} {σ : mw_S} {Q : Option mw_V → mw_S → Prop} : mw_WP d 33 7 [l0, l1, l2, some (jI x), l4] st σ Q ↔ mw_WP d 33 8 [l0, l1, l2, some (jI x), l4] (jI x :: st) σ Q := WP_iload_n mq33 dd33_7 rfl
theorem dd33_8 : decode cX5_latenessOfSmallest 8 = .ok (.iconst 5, 1) := by decide +kernel
theorem ww33_8 {d : Nat} {l0 l1 l2 l3 l4 : Option mw_V} {st : List mw_V} {σ : mw_S} {Q : Option mw_V → mw_S → Prop} : mw_WP d 33 8 [l0, l1, l2, l3, l4] st σ Q ↔ mw_WP d 33 9 [l0, l1, l2, l3, l4] (jI (5) :: st) σ Q := WP_iconst mq33 dd33_8 (by decide)
theorem dd33_9 : decode cX5_latenessOfSmallest 9 = .ok (.if_icmp .ge 40, 3) := by decide +kernel
theorem ww33_9 {d : Nat} {l0 l1 l2 l3 l4 : Option mw_V} {x y : Int} {st : List mw_V} {σ : mw_S} {Q : Option mw_V → mw_S → Prop} : mw_WP d 33 9 [l0, l1, l2, l3, l4] (jI y :: jI x :: st) σ Q ↔ (if y ≤ x then mw_WP d 33 49 [l0, l1, l2, l3, l4] st σ Q else mw_WP d 33 12 [l0, l1, l2, l3, l4] st σ Q) := WP_icmp_ge mq33 dd33_9 (by decide)
theorem dd33_12 : decode cX5_latenessOfSmallest 12 = .ok (.aload_n 0, 1) := by decide +kernel
theorem ww33_12 {d : Nat} {l1 l2 l3 l4 : Option mw_V} {x : Nat} {st : List mw_V} {σ : mw_S} {Q : Option mw_V → mw_S → Prop} : mw_WP d 33 12 [some (jR x), l1, l2, l3, l4] st σ Q ↔ mw_WP d 33 13 [some (jR x), l1, l2, l3, l4] (jR x :: st) σ Q := WP_aload_n mq33 dd33_12 rfl
theorem dd33_13 : decode cX5_latenessOfSmallest 13 = .ok (.getfield 11, 3) := by decide +kernel
theorem ww33_13 {d : Nat} {l0 l1 l2 l3 l4 : Option mw_V} {st : List mw_V} {σ : mw_S} {Q : Option mw_V → mw_S → Prop} : mw_WP d 33 13 [l0, l1, l2, l3, l4] (jR 65 :: st) σ Q ↔ mw_WP d 33 16 [l0, l1, l2, l3, l4] (jR 66 :: st) σ Q := WP_getR (ci := 4) (k := 0) mq33 dd33_13 (by decide) rfl
theorem dd33_16 : decode cX5_latenessOfSmallest 16 = .ok (.iload_n 3, 1) := by decide +kernel
theorem ww33_16 {d : Nat} {l0 l1 l2 l4 : Option mw_V} {x : Int} {st : List mw_V} {σ : mw_S} {Q : Option mw_V → mw_S → Prop} : mw_WP d 33 16 [l0, l1, l2, some (jI x), l4] st σ Q ↔ mw_WP d 33 17 [l0, l1, l2, some (jI x), l4] (jI x :: st) σ Q := WP_iload_n mq33 dd33_16 rfl
theorem dd33_17 : decode cX5_latenessOfSmallest 17 = .ok (.iaload, 1) := by decide +kernel
theorem ww33_17 {d : Nat} {l0 l1 l2 l3 l4 : Option mw_V} {z : Int} {a : Nat} {st : List mw_V} {σ : mw_S} {Q : Option mw_V → mw_S → Prop} : mw_WP d 33 17 [l0, l1, l2, l3, l4] (jI z :: jR a :: st) σ Q ↔ ((0 ≤ z ∧ z < mw_lenI a) ∧ mw_WP d 33 18 [l0, l1, l2, l3, l4] (jI (mw_rdI σ a z.toNat) :: st) σ Q) := WP_iaload mq33 dd33_17
theorem dd33_18 : decode cX5_latenessOfSmallest 18 = .ok (.invokestatic 68, 3) := by decide +kernel
theorem ww33_18 {d : Nat} {l0 l1 l2 l3 l4 : Option mw_V} {v0 : mw_V} {st : List mw_V} {σ : mw_S} {Q : Option mw_V → mw_S → Prop} (h8 : (st.map mw_cat).sum ≤ 8) : mw_WP d 33 18 [l0, l1, l2, l3, l4] (v0 :: st) σ Q ↔ mw_Call d 279 [v0] σ (fun r1 s1 => mw_WP d 33 21 [l0, l1, l2, l3, l4] (r1.toList ++ st) s1 Q) := WP_invs (as := [v0]) mq33 dd33_18 (by decide) mq279 rfl rfl h8
theorem dd33_21 : decode cX5_latenessOfSmallest 21 = .ok (.istore 4, 2) := by decide +kernel
theorem ww33_21 {d : Nat} {l0 l1 l2 l3 l4 : Option mw_V} {x : Int} {st : List mw_V} {σ : mw_S} {Q : Option mw_V → mw_S → Prop} (h : mw_nlo l3 = true) : mw_WP d 33 21 [l0, l1, l2, l3, l4] (jI x :: st) σ Q ↔ mw_WP d 33 23 [l0, l1, l2, l3, some (jI x)] st σ Q := WP_istore mq33 dd33_21 (Nat.le_of_ble_eq_true rfl) (mw_nl_of (i := 3) rfl h) rfl
theorem dd33_23 : decode cX5_latenessOfSmallest 23 = .ok (.aload_n 0, 1) := by decide +kernel
theorem ww33_23 {d : Nat} {l1 l2 l3 l4 : Option mw_V} {x : Nat} {st : List mw_V} {σ : mw_S} {Q : Option mw_V → mw_S → Prop} : mw_WP d 33 23 [some (jR x), l1, l2, l3, l4] st σ Q ↔ mw_WP d 33 24 [some (jR x), l1, l2, l3, l4] (jR x :: st) σ Q := WP_aload_n mq33 dd33_23 rfl
theorem dd33_24 : decode cX5_latenessOfSmallest 24 = .ok (.getfield 18, 3) := by decide +kernel
theorem ww33_24 {d : Nat} {l0 l1 l2 l3 l4 : Option mw_V} {st : List mw_V} {σ : mw_S} {Q : Option mw_V → mw_S → Prop} : mw_WP d 33 24 [l0, l1, l2, l3, l4] (jR 65 :: st) σ Q ↔ mw_WP d 33 27 [l0, l1, l2, l3, l4] (jR 68 :: st) σ Q := WP_getR (ci := 4) (k := 4) mq33 dd33_24 (by decide) rfl
theorem dd33_27 : decode cX5_latenessOfSmallest 27 = .ok (.iload_n 3, 1) := by decide +kernel
theorem ww33_27 {d : Nat} {l0 l1 l2 l4 : Option mw_V} {x : Int} {st : List mw_V} {σ : mw_S} {Q : Option mw_V → mw_S → Prop} : mw_WP d 33 27 [l0, l1, l2, some (jI x), l4] st σ Q ↔ mw_WP d 33 28 [l0, l1, l2, some (jI x), l4] (jI x :: st) σ Q := WP_iload_n mq33 dd33_27 rfl
theorem dd33_28 : decode cX5_latenessOfSmallest 28 = .ok (.baload, 1) := by decide +kernel
theorem ww33_28 {d : Nat} {l0 l1 l2 l3 l4 : Option mw_V} {z : Int} {a : Nat} {st : List mw_V} {σ : mw_S} {Q : Option mw_V → mw_S → Prop} : mw_WP d 33 28 [l0, l1, l2, l3, l4] (jI z :: jR a :: st) σ Q ↔ ((0 ≤ z ∧ z < mw_lenB a) ∧ mw_WP d 33 29 [l0, l1, l2, l3, l4] (jI (mw_rdB σ a z.toNat) :: st) σ Q) := WP_baload mq33 dd33_28
theorem dd33_29 : decode cX5_latenessOfSmallest 29 = .ok (.ifCond .eq 14, 3) := by decide +kernel
theorem ww33_29 {d : Nat} {l0 l1 l2 l3 l4 : Option mw_V} {x : Int} {st : List mw_V} {σ : mw_S} {Q : Option mw_V → mw_S → Prop} : mw_WP d 33 29 [l0, l1, l2, l3, l4] (jI x :: st) σ Q ↔ (if x = 0 then mw_WP d 33 43 [l0, l1, l2, l3, l4] st σ Q else mw_WP d 33 32 [l0, l1, l2, l3, l4] st σ Q) := WP_if_eq mq33 dd33_29 (by decide)
theorem dd33_32 : decode cX5_latenessOfSmallest 32 = .ok (.iload 4, 2) := by decide +kernel
theorem ww33_32 {d : Nat} {l0 l1 l2 l3 : Option mw_V} {x : Int} {st : List mw_V} {σ : mw_S} {Q : Option mw_V → mw_S → Prop} : mw_WP d 33 32 [l0, l1, l2, l3, some (jI x)] st σ Q ↔ mw_WP d 33 34 [l0, l1, l2, l3, some (jI x)] (jI x :: st) σ Q := WP_iload mq33 dd33_32 rfl
theorem dd33_34 : decode cX5_latenessOfSmallest 34 = .ok (.iload_n 2, 1) := by decide +kernel
theorem ww33_34 {d : Nat} {l0 l1 l3 l4 : Option mw_V} {x : Int} {st : List mw_V} {σ : mw_S} {Q : Option mw_V → mw_S → Prop} : mw_WP d 33 34 [l0, l1, some (jI x), l3, l4] st σ Q ↔ mw_WP d 33 35 [l0, l1, some (jI x), l3, l4] (jI x :: st) σ Q := WP_iload_n mq33 dd33_34 rfl
theorem dd33_35 : decode cX5_latenessOfSmallest 35 = .ok (.if_icmp .ge 8, 3) := by decide +kernel
theorem ww33_35 {d : Nat} {l0 l1 l2 l3 l4 : Option mw_V} {x y : Int} {st : List mw_V} {σ : mw_S} {Q : Option mw_V → mw_S → Prop} : mw_WP d 33 35 [l0, l1, l2, l3, l4] (jI y :: jI x :: st) σ Q ↔ (if y ≤ x then mw_WP d 33 43 [l0, l1, l2, l3, l4] st σ Q else mw_WP d 33 38 [l0, l1, l2, l3, l4] st σ Q) := WP_icmp_ge mq33 dd33_35 (by decide)
theorem dd33_38 : decode cX5_latenessOfSmallest 38 = .ok (.iload_n 3, 1) := by decide +kernel
theorem ww33_38 {d : Nat} {l0 l1 l2 l4 : Option mw_V} {x : Int} {st : List mw_V} {σ : mw_S} {Q : Option mw_V → mw_S → Prop} : mw_WP d 33 38 [l0, l1, l2, some (jI x), l4] st σ Q ↔ mw_WP d 33 39 [l0, l1, l2, some (jI x), l4] (jI x :: st) σ Q := WP_iload_n mq33 dd33_38 rfl
theorem dd33_39 : decode cX5_latenessOfSmallest 39 = .ok (.istore_n 1, 1) := by decide +kernel
theorem ww33_39 {d : Nat} {l0 l1 l2 l3 l4 : Option mw_V} {x : Int} {st : List mw_V} {σ : mw_S} {Q : Option mw_V → mw_S → Prop} (h : mw_nlo l0 = true) : mw_WP d 33 39 [l0, l1, l2, l3, l4] (jI x :: st) σ Q ↔ mw_WP d 33 40 [l0, some (jI x), l2, l3, l4] st σ Q := WP_istore_n mq33 dd33_39 (Nat.le_of_ble_eq_true rfl) (mw_nl_of (i := 0) rfl h) rfl
theorem dd33_40 : decode cX5_latenessOfSmallest 40 = .ok (.iload 4, 2) := by decide +kernel
theorem ww33_40 {d : Nat} {l0 l1 l2 l3 : Option mw_V} {x : Int} {st : List mw_V} {σ : mw_S} {Q : Option mw_V → mw_S → Prop} : mw_WP d 33 40 [l0, l1, l2, l3, some (jI x)] st σ Q ↔ mw_WP d 33 42 [l0, l1, l2, l3, some (jI x)] (jI x :: st) σ Q := WP_iload mq33 dd33_40 rfl
theorem dd33_42 : decode cX5_latenessOfSmallest 42 = .ok (.istore_n 2, 1) := by decide +kernel
theorem ww33_42 {d : Nat} {l0 l1 l2 l3 l4 : Option mw_V} {x : Int} {st : List mw_V} {σ : mw_S} {Q : Option mw_V → mw_S → Prop} (h : mw_nlo l1 = true) : mw_WP d 33 42 [l0, l1, l2, l3, l4] (jI x :: st) σ Q ↔ mw_WP d 33 43 [l0, l1, some (jI x), l3, l4] st σ Q := WP_istore_n mq33 dd33_42 (Nat.le_of_ble_eq_true rfl) (mw_nl_of (i := 1) rfl h) rfl
theorem dd33_43 : decode cX5_latenessOfSmallest 43 = .ok (.iinc 3 1, 3) := by decide +kernel
theorem ww33_43 {d : Nat} {l0 l1 l2 l4 : Option mw_V} {x : Int} {st : List mw_V} {σ : mw_S} {Q : Option mw_V → mw_S → Prop} (h : mw_nlo l2 = true) : mw_WP d 33 43 [l0, l1, l2, some (jI x), l4] st σ Q ↔ mw_WP d 33 46 [l0, l1, l2, some (jI (w32 (x + (1)))), l4] st σ Q := WP_iinc mq33 dd33_43 rfl (Nat.le_of_ble_eq_true rfl) (mw_nl_of (i := 2) rfl h) rfl
theorem dd33_46 : decode cX5_latenessOfSmallest 46 = .ok (.goto (-39), 3) := by decide +kernel
theorem ww33_46 {d : Nat} {l0 l1 l2 l3 l4 : Option mw_V} {st : List mw_V} {σ : mw_S} {Q : Option mw_V → mw_S → Prop} : mw_WP d 33 46 [l0, l1, l2, l3, l4] st σ Q ↔ mw_WP d 33 7 [l0, l1, l2, l3, l4] st σ Q := WP_goto mq33 dd33_46 (by decide)
theorem dd33_49 : decode cX5_latenessOfSmallest 49 = .ok (.iload_n 1, 1) := by decide +kernel
theorem ww33_49 {d : Nat} {l0 l2 l3 l4 : Option mw_V} {x : Int} {st : List mw_V} {σ : mw_S} {Q : Option mw_V → mw_S → Prop} : mw_WP d 33 49 [l0, some (jI x), l2, l3, l4] st σ Q ↔ mw_WP d 33 50 [l0, some (jI x), l2, l3, l4] (jI x :: st) σ Q := WP_iload_n mq33 dd33_49 rfl
theorem dd33_50 : decode cX5_latenessOfSmallest 50 = .ok (.ireturn, 1) := by decide +kernel
theorem ww33_50 {d : Nat} {l0 l1 l2 l3 l4 : Option mw_V} {z : Int} {σ : mw_S} {Q : Option mw_V → mw_S → Prop} : mw_WP d 33 50 [l0, l1, l2, l3, l4] [jI z] σ Q ↔ Q (some (jI z)) σ := WP_ireturn (ty := .int) mq33 dd33_50 rfl rfl
theorem ee34 {d : Nat} {a : Nat} {σ : mw_S} {Q : Option mw_V → mw_S → Prop} : mw_Call (d + 1) 34 [jR a] σ Q ↔ mw_WP d 34 0 [some (jR a), none, none] [] σ Q := CL_u mq34 (Nat.le_of_ble_eq_true rfl) rfl
theorem dd34_0 : decode cX5_leftOutByAll 0 = .ok (.iconst (-1), 1) := by decide +kernel
theorem ww34_0 {d : Nat} {l0 l1 l2 : Option mw_V} {st : List mw_V} {σ : mw_S} {Q : Option mw_V → mw_S → Prop} : mw_WP d 34 0 [l0, l1, l2] st σ Q ↔ mw_WP d 34 1 [l0, l1, l2] (jI (-1) :: st) σ Q := WP_iconst mq34 dd34_0 (by decide)
theorem dd34_1 : decode cX5_leftOutByAll 1 = .ok (.istore_n 1, 1) := by decide +kernel
theorem ww34_1 {d : Nat} {l0 l1 l2 : Option mw_V} {x : Int} {st : List mw_V} {σ : mw_S} {Q : Option mw_V → mw_S → Prop} (h : mw_nlo l0 = true) : mw_WP d 34 1 [l0, l1, l2] (jI x :: st) σ Q ↔ mw_WP d 34 2 [l0, some (jI x), l2] st σ Q := WP_istore_n mq34 dd34_1 (Nat.le_of_ble_eq_true rfl) (mw_nl_of (i := 0) rfl h) rfl
theorem dd34_2 : decode cX5_leftOutByAll 2 = .ok (.iconst 0, 1) := by decide +kernel
theorem ww34_2 {d : Nat} {l0 l1 l2 : Option mw_V} {st : List mw_V} {σ : mw_S} {Q : Option mw_V → mw_S → Prop} : mw_WP d 34 2 [l0, l1, l2] st σ Q ↔ mw_WP d 34 3 [l0, l1, l2] (jI (0) :: st) σ Q := WP_iconst mq34 dd34_2 (by decide)
theorem dd34_3 : decode cX5_leftOutByAll 3 = .ok (.istore_n 2, 1) := by decide +kernel
theorem ww34_3 {d : Nat} {l0 l1 l2 : Option mw_V} {x : Int} {st : List mw_V} {σ : mw_S} {Q : Option mw_V → mw_S → Prop} (h : mw_nlo l1 = true) : mw_WP d 34 3 [l0, l1, l2] (jI x :: st) σ Q ↔ mw_WP d 34 4 [l0, l1, some (jI x)] st σ Q := WP_istore_n mq34 dd34_3 (Nat.le_of_ble_eq_true rfl) (mw_nl_of (i := 1) rfl h) rfl
theorem dd34_4 : decode cX5_leftOutByAll 4 = .ok (.iload_n 2, 1) := by decide +kernel
theorem ww34_4 {d : Nat} {l0 l1 : Option mw_V} {x : Int} {st : List mw_V} {σ : mw_S} {Q : Option mw_V → mw_S → Prop} : mw_WP d 34 4 [l0, l1, some (jI x)] st σ Q ↔ mw_WP d 34 5 [l0, l1, some (jI x)] (jI x :: st) σ Q := WP_iload_n mq34 dd34_4 rfl
theorem dd34_5 : decode cX5_leftOutByAll 5 = .ok (.iconst 5, 1) := by decide +kernel
theorem ww34_5 {d : Nat} {l0 l1 l2 : Option mw_V} {st : List mw_V} {σ : mw_S} {Q : Option mw_V → mw_S → Prop} : mw_WP d 34 5 [l0, l1, l2] st σ Q ↔ mw_WP d 34 6 [l0, l1, l2] (jI (5) :: st) σ Q := WP_iconst mq34 dd34_5 (by decide)
theorem dd34_6 : decode cX5_leftOutByAll 6 = .ok (.if_icmp .ge 27, 3) := by decide +kernel
theorem ww34_6 {d : Nat} {l0 l1 l2 : Option mw_V} {x y : Int} {st : List mw_V} {σ : mw_S} {Q : Option mw_V → mw_S → Prop} : mw_WP d 34 6 [l0, l1, l2] (jI y :: jI x :: st) σ Q ↔ (if y ≤ x then mw_WP d 34 33 [l0, l1, l2] st σ Q else mw_WP d 34 9 [l0, l1, l2] st σ Q) := WP_icmp_ge mq34 dd34_6 (by decide)
theorem dd34_9 : decode cX5_leftOutByAll 9 = .ok (.aload_n 0, 1) := by decide +kernel
theorem ww34_9 {d : Nat} {l1 l2 : Option mw_V} {x : Nat} {st : List mw_V} {σ : mw_S} {Q : Option mw_V → mw_S → Prop} : mw_WP d 34 9 [some (jR x), l1, l2] st σ Q ↔ mw_WP d 34 10 [some (jR x), l1, l2] (jR x :: st) σ Q := WP_aload_n mq34 dd34_9 rfl
theorem dd34_10 : decode cX5_leftOutByAll 10 = .ok (.getfield 18, 3) := by decide +kernel
theorem ww34_10 {d : Nat} {l0 l1 l2 : Option mw_V} {st : List mw_V} {σ : mw_S} {Q : Option mw_V → mw_S → Prop} : mw_WP d 34 10 [l0, l1, l2] (jR 65 :: st) σ Q ↔ mw_WP d 34 13 [l0, l1, l2] (jR 68 :: st) σ Q := WP_getR (ci := 4) (k := 4) mq34 dd34_10 (by decide) rfl
theorem dd34_13 : decode cX5_leftOutByAll 13 = .ok (.iload_n 2, 1) := by decide +kernel
theorem ww34_13 {d : Nat} {l0 l1 : Option mw_V} {x : Int} {st : List mw_V} {σ : mw_S} {Q : Option mw_V → mw_S → Prop} : mw_WP d 34 13 [l0, l1, some (jI x)] st σ Q ↔ mw_WP d 34 14 [l0, l1, some (jI x)] (jI x :: st) σ Q := WP_iload_n mq34 dd34_13 rfl
theorem dd34_14 : decode cX5_leftOutByAll 14 = .ok (.baload, 1) := by decide +kernel
theorem ww34_14 {d : Nat} {l0 l1 l2 : Option mw_V} {z : Int} {a : Nat} {st : List mw_V} {σ : mw_S} {Q : Option mw_V → mw_S → Prop} : mw_WP d 34 14 [l0, l1, l2] (jI z :: jR a :: st) σ Q ↔ ((0 ≤ z ∧ z < mw_lenB a) ∧ mw_WP d 34 15 [l0, l1, l2] (jI (mw_rdB σ a z.toNat) :: st) σ Q) := WP_baload mq34 dd34_14
theorem dd34_15 : decode cX5_leftOutByAll 15 = .ok (.ifCond .eq 12, 3) := by decide +kernel
theorem ww34_15 {d : Nat} {l0 l1 l2 : Option mw_V} {x : Int} {st : List mw_V} {σ : mw_S} {Q : Option mw_V → mw_S → Prop} : mw_WP d 34 15 [l0, l1, l2] (jI x :: st) σ Q ↔ (if x = 0 then mw_WP d 34 27 [l0, l1, l2] st σ Q else mw_WP d 34 18 [l0, l1, l2] st σ Q) := WP_if_eq mq34 dd34_15 (by decide)
theorem dd34_18 : decode cX5_leftOutByAll 18 = .ok (.iload_n 1, 1) := by decide +kernel
theorem ww34_18 {d : Nat} {l0 l2 : Option mw_V} {x : Int} {st : List mw_V} {σ : mw_S} {Q : Option mw_V → mw_S → Prop} : mw_WP d 34 18 [l0, some (jI x), l2] st σ Q ↔ mw_WP d 34 19 [l0, some (jI x), l2] (jI x :: st) σ Q := WP_iload_n mq34 dd34_18 rfl
theorem dd34_19 : decode cX5_leftOutByAll 19 = .ok (.aload_n 0, 1) := by decide +kernel
theorem ww34_19 {d : Nat} {l1 l2 : Option mw_V} {x : Nat} {st : List mw_V} {σ : mw_S} {Q : Option mw_V → mw_S → Prop} : mw_WP d 34 19 [some (jR x), l1, l2] st σ Q ↔ mw_WP d 34 20 [some (jR x), l1, l2] (jR x :: st) σ Q := WP_aload_n mq34 dd34_19 rfl
theorem dd34_20 : decode cX5_leftOutByAll 20 = .ok (.getfield 11, 3) := by decide +kernel
theorem ww34_20 {d : Nat} {l0 l1 l2 : Option mw_V} {st : List mw_V} {σ : mw_S} {Q : Option mw_V → mw_S → Prop} : mw_WP d 34 20 [l0, l1, l2] (jR 65 :: st) σ Q ↔ mw_WP d 34 23 [l0, l1, l2] (jR 66 :: st) σ Q := WP_getR (ci := 4) (k := 0) mq34 dd34_20 (by decide) rfl
theorem dd34_23 : decode cX5_leftOutByAll 23 = .ok (.iload_n 2, 1) := by decide +kernel
theorem ww34_23 {d : Nat} {l0 l1 : Option mw_V} {x : Int} {st : List mw_V} {σ : mw_S} {Q : Option mw_V → mw_S → Prop} : mw_WP d 34 23 [l0, l1, some (jI x)] st σ Q ↔ mw_WP d 34 24 [l0, l1, some (jI x)] (jI x :: st) σ Q := WP_iload_n mq34 dd34_23 rfl
theorem dd34_24 : decode cX5_leftOutByAll 24 = .ok (.iaload, 1) := by decide +kernel
theorem ww34_24 {d : Nat} {l0 l1 l2 : Option mw_V} {z : Int} {a : Nat} {st : List mw_V} {σ : mw_S} {Q : Option mw_V → mw_S → Prop} : mw_WP d 34 24 [l0, l1, l2] (jI z :: jR a :: st) σ Q ↔ ((0 ≤ z ∧ z < mw_lenI a) ∧ mw_WP d 34 25 [l0, l1, l2] (jI (mw_rdI σ a z.toNat) :: st) σ Q) := WP_iaload mq34 dd34_24
theorem dd34_25 : decode cX5_leftOutByAll 25 = .ok (.iand, 1) := by decide +kernel
theorem ww34_25 {d : Nat} {l0 l1 l2 : Option mw_V} {x y : Int} {st : List mw_V} {σ : mw_S} {Q : Option mw_V → mw_S → Prop} : mw_WP d 34 25 [l0, l1, l2] (jI y :: jI x :: st) σ Q ↔ mw_WP d 34 26 [l0, l1, l2] (jI (zAnd x y) :: st) σ Q := WP_iand mq34 dd34_25
theorem dd34_26 : decode cX5_leftOutByAll 26 = .ok (.istore_n 1, 1) := by decide +kernel
theorem ww34_26 {d : Nat} {l0 l1 l2 : Option mw_V} {x : Int} {st : List mw_V} {σ : mw_S} {Q : Option mw_V → mw_S → Prop} (h : mw_nlo l0 = true) : mw_WP d 34 26 [l0, l1, l2] (jI x :: st) σ Q ↔ mw_WP d 34 27 [l0, some (jI x), l2] st σ Q := WP_istore_n mq34 dd34_26 (Nat.le_of_ble_eq_true rfl) (mw_nl_of (i := 0) rfl h) rfl
theorem dd34_27 : decode cX5_leftOutByAll 27 = .ok (.iinc 2 1, 3) := by decide +kernel
theorem ww34_27 {d : Nat} {l0 l1 : Option mw_V} {x : Int} {st : List mw_V} {σ : mw_S} {Q : Option mw_V → mw_S → Prop} (h : mw_nlo l1 = true) : mw_WP d 34 27 [l0, l1, some (jI x)] st σ Q ↔ mw_WP d 34 30 [l0, l1, some (jI (w32 (x + (1))))] st σ Q := WP_iinc mq34 dd34_27 rfl (Nat.le_of_ble_eq_true rfl) (mw_nl_of (i := 1) rfl h) rfl
theorem dd34_30 : decode cX5_leftOutByAll 30 = .ok (.goto (-26), 3) := by decide +kernel
theorem ww34_30 {d : Nat} {l0 l1 l2 : Option mw_V} {st : List mw_V} {σ : mw_S} {Q : Option mw_V → mw_S → Prop} : mw_WP d 34 30 [l0, l1, l2] st σ Q ↔ mw_WP d 34 4 [l0, l1, l2] st σ Q := WP_goto mq34 dd34_30 (by decide)
theorem dd34_33 : decode cX5_leftOutByAll 33 = .ok (.iload_n 1, 1) := by decide +kernel
theorem ww34_33 {d : Nat} {l0 l2 : Option mw_V} {x : Int} {st : List mw_V} {σ : mw_S} {Q : Option mw_V → mw_S → Prop} : mw_WP d 34 33 [l0, some (jI x), l2] st σ Q ↔ mw_WP d 34 34 [l0, some (jI x), l2] (jI x :: st) σ Q := WP_iload_n mq34 dd34_33 rfl
theorem dd34_34 : decode cX5_leftOutByAll 34 = .ok (.ireturn, 1) := by decide +kernel
theorem ww34_34 {d : Nat} {l0 l1 l2 : Option mw_V} {z : Int} {σ : mw_S} {Q : Option mw_V → mw_S → Prop} : mw_WP d 34 34 [l0, l1, l2] [jI z] σ Q ↔ Q (some (jI z)) σ := WP_ireturn (ty := .int) mq34 dd34_34 rfl rfl
theorem ee35 {d : Nat} {a : Nat} {σ : mw_S} {Q : Option mw_V → mw_S → Prop} : mw_Call (d + 1) 35 [jR a] σ Q ↔ mw_WP d 35 0 [some (jR a), none, none] [] σ Q := CL_u mq35 (Nat.le_of_ble_eq_true rfl) rfl
theorem dd35_0 : decode cX5_chooseTelling 0 = .ok (.aload_n 0, 1) := by decide +kernel
theorem ww35_0 {d : Nat} {l1 l2 : Option mw_V} {x : Nat} {st : List mw_V} {σ : mw_S} {Q : Option mw_V → mw_S → Prop} : mw_WP d 35 0 [some (jR x), l1, l2] st σ Q ↔ mw_WP d 35 1 [some (jR x), l1, l2] (jR x :: st) σ Q := WP_aload_n mq35 dd35_0 rfl
theorem dd35_1 : decode cX5_chooseTelling 1 = .ok (.iconst (-1), 1) := by decide +kernel
theorem ww35_1 {d : Nat} {l0 l1 l2 : Option mw_V} {st : List mw_V} {σ : mw_S} {Q : Option mw_V → mw_S → Prop} : mw_WP d 35 1 [l0, l1, l2] st σ Q ↔ mw_WP d 35 2 [l0, l1, l2] (jI (-1) :: st) σ Q := WP_iconst mq35 dd35_1 (by decide)
theorem dd35_2 : decode cX5_chooseTelling 2 = .ok (.putfield 76, 3) := by decide +kernel
theorem ww35_2 {d : Nat} {l0 l1 l2 : Option mw_V} {v : Int} {st : List mw_V} {σ : mw_S} {Q : Option mw_V → mw_S → Prop} : mw_WP d 35 2 [l0, l1, l2] (jI v :: jR 65 :: st) σ Q ↔ mw_WP d 35 5 [l0, l1, l2] st (upS σ 65 1 v) Q := WP_putI (ci := 4) (k := 1) mq35 dd35_2 (by decide) rfl
theorem dd35_5 : decode cX5_chooseTelling 5 = .ok (.aload_n 0, 1) := by decide +kernel
theorem ww35_5 {d : Nat} {l1 l2 : Option mw_V} {x : Nat} {st : List mw_V} {σ : mw_S} {Q : Option mw_V → mw_S → Prop} : mw_WP d 35 5 [some (jR x), l1, l2] st σ Q ↔ mw_WP d 35 6 [some (jR x), l1, l2] (jR x :: st) σ Q := WP_aload_n mq35 dd35_5 rfl
theorem dd35_6 : decode cX5_chooseTelling 6 = .ok (.iconst (-1), 1) := by decide +kernel
theorem ww35_6 {d : Nat} {l0 l1 l2 : Option mw_V} {st : List mw_V} {σ : mw_S} {Q : Option mw_V → mw_S → Prop} : mw_WP d 35 6 [l0, l1, l2] st σ Q ↔ mw_WP d 35 7 [l0, l1, l2] (jI (-1) :: st) σ Q := WP_iconst mq35 dd35_6 (by decide)
theorem dd35_7 : decode cX5_chooseTelling 7 = .ok (.putfield 79, 3) := by decide +kernel
theorem ww35_7 {d : Nat} {l0 l1 l2 : Option mw_V} {v : Int} {st : List mw_V} {σ : mw_S} {Q : Option mw_V → mw_S → Prop} : mw_WP d 35 7 [l0, l1, l2] (jI v :: jR 65 :: st) σ Q ↔ mw_WP d 35 10 [l0, l1, l2] st (upS σ 65 2 v) Q := WP_putI (ci := 4) (k := 2) mq35 dd35_7 (by decide) rfl
theorem dd35_10 : decode cX5_chooseTelling 10 = .ok (.iconst 0, 1) := by decide +kernel
theorem ww35_10 {d : Nat} {l0 l1 l2 : Option mw_V} {st : List mw_V} {σ : mw_S} {Q : Option mw_V → mw_S → Prop} : mw_WP d 35 10 [l0, l1, l2] st σ Q ↔ mw_WP d 35 11 [l0, l1, l2] (jI (0) :: st) σ Q := WP_iconst mq35 dd35_10 (by decide)
theorem dd35_11 : decode cX5_chooseTelling 11 = .ok (.istore_n 1, 1) := by decide +kernel
theorem ww35_11 {d : Nat} {l0 l1 l2 : Option mw_V} {x : Int} {st : List mw_V} {σ : mw_S} {Q : Option mw_V → mw_S → Prop} (h : mw_nlo l0 = true) : mw_WP d 35 11 [l0, l1, l2] (jI x :: st) σ Q ↔ mw_WP d 35 12 [l0, some (jI x), l2] st σ Q := WP_istore_n mq35 dd35_11 (Nat.le_of_ble_eq_true rfl) (mw_nl_of (i := 0) rfl h) rfl
theorem dd35_12 : decode cX5_chooseTelling 12 = .ok (.iload_n 1, 1) := by decide +kernel
theorem ww35_12 {d : Nat} {l0 l2 : Option mw_V} {x : Int} {st : List mw_V} {σ : mw_S} {Q : Option mw_V → mw_S → Prop} : mw_WP d 35 12 [l0, some (jI x), l2] st σ Q ↔ mw_WP d 35 13 [l0, some (jI x), l2] (jI x :: st) σ Q := WP_iload_n mq35 dd35_12 rfl
theorem dd35_13 : decode cX5_chooseTelling 13 = .ok (.bipush 9, 2) := by decide +kernel
theorem ww35_13 {d : Nat} {l0 l1 l2 : Option mw_V} {st : List mw_V} {σ : mw_S} {Q : Option mw_V → mw_S → Prop} : mw_WP d 35 13 [l0, l1, l2] st σ Q ↔ mw_WP d 35 15 [l0, l1, l2] (jI (9) :: st) σ Q := WP_bipush mq35 dd35_13 (by decide)
theorem dd35_15 : decode cX5_chooseTelling 15 = .ok (.if_icmp .ge 41, 3) := by decide +kernel
theorem ww35_15 {d : Nat} {l0 l1 l2 : Option mw_V} {x y : Int} {st : List mw_V} {σ : mw_S} {Q : Option mw_V → mw_S → Prop} : mw_WP d 35 15 [l0, l1, l2] (jI y :: jI x :: st) σ Q ↔ (if y ≤ x then mw_WP d 35 56 [l0, l1, l2] st σ Q else mw_WP d 35 18 [l0, l1, l2] st σ Q) := WP_icmp_ge mq35 dd35_15 (by decide)
theorem dd35_18 : decode cX5_chooseTelling 18 = .ok (.aload_n 0, 1) := by decide +kernel
theorem ww35_18 {d : Nat} {l1 l2 : Option mw_V} {x : Nat} {st : List mw_V} {σ : mw_S} {Q : Option mw_V → mw_S → Prop} : mw_WP d 35 18 [some (jR x), l1, l2] st σ Q ↔ mw_WP d 35 19 [some (jR x), l1, l2] (jR x :: st) σ Q := WP_aload_n mq35 dd35_18 rfl
theorem dd35_19 : decode cX5_chooseTelling 19 = .ok (.iload_n 1, 1) := by decide +kernel
theorem ww35_19 {d : Nat} {l0 l2 : Option mw_V} {x : Int} {st : List mw_V} {σ : mw_S} {Q : Option mw_V → mw_S → Prop} : mw_WP d 35 19 [l0, some (jI x), l2] st σ Q ↔ mw_WP d 35 20 [l0, some (jI x), l2] (jI x :: st) σ Q := WP_iload_n mq35 dd35_19 rfl
theorem dd35_20 : decode cX5_chooseTelling 20 = .ok (.invokevirtual 82, 3) := by decide +kernel
theorem ww35_20 {d : Nat} {l0 l1 l2 : Option mw_V} {v0 : mw_V} {a : Nat} {st : List mw_V} {σ : mw_S} {Q : Option mw_V → mw_S → Prop} (hr : mw_rc a = 5) (h8 : (st.map mw_cat).sum ≤ 8) : mw_WP d 35 20 [l0, l1, l2] (v0 :: jR a :: st) σ Q ↔ mw_Call d 36 [jR a, v0] σ (fun r1 s1 => mw_WP d 35 23 [l0, l1, l2] (r1.toList ++ st) s1 Q) := WP_inv (as := [v0]) mq35 dd35_20 (by decide) mq36 rfl hr h8
theorem dd35_23 : decode cX5_chooseTelling 23 = .ok (.istore_n 2, 1) := by decide +kernel
theorem ww35_23 {d : Nat} {l0 l1 l2 : Option mw_V} {x : Int} {st : List mw_V} {σ : mw_S} {Q : Option mw_V → mw_S → Prop} (h : mw_nlo l1 = true) : mw_WP d 35 23 [l0, l1, l2] (jI x :: st) σ Q ↔ mw_WP d 35 24 [l0, l1, some (jI x)] st σ Q := WP_istore_n mq35 dd35_23 (Nat.le_of_ble_eq_true rfl) (mw_nl_of (i := 1) rfl h) rfl
theorem dd35_24 : decode cX5_chooseTelling 24 = .ok (.aload_n 0, 1) := by decide +kernel
theorem ww35_24 {d : Nat} {l1 l2 : Option mw_V} {x : Nat} {st : List mw_V} {σ : mw_S} {Q : Option mw_V → mw_S → Prop} : mw_WP d 35 24 [some (jR x), l1, l2] st σ Q ↔ mw_WP d 35 25 [some (jR x), l1, l2] (jR x :: st) σ Q := WP_aload_n mq35 dd35_24 rfl
theorem dd35_25 : decode cX5_chooseTelling 25 = .ok (.getfield 76, 3) := by decide +kernel
theorem ww35_25 {d : Nat} {l0 l1 l2 : Option mw_V} {st : List mw_V} {σ : mw_S} {Q : Option mw_V → mw_S → Prop} : mw_WP d 35 25 [l0, l1, l2] (jR 65 :: st) σ Q ↔ mw_WP d 35 28 [l0, l1, l2] (jI (σ 65 1) :: st) σ Q := WP_getI (ci := 4) (k := 1) mq35 dd35_25 (by decide) (Or.inl rfl)
theorem dd35_28 : decode cX5_chooseTelling 28 = .ok (.iconst (-1), 1) := by decide +kernel
theorem ww35_28 {d : Nat} {l0 l1 l2 : Option mw_V} {st : List mw_V} {σ : mw_S} {Q : Option mw_V → mw_S → Prop} : mw_WP d 35 28 [l0, l1, l2] st σ Q ↔ mw_WP d 35 29 [l0, l1, l2] (jI (-1) :: st) σ Q := WP_iconst mq35 dd35_28 (by decide)
theorem dd35_29 : decode cX5_chooseTelling 29 = .ok (.if_icmp .eq 11, 3) := by decide +kernel
theorem ww35_29 {d : Nat} {l0 l1 l2 : Option mw_V} {x y : Int} {st : List mw_V} {σ : mw_S} {Q : Option mw_V → mw_S → Prop} : mw_WP d 35 29 [l0, l1, l2] (jI y :: jI x :: st) σ Q ↔ (if x = y then mw_WP d 35 40 [l0, l1, l2] st σ Q else mw_WP d 35 32 [l0, l1, l2] st σ Q) := WP_icmp_eq mq35 dd35_29 (by decide)
theorem dd35_32 : decode cX5_chooseTelling 32 = .ok (.iload_n 2, 1) := by decide +kernel
theorem ww35_32 {d : Nat} {l0 l1 : Option mw_V} {x : Int} {st : List mw_V} {σ : mw_S} {Q : Option mw_V → mw_S → Prop} : mw_WP d 35 32 [l0, l1, some (jI x)] st σ Q ↔ mw_WP d 35 33 [l0, l1, some (jI x)] (jI x :: st) σ Q := WP_iload_n mq35 dd35_32 rfl
theorem dd35_33 : decode cX5_chooseTelling 33 = .ok (.aload_n 0, 1) := by decide +kernel
theorem ww35_33 {d : Nat} {l1 l2 : Option mw_V} {x : Nat} {st : List mw_V} {σ : mw_S} {Q : Option mw_V → mw_S → Prop} : mw_WP d 35 33 [some (jR x), l1, l2] st σ Q ↔ mw_WP d 35 34 [some (jR x), l1, l2] (jR x :: st) σ Q := WP_aload_n mq35 dd35_33 rfl
theorem dd35_34 : decode cX5_chooseTelling 34 = .ok (.getfield 79, 3) := by decide +kernel
theorem ww35_34 {d : Nat} {l0 l1 l2 : Option mw_V} {st : List mw_V} {σ : mw_S} {Q : Option mw_V → mw_S → Prop} : mw_WP d 35 34 [l0, l1, l2] (jR 65 :: st) σ Q ↔ mw_WP d 35 37 [l0, l1, l2] (jI (σ 65 2) :: st) σ Q := WP_getI (ci := 4) (k := 2) mq35 dd35_34 (by decide) (Or.inl rfl)
theorem dd35_37 : decode cX5_chooseTelling 37 = .ok (.if_icmp .ge 13, 3) := by decide +kernel
theorem ww35_37 {d : Nat} {l0 l1 l2 : Option mw_V} {x y : Int} {st : List mw_V} {σ : mw_S} {Q : Option mw_V → mw_S → Prop} : mw_WP d 35 37 [l0, l1, l2] (jI y :: jI x :: st) σ Q ↔ (if y ≤ x then mw_WP d 35 50 [l0, l1, l2] st σ Q else mw_WP d 35 40 [l0, l1, l2] st σ Q) := WP_icmp_ge mq35 dd35_37 (by decide)
theorem dd35_40 : decode cX5_chooseTelling 40 = .ok (.aload_n 0, 1) := by decide +kernel
theorem ww35_40 {d : Nat} {l1 l2 : Option mw_V} {x : Nat} {st : List mw_V} {σ : mw_S} {Q : Option mw_V → mw_S → Prop} : mw_WP d 35 40 [some (jR x), l1, l2] st σ Q ↔ mw_WP d 35 41 [some (jR x), l1, l2] (jR x :: st) σ Q := WP_aload_n mq35 dd35_40 rfl
theorem dd35_41 : decode cX5_chooseTelling 41 = .ok (.iload_n 1, 1) := by decide +kernel
theorem ww35_41 {d : Nat} {l0 l2 : Option mw_V} {x : Int} {st : List mw_V} {σ : mw_S} {Q : Option mw_V → mw_S → Prop} : mw_WP d 35 41 [l0, some (jI x), l2] st σ Q ↔ mw_WP d 35 42 [l0, some (jI x), l2] (jI x :: st) σ Q := WP_iload_n mq35 dd35_41 rfl
theorem dd35_42 : decode cX5_chooseTelling 42 = .ok (.putfield 76, 3) := by decide +kernel
theorem ww35_42 {d : Nat} {l0 l1 l2 : Option mw_V} {v : Int} {st : List mw_V} {σ : mw_S} {Q : Option mw_V → mw_S → Prop} : mw_WP d 35 42 [l0, l1, l2] (jI v :: jR 65 :: st) σ Q ↔ mw_WP d 35 45 [l0, l1, l2] st (upS σ 65 1 v) Q := WP_putI (ci := 4) (k := 1) mq35 dd35_42 (by decide) rfl
theorem dd35_45 : decode cX5_chooseTelling 45 = .ok (.aload_n 0, 1) := by decide +kernel
theorem ww35_45 {d : Nat} {l1 l2 : Option mw_V} {x : Nat} {st : List mw_V} {σ : mw_S} {Q : Option mw_V → mw_S → Prop} : mw_WP d 35 45 [some (jR x), l1, l2] st σ Q ↔ mw_WP d 35 46 [some (jR x), l1, l2] (jR x :: st) σ Q := WP_aload_n mq35 dd35_45 rfl
theorem dd35_46 : decode cX5_chooseTelling 46 = .ok (.iload_n 2, 1) := by decide +kernel
theorem ww35_46 {d : Nat} {l0 l1 : Option mw_V} {x : Int} {st : List mw_V} {σ : mw_S} {Q : Option mw_V → mw_S → Prop} : mw_WP d 35 46 [l0, l1, some (jI x)] st σ Q ↔ mw_WP d 35 47 [l0, l1, some (jI x)] (jI x :: st) σ Q := WP_iload_n mq35 dd35_46 rfl
theorem dd35_47 : decode cX5_chooseTelling 47 = .ok (.putfield 79, 3) := by decide +kernel
theorem ww35_47 {d : Nat} {l0 l1 l2 : Option mw_V} {v : Int} {st : List mw_V} {σ : mw_S} {Q : Option mw_V → mw_S → Prop} : mw_WP d 35 47 [l0, l1, l2] (jI v :: jR 65 :: st) σ Q ↔ mw_WP d 35 50 [l0, l1, l2] st (upS σ 65 2 v) Q := WP_putI (ci := 4) (k := 2) mq35 dd35_47 (by decide) rfl
theorem dd35_50 : decode cX5_chooseTelling 50 = .ok (.iinc 1 1, 3) := by decide +kernel
theorem ww35_50 {d : Nat} {l0 l2 : Option mw_V} {x : Int} {st : List mw_V} {σ : mw_S} {Q : Option mw_V → mw_S → Prop} (h : mw_nlo l0 = true) : mw_WP d 35 50 [l0, some (jI x), l2] st σ Q ↔ mw_WP d 35 53 [l0, some (jI (w32 (x + (1)))), l2] st σ Q := WP_iinc mq35 dd35_50 rfl (Nat.le_of_ble_eq_true rfl) (mw_nl_of (i := 0) rfl h) rfl
theorem dd35_53 : decode cX5_chooseTelling 53 = .ok (.goto (-41), 3) := by decide +kernel
theorem ww35_53 {d : Nat} {l0 l1 l2 : Option mw_V} {st : List mw_V} {σ : mw_S} {Q : Option mw_V → mw_S → Prop} : mw_WP d 35 53 [l0, l1, l2] st σ Q ↔ mw_WP d 35 12 [l0, l1, l2] st σ Q := WP_goto mq35 dd35_53 (by decide)
theorem dd35_56 : decode cX5_chooseTelling 56 = .ok (.return_, 1) := by decide +kernel
theorem ww35_56 {d : Nat} {l0 l1 l2 : Option mw_V} {σ : mw_S} {Q : Option mw_V → mw_S → Prop} : mw_WP d 35 56 [l0, l1, l2] [] σ Q ↔ Q none σ := WP_return mq35 dd35_56 rfl
theorem ee36 {d : Nat} {a : Nat} {z0 : Int} {σ : mw_S} {Q : Option mw_V → mw_S → Prop} : mw_Call (d + 1) 36 [jR a, jI z0] σ Q ↔ mw_WP d 36 0 [some (jR a), some (jI z0), none, none] [] σ Q := CL_u mq36 (Nat.le_of_ble_eq_true rfl) rfl
theorem dd36_0 : decode cX5_mostLeftTogether 0 = .ok (.iconst 0, 1) := by decide +kernel
theorem ww36_0 {d : Nat} {l0 l1 l2 l3 : Option mw_V} {st : List mw_V} {σ : mw_S} {Q : Option mw_V → mw_S → Prop} : mw_WP d 36 0 [l0, l1, l2, l3] st σ Q ↔ mw_WP d 36 1 [l0, l1, l2, l3] (jI (0) :: st) σ Q := WP_iconst mq36 dd36_0 (by decide)
theorem dd36_1 : decode cX5_mostLeftTogether 1 = .ok (.istore_n 2, 1) := by decide +kernel
theorem ww36_1 {d : Nat} {l0 l1 l2 l3 : Option mw_V} {x : Int} {st : List mw_V} {σ : mw_S} {Q : Option mw_V → mw_S → Prop} (h : mw_nlo l1 = true) : mw_WP d 36 1 [l0, l1, l2, l3] (jI x :: st) σ Q ↔ mw_WP d 36 2 [l0, l1, some (jI x), l3] st σ Q := WP_istore_n mq36 dd36_1 (Nat.le_of_ble_eq_true rfl) (mw_nl_of (i := 1) rfl h) rfl
theorem dd36_2 : decode cX5_mostLeftTogether 2 = .ok (.iload_n 2, 1) := by decide +kernel
theorem ww36_2 {d : Nat} {l0 l1 l3 : Option mw_V} {x : Int} {st : List mw_V} {σ : mw_S} {Q : Option mw_V → mw_S → Prop} : mw_WP d 36 2 [l0, l1, some (jI x), l3] st σ Q ↔ mw_WP d 36 3 [l0, l1, some (jI x), l3] (jI x :: st) σ Q := WP_iload_n mq36 dd36_2 rfl
theorem dd36_3 : decode cX5_mostLeftTogether 3 = .ok (.iconst 5, 1) := by decide +kernel
theorem ww36_3 {d : Nat} {l0 l1 l2 l3 : Option mw_V} {st : List mw_V} {σ : mw_S} {Q : Option mw_V → mw_S → Prop} : mw_WP d 36 3 [l0, l1, l2, l3] st σ Q ↔ mw_WP d 36 4 [l0, l1, l2, l3] (jI (5) :: st) σ Q := WP_iconst mq36 dd36_3 (by decide)
theorem dd36_4 : decode cX5_mostLeftTogether 4 = .ok (.if_icmp .ge 29, 3) := by decide +kernel
theorem ww36_4 {d : Nat} {l0 l1 l2 l3 : Option mw_V} {x y : Int} {st : List mw_V} {σ : mw_S} {Q : Option mw_V → mw_S → Prop} : mw_WP d 36 4 [l0, l1, l2, l3] (jI y :: jI x :: st) σ Q ↔ (if y ≤ x then mw_WP d 36 33 [l0, l1, l2, l3] st σ Q else mw_WP d 36 7 [l0, l1, l2, l3] st σ Q) := WP_icmp_ge mq36 dd36_4 (by decide)
theorem dd36_7 : decode cX5_mostLeftTogether 7 = .ok (.aload_n 0, 1) := by decide +kernel
theorem ww36_7 {d : Nat} {l1 l2 l3 : Option mw_V} {x : Nat} {st : List mw_V} {σ : mw_S} {Q : Option mw_V → mw_S → Prop} : mw_WP d 36 7 [some (jR x), l1, l2, l3] st σ Q ↔ mw_WP d 36 8 [some (jR x), l1, l2, l3] (jR x :: st) σ Q := WP_aload_n mq36 dd36_7 rfl
theorem dd36_8 : decode cX5_mostLeftTogether 8 = .ok (.getfield 22, 3) := by decide +kernel
theorem ww36_8 {d : Nat} {l0 l1 l2 l3 : Option mw_V} {st : List mw_V} {σ : mw_S} {Q : Option mw_V → mw_S → Prop} : mw_WP d 36 8 [l0, l1, l2, l3] (jR 65 :: st) σ Q ↔ mw_WP d 36 11 [l0, l1, l2, l3] (jR 69 :: st) σ Q := WP_getR (ci := 4) (k := 5) mq36 dd36_8 (by decide) rfl
theorem dd36_11 : decode cX5_mostLeftTogether 11 = .ok (.aload_n 0, 1) := by decide +kernel
theorem ww36_11 {d : Nat} {l1 l2 l3 : Option mw_V} {x : Nat} {st : List mw_V} {σ : mw_S} {Q : Option mw_V → mw_S → Prop} : mw_WP d 36 11 [some (jR x), l1, l2, l3] st σ Q ↔ mw_WP d 36 12 [some (jR x), l1, l2, l3] (jR x :: st) σ Q := WP_aload_n mq36 dd36_11 rfl
theorem dd36_12 : decode cX5_mostLeftTogether 12 = .ok (.getfield 49, 3) := by decide +kernel
theorem ww36_12 {d : Nat} {l0 l1 l2 l3 : Option mw_V} {st : List mw_V} {σ : mw_S} {Q : Option mw_V → mw_S → Prop} : mw_WP d 36 12 [l0, l1, l2, l3] (jR 65 :: st) σ Q ↔ mw_WP d 36 15 [l0, l1, l2, l3] (jI (σ 65 10) :: st) σ Q := WP_getI (ci := 4) (k := 10) mq36 dd36_12 (by decide) (Or.inl rfl)
theorem dd36_15 : decode cX5_mostLeftTogether 15 = .ok (.iload_n 2, 1) := by decide +kernel
theorem ww36_15 {d : Nat} {l0 l1 l3 : Option mw_V} {x : Int} {st : List mw_V} {σ : mw_S} {Q : Option mw_V → mw_S → Prop} : mw_WP d 36 15 [l0, l1, some (jI x), l3] st σ Q ↔ mw_WP d 36 16 [l0, l1, some (jI x), l3] (jI x :: st) σ Q := WP_iload_n mq36 dd36_15 rfl
theorem dd36_16 : decode cX5_mostLeftTogether 16 = .ok (.iadd, 1) := by decide +kernel
theorem ww36_16 {d : Nat} {l0 l1 l2 l3 : Option mw_V} {x y : Int} {st : List mw_V} {σ : mw_S} {Q : Option mw_V → mw_S → Prop} : mw_WP d 36 16 [l0, l1, l2, l3] (jI y :: jI x :: st) σ Q ↔ mw_WP d 36 17 [l0, l1, l2, l3] (jI (w32 (x + y)) :: st) σ Q := WP_iadd mq36 dd36_16
theorem dd36_17 : decode cX5_mostLeftTogether 17 = .ok (.iload_n 2, 1) := by decide +kernel
theorem ww36_17 {d : Nat} {l0 l1 l3 : Option mw_V} {x : Int} {st : List mw_V} {σ : mw_S} {Q : Option mw_V → mw_S → Prop} : mw_WP d 36 17 [l0, l1, some (jI x), l3] st σ Q ↔ mw_WP d 36 18 [l0, l1, some (jI x), l3] (jI x :: st) σ Q := WP_iload_n mq36 dd36_17 rfl
theorem dd36_18 : decode cX5_mostLeftTogether 18 = .ok (.ifCond .ne 7, 3) := by decide +kernel
theorem ww36_18 {d : Nat} {l0 l1 l2 l3 : Option mw_V} {x : Int} {st : List mw_V} {σ : mw_S} {Q : Option mw_V → mw_S → Prop} : mw_WP d 36 18 [l0, l1, l2, l3] (jI x :: st) σ Q ↔ (if ¬ x = 0 then mw_WP d 36 25 [l0, l1, l2, l3] st σ Q else mw_WP d 36 21 [l0, l1, l2, l3] st σ Q) := WP_if_ne mq36 dd36_18 (by decide)
theorem dd36_21 : decode cX5_mostLeftTogether 21 = .ok (.iload_n 1, 1) := by decide +kernel
theorem ww36_21 {d : Nat} {l0 l2 l3 : Option mw_V} {x : Int} {st : List mw_V} {σ : mw_S} {Q : Option mw_V → mw_S → Prop} : mw_WP d 36 21 [l0, some (jI x), l2, l3] st σ Q ↔ mw_WP d 36 22 [l0, some (jI x), l2, l3] (jI x :: st) σ Q := WP_iload_n mq36 dd36_21 rfl
theorem dd36_22 : decode cX5_mostLeftTogether 22 = .ok (.goto 4, 3) := by decide +kernel
theorem ww36_22 {d : Nat} {l0 l1 l2 l3 : Option mw_V} {st : List mw_V} {σ : mw_S} {Q : Option mw_V → mw_S → Prop} : mw_WP d 36 22 [l0, l1, l2, l3] st σ Q ↔ mw_WP d 36 26 [l0, l1, l2, l3] st σ Q := WP_goto mq36 dd36_22 (by decide)
theorem dd36_25 : decode cX5_mostLeftTogether 25 = .ok (.iconst 0, 1) := by decide +kernel
theorem ww36_25 {d : Nat} {l0 l1 l2 l3 : Option mw_V} {st : List mw_V} {σ : mw_S} {Q : Option mw_V → mw_S → Prop} : mw_WP d 36 25 [l0, l1, l2, l3] st σ Q ↔ mw_WP d 36 26 [l0, l1, l2, l3] (jI (0) :: st) σ Q := WP_iconst mq36 dd36_25 (by decide)
theorem dd36_26 : decode cX5_mostLeftTogether 26 = .ok (.iastore, 1) := by decide +kernel
theorem ww36_26 {d : Nat} {l0 l1 l2 l3 : Option mw_V} {x z : Int} {a : Nat} {st : List mw_V} {σ : mw_S} {Q : Option mw_V → mw_S → Prop} : mw_WP d 36 26 [l0, l1, l2, l3] (jI x :: jI z :: jR a :: st) σ Q ↔ ((0 ≤ z ∧ z < mw_lenW 0 a) ∧ mw_WP d 36 27 [l0, l1, l2, l3] st (upS σ a z.toNat x) Q) := WP_iastore mq36 dd36_26
theorem dd36_27 : decode cX5_mostLeftTogether 27 = .ok (.iinc 2 1, 3) := by decide +kernel
theorem ww36_27 {d : Nat} {l0 l1 l3 : Option mw_V} {x : Int} {st : List mw_V} {σ : mw_S} {Q : Option mw_V → mw_S → Prop} (h : mw_nlo l1 = true) : mw_WP d 36 27 [l0, l1, some (jI x), l3] st σ Q ↔ mw_WP d 36 30 [l0, l1, some (jI (w32 (x + (1)))), l3] st σ Q := WP_iinc mq36 dd36_27 rfl (Nat.le_of_ble_eq_true rfl) (mw_nl_of (i := 1) rfl h) rfl
theorem dd36_30 : decode cX5_mostLeftTogether 30 = .ok (.goto (-28), 3) := by decide +kernel
theorem ww36_30 {d : Nat} {l0 l1 l2 l3 : Option mw_V} {st : List mw_V} {σ : mw_S} {Q : Option mw_V → mw_S → Prop} : mw_WP d 36 30 [l0, l1, l2, l3] st σ Q ↔ mw_WP d 36 2 [l0, l1, l2, l3] st σ Q := WP_goto mq36 dd36_30 (by decide)
theorem dd36_33 : decode cX5_mostLeftTogether 33 = .ok (.aload_n 0, 1) := by decide +kernel
theorem ww36_33 {d : Nat} {l1 l2 l3 : Option mw_V} {x : Nat} {st : List mw_V} {σ : mw_S} {Q : Option mw_V → mw_S → Prop} : mw_WP d 36 33 [some (jR x), l1, l2, l3] st σ Q ↔ mw_WP d 36 34 [some (jR x), l1, l2, l3] (jR x :: st) σ Q := WP_aload_n mq36 dd36_33 rfl
theorem dd36_34 : decode cX5_mostLeftTogether 34 = .ok (.iconst 0, 1) := by decide +kernel
theorem ww36_34 {d : Nat} {l0 l1 l2 l3 : Option mw_V} {st : List mw_V} {σ : mw_S} {Q : Option mw_V → mw_S → Prop} : mw_WP d 36 34 [l0, l1, l2, l3] st σ Q ↔ mw_WP d 36 35 [l0, l1, l2, l3] (jI (0) :: st) σ Q := WP_iconst mq36 dd36_34 (by decide)
theorem dd36_35 : decode cX5_mostLeftTogether 35 = .ok (.putfield 85, 3) := by decide +kernel
theorem ww36_35 {d : Nat} {l0 l1 l2 l3 : Option mw_V} {v : Int} {st : List mw_V} {σ : mw_S} {Q : Option mw_V → mw_S → Prop} : mw_WP d 36 35 [l0, l1, l2, l3] (jI v :: jR 65 :: st) σ Q ↔ mw_WP d 36 38 [l0, l1, l2, l3] st (upS σ 65 11 v) Q := WP_putI (ci := 4) (k := 11) mq36 dd36_35 (by decide) rfl
theorem dd36_38 : decode cX5_mostLeftTogether 38 = .ok (.iconst 0, 1) := by decide +kernel
theorem ww36_38 {d : Nat} {l0 l1 l2 l3 : Option mw_V} {st : List mw_V} {σ : mw_S} {Q : Option mw_V → mw_S → Prop} : mw_WP d 36 38 [l0, l1, l2, l3] st σ Q ↔ mw_WP d 36 39 [l0, l1, l2, l3] (jI (0) :: st) σ Q := WP_iconst mq36 dd36_38 (by decide)
theorem dd36_39 : decode cX5_mostLeftTogether 39 = .ok (.istore_n 2, 1) := by decide +kernel
theorem ww36_39 {d : Nat} {l0 l1 l2 l3 : Option mw_V} {x : Int} {st : List mw_V} {σ : mw_S} {Q : Option mw_V → mw_S → Prop} (h : mw_nlo l1 = true) : mw_WP d 36 39 [l0, l1, l2, l3] (jI x :: st) σ Q ↔ mw_WP d 36 40 [l0, l1, some (jI x), l3] st σ Q := WP_istore_n mq36 dd36_39 (Nat.le_of_ble_eq_true rfl) (mw_nl_of (i := 1) rfl h) rfl
theorem dd36_40 : decode cX5_mostLeftTogether 40 = .ok (.iload_n 2, 1) := by decide +kernel
theorem ww36_40 {d : Nat} {l0 l1 l3 : Option mw_V} {x : Int} {st : List mw_V} {σ : mw_S} {Q : Option mw_V → mw_S → Prop} : mw_WP d 36 40 [l0, l1, some (jI x), l3] st σ Q ↔ mw_WP d 36 41 [l0, l1, some (jI x), l3] (jI x :: st) σ Q := WP_iload_n mq36 dd36_40 rfl
theorem dd36_41 : decode cX5_mostLeftTogether 41 = .ok (.iconst 5, 1) := by decide +kernel
theorem ww36_41 {d : Nat} {l0 l1 l2 l3 : Option mw_V} {st : List mw_V} {σ : mw_S} {Q : Option mw_V → mw_S → Prop} : mw_WP d 36 41 [l0, l1, l2, l3] st σ Q ↔ mw_WP d 36 42 [l0, l1, l2, l3] (jI (5) :: st) σ Q := WP_iconst mq36 dd36_41 (by decide)
theorem dd36_42 : decode cX5_mostLeftTogether 42 = .ok (.if_icmp .ge 23, 3) := by decide +kernel
theorem ww36_42 {d : Nat} {l0 l1 l2 l3 : Option mw_V} {x y : Int} {st : List mw_V} {σ : mw_S} {Q : Option mw_V → mw_S → Prop} : mw_WP d 36 42 [l0, l1, l2, l3] (jI y :: jI x :: st) σ Q ↔ (if y ≤ x then mw_WP d 36 65 [l0, l1, l2, l3] st σ Q else mw_WP d 36 45 [l0, l1, l2, l3] st σ Q) := WP_icmp_ge mq36 dd36_42 (by decide)
theorem dd36_45 : decode cX5_mostLeftTogether 45 = .ok (.aload_n 0, 1) := by decide +kernel
theorem ww36_45 {d : Nat} {l1 l2 l3 : Option mw_V} {x : Nat} {st : List mw_V} {σ : mw_S} {Q : Option mw_V → mw_S → Prop} : mw_WP d 36 45 [some (jR x), l1, l2, l3] st σ Q ↔ mw_WP d 36 46 [some (jR x), l1, l2, l3] (jR x :: st) σ Q := WP_aload_n mq36 dd36_45 rfl
theorem dd36_46 : decode cX5_mostLeftTogether 46 = .ok (.getfield 18, 3) := by decide +kernel
theorem ww36_46 {d : Nat} {l0 l1 l2 l3 : Option mw_V} {st : List mw_V} {σ : mw_S} {Q : Option mw_V → mw_S → Prop} : mw_WP d 36 46 [l0, l1, l2, l3] (jR 65 :: st) σ Q ↔ mw_WP d 36 49 [l0, l1, l2, l3] (jR 68 :: st) σ Q := WP_getR (ci := 4) (k := 4) mq36 dd36_46 (by decide) rfl
theorem dd36_49 : decode cX5_mostLeftTogether 49 = .ok (.iload_n 2, 1) := by decide +kernel
theorem ww36_49 {d : Nat} {l0 l1 l3 : Option mw_V} {x : Int} {st : List mw_V} {σ : mw_S} {Q : Option mw_V → mw_S → Prop} : mw_WP d 36 49 [l0, l1, some (jI x), l3] st σ Q ↔ mw_WP d 36 50 [l0, l1, some (jI x), l3] (jI x :: st) σ Q := WP_iload_n mq36 dd36_49 rfl
theorem dd36_50 : decode cX5_mostLeftTogether 50 = .ok (.baload, 1) := by decide +kernel
theorem ww36_50 {d : Nat} {l0 l1 l2 l3 : Option mw_V} {z : Int} {a : Nat} {st : List mw_V} {σ : mw_S} {Q : Option mw_V → mw_S → Prop} : mw_WP d 36 50 [l0, l1, l2, l3] (jI z :: jR a :: st) σ Q ↔ ((0 ≤ z ∧ z < mw_lenB a) ∧ mw_WP d 36 51 [l0, l1, l2, l3] (jI (mw_rdB σ a z.toNat) :: st) σ Q) := WP_baload mq36 dd36_50
theorem dd36_51 : decode cX5_mostLeftTogether 51 = .ok (.ifCond .eq 8, 3) := by decide +kernel
theorem ww36_51 {d : Nat} {l0 l1 l2 l3 : Option mw_V} {x : Int} {st : List mw_V} {σ : mw_S} {Q : Option mw_V → mw_S → Prop} : mw_WP d 36 51 [l0, l1, l2, l3] (jI x :: st) σ Q ↔ (if x = 0 then mw_WP d 36 59 [l0, l1, l2, l3] st σ Q else mw_WP d 36 54 [l0, l1, l2, l3] st σ Q) := WP_if_eq mq36 dd36_51 (by decide)
theorem dd36_54 : decode cX5_mostLeftTogether 54 = .ok (.aload_n 0, 1) := by decide +kernel
theorem ww36_54 {d : Nat} {l1 l2 l3 : Option mw_V} {x : Nat} {st : List mw_V} {σ : mw_S} {Q : Option mw_V → mw_S → Prop} : mw_WP d 36 54 [some (jR x), l1, l2, l3] st σ Q ↔ mw_WP d 36 55 [some (jR x), l1, l2, l3] (jR x :: st) σ Q := WP_aload_n mq36 dd36_54 rfl
theorem dd36_55 : decode cX5_mostLeftTogether 55 = .ok (.iload_n 2, 1) := by decide +kernel
theorem ww36_55 {d : Nat} {l0 l1 l3 : Option mw_V} {x : Int} {st : List mw_V} {σ : mw_S} {Q : Option mw_V → mw_S → Prop} : mw_WP d 36 55 [l0, l1, some (jI x), l3] st σ Q ↔ mw_WP d 36 56 [l0, l1, some (jI x), l3] (jI x :: st) σ Q := WP_iload_n mq36 dd36_55 rfl
theorem dd36_56 : decode cX5_mostLeftTogether 56 = .ok (.invokevirtual 88, 3) := by decide +kernel
theorem ww36_56 {d : Nat} {l0 l1 l2 l3 : Option mw_V} {v0 : mw_V} {a : Nat} {st : List mw_V} {σ : mw_S} {Q : Option mw_V → mw_S → Prop} (hr : mw_rc a = 5) (h8 : (st.map mw_cat).sum ≤ 8) : mw_WP d 36 56 [l0, l1, l2, l3] (v0 :: jR a :: st) σ Q ↔ mw_Call d 37 [jR a, v0] σ (fun r1 s1 => mw_WP d 36 59 [l0, l1, l2, l3] (r1.toList ++ st) s1 Q) := WP_inv (as := [v0]) mq36 dd36_56 (by decide) mq37 rfl hr h8
theorem dd36_59 : decode cX5_mostLeftTogether 59 = .ok (.iinc 2 1, 3) := by decide +kernel
theorem ww36_59 {d : Nat} {l0 l1 l3 : Option mw_V} {x : Int} {st : List mw_V} {σ : mw_S} {Q : Option mw_V → mw_S → Prop} (h : mw_nlo l1 = true) : mw_WP d 36 59 [l0, l1, some (jI x), l3] st σ Q ↔ mw_WP d 36 62 [l0, l1, some (jI (w32 (x + (1)))), l3] st σ Q := WP_iinc mq36 dd36_59 rfl (Nat.le_of_ble_eq_true rfl) (mw_nl_of (i := 1) rfl h) rfl
theorem dd36_62 : decode cX5_mostLeftTogether 62 = .ok (.goto (-22), 3) := by decide +kernel
theorem ww36_62 {d : Nat} {l0 l1 l2 l3 : Option mw_V} {st : List mw_V} {σ : mw_S} {Q : Option mw_V → mw_S → Prop} : mw_WP d 36 62 [l0, l1, l2, l3] st σ Q ↔ mw_WP d 36 40 [l0, l1, l2, l3] st σ Q := WP_goto mq36 dd36_62 (by decide)
theorem dd36_65 : decode cX5_mostLeftTogether 65 = .ok (.iconst 0, 1) := by decide +kernel
theorem ww36_65 {d : Nat} {l0 l1 l2 l3 : Option mw_V} {st : List mw_V} {σ : mw_S} {Q : Option mw_V → mw_S → Prop} : mw_WP d 36 65 [l0, l1, l2, l3] st σ Q ↔ mw_WP d 36 66 [l0, l1, l2, l3] (jI (0) :: st) σ Q := WP_iconst mq36 dd36_65 (by decide)
theorem dd36_66 : decode cX5_mostLeftTogether 66 = .ok (.istore_n 2, 1) := by decide +kernel
theorem ww36_66 {d : Nat} {l0 l1 l2 l3 : Option mw_V} {x : Int} {st : List mw_V} {σ : mw_S} {Q : Option mw_V → mw_S → Prop} (h : mw_nlo l1 = true) : mw_WP d 36 66 [l0, l1, l2, l3] (jI x :: st) σ Q ↔ mw_WP d 36 67 [l0, l1, some (jI x), l3] st σ Q := WP_istore_n mq36 dd36_66 (Nat.le_of_ble_eq_true rfl) (mw_nl_of (i := 1) rfl h) rfl
theorem dd36_67 : decode cX5_mostLeftTogether 67 = .ok (.iconst 0, 1) := by decide +kernel
theorem ww36_67 {d : Nat} {l0 l1 l2 l3 : Option mw_V} {st : List mw_V} {σ : mw_S} {Q : Option mw_V → mw_S → Prop} : mw_WP d 36 67 [l0, l1, l2, l3] st σ Q ↔ mw_WP d 36 68 [l0, l1, l2, l3] (jI (0) :: st) σ Q := WP_iconst mq36 dd36_67 (by decide)
theorem dd36_68 : decode cX5_mostLeftTogether 68 = .ok (.istore_n 3, 1) := by decide +kernel
theorem ww36_68 {d : Nat} {l0 l1 l2 l3 : Option mw_V} {x : Int} {st : List mw_V} {σ : mw_S} {Q : Option mw_V → mw_S → Prop} (h : mw_nlo l2 = true) : mw_WP d 36 68 [l0, l1, l2, l3] (jI x :: st) σ Q ↔ mw_WP d 36 69 [l0, l1, l2, some (jI x)] st σ Q := WP_istore_n mq36 dd36_68 (Nat.le_of_ble_eq_true rfl) (mw_nl_of (i := 2) rfl h) rfl
theorem dd36_69 : decode cX5_mostLeftTogether 69 = .ok (.iload_n 3, 1) := by decide +kernel
theorem ww36_69 {d : Nat} {l0 l1 l2 : Option mw_V} {x : Int} {st : List mw_V} {σ : mw_S} {Q : Option mw_V → mw_S → Prop} : mw_WP d 36 69 [l0, l1, l2, some (jI x)] st σ Q ↔ mw_WP d 36 70 [l0, l1, l2, some (jI x)] (jI x :: st) σ Q := WP_iload_n mq36 dd36_69 rfl
theorem dd36_70 : decode cX5_mostLeftTogether 70 = .ok (.aload_n 0, 1) := by decide +kernel
theorem ww36_70 {d : Nat} {l1 l2 l3 : Option mw_V} {x : Nat} {st : List mw_V} {σ : mw_S} {Q : Option mw_V → mw_S → Prop} : mw_WP d 36 70 [some (jR x), l1, l2, l3] st σ Q ↔ mw_WP d 36 71 [some (jR x), l1, l2, l3] (jR x :: st) σ Q := WP_aload_n mq36 dd36_70 rfl
theorem dd36_71 : decode cX5_mostLeftTogether 71 = .ok (.getfield 85, 3) := by decide +kernel
theorem ww36_71 {d : Nat} {l0 l1 l2 l3 : Option mw_V} {st : List mw_V} {σ : mw_S} {Q : Option mw_V → mw_S → Prop} : mw_WP d 36 71 [l0, l1, l2, l3] (jR 65 :: st) σ Q ↔ mw_WP d 36 74 [l0, l1, l2, l3] (jI (σ 65 11) :: st) σ Q := WP_getI (ci := 4) (k := 11) mq36 dd36_71 (by decide) (Or.inl rfl)
theorem dd36_74 : decode cX5_mostLeftTogether 74 = .ok (.if_icmp .ge 20, 3) := by decide +kernel
theorem ww36_74 {d : Nat} {l0 l1 l2 l3 : Option mw_V} {x y : Int} {st : List mw_V} {σ : mw_S} {Q : Option mw_V → mw_S → Prop} : mw_WP d 36 74 [l0, l1, l2, l3] (jI y :: jI x :: st) σ Q ↔ (if y ≤ x then mw_WP d 36 94 [l0, l1, l2, l3] st σ Q else mw_WP d 36 77 [l0, l1, l2, l3] st σ Q) := WP_icmp_ge mq36 dd36_74 (by decide)
theorem dd36_77 : decode cX5_mostLeftTogether 77 = .ok (.iload_n 2, 1) := by decide +kernel
theorem ww36_77 {d : Nat} {l0 l1 l3 : Option mw_V} {x : Int} {st : List mw_V} {σ : mw_S} {Q : Option mw_V → mw_S → Prop} : mw_WP d 36 77 [l0, l1, some (jI x), l3] st σ Q ↔ mw_WP d 36 78 [l0, l1, some (jI x), l3] (jI x :: st) σ Q := WP_iload_n mq36 dd36_77 rfl
theorem dd36_78 : decode cX5_mostLeftTogether 78 = .ok (.aload_n 0, 1) := by decide +kernel
theorem ww36_78 {d : Nat} {l1 l2 l3 : Option mw_V} {x : Nat} {st : List mw_V} {σ : mw_S} {Q : Option mw_V → mw_S → Prop} : mw_WP d 36 78 [some (jR x), l1, l2, l3] st σ Q ↔ mw_WP d 36 79 [some (jR x), l1, l2, l3] (jR x :: st) σ Q := WP_aload_n mq36 dd36_78 rfl
theorem dd36_79 : decode cX5_mostLeftTogether 79 = .ok (.getfield 34, 3) := by decide +kernel
theorem ww36_79 {d : Nat} {l0 l1 l2 l3 : Option mw_V} {st : List mw_V} {σ : mw_S} {Q : Option mw_V → mw_S → Prop} : mw_WP d 36 79 [l0, l1, l2, l3] (jR 65 :: st) σ Q ↔ mw_WP d 36 82 [l0, l1, l2, l3] (jR 73 :: st) σ Q := WP_getR (ci := 4) (k := 9) mq36 dd36_79 (by decide) rfl
theorem dd36_82 : decode cX5_mostLeftTogether 82 = .ok (.iload_n 3, 1) := by decide +kernel
theorem ww36_82 {d : Nat} {l0 l1 l2 : Option mw_V} {x : Int} {st : List mw_V} {σ : mw_S} {Q : Option mw_V → mw_S → Prop} : mw_WP d 36 82 [l0, l1, l2, some (jI x)] st σ Q ↔ mw_WP d 36 83 [l0, l1, l2, some (jI x)] (jI x :: st) σ Q := WP_iload_n mq36 dd36_82 rfl
theorem dd36_83 : decode cX5_mostLeftTogether 83 = .ok (.iaload, 1) := by decide +kernel
theorem ww36_83 {d : Nat} {l0 l1 l2 l3 : Option mw_V} {z : Int} {a : Nat} {st : List mw_V} {σ : mw_S} {Q : Option mw_V → mw_S → Prop} : mw_WP d 36 83 [l0, l1, l2, l3] (jI z :: jR a :: st) σ Q ↔ ((0 ≤ z ∧ z < mw_lenI a) ∧ mw_WP d 36 84 [l0, l1, l2, l3] (jI (mw_rdI σ a z.toNat) :: st) σ Q) := WP_iaload mq36 dd36_83
theorem dd36_84 : decode cX5_mostLeftTogether 84 = .ok (.invokestatic 91, 3) := by decide +kernel
theorem ww36_84 {d : Nat} {l0 l1 l2 l3 : Option mw_V} {v0 v1 : mw_V} {st : List mw_V} {σ : mw_S} {Q : Option mw_V → mw_S → Prop} (h8 : (st.map mw_cat).sum ≤ 8) : mw_WP d 36 84 [l0, l1, l2, l3] (v1 :: v0 :: st) σ Q ↔ mw_Call d 282 [v0, v1] σ (fun r1 s1 => mw_WP d 36 87 [l0, l1, l2, l3] (r1.toList ++ st) s1 Q) := WP_invs (as := [v1, v0]) mq36 dd36_84 (by decide) mq282 rfl rfl h8
theorem dd36_87 : decode cX5_mostLeftTogether 87 = .ok (.istore_n 2, 1) := by decide +kernel
theorem ww36_87 {d : Nat} {l0 l1 l2 l3 : Option mw_V} {x : Int} {st : List mw_V} {σ : mw_S} {Q : Option mw_V → mw_S → Prop} (h : mw_nlo l1 = true) : mw_WP d 36 87 [l0, l1, l2, l3] (jI x :: st) σ Q ↔ mw_WP d 36 88 [l0, l1, some (jI x), l3] st σ Q := WP_istore_n mq36 dd36_87 (Nat.le_of_ble_eq_true rfl) (mw_nl_of (i := 1) rfl h) rfl
theorem dd36_88 : decode cX5_mostLeftTogether 88 = .ok (.iinc 3 1, 3) := by decide +kernel
theorem ww36_88 {d : Nat} {l0 l1 l2 : Option mw_V} {x : Int} {st : List mw_V} {σ : mw_S} {Q : Option mw_V → mw_S → Prop} (h : mw_nlo l2 = true) : mw_WP d 36 88 [l0, l1, l2, some (jI x)] st σ Q ↔ mw_WP d 36 91 [l0, l1, l2, some (jI (w32 (x + (1))))] st σ Q := WP_iinc mq36 dd36_88 rfl (Nat.le_of_ble_eq_true rfl) (mw_nl_of (i := 2) rfl h) rfl
theorem dd36_91 : decode cX5_mostLeftTogether 91 = .ok (.goto (-22), 3) := by decide +kernel
theorem ww36_91 {d : Nat} {l0 l1 l2 l3 : Option mw_V} {st : List mw_V} {σ : mw_S} {Q : Option mw_V → mw_S → Prop} : mw_WP d 36 91 [l0, l1, l2, l3] st σ Q ↔ mw_WP d 36 69 [l0, l1, l2, l3] st σ Q := WP_goto mq36 dd36_91 (by decide)
theorem dd36_94 : decode cX5_mostLeftTogether 94 = .ok (.iload_n 2, 1) := by decide +kernel
theorem ww36_94 {d : Nat} {l0 l1 l3 : Option mw_V} {x : Int} {st : List mw_V} {σ : mw_S} {Q : Option mw_V → mw_S → Prop} : mw_WP d 36 94 [l0, l1, some (jI x), l3] st σ Q ↔ mw_WP d 36 95 [l0, l1, some (jI x), l3] (jI x :: st) σ Q := WP_iload_n mq36 dd36_94 rfl
theorem dd36_95 : decode cX5_mostLeftTogether 95 = .ok (.ireturn, 1) := by decide +kernel
theorem ww36_95 {d : Nat} {l0 l1 l2 l3 : Option mw_V} {z : Int} {σ : mw_S} {Q : Option mw_V → mw_S → Prop} : mw_WP d 36 95 [l0, l1, l2, l3] [jI z] σ Q ↔ Q (some (jI z)) σ := WP_ireturn (ty := .int) mq36 dd36_95 rfl rfl
theorem ee37 {d : Nat} {a : Nat} {z0 : Int} {σ : mw_S} {Q : Option mw_V → mw_S → Prop} : mw_Call (d + 1) 37 [jR a, jI z0] σ Q ↔ mw_WP d 37 0 [some (jR a), some (jI z0), none, none, none, none, none] [] σ Q := CL_u mq37 (Nat.le_of_ble_eq_true rfl) rfl
theorem dd37_0 : decode cX5_partLaws 0 = .ok (.iconst 0, 1) := by decide +kernel
theorem ww37_0 {d : Nat} {l0 l1 l2 l3 l4 l5 l6 : Option mw_V} {st : List mw_V} {σ : mw_S} {Q : Option mw_V → mw_S → Prop} : mw_WP d 37 0 [l0, l1, l2, l3, l4, l5, l6] st σ Q ↔ mw_WP d 37 1 [l0, l1, l2, l3, l4, l5, l6] (jI (0) :: st) σ Q := WP_iconst mq37 dd37_0 (by decide)
theorem dd37_1 : decode cX5_partLaws 1 = .ok (.istore_n 2, 1) := by decide +kernel
theorem ww37_1 {d : Nat} {l0 l1 l2 l3 l4 l5 l6 : Option mw_V} {x : Int} {st : List mw_V} {σ : mw_S} {Q : Option mw_V → mw_S → Prop} (h : mw_nlo l1 = true) : mw_WP d 37 1 [l0, l1, l2, l3, l4, l5, l6] (jI x :: st) σ Q ↔ mw_WP d 37 2 [l0, l1, some (jI x), l3, l4, l5, l6] st σ Q := WP_istore_n mq37 dd37_1 (Nat.le_of_ble_eq_true rfl) (mw_nl_of (i := 1) rfl h) rfl
theorem dd37_2 : decode cX5_partLaws 2 = .ok (.iconst 0, 1) := by decide +kernel
theorem ww37_2 {d : Nat} {l0 l1 l2 l3 l4 l5 l6 : Option mw_V} {st : List mw_V} {σ : mw_S} {Q : Option mw_V → mw_S → Prop} : mw_WP d 37 2 [l0, l1, l2, l3, l4, l5, l6] st σ Q ↔ mw_WP d 37 3 [l0, l1, l2, l3, l4, l5, l6] (jI (0) :: st) σ Q := WP_iconst mq37 dd37_2 (by decide)
theorem dd37_3 : decode cX5_partLaws 3 = .ok (.istore_n 3, 1) := by decide +kernel
theorem ww37_3 {d : Nat} {l0 l1 l2 l3 l4 l5 l6 : Option mw_V} {x : Int} {st : List mw_V} {σ : mw_S} {Q : Option mw_V → mw_S → Prop} (h : mw_nlo l2 = true) : mw_WP d 37 3 [l0, l1, l2, l3, l4, l5, l6] (jI x :: st) σ Q ↔ mw_WP d 37 4 [l0, l1, l2, some (jI x), l4, l5, l6] st σ Q := WP_istore_n mq37 dd37_3 (Nat.le_of_ble_eq_true rfl) (mw_nl_of (i := 2) rfl h) rfl
theorem dd37_4 : decode cX5_partLaws 4 = .ok (.iload_n 3, 1) := by decide +kernel
theorem ww37_4 {d : Nat} {l0 l1 l2 l4 l5 l6 : Option mw_V} {x : Int} {st : List mw_V} {σ : mw_S} {Q : Option mw_V → mw_S → Prop} : mw_WP d 37 4 [l0, l1, l2, some (jI x), l4, l5, l6] st σ Q ↔ mw_WP d 37 5 [l0, l1, l2, some (jI x), l4, l5, l6] (jI x :: st) σ Q := WP_iload_n mq37 dd37_4 rfl
theorem dd37_5 : decode cX5_partLaws 5 = .ok (.iconst 5, 1) := by decide +kernel
theorem ww37_5 {d : Nat} {l0 l1 l2 l3 l4 l5 l6 : Option mw_V} {st : List mw_V} {σ : mw_S} {Q : Option mw_V → mw_S → Prop} : mw_WP d 37 5 [l0, l1, l2, l3, l4, l5, l6] st σ Q ↔ mw_WP d 37 6 [l0, l1, l2, l3, l4, l5, l6] (jI (5) :: st) σ Q := WP_iconst mq37 dd37_5 (by decide)
theorem dd37_6 : decode cX5_partLaws 6 = .ok (.if_icmp .ge 37, 3) := by decide +kernel
theorem ww37_6 {d : Nat} {l0 l1 l2 l3 l4 l5 l6 : Option mw_V} {x y : Int} {st : List mw_V} {σ : mw_S} {Q : Option mw_V → mw_S → Prop} : mw_WP d 37 6 [l0, l1, l2, l3, l4, l5, l6] (jI y :: jI x :: st) σ Q ↔ (if y ≤ x then mw_WP d 37 43 [l0, l1, l2, l3, l4, l5, l6] st σ Q else mw_WP d 37 9 [l0, l1, l2, l3, l4, l5, l6] st σ Q) := WP_icmp_ge mq37 dd37_6 (by decide)
theorem dd37_9 : decode cX5_partLaws 9 = .ok (.aload_n 0, 1) := by decide +kernel
theorem ww37_9 {d : Nat} {l1 l2 l3 l4 l5 l6 : Option mw_V} {x : Nat} {st : List mw_V} {σ : mw_S} {Q : Option mw_V → mw_S → Prop} : mw_WP d 37 9 [some (jR x), l1, l2, l3, l4, l5, l6] st σ Q ↔ mw_WP d 37 10 [some (jR x), l1, l2, l3, l4, l5, l6] (jR x :: st) σ Q := WP_aload_n mq37 dd37_9 rfl
theorem dd37_10 : decode cX5_partLaws 10 = .ok (.getfield 28, 3) := by decide +kernel
theorem ww37_10 {d : Nat} {l0 l1 l2 l3 l4 l5 l6 : Option mw_V} {st : List mw_V} {σ : mw_S} {Q : Option mw_V → mw_S → Prop} : mw_WP d 37 10 [l0, l1, l2, l3, l4, l5, l6] (jR 65 :: st) σ Q ↔ mw_WP d 37 13 [l0, l1, l2, l3, l4, l5, l6] (jR 71 :: st) σ Q := WP_getR (ci := 4) (k := 7) mq37 dd37_10 (by decide) rfl
theorem dd37_13 : decode cX5_partLaws 13 = .ok (.iload_n 3, 1) := by decide +kernel
theorem ww37_13 {d : Nat} {l0 l1 l2 l4 l5 l6 : Option mw_V} {x : Int} {st : List mw_V} {σ : mw_S} {Q : Option mw_V → mw_S → Prop} : mw_WP d 37 13 [l0, l1, l2, some (jI x), l4, l5, l6] st σ Q ↔ mw_WP d 37 14 [l0, l1, l2, some (jI x), l4, l5, l6] (jI x :: st) σ Q := WP_iload_n mq37 dd37_13 rfl
theorem dd37_14 : decode cX5_partLaws 14 = .ok (.aload_n 0, 1) := by decide +kernel
theorem ww37_14 {d : Nat} {l1 l2 l3 l4 l5 l6 : Option mw_V} {x : Nat} {st : List mw_V} {σ : mw_S} {Q : Option mw_V → mw_S → Prop} : mw_WP d 37 14 [some (jR x), l1, l2, l3, l4, l5, l6] st σ Q ↔ mw_WP d 37 15 [some (jR x), l1, l2, l3, l4, l5, l6] (jR x :: st) σ Q := WP_aload_n mq37 dd37_14 rfl
theorem dd37_15 : decode cX5_partLaws 15 = .ok (.aload_n 0, 1) := by decide +kernel
theorem ww37_15 {d : Nat} {l1 l2 l3 l4 l5 l6 : Option mw_V} {x : Nat} {st : List mw_V} {σ : mw_S} {Q : Option mw_V → mw_S → Prop} : mw_WP d 37 15 [some (jR x), l1, l2, l3, l4, l5, l6] st σ Q ↔ mw_WP d 37 16 [some (jR x), l1, l2, l3, l4, l5, l6] (jR x :: st) σ Q := WP_aload_n mq37 dd37_15 rfl
theorem dd37_16 : decode cX5_partLaws 16 = .ok (.getfield 49, 3) := by decide +kernel
theorem ww37_16 {d : Nat} {l0 l1 l2 l3 l4 l5 l6 : Option mw_V} {st : List mw_V} {σ : mw_S} {Q : Option mw_V → mw_S → Prop} : mw_WP d 37 16 [l0, l1, l2, l3, l4, l5, l6] (jR 65 :: st) σ Q ↔ mw_WP d 37 19 [l0, l1, l2, l3, l4, l5, l6] (jI (σ 65 10) :: st) σ Q := WP_getI (ci := 4) (k := 10) mq37 dd37_16 (by decide) (Or.inl rfl)
theorem dd37_19 : decode cX5_partLaws 19 = .ok (.iload_n 3, 1) := by decide +kernel
theorem ww37_19 {d : Nat} {l0 l1 l2 l4 l5 l6 : Option mw_V} {x : Int} {st : List mw_V} {σ : mw_S} {Q : Option mw_V → mw_S → Prop} : mw_WP d 37 19 [l0, l1, l2, some (jI x), l4, l5, l6] st σ Q ↔ mw_WP d 37 20 [l0, l1, l2, some (jI x), l4, l5, l6] (jI x :: st) σ Q := WP_iload_n mq37 dd37_19 rfl
theorem dd37_20 : decode cX5_partLaws 20 = .ok (.iadd, 1) := by decide +kernel
theorem ww37_20 {d : Nat} {l0 l1 l2 l3 l4 l5 l6 : Option mw_V} {x y : Int} {st : List mw_V} {σ : mw_S} {Q : Option mw_V → mw_S → Prop} : mw_WP d 37 20 [l0, l1, l2, l3, l4, l5, l6] (jI y :: jI x :: st) σ Q ↔ mw_WP d 37 21 [l0, l1, l2, l3, l4, l5, l6] (jI (w32 (x + y)) :: st) σ Q := WP_iadd mq37 dd37_20
theorem dd37_21 : decode cX5_partLaws 21 = .ok (.iload_n 1, 1) := by decide +kernel
theorem ww37_21 {d : Nat} {l0 l2 l3 l4 l5 l6 : Option mw_V} {x : Int} {st : List mw_V} {σ : mw_S} {Q : Option mw_V → mw_S → Prop} : mw_WP d 37 21 [l0, some (jI x), l2, l3, l4, l5, l6] st σ Q ↔ mw_WP d 37 22 [l0, some (jI x), l2, l3, l4, l5, l6] (jI x :: st) σ Q := WP_iload_n mq37 dd37_21 rfl
theorem dd37_22 : decode cX5_partLaws 22 = .ok (.invokevirtual 60, 3) := by decide +kernel
theorem ww37_22 {d : Nat} {l0 l1 l2 l3 l4 l5 l6 : Option mw_V} {v0 v1 : mw_V} {a : Nat} {st : List mw_V} {σ : mw_S} {Q : Option mw_V → mw_S → Prop} (hr : mw_rc a = 5) (h8 : (st.map mw_cat).sum ≤ 8) : mw_WP d 37 22 [l0, l1, l2, l3, l4, l5, l6] (v1 :: v0 :: jR a :: st) σ Q ↔ mw_Call d 30 [jR a, v0, v1] σ (fun r1 s1 => mw_WP d 37 25 [l0, l1, l2, l3, l4, l5, l6] (r1.toList ++ st) s1 Q) := WP_inv (as := [v1, v0]) mq37 dd37_22 (by decide) mq30 rfl hr h8
theorem dd37_25 : decode cX5_partLaws 25 = .ok (.iastore, 1) := by decide +kernel
theorem ww37_25 {d : Nat} {l0 l1 l2 l3 l4 l5 l6 : Option mw_V} {x z : Int} {a : Nat} {st : List mw_V} {σ : mw_S} {Q : Option mw_V → mw_S → Prop} : mw_WP d 37 25 [l0, l1, l2, l3, l4, l5, l6] (jI x :: jI z :: jR a :: st) σ Q ↔ ((0 ≤ z ∧ z < mw_lenW 0 a) ∧ mw_WP d 37 26 [l0, l1, l2, l3, l4, l5, l6] st (upS σ a z.toNat x) Q) := WP_iastore mq37 dd37_25
theorem dd37_26 : decode cX5_partLaws 26 = .ok (.iload_n 2, 1) := by decide +kernel
theorem ww37_26 {d : Nat} {l0 l1 l3 l4 l5 l6 : Option mw_V} {x : Int} {st : List mw_V} {σ : mw_S} {Q : Option mw_V → mw_S → Prop} : mw_WP d 37 26 [l0, l1, some (jI x), l3, l4, l5, l6] st σ Q ↔ mw_WP d 37 27 [l0, l1, some (jI x), l3, l4, l5, l6] (jI x :: st) σ Q := WP_iload_n mq37 dd37_26 rfl
theorem dd37_27 : decode cX5_partLaws 27 = .ok (.iconst 1, 1) := by decide +kernel
theorem ww37_27 {d : Nat} {l0 l1 l2 l3 l4 l5 l6 : Option mw_V} {st : List mw_V} {σ : mw_S} {Q : Option mw_V → mw_S → Prop} : mw_WP d 37 27 [l0, l1, l2, l3, l4, l5, l6] st σ Q ↔ mw_WP d 37 28 [l0, l1, l2, l3, l4, l5, l6] (jI (1) :: st) σ Q := WP_iconst mq37 dd37_27 (by decide)
theorem dd37_28 : decode cX5_partLaws 28 = .ok (.aload_n 0, 1) := by decide +kernel
theorem ww37_28 {d : Nat} {l1 l2 l3 l4 l5 l6 : Option mw_V} {x : Nat} {st : List mw_V} {σ : mw_S} {Q : Option mw_V → mw_S → Prop} : mw_WP d 37 28 [some (jR x), l1, l2, l3, l4, l5, l6] st σ Q ↔ mw_WP d 37 29 [some (jR x), l1, l2, l3, l4, l5, l6] (jR x :: st) σ Q := WP_aload_n mq37 dd37_28 rfl
theorem dd37_29 : decode cX5_partLaws 29 = .ok (.getfield 28, 3) := by decide +kernel
theorem ww37_29 {d : Nat} {l0 l1 l2 l3 l4 l5 l6 : Option mw_V} {st : List mw_V} {σ : mw_S} {Q : Option mw_V → mw_S → Prop} : mw_WP d 37 29 [l0, l1, l2, l3, l4, l5, l6] (jR 65 :: st) σ Q ↔ mw_WP d 37 32 [l0, l1, l2, l3, l4, l5, l6] (jR 71 :: st) σ Q := WP_getR (ci := 4) (k := 7) mq37 dd37_29 (by decide) rfl
theorem dd37_32 : decode cX5_partLaws 32 = .ok (.iload_n 3, 1) := by decide +kernel
theorem ww37_32 {d : Nat} {l0 l1 l2 l4 l5 l6 : Option mw_V} {x : Int} {st : List mw_V} {σ : mw_S} {Q : Option mw_V → mw_S → Prop} : mw_WP d 37 32 [l0, l1, l2, some (jI x), l4, l5, l6] st σ Q ↔ mw_WP d 37 33 [l0, l1, l2, some (jI x), l4, l5, l6] (jI x :: st) σ Q := WP_iload_n mq37 dd37_32 rfl
theorem dd37_33 : decode cX5_partLaws 33 = .ok (.iaload, 1) := by decide +kernel
theorem ww37_33 {d : Nat} {l0 l1 l2 l3 l4 l5 l6 : Option mw_V} {z : Int} {a : Nat} {st : List mw_V} {σ : mw_S} {Q : Option mw_V → mw_S → Prop} : mw_WP d 37 33 [l0, l1, l2, l3, l4, l5, l6] (jI z :: jR a :: st) σ Q ↔ ((0 ≤ z ∧ z < mw_lenI a) ∧ mw_WP d 37 34 [l0, l1, l2, l3, l4, l5, l6] (jI (mw_rdI σ a z.toNat) :: st) σ Q) := WP_iaload mq37 dd37_33
theorem dd37_34 : decode cX5_partLaws 34 = .ok (.ishl, 1) := by decide +kernel
theorem ww37_34 {d : Nat} {l0 l1 l2 l3 l4 l5 l6 : Option mw_V} {x y : Int} {st : List mw_V} {σ : mw_S} {Q : Option mw_V → mw_S → Prop} : mw_WP d 37 34 [l0, l1, l2, l3, l4, l5, l6] (jI y :: jI x :: st) σ Q ↔ mw_WP d 37 35 [l0, l1, l2, l3, l4, l5, l6] (jI (zShl x y) :: st) σ Q := WP_ishl mq37 dd37_34
theorem dd37_35 : decode cX5_partLaws 35 = .ok (.ior, 1) := by decide +kernel
theorem ww37_35 {d : Nat} {l0 l1 l2 l3 l4 l5 l6 : Option mw_V} {x y : Int} {st : List mw_V} {σ : mw_S} {Q : Option mw_V → mw_S → Prop} : mw_WP d 37 35 [l0, l1, l2, l3, l4, l5, l6] (jI y :: jI x :: st) σ Q ↔ mw_WP d 37 36 [l0, l1, l2, l3, l4, l5, l6] (jI (zOr x y) :: st) σ Q := WP_ior mq37 dd37_35
theorem dd37_36 : decode cX5_partLaws 36 = .ok (.istore_n 2, 1) := by decide +kernel
theorem ww37_36 {d : Nat} {l0 l1 l2 l3 l4 l5 l6 : Option mw_V} {x : Int} {st : List mw_V} {σ : mw_S} {Q : Option mw_V → mw_S → Prop} (h : mw_nlo l1 = true) : mw_WP d 37 36 [l0, l1, l2, l3, l4, l5, l6] (jI x :: st) σ Q ↔ mw_WP d 37 37 [l0, l1, some (jI x), l3, l4, l5, l6] st σ Q := WP_istore_n mq37 dd37_36 (Nat.le_of_ble_eq_true rfl) (mw_nl_of (i := 1) rfl h) rfl
theorem dd37_37 : decode cX5_partLaws 37 = .ok (.iinc 3 1, 3) := by decide +kernel
theorem ww37_37 {d : Nat} {l0 l1 l2 l4 l5 l6 : Option mw_V} {x : Int} {st : List mw_V} {σ : mw_S} {Q : Option mw_V → mw_S → Prop} (h : mw_nlo l2 = true) : mw_WP d 37 37 [l0, l1, l2, some (jI x), l4, l5, l6] st σ Q ↔ mw_WP d 37 40 [l0, l1, l2, some (jI (w32 (x + (1)))), l4, l5, l6] st σ Q := WP_iinc mq37 dd37_37 rfl (Nat.le_of_ble_eq_true rfl) (mw_nl_of (i := 2) rfl h) rfl
theorem dd37_40 : decode cX5_partLaws 40 = .ok (.goto (-36), 3) := by decide +kernel
theorem ww37_40 {d : Nat} {l0 l1 l2 l3 l4 l5 l6 : Option mw_V} {st : List mw_V} {σ : mw_S} {Q : Option mw_V → mw_S → Prop} : mw_WP d 37 40 [l0, l1, l2, l3, l4, l5, l6] st σ Q ↔ mw_WP d 37 4 [l0, l1, l2, l3, l4, l5, l6] st σ Q := WP_goto mq37 dd37_40 (by decide)
theorem dd37_43 : decode cX5_partLaws 43 = .ok (.iload_n 2, 1) := by decide +kernel
theorem ww37_43 {d : Nat} {l0 l1 l3 l4 l5 l6 : Option mw_V} {x : Int} {st : List mw_V} {σ : mw_S} {Q : Option mw_V → mw_S → Prop} : mw_WP d 37 43 [l0, l1, some (jI x), l3, l4, l5, l6] st σ Q ↔ mw_WP d 37 44 [l0, l1, some (jI x), l3, l4, l5, l6] (jI x :: st) σ Q := WP_iload_n mq37 dd37_43 rfl
theorem dd37_44 : decode cX5_partLaws 44 = .ok (.aload_n 0, 1) := by decide +kernel
theorem ww37_44 {d : Nat} {l1 l2 l3 l4 l5 l6 : Option mw_V} {x : Nat} {st : List mw_V} {σ : mw_S} {Q : Option mw_V → mw_S → Prop} : mw_WP d 37 44 [some (jR x), l1, l2, l3, l4, l5, l6] st σ Q ↔ mw_WP d 37 45 [some (jR x), l1, l2, l3, l4, l5, l6] (jR x :: st) σ Q := WP_aload_n mq37 dd37_44 rfl
theorem dd37_45 : decode cX5_partLaws 45 = .ok (.getfield 11, 3) := by decide +kernel
theorem ww37_45 {d : Nat} {l0 l1 l2 l3 l4 l5 l6 : Option mw_V} {st : List mw_V} {σ : mw_S} {Q : Option mw_V → mw_S → Prop} : mw_WP d 37 45 [l0, l1, l2, l3, l4, l5, l6] (jR 65 :: st) σ Q ↔ mw_WP d 37 48 [l0, l1, l2, l3, l4, l5, l6] (jR 66 :: st) σ Q := WP_getR (ci := 4) (k := 0) mq37 dd37_45 (by decide) rfl
theorem dd37_48 : decode cX5_partLaws 48 = .ok (.iload_n 1, 1) := by decide +kernel
theorem ww37_48 {d : Nat} {l0 l2 l3 l4 l5 l6 : Option mw_V} {x : Int} {st : List mw_V} {σ : mw_S} {Q : Option mw_V → mw_S → Prop} : mw_WP d 37 48 [l0, some (jI x), l2, l3, l4, l5, l6] st σ Q ↔ mw_WP d 37 49 [l0, some (jI x), l2, l3, l4, l5, l6] (jI x :: st) σ Q := WP_iload_n mq37 dd37_48 rfl
theorem dd37_49 : decode cX5_partLaws 49 = .ok (.iaload, 1) := by decide +kernel
theorem ww37_49 {d : Nat} {l0 l1 l2 l3 l4 l5 l6 : Option mw_V} {z : Int} {a : Nat} {st : List mw_V} {σ : mw_S} {Q : Option mw_V → mw_S → Prop} : mw_WP d 37 49 [l0, l1, l2, l3, l4, l5, l6] (jI z :: jR a :: st) σ Q ↔ ((0 ≤ z ∧ z < mw_lenI a) ∧ mw_WP d 37 50 [l0, l1, l2, l3, l4, l5, l6] (jI (mw_rdI σ a z.toNat) :: st) σ Q) := WP_iaload mq37 dd37_49
theorem dd37_50 : decode cX5_partLaws 50 = .ok (.aload_n 0, 1) := by decide +kernel
theorem ww37_50 {d : Nat} {l1 l2 l3 l4 l5 l6 : Option mw_V} {x : Nat} {st : List mw_V} {σ : mw_S} {Q : Option mw_V → mw_S → Prop} : mw_WP d 37 50 [some (jR x), l1, l2, l3, l4, l5, l6] st σ Q ↔ mw_WP d 37 51 [some (jR x), l1, l2, l3, l4, l5, l6] (jR x :: st) σ Q := WP_aload_n mq37 dd37_50 rfl
theorem dd37_51 : decode cX5_partLaws 51 = .ok (.getfield 15, 3) := by decide +kernel
theorem ww37_51 {d : Nat} {l0 l1 l2 l3 l4 l5 l6 : Option mw_V} {st : List mw_V} {σ : mw_S} {Q : Option mw_V → mw_S → Prop} : mw_WP d 37 51 [l0, l1, l2, l3, l4, l5, l6] (jR 65 :: st) σ Q ↔ mw_WP d 37 54 [l0, l1, l2, l3, l4, l5, l6] (jR 67 :: st) σ Q := WP_getR (ci := 4) (k := 3) mq37 dd37_51 (by decide) rfl
theorem dd37_54 : decode cX5_partLaws 54 = .ok (.iload_n 1, 1) := by decide +kernel
theorem ww37_54 {d : Nat} {l0 l2 l3 l4 l5 l6 : Option mw_V} {x : Int} {st : List mw_V} {σ : mw_S} {Q : Option mw_V → mw_S → Prop} : mw_WP d 37 54 [l0, some (jI x), l2, l3, l4, l5, l6] st σ Q ↔ mw_WP d 37 55 [l0, some (jI x), l2, l3, l4, l5, l6] (jI x :: st) σ Q := WP_iload_n mq37 dd37_54 rfl
theorem dd37_55 : decode cX5_partLaws 55 = .ok (.iaload, 1) := by decide +kernel
theorem ww37_55 {d : Nat} {l0 l1 l2 l3 l4 l5 l6 : Option mw_V} {z : Int} {a : Nat} {st : List mw_V} {σ : mw_S} {Q : Option mw_V → mw_S → Prop} : mw_WP d 37 55 [l0, l1, l2, l3, l4, l5, l6] (jI z :: jR a :: st) σ Q ↔ ((0 ≤ z ∧ z < mw_lenI a) ∧ mw_WP d 37 56 [l0, l1, l2, l3, l4, l5, l6] (jI (mw_rdI σ a z.toNat) :: st) σ Q) := WP_iaload mq37 dd37_55
theorem dd37_56 : decode cX5_partLaws 56 = .ok (.ior, 1) := by decide +kernel
theorem ww37_56 {d : Nat} {l0 l1 l2 l3 l4 l5 l6 : Option mw_V} {x y : Int} {st : List mw_V} {σ : mw_S} {Q : Option mw_V → mw_S → Prop} : mw_WP d 37 56 [l0, l1, l2, l3, l4, l5, l6] (jI y :: jI x :: st) σ Q ↔ mw_WP d 37 57 [l0, l1, l2, l3, l4, l5, l6] (jI (zOr x y) :: st) σ Q := WP_ior mq37 dd37_56
theorem dd37_57 : decode cX5_partLaws 57 = .ok (.iconst 1, 1) := by decide +kernel
theorem ww37_57 {d : Nat} {l0 l1 l2 l3 l4 l5 l6 : Option mw_V} {st : List mw_V} {σ : mw_S} {Q : Option mw_V → mw_S → Prop} : mw_WP d 37 57 [l0, l1, l2, l3, l4, l5, l6] st σ Q ↔ mw_WP d 37 58 [l0, l1, l2, l3, l4, l5, l6] (jI (1) :: st) σ Q := WP_iconst mq37 dd37_57 (by decide)
theorem dd37_58 : decode cX5_partLaws 58 = .ok (.ior, 1) := by decide +kernel
theorem ww37_58 {d : Nat} {l0 l1 l2 l3 l4 l5 l6 : Option mw_V} {x y : Int} {st : List mw_V} {σ : mw_S} {Q : Option mw_V → mw_S → Prop} : mw_WP d 37 58 [l0, l1, l2, l3, l4, l5, l6] (jI y :: jI x :: st) σ Q ↔ mw_WP d 37 59 [l0, l1, l2, l3, l4, l5, l6] (jI (zOr x y) :: st) σ Q := WP_ior mq37 dd37_58
theorem dd37_59 : decode cX5_partLaws 59 = .ok (.iconst (-1), 1) := by decide +kernel
theorem ww37_59 {d : Nat} {l0 l1 l2 l3 l4 l5 l6 : Option mw_V} {st : List mw_V} {σ : mw_S} {Q : Option mw_V → mw_S → Prop} : mw_WP d 37 59 [l0, l1, l2, l3, l4, l5, l6] st σ Q ↔ mw_WP d 37 60 [l0, l1, l2, l3, l4, l5, l6] (jI (-1) :: st) σ Q := WP_iconst mq37 dd37_59 (by decide)
theorem dd37_60 : decode cX5_partLaws 60 = .ok (.ixor, 1) := by decide +kernel
theorem ww37_60 {d : Nat} {l0 l1 l2 l3 l4 l5 l6 : Option mw_V} {x y : Int} {st : List mw_V} {σ : mw_S} {Q : Option mw_V → mw_S → Prop} : mw_WP d 37 60 [l0, l1, l2, l3, l4, l5, l6] (jI y :: jI x :: st) σ Q ↔ mw_WP d 37 61 [l0, l1, l2, l3, l4, l5, l6] (jI (zXor x y) :: st) σ Q := WP_ixor mq37 dd37_60
theorem dd37_61 : decode cX5_partLaws 61 = .ok (.iand, 1) := by decide +kernel
theorem ww37_61 {d : Nat} {l0 l1 l2 l3 l4 l5 l6 : Option mw_V} {x y : Int} {st : List mw_V} {σ : mw_S} {Q : Option mw_V → mw_S → Prop} : mw_WP d 37 61 [l0, l1, l2, l3, l4, l5, l6] (jI y :: jI x :: st) σ Q ↔ mw_WP d 37 62 [l0, l1, l2, l3, l4, l5, l6] (jI (zAnd x y) :: st) σ Q := WP_iand mq37 dd37_61
theorem dd37_62 : decode cX5_partLaws 62 = .ok (.istore_n 3, 1) := by decide +kernel
theorem ww37_62 {d : Nat} {l0 l1 l2 l3 l4 l5 l6 : Option mw_V} {x : Int} {st : List mw_V} {σ : mw_S} {Q : Option mw_V → mw_S → Prop} (h : mw_nlo l2 = true) : mw_WP d 37 62 [l0, l1, l2, l3, l4, l5, l6] (jI x :: st) σ Q ↔ mw_WP d 37 63 [l0, l1, l2, some (jI x), l4, l5, l6] st σ Q := WP_istore_n mq37 dd37_62 (Nat.le_of_ble_eq_true rfl) (mw_nl_of (i := 2) rfl h) rfl
theorem dd37_63 : decode cX5_partLaws 63 = .ok (.iconst 1, 1) := by decide +kernel
theorem ww37_63 {d : Nat} {l0 l1 l2 l3 l4 l5 l6 : Option mw_V} {st : List mw_V} {σ : mw_S} {Q : Option mw_V → mw_S → Prop} : mw_WP d 37 63 [l0, l1, l2, l3, l4, l5, l6] st σ Q ↔ mw_WP d 37 64 [l0, l1, l2, l3, l4, l5, l6] (jI (1) :: st) σ Q := WP_iconst mq37 dd37_63 (by decide)
theorem dd37_64 : decode cX5_partLaws 64 = .ok (.aload_n 0, 1) := by decide +kernel
theorem ww37_64 {d : Nat} {l1 l2 l3 l4 l5 l6 : Option mw_V} {x : Nat} {st : List mw_V} {σ : mw_S} {Q : Option mw_V → mw_S → Prop} : mw_WP d 37 64 [some (jR x), l1, l2, l3, l4, l5, l6] st σ Q ↔ mw_WP d 37 65 [some (jR x), l1, l2, l3, l4, l5, l6] (jR x :: st) σ Q := WP_aload_n mq37 dd37_64 rfl
theorem dd37_65 : decode cX5_partLaws 65 = .ok (.iload_n 1, 1) := by decide +kernel
theorem ww37_65 {d : Nat} {l0 l2 l3 l4 l5 l6 : Option mw_V} {x : Int} {st : List mw_V} {σ : mw_S} {Q : Option mw_V → mw_S → Prop} : mw_WP d 37 65 [l0, some (jI x), l2, l3, l4, l5, l6] st σ Q ↔ mw_WP d 37 66 [l0, some (jI x), l2, l3, l4, l5, l6] (jI x :: st) σ Q := WP_iload_n mq37 dd37_65 rfl
theorem dd37_66 : decode cX5_partLaws 66 = .ok (.invokevirtual 73, 3) := by decide +kernel
theorem ww37_66 {d : Nat} {l0 l1 l2 l3 l4 l5 l6 : Option mw_V} {v0 : mw_V} {a : Nat} {st : List mw_V} {σ : mw_S} {Q : Option mw_V → mw_S → Prop} (hr : mw_rc a = 5) (h8 : (st.map mw_cat).sum ≤ 8) : mw_WP d 37 66 [l0, l1, l2, l3, l4, l5, l6] (v0 :: jR a :: st) σ Q ↔ mw_Call d 31 [jR a, v0] σ (fun r1 s1 => mw_WP d 37 69 [l0, l1, l2, l3, l4, l5, l6] (r1.toList ++ st) s1 Q) := WP_inv (as := [v0]) mq37 dd37_66 (by decide) mq31 rfl hr h8
theorem dd37_69 : decode cX5_partLaws 69 = .ok (.iload_n 3, 1) := by decide +kernel
theorem ww37_69 {d : Nat} {l0 l1 l2 l4 l5 l6 : Option mw_V} {x : Int} {st : List mw_V} {σ : mw_S} {Q : Option mw_V → mw_S → Prop} : mw_WP d 37 69 [l0, l1, l2, some (jI x), l4, l5, l6] st σ Q ↔ mw_WP d 37 70 [l0, l1, l2, some (jI x), l4, l5, l6] (jI x :: st) σ Q := WP_iload_n mq37 dd37_69 rfl
theorem dd37_70 : decode cX5_partLaws 70 = .ok (.invokestatic 68, 3) := by decide +kernel
theorem ww37_70 {d : Nat} {l0 l1 l2 l3 l4 l5 l6 : Option mw_V} {v0 : mw_V} {st : List mw_V} {σ : mw_S} {Q : Option mw_V → mw_S → Prop} (h8 : (st.map mw_cat).sum ≤ 8) : mw_WP d 37 70 [l0, l1, l2, l3, l4, l5, l6] (v0 :: st) σ Q ↔ mw_Call d 279 [v0] σ (fun r1 s1 => mw_WP d 37 73 [l0, l1, l2, l3, l4, l5, l6] (r1.toList ++ st) s1 Q) := WP_invs (as := [v0]) mq37 dd37_70 (by decide) mq279 rfl rfl h8
theorem dd37_73 : decode cX5_partLaws 73 = .ok (.isub, 1) := by decide +kernel
theorem ww37_73 {d : Nat} {l0 l1 l2 l3 l4 l5 l6 : Option mw_V} {x y : Int} {st : List mw_V} {σ : mw_S} {Q : Option mw_V → mw_S → Prop} : mw_WP d 37 73 [l0, l1, l2, l3, l4, l5, l6] (jI y :: jI x :: st) σ Q ↔ mw_WP d 37 74 [l0, l1, l2, l3, l4, l5, l6] (jI (w32 (x - y)) :: st) σ Q := WP_isub mq37 dd37_73
theorem dd37_74 : decode cX5_partLaws 74 = .ok (.ishl, 1) := by decide +kernel
theorem ww37_74 {d : Nat} {l0 l1 l2 l3 l4 l5 l6 : Option mw_V} {x y : Int} {st : List mw_V} {σ : mw_S} {Q : Option mw_V → mw_S → Prop} : mw_WP d 37 74 [l0, l1, l2, l3, l4, l5, l6] (jI y :: jI x :: st) σ Q ↔ mw_WP d 37 75 [l0, l1, l2, l3, l4, l5, l6] (jI (zShl x y) :: st) σ Q := WP_ishl mq37 dd37_74
theorem dd37_75 : decode cX5_partLaws 75 = .ok (.istore 4, 2) := by decide +kernel
theorem ww37_75 {d : Nat} {l0 l1 l2 l3 l4 l5 l6 : Option mw_V} {x : Int} {st : List mw_V} {σ : mw_S} {Q : Option mw_V → mw_S → Prop} (h : mw_nlo l3 = true) : mw_WP d 37 75 [l0, l1, l2, l3, l4, l5, l6] (jI x :: st) σ Q ↔ mw_WP d 37 77 [l0, l1, l2, l3, some (jI x), l5, l6] st σ Q := WP_istore mq37 dd37_75 (Nat.le_of_ble_eq_true rfl) (mw_nl_of (i := 3) rfl h) rfl
theorem dd37_77 : decode cX5_partLaws 77 = .ok (.iload_n 3, 1) := by decide +kernel
theorem ww37_77 {d : Nat} {l0 l1 l2 l4 l5 l6 : Option mw_V} {x : Int} {st : List mw_V} {σ : mw_S} {Q : Option mw_V → mw_S → Prop} : mw_WP d 37 77 [l0, l1, l2, some (jI x), l4, l5, l6] st σ Q ↔ mw_WP d 37 78 [l0, l1, l2, some (jI x), l4, l5, l6] (jI x :: st) σ Q := WP_iload_n mq37 dd37_77 rfl
theorem dd37_78 : decode cX5_partLaws 78 = .ok (.istore 5, 2) := by decide +kernel
theorem ww37_78 {d : Nat} {l0 l1 l2 l3 l4 l5 l6 : Option mw_V} {x : Int} {st : List mw_V} {σ : mw_S} {Q : Option mw_V → mw_S → Prop} (h : mw_nlo l4 = true) : mw_WP d 37 78 [l0, l1, l2, l3, l4, l5, l6] (jI x :: st) σ Q ↔ mw_WP d 37 80 [l0, l1, l2, l3, l4, some (jI x), l6] st σ Q := WP_istore mq37 dd37_78 (Nat.le_of_ble_eq_true rfl) (mw_nl_of (i := 4) rfl h) rfl
theorem dd37_80 : decode cX5_partLaws 80 = .ok (.iconst 0, 1) := by decide +kernel
theorem ww37_80 {d : Nat} {l0 l1 l2 l3 l4 l5 l6 : Option mw_V} {st : List mw_V} {σ : mw_S} {Q : Option mw_V → mw_S → Prop} : mw_WP d 37 80 [l0, l1, l2, l3, l4, l5, l6] st σ Q ↔ mw_WP d 37 81 [l0, l1, l2, l3, l4, l5, l6] (jI (0) :: st) σ Q := WP_iconst mq37 dd37_80 (by decide)
theorem dd37_81 : decode cX5_partLaws 81 = .ok (.istore 6, 2) := by decide +kernel
theorem ww37_81 {d : Nat} {l0 l1 l2 l3 l4 l5 l6 : Option mw_V} {x : Int} {st : List mw_V} {σ : mw_S} {Q : Option mw_V → mw_S → Prop} (h : mw_nlo l5 = true) : mw_WP d 37 81 [l0, l1, l2, l3, l4, l5, l6] (jI x :: st) σ Q ↔ mw_WP d 37 83 [l0, l1, l2, l3, l4, l5, some (jI x)] st σ Q := WP_istore mq37 dd37_81 (Nat.le_of_ble_eq_true rfl) (mw_nl_of (i := 5) rfl h) rfl
theorem dd37_83 : decode cX5_partLaws 83 = .ok (.iload 6, 2) := by decide +kernel
theorem ww37_83 {d : Nat} {l0 l1 l2 l3 l4 l5 : Option mw_V} {x : Int} {st : List mw_V} {σ : mw_S} {Q : Option mw_V → mw_S → Prop} : mw_WP d 37 83 [l0, l1, l2, l3, l4, l5, some (jI x)] st σ Q ↔ mw_WP d 37 85 [l0, l1, l2, l3, l4, l5, some (jI x)] (jI x :: st) σ Q := WP_iload mq37 dd37_83 rfl
theorem dd37_85 : decode cX5_partLaws 85 = .ok (.bipush 32, 2) := by decide +kernel
theorem ww37_85 {d : Nat} {l0 l1 l2 l3 l4 l5 l6 : Option mw_V} {st : List mw_V} {σ : mw_S} {Q : Option mw_V → mw_S → Prop} : mw_WP d 37 85 [l0, l1, l2, l3, l4, l5, l6] st σ Q ↔ mw_WP d 37 87 [l0, l1, l2, l3, l4, l5, l6] (jI (32) :: st) σ Q := WP_bipush mq37 dd37_85 (by decide)
theorem dd37_87 : decode cX5_partLaws 87 = .ok (.if_icmp .ge 42, 3) := by decide +kernel
theorem ww37_87 {d : Nat} {l0 l1 l2 l3 l4 l5 l6 : Option mw_V} {x y : Int} {st : List mw_V} {σ : mw_S} {Q : Option mw_V → mw_S → Prop} : mw_WP d 37 87 [l0, l1, l2, l3, l4, l5, l6] (jI y :: jI x :: st) σ Q ↔ (if y ≤ x then mw_WP d 37 129 [l0, l1, l2, l3, l4, l5, l6] st σ Q else mw_WP d 37 90 [l0, l1, l2, l3, l4, l5, l6] st σ Q) := WP_icmp_ge mq37 dd37_87 (by decide)
theorem dd37_90 : decode cX5_partLaws 90 = .ok (.aload_n 0, 1) := by decide +kernel
theorem ww37_90 {d : Nat} {l1 l2 l3 l4 l5 l6 : Option mw_V} {x : Nat} {st : List mw_V} {σ : mw_S} {Q : Option mw_V → mw_S → Prop} : mw_WP d 37 90 [some (jR x), l1, l2, l3, l4, l5, l6] st σ Q ↔ mw_WP d 37 91 [some (jR x), l1, l2, l3, l4, l5, l6] (jR x :: st) σ Q := WP_aload_n mq37 dd37_90 rfl
theorem dd37_91 : decode cX5_partLaws 91 = .ok (.aload_n 0, 1) := by decide +kernel
theorem ww37_91 {d : Nat} {l1 l2 l3 l4 l5 l6 : Option mw_V} {x : Nat} {st : List mw_V} {σ : mw_S} {Q : Option mw_V → mw_S → Prop} : mw_WP d 37 91 [some (jR x), l1, l2, l3, l4, l5, l6] st σ Q ↔ mw_WP d 37 92 [some (jR x), l1, l2, l3, l4, l5, l6] (jR x :: st) σ Q := WP_aload_n mq37 dd37_91 rfl
theorem dd37_92 : decode cX5_partLaws 92 = .ok (.aload_n 0, 1) := by decide +kernel
theorem ww37_92 {d : Nat} {l1 l2 l3 l4 l5 l6 : Option mw_V} {x : Nat} {st : List mw_V} {σ : mw_S} {Q : Option mw_V → mw_S → Prop} : mw_WP d 37 92 [some (jR x), l1, l2, l3, l4, l5, l6] st σ Q ↔ mw_WP d 37 93 [some (jR x), l1, l2, l3, l4, l5, l6] (jR x :: st) σ Q := WP_aload_n mq37 dd37_92 rfl
theorem dd37_93 : decode cX5_partLaws 93 = .ok (.getfield 11, 3) := by decide +kernel
theorem ww37_93 {d : Nat} {l0 l1 l2 l3 l4 l5 l6 : Option mw_V} {st : List mw_V} {σ : mw_S} {Q : Option mw_V → mw_S → Prop} : mw_WP d 37 93 [l0, l1, l2, l3, l4, l5, l6] (jR 65 :: st) σ Q ↔ mw_WP d 37 96 [l0, l1, l2, l3, l4, l5, l6] (jR 66 :: st) σ Q := WP_getR (ci := 4) (k := 0) mq37 dd37_93 (by decide) rfl
theorem dd37_96 : decode cX5_partLaws 96 = .ok (.iload_n 1, 1) := by decide +kernel
theorem ww37_96 {d : Nat} {l0 l2 l3 l4 l5 l6 : Option mw_V} {x : Int} {st : List mw_V} {σ : mw_S} {Q : Option mw_V → mw_S → Prop} : mw_WP d 37 96 [l0, some (jI x), l2, l3, l4, l5, l6] st σ Q ↔ mw_WP d 37 97 [l0, some (jI x), l2, l3, l4, l5, l6] (jI x :: st) σ Q := WP_iload_n mq37 dd37_96 rfl
theorem dd37_97 : decode cX5_partLaws 97 = .ok (.iaload, 1) := by decide +kernel
theorem ww37_97 {d : Nat} {l0 l1 l2 l3 l4 l5 l6 : Option mw_V} {z : Int} {a : Nat} {st : List mw_V} {σ : mw_S} {Q : Option mw_V → mw_S → Prop} : mw_WP d 37 97 [l0, l1, l2, l3, l4, l5, l6] (jI z :: jR a :: st) σ Q ↔ ((0 ≤ z ∧ z < mw_lenI a) ∧ mw_WP d 37 98 [l0, l1, l2, l3, l4, l5, l6] (jI (mw_rdI σ a z.toNat) :: st) σ Q) := WP_iaload mq37 dd37_97
theorem dd37_98 : decode cX5_partLaws 98 = .ok (.iload 5, 2) := by decide +kernel
theorem ww37_98 {d : Nat} {l0 l1 l2 l3 l4 l6 : Option mw_V} {x : Int} {st : List mw_V} {σ : mw_S} {Q : Option mw_V → mw_S → Prop} : mw_WP d 37 98 [l0, l1, l2, l3, l4, some (jI x), l6] st σ Q ↔ mw_WP d 37 100 [l0, l1, l2, l3, l4, some (jI x), l6] (jI x :: st) σ Q := WP_iload mq37 dd37_98 rfl
theorem dd37_100 : decode cX5_partLaws 100 = .ok (.ior, 1) := by decide +kernel
theorem ww37_100 {d : Nat} {l0 l1 l2 l3 l4 l5 l6 : Option mw_V} {x y : Int} {st : List mw_V} {σ : mw_S} {Q : Option mw_V → mw_S → Prop} : mw_WP d 37 100 [l0, l1, l2, l3, l4, l5, l6] (jI y :: jI x :: st) σ Q ↔ mw_WP d 37 101 [l0, l1, l2, l3, l4, l5, l6] (jI (zOr x y) :: st) σ Q := WP_ior mq37 dd37_100
theorem dd37_101 : decode cX5_partLaws 101 = .ok (.invokevirtual 94, 3) := by decide +kernel
theorem ww37_101 {d : Nat} {l0 l1 l2 l3 l4 l5 l6 : Option mw_V} {v0 : mw_V} {a : Nat} {st : List mw_V} {σ : mw_S} {Q : Option mw_V → mw_S → Prop} (hr : mw_rc a = 5) (h8 : (st.map mw_cat).sum ≤ 8) : mw_WP d 37 101 [l0, l1, l2, l3, l4, l5, l6] (v0 :: jR a :: st) σ Q ↔ mw_Call d 38 [jR a, v0] σ (fun r1 s1 => mw_WP d 37 104 [l0, l1, l2, l3, l4, l5, l6] (r1.toList ++ st) s1 Q) := WP_inv (as := [v0]) mq37 dd37_101 (by decide) mq38 rfl hr h8
theorem dd37_104 : decode cX5_partLaws 104 = .ok (.iload 4, 2) := by decide +kernel
theorem ww37_104 {d : Nat} {l0 l1 l2 l3 l5 l6 : Option mw_V} {x : Int} {st : List mw_V} {σ : mw_S} {Q : Option mw_V → mw_S → Prop} : mw_WP d 37 104 [l0, l1, l2, l3, some (jI x), l5, l6] st σ Q ↔ mw_WP d 37 106 [l0, l1, l2, l3, some (jI x), l5, l6] (jI x :: st) σ Q := WP_iload mq37 dd37_104 rfl
theorem dd37_106 : decode cX5_partLaws 106 = .ok (.invokevirtual 97, 3) := by decide +kernel
theorem ww37_106 {d : Nat} {l0 l1 l2 l3 l4 l5 l6 : Option mw_V} {v0 v1 : mw_V} {a : Nat} {st : List mw_V} {σ : mw_S} {Q : Option mw_V → mw_S → Prop} (hr : mw_rc a = 5) (h8 : (st.map mw_cat).sum ≤ 8) : mw_WP d 37 106 [l0, l1, l2, l3, l4, l5, l6] (v1 :: v0 :: jR a :: st) σ Q ↔ mw_Call d 39 [jR a, v0, v1] σ (fun r1 s1 => mw_WP d 37 109 [l0, l1, l2, l3, l4, l5, l6] (r1.toList ++ st) s1 Q) := WP_inv (as := [v1, v0]) mq37 dd37_106 (by decide) mq39 rfl hr h8
theorem dd37_109 : decode cX5_partLaws 109 = .ok (.iload 5, 2) := by decide +kernel
theorem ww37_109 {d : Nat} {l0 l1 l2 l3 l4 l6 : Option mw_V} {x : Int} {st : List mw_V} {σ : mw_S} {Q : Option mw_V → mw_S → Prop} : mw_WP d 37 109 [l0, l1, l2, l3, l4, some (jI x), l6] st σ Q ↔ mw_WP d 37 111 [l0, l1, l2, l3, l4, some (jI x), l6] (jI x :: st) σ Q := WP_iload mq37 dd37_109 rfl
theorem dd37_111 : decode cX5_partLaws 111 = .ok (.ifCond .ne 4, 3) := by decide +kernel
theorem ww37_111 {d : Nat} {l0 l1 l2 l3 l4 l5 l6 : Option mw_V} {x : Int} {st : List mw_V} {σ : mw_S} {Q : Option mw_V → mw_S → Prop} : mw_WP d 37 111 [l0, l1, l2, l3, l4, l5, l6] (jI x :: st) σ Q ↔ (if ¬ x = 0 then mw_WP d 37 115 [l0, l1, l2, l3, l4, l5, l6] st σ Q else mw_WP d 37 114 [l0, l1, l2, l3, l4, l5, l6] st σ Q) := WP_if_ne mq37 dd37_111 (by decide)
theorem dd37_114 : decode cX5_partLaws 114 = .ok (.return_, 1) := by decide +kernel
theorem ww37_114 {d : Nat} {l0 l1 l2 l3 l4 l5 l6 : Option mw_V} {σ : mw_S} {Q : Option mw_V → mw_S → Prop} : mw_WP d 37 114 [l0, l1, l2, l3, l4, l5, l6] [] σ Q ↔ Q none σ := WP_return mq37 dd37_114 rfl
theorem dd37_115 : decode cX5_partLaws 115 = .ok (.iload 5, 2) := by decide +kernel
theorem ww37_115 {d : Nat} {l0 l1 l2 l3 l4 l6 : Option mw_V} {x : Int} {st : List mw_V} {σ : mw_S} {Q : Option mw_V → mw_S → Prop} : mw_WP d 37 115 [l0, l1, l2, l3, l4, some (jI x), l6] st σ Q ↔ mw_WP d 37 117 [l0, l1, l2, l3, l4, some (jI x), l6] (jI x :: st) σ Q := WP_iload mq37 dd37_115 rfl
theorem dd37_117 : decode cX5_partLaws 117 = .ok (.iconst 1, 1) := by decide +kernel
theorem ww37_117 {d : Nat} {l0 l1 l2 l3 l4 l5 l6 : Option mw_V} {st : List mw_V} {σ : mw_S} {Q : Option mw_V → mw_S → Prop} : mw_WP d 37 117 [l0, l1, l2, l3, l4, l5, l6] st σ Q ↔ mw_WP d 37 118 [l0, l1, l2, l3, l4, l5, l6] (jI (1) :: st) σ Q := WP_iconst mq37 dd37_117 (by decide)
theorem dd37_118 : decode cX5_partLaws 118 = .ok (.isub, 1) := by decide +kernel
theorem ww37_118 {d : Nat} {l0 l1 l2 l3 l4 l5 l6 : Option mw_V} {x y : Int} {st : List mw_V} {σ : mw_S} {Q : Option mw_V → mw_S → Prop} : mw_WP d 37 118 [l0, l1, l2, l3, l4, l5, l6] (jI y :: jI x :: st) σ Q ↔ mw_WP d 37 119 [l0, l1, l2, l3, l4, l5, l6] (jI (w32 (x - y)) :: st) σ Q := WP_isub mq37 dd37_118
theorem dd37_119 : decode cX5_partLaws 119 = .ok (.iload_n 3, 1) := by decide +kernel
theorem ww37_119 {d : Nat} {l0 l1 l2 l4 l5 l6 : Option mw_V} {x : Int} {st : List mw_V} {σ : mw_S} {Q : Option mw_V → mw_S → Prop} : mw_WP d 37 119 [l0, l1, l2, some (jI x), l4, l5, l6] st σ Q ↔ mw_WP d 37 120 [l0, l1, l2, some (jI x), l4, l5, l6] (jI x :: st) σ Q := WP_iload_n mq37 dd37_119 rfl
theorem dd37_120 : decode cX5_partLaws 120 = .ok (.iand, 1) := by decide +kernel
theorem ww37_120 {d : Nat} {l0 l1 l2 l3 l4 l5 l6 : Option mw_V} {x y : Int} {st : List mw_V} {σ : mw_S} {Q : Option mw_V → mw_S → Prop} : mw_WP d 37 120 [l0, l1, l2, l3, l4, l5, l6] (jI y :: jI x :: st) σ Q ↔ mw_WP d 37 121 [l0, l1, l2, l3, l4, l5, l6] (jI (zAnd x y) :: st) σ Q := WP_iand mq37 dd37_120
theorem dd37_121 : decode cX5_partLaws 121 = .ok (.istore 5, 2) := by decide +kernel
theorem ww37_121 {d : Nat} {l0 l1 l2 l3 l4 l5 l6 : Option mw_V} {x : Int} {st : List mw_V} {σ : mw_S} {Q : Option mw_V → mw_S → Prop} (h : mw_nlo l4 = true) : mw_WP d 37 121 [l0, l1, l2, l3, l4, l5, l6] (jI x :: st) σ Q ↔ mw_WP d 37 123 [l0, l1, l2, l3, l4, some (jI x), l6] st σ Q := WP_istore mq37 dd37_121 (Nat.le_of_ble_eq_true rfl) (mw_nl_of (i := 4) rfl h) rfl
theorem dd37_123 : decode cX5_partLaws 123 = .ok (.iinc 6 1, 3) := by decide +kernel
theorem ww37_123 {d : Nat} {l0 l1 l2 l3 l4 l5 : Option mw_V} {x : Int} {st : List mw_V} {σ : mw_S} {Q : Option mw_V → mw_S → Prop} (h : mw_nlo l5 = true) : mw_WP d 37 123 [l0, l1, l2, l3, l4, l5, some (jI x)] st σ Q ↔ mw_WP d 37 126 [l0, l1, l2, l3, l4, l5, some (jI (w32 (x + (1))))] st σ Q := WP_iinc mq37 dd37_123 rfl (Nat.le_of_ble_eq_true rfl) (mw_nl_of (i := 5) rfl h) rfl
theorem dd37_126 : decode cX5_partLaws 126 = .ok (.goto (-43), 3) := by decide +kernel
theorem ww37_126 {d : Nat} {l0 l1 l2 l3 l4 l5 l6 : Option mw_V} {st : List mw_V} {σ : mw_S} {Q : Option mw_V → mw_S → Prop} : mw_WP d 37 126 [l0, l1, l2, l3, l4, l5, l6] st σ Q ↔ mw_WP d 37 83 [l0, l1, l2, l3, l4, l5, l6] st σ Q := WP_goto mq37 dd37_126 (by decide)
theorem dd37_129 : decode cX5_partLaws 129 = .ok (.return_, 1) := by decide +kernel
theorem ww37_129 {d : Nat} {l0 l1 l2 l3 l4 l5 l6 : Option mw_V} {σ : mw_S} {Q : Option mw_V → mw_S → Prop} : mw_WP d 37 129 [l0, l1, l2, l3, l4, l5, l6] [] σ Q ↔ Q none σ := WP_return mq37 dd37_129 rfl
theorem ee38 {d : Nat} {a : Nat} {z0 : Int} {σ : mw_S} {Q : Option mw_V → mw_S → Prop} : mw_Call (d + 1) 38 [jR a, jI z0] σ Q ↔ mw_WP d 38 0 [some (jR a), some (jI z0), none, none, none] [] σ Q := CL_u mq38 (Nat.le_of_ble_eq_true rfl) rfl
theorem dd38_0 : decode cX5_keyOf 0 = .ok (.iconst 0, 1) := by decide +kernel
theorem ww38_0 {d : Nat} {l0 l1 l2 l3 l4 : Option mw_V} {st : List mw_V} {σ : mw_S} {Q : Option mw_V → mw_S → Prop} : mw_WP d 38 0 [l0, l1, l2, l3, l4] st σ Q ↔ mw_WP d 38 1 [l0, l1, l2, l3, l4] (jI (0) :: st) σ Q := WP_iconst mq38 dd38_0 (by decide)
theorem dd38_1 : decode cX5_keyOf 1 = .ok (.istore_n 2, 1) := by decide +kernel
theorem ww38_1 {d : Nat} {l0 l1 l2 l3 l4 : Option mw_V} {x : Int} {st : List mw_V} {σ : mw_S} {Q : Option mw_V → mw_S → Prop} (h : mw_nlo l1 = true) : mw_WP d 38 1 [l0, l1, l2, l3, l4] (jI x :: st) σ Q ↔ mw_WP d 38 2 [l0, l1, some (jI x), l3, l4] st σ Q := WP_istore_n mq38 dd38_1 (Nat.le_of_ble_eq_true rfl) (mw_nl_of (i := 1) rfl h) rfl
theorem dd38_2 : decode cX5_keyOf 2 = .ok (.iconst 0, 1) := by decide +kernel
theorem ww38_2 {d : Nat} {l0 l1 l2 l3 l4 : Option mw_V} {st : List mw_V} {σ : mw_S} {Q : Option mw_V → mw_S → Prop} : mw_WP d 38 2 [l0, l1, l2, l3, l4] st σ Q ↔ mw_WP d 38 3 [l0, l1, l2, l3, l4] (jI (0) :: st) σ Q := WP_iconst mq38 dd38_2 (by decide)
theorem dd38_3 : decode cX5_keyOf 3 = .ok (.istore_n 3, 1) := by decide +kernel
theorem ww38_3 {d : Nat} {l0 l1 l2 l3 l4 : Option mw_V} {x : Int} {st : List mw_V} {σ : mw_S} {Q : Option mw_V → mw_S → Prop} (h : mw_nlo l2 = true) : mw_WP d 38 3 [l0, l1, l2, l3, l4] (jI x :: st) σ Q ↔ mw_WP d 38 4 [l0, l1, l2, some (jI x), l4] st σ Q := WP_istore_n mq38 dd38_3 (Nat.le_of_ble_eq_true rfl) (mw_nl_of (i := 2) rfl h) rfl
theorem dd38_4 : decode cX5_keyOf 4 = .ok (.iload_n 3, 1) := by decide +kernel
theorem ww38_4 {d : Nat} {l0 l1 l2 l4 : Option mw_V} {x : Int} {st : List mw_V} {σ : mw_S} {Q : Option mw_V → mw_S → Prop} : mw_WP d 38 4 [l0, l1, l2, some (jI x), l4] st σ Q ↔ mw_WP d 38 5 [l0, l1, l2, some (jI x), l4] (jI x :: st) σ Q := WP_iload_n mq38 dd38_4 rfl
theorem dd38_5 : decode cX5_keyOf 5 = .ok (.iconst 5, 1) := by decide +kernel
theorem ww38_5 {d : Nat} {l0 l1 l2 l3 l4 : Option mw_V} {st : List mw_V} {σ : mw_S} {Q : Option mw_V → mw_S → Prop} : mw_WP d 38 5 [l0, l1, l2, l3, l4] st σ Q ↔ mw_WP d 38 6 [l0, l1, l2, l3, l4] (jI (5) :: st) σ Q := WP_iconst mq38 dd38_5 (by decide)
theorem dd38_6 : decode cX5_keyOf 6 = .ok (.if_icmp .ge 51, 3) := by decide +kernel
theorem ww38_6 {d : Nat} {l0 l1 l2 l3 l4 : Option mw_V} {x y : Int} {st : List mw_V} {σ : mw_S} {Q : Option mw_V → mw_S → Prop} : mw_WP d 38 6 [l0, l1, l2, l3, l4] (jI y :: jI x :: st) σ Q ↔ (if y ≤ x then mw_WP d 38 57 [l0, l1, l2, l3, l4] st σ Q else mw_WP d 38 9 [l0, l1, l2, l3, l4] st σ Q) := WP_icmp_ge mq38 dd38_6 (by decide)
theorem dd38_9 : decode cX5_keyOf 9 = .ok (.iload_n 1, 1) := by decide +kernel
theorem ww38_9 {d : Nat} {l0 l2 l3 l4 : Option mw_V} {x : Int} {st : List mw_V} {σ : mw_S} {Q : Option mw_V → mw_S → Prop} : mw_WP d 38 9 [l0, some (jI x), l2, l3, l4] st σ Q ↔ mw_WP d 38 10 [l0, some (jI x), l2, l3, l4] (jI x :: st) σ Q := WP_iload_n mq38 dd38_9 rfl
theorem dd38_10 : decode cX5_keyOf 10 = .ok (.aload_n 0, 1) := by decide +kernel
theorem ww38_10 {d : Nat} {l1 l2 l3 l4 : Option mw_V} {x : Nat} {st : List mw_V} {σ : mw_S} {Q : Option mw_V → mw_S → Prop} : mw_WP d 38 10 [some (jR x), l1, l2, l3, l4] st σ Q ↔ mw_WP d 38 11 [some (jR x), l1, l2, l3, l4] (jR x :: st) σ Q := WP_aload_n mq38 dd38_10 rfl
theorem dd38_11 : decode cX5_keyOf 11 = .ok (.getfield 28, 3) := by decide +kernel
theorem ww38_11 {d : Nat} {l0 l1 l2 l3 l4 : Option mw_V} {st : List mw_V} {σ : mw_S} {Q : Option mw_V → mw_S → Prop} : mw_WP d 38 11 [l0, l1, l2, l3, l4] (jR 65 :: st) σ Q ↔ mw_WP d 38 14 [l0, l1, l2, l3, l4] (jR 71 :: st) σ Q := WP_getR (ci := 4) (k := 7) mq38 dd38_11 (by decide) rfl
theorem dd38_14 : decode cX5_keyOf 14 = .ok (.iload_n 3, 1) := by decide +kernel
theorem ww38_14 {d : Nat} {l0 l1 l2 l4 : Option mw_V} {x : Int} {st : List mw_V} {σ : mw_S} {Q : Option mw_V → mw_S → Prop} : mw_WP d 38 14 [l0, l1, l2, some (jI x), l4] st σ Q ↔ mw_WP d 38 15 [l0, l1, l2, some (jI x), l4] (jI x :: st) σ Q := WP_iload_n mq38 dd38_14 rfl
theorem dd38_15 : decode cX5_keyOf 15 = .ok (.iaload, 1) := by decide +kernel
theorem ww38_15 {d : Nat} {l0 l1 l2 l3 l4 : Option mw_V} {z : Int} {a : Nat} {st : List mw_V} {σ : mw_S} {Q : Option mw_V → mw_S → Prop} : mw_WP d 38 15 [l0, l1, l2, l3, l4] (jI z :: jR a :: st) σ Q ↔ ((0 ≤ z ∧ z < mw_lenI a) ∧ mw_WP d 38 16 [l0, l1, l2, l3, l4] (jI (mw_rdI σ a z.toNat) :: st) σ Q) := WP_iaload mq38 dd38_15
theorem dd38_16 : decode cX5_keyOf 16 = .ok (.ishr, 1) := by decide +kernel
theorem ww38_16 {d : Nat} {l0 l1 l2 l3 l4 : Option mw_V} {x y : Int} {st : List mw_V} {σ : mw_S} {Q : Option mw_V → mw_S → Prop} : mw_WP d 38 16 [l0, l1, l2, l3, l4] (jI y :: jI x :: st) σ Q ↔ mw_WP d 38 17 [l0, l1, l2, l3, l4] (jI (zShr x y) :: st) σ Q := WP_ishr mq38 dd38_16
theorem dd38_17 : decode cX5_keyOf 17 = .ok (.iconst 1, 1) := by decide +kernel
theorem ww38_17 {d : Nat} {l0 l1 l2 l3 l4 : Option mw_V} {st : List mw_V} {σ : mw_S} {Q : Option mw_V → mw_S → Prop} : mw_WP d 38 17 [l0, l1, l2, l3, l4] st σ Q ↔ mw_WP d 38 18 [l0, l1, l2, l3, l4] (jI (1) :: st) σ Q := WP_iconst mq38 dd38_17 (by decide)
theorem dd38_18 : decode cX5_keyOf 18 = .ok (.iand, 1) := by decide +kernel
theorem ww38_18 {d : Nat} {l0 l1 l2 l3 l4 : Option mw_V} {x y : Int} {st : List mw_V} {σ : mw_S} {Q : Option mw_V → mw_S → Prop} : mw_WP d 38 18 [l0, l1, l2, l3, l4] (jI y :: jI x :: st) σ Q ↔ mw_WP d 38 19 [l0, l1, l2, l3, l4] (jI (zAnd x y) :: st) σ Q := WP_iand mq38 dd38_18
theorem dd38_19 : decode cX5_keyOf 19 = .ok (.iconst 1, 1) := by decide +kernel
theorem ww38_19 {d : Nat} {l0 l1 l2 l3 l4 : Option mw_V} {st : List mw_V} {σ : mw_S} {Q : Option mw_V → mw_S → Prop} : mw_WP d 38 19 [l0, l1, l2, l3, l4] st σ Q ↔ mw_WP d 38 20 [l0, l1, l2, l3, l4] (jI (1) :: st) σ Q := WP_iconst mq38 dd38_19 (by decide)
theorem dd38_20 : decode cX5_keyOf 20 = .ok (.if_icmp .ne 7, 3) := by decide +kernel
theorem ww38_20 {d : Nat} {l0 l1 l2 l3 l4 : Option mw_V} {x y : Int} {st : List mw_V} {σ : mw_S} {Q : Option mw_V → mw_S → Prop} : mw_WP d 38 20 [l0, l1, l2, l3, l4] (jI y :: jI x :: st) σ Q ↔ (if ¬ x = y then mw_WP d 38 27 [l0, l1, l2, l3, l4] st σ Q else mw_WP d 38 23 [l0, l1, l2, l3, l4] st σ Q) := WP_icmp_ne mq38 dd38_20 (by decide)
theorem dd38_23 : decode cX5_keyOf 23 = .ok (.iconst 1, 1) := by decide +kernel
theorem ww38_23 {d : Nat} {l0 l1 l2 l3 l4 : Option mw_V} {st : List mw_V} {σ : mw_S} {Q : Option mw_V → mw_S → Prop} : mw_WP d 38 23 [l0, l1, l2, l3, l4] st σ Q ↔ mw_WP d 38 24 [l0, l1, l2, l3, l4] (jI (1) :: st) σ Q := WP_iconst mq38 dd38_23 (by decide)
theorem dd38_24 : decode cX5_keyOf 24 = .ok (.goto 4, 3) := by decide +kernel
theorem ww38_24 {d : Nat} {l0 l1 l2 l3 l4 : Option mw_V} {st : List mw_V} {σ : mw_S} {Q : Option mw_V → mw_S → Prop} : mw_WP d 38 24 [l0, l1, l2, l3, l4] st σ Q ↔ mw_WP d 38 28 [l0, l1, l2, l3, l4] st σ Q := WP_goto mq38 dd38_24 (by decide)
theorem dd38_27 : decode cX5_keyOf 27 = .ok (.iconst 0, 1) := by decide +kernel
theorem ww38_27 {d : Nat} {l0 l1 l2 l3 l4 : Option mw_V} {st : List mw_V} {σ : mw_S} {Q : Option mw_V → mw_S → Prop} : mw_WP d 38 27 [l0, l1, l2, l3, l4] st σ Q ↔ mw_WP d 38 28 [l0, l1, l2, l3, l4] (jI (0) :: st) σ Q := WP_iconst mq38 dd38_27 (by decide)
theorem dd38_28 : decode cX5_keyOf 28 = .ok (.istore 4, 2) := by decide +kernel
theorem ww38_28 {d : Nat} {l0 l1 l2 l3 l4 : Option mw_V} {x : Int} {st : List mw_V} {σ : mw_S} {Q : Option mw_V → mw_S → Prop} (h : mw_nlo l3 = true) : mw_WP d 38 28 [l0, l1, l2, l3, l4] (jI x :: st) σ Q ↔ mw_WP d 38 30 [l0, l1, l2, l3, some (jI x)] st σ Q := WP_istore mq38 dd38_28 (Nat.le_of_ble_eq_true rfl) (mw_nl_of (i := 3) rfl h) rfl
theorem dd38_30 : decode cX5_keyOf 30 = .ok (.iload_n 2, 1) := by decide +kernel
theorem ww38_30 {d : Nat} {l0 l1 l3 l4 : Option mw_V} {x : Int} {st : List mw_V} {σ : mw_S} {Q : Option mw_V → mw_S → Prop} : mw_WP d 38 30 [l0, l1, some (jI x), l3, l4] st σ Q ↔ mw_WP d 38 31 [l0, l1, some (jI x), l3, l4] (jI x :: st) σ Q := WP_iload_n mq38 dd38_30 rfl
theorem dd38_31 : decode cX5_keyOf 31 = .ok (.bipush 9, 2) := by decide +kernel
theorem ww38_31 {d : Nat} {l0 l1 l2 l3 l4 : Option mw_V} {st : List mw_V} {σ : mw_S} {Q : Option mw_V → mw_S → Prop} : mw_WP d 38 31 [l0, l1, l2, l3, l4] st σ Q ↔ mw_WP d 38 33 [l0, l1, l2, l3, l4] (jI (9) :: st) σ Q := WP_bipush mq38 dd38_31 (by decide)
theorem dd38_33 : decode cX5_keyOf 33 = .ok (.imul, 1) := by decide +kernel
theorem ww38_33 {d : Nat} {l0 l1 l2 l3 l4 : Option mw_V} {x y : Int} {st : List mw_V} {σ : mw_S} {Q : Option mw_V → mw_S → Prop} : mw_WP d 38 33 [l0, l1, l2, l3, l4] (jI y :: jI x :: st) σ Q ↔ mw_WP d 38 34 [l0, l1, l2, l3, l4] (jI (w32 (x * y)) :: st) σ Q := WP_imul mq38 dd38_33
theorem dd38_34 : decode cX5_keyOf 34 = .ok (.iload 4, 2) := by decide +kernel
theorem ww38_34 {d : Nat} {l0 l1 l2 l3 : Option mw_V} {x : Int} {st : List mw_V} {σ : mw_S} {Q : Option mw_V → mw_S → Prop} : mw_WP d 38 34 [l0, l1, l2, l3, some (jI x)] st σ Q ↔ mw_WP d 38 36 [l0, l1, l2, l3, some (jI x)] (jI x :: st) σ Q := WP_iload mq38 dd38_34 rfl
theorem dd38_36 : decode cX5_keyOf 36 = .ok (.ifCond .eq 7, 3) := by decide +kernel
theorem ww38_36 {d : Nat} {l0 l1 l2 l3 l4 : Option mw_V} {x : Int} {st : List mw_V} {σ : mw_S} {Q : Option mw_V → mw_S → Prop} : mw_WP d 38 36 [l0, l1, l2, l3, l4] (jI x :: st) σ Q ↔ (if x = 0 then mw_WP d 38 43 [l0, l1, l2, l3, l4] st σ Q else mw_WP d 38 39 [l0, l1, l2, l3, l4] st σ Q) := WP_if_eq mq38 dd38_36 (by decide)
theorem dd38_39 : decode cX5_keyOf 39 = .ok (.iconst 0, 1) := by decide +kernel
theorem ww38_39 {d : Nat} {l0 l1 l2 l3 l4 : Option mw_V} {st : List mw_V} {σ : mw_S} {Q : Option mw_V → mw_S → Prop} : mw_WP d 38 39 [l0, l1, l2, l3, l4] st σ Q ↔ mw_WP d 38 40 [l0, l1, l2, l3, l4] (jI (0) :: st) σ Q := WP_iconst mq38 dd38_39 (by decide)
theorem dd38_40 : decode cX5_keyOf 40 = .ok (.goto 9, 3) := by decide +kernel
theorem ww38_40 {d : Nat} {l0 l1 l2 l3 l4 : Option mw_V} {st : List mw_V} {σ : mw_S} {Q : Option mw_V → mw_S → Prop} : mw_WP d 38 40 [l0, l1, l2, l3, l4] st σ Q ↔ mw_WP d 38 49 [l0, l1, l2, l3, l4] st σ Q := WP_goto mq38 dd38_40 (by decide)
theorem dd38_43 : decode cX5_keyOf 43 = .ok (.aload_n 0, 1) := by decide +kernel
theorem ww38_43 {d : Nat} {l1 l2 l3 l4 : Option mw_V} {x : Nat} {st : List mw_V} {σ : mw_S} {Q : Option mw_V → mw_S → Prop} : mw_WP d 38 43 [some (jR x), l1, l2, l3, l4] st σ Q ↔ mw_WP d 38 44 [some (jR x), l1, l2, l3, l4] (jR x :: st) σ Q := WP_aload_n mq38 dd38_43 rfl
theorem dd38_44 : decode cX5_keyOf 44 = .ok (.getfield 28, 3) := by decide +kernel
theorem ww38_44 {d : Nat} {l0 l1 l2 l3 l4 : Option mw_V} {st : List mw_V} {σ : mw_S} {Q : Option mw_V → mw_S → Prop} : mw_WP d 38 44 [l0, l1, l2, l3, l4] (jR 65 :: st) σ Q ↔ mw_WP d 38 47 [l0, l1, l2, l3, l4] (jR 71 :: st) σ Q := WP_getR (ci := 4) (k := 7) mq38 dd38_44 (by decide) rfl
theorem dd38_47 : decode cX5_keyOf 47 = .ok (.iload_n 3, 1) := by decide +kernel
theorem ww38_47 {d : Nat} {l0 l1 l2 l4 : Option mw_V} {x : Int} {st : List mw_V} {σ : mw_S} {Q : Option mw_V → mw_S → Prop} : mw_WP d 38 47 [l0, l1, l2, some (jI x), l4] st σ Q ↔ mw_WP d 38 48 [l0, l1, l2, some (jI x), l4] (jI x :: st) σ Q := WP_iload_n mq38 dd38_47 rfl
theorem dd38_48 : decode cX5_keyOf 48 = .ok (.iaload, 1) := by decide +kernel
theorem ww38_48 {d : Nat} {l0 l1 l2 l3 l4 : Option mw_V} {z : Int} {a : Nat} {st : List mw_V} {σ : mw_S} {Q : Option mw_V → mw_S → Prop} : mw_WP d 38 48 [l0, l1, l2, l3, l4] (jI z :: jR a :: st) σ Q ↔ ((0 ≤ z ∧ z < mw_lenI a) ∧ mw_WP d 38 49 [l0, l1, l2, l3, l4] (jI (mw_rdI σ a z.toNat) :: st) σ Q) := WP_iaload mq38 dd38_48
theorem dd38_49 : decode cX5_keyOf 49 = .ok (.iadd, 1) := by decide +kernel
theorem ww38_49 {d : Nat} {l0 l1 l2 l3 l4 : Option mw_V} {x y : Int} {st : List mw_V} {σ : mw_S} {Q : Option mw_V → mw_S → Prop} : mw_WP d 38 49 [l0, l1, l2, l3, l4] (jI y :: jI x :: st) σ Q ↔ mw_WP d 38 50 [l0, l1, l2, l3, l4] (jI (w32 (x + y)) :: st) σ Q := WP_iadd mq38 dd38_49
theorem dd38_50 : decode cX5_keyOf 50 = .ok (.istore_n 2, 1) := by decide +kernel
theorem ww38_50 {d : Nat} {l0 l1 l2 l3 l4 : Option mw_V} {x : Int} {st : List mw_V} {σ : mw_S} {Q : Option mw_V → mw_S → Prop} (h : mw_nlo l1 = true) : mw_WP d 38 50 [l0, l1, l2, l3, l4] (jI x :: st) σ Q ↔ mw_WP d 38 51 [l0, l1, some (jI x), l3, l4] st σ Q := WP_istore_n mq38 dd38_50 (Nat.le_of_ble_eq_true rfl) (mw_nl_of (i := 1) rfl h) rfl
theorem dd38_51 : decode cX5_keyOf 51 = .ok (.iinc 3 1, 3) := by decide +kernel
theorem ww38_51 {d : Nat} {l0 l1 l2 l4 : Option mw_V} {x : Int} {st : List mw_V} {σ : mw_S} {Q : Option mw_V → mw_S → Prop} (h : mw_nlo l2 = true) : mw_WP d 38 51 [l0, l1, l2, some (jI x), l4] st σ Q ↔ mw_WP d 38 54 [l0, l1, l2, some (jI (w32 (x + (1)))), l4] st σ Q := WP_iinc mq38 dd38_51 rfl (Nat.le_of_ble_eq_true rfl) (mw_nl_of (i := 2) rfl h) rfl
theorem dd38_54 : decode cX5_keyOf 54 = .ok (.goto (-50), 3) := by decide +kernel
theorem ww38_54 {d : Nat} {l0 l1 l2 l3 l4 : Option mw_V} {st : List mw_V} {σ : mw_S} {Q : Option mw_V → mw_S → Prop} : mw_WP d 38 54 [l0, l1, l2, l3, l4] st σ Q ↔ mw_WP d 38 4 [l0, l1, l2, l3, l4] st σ Q := WP_goto mq38 dd38_54 (by decide)
theorem dd38_57 : decode cX5_keyOf 57 = .ok (.iload_n 2, 1) := by decide +kernel
theorem ww38_57 {d : Nat} {l0 l1 l3 l4 : Option mw_V} {x : Int} {st : List mw_V} {σ : mw_S} {Q : Option mw_V → mw_S → Prop} : mw_WP d 38 57 [l0, l1, some (jI x), l3, l4] st σ Q ↔ mw_WP d 38 58 [l0, l1, some (jI x), l3, l4] (jI x :: st) σ Q := WP_iload_n mq38 dd38_57 rfl
theorem dd38_58 : decode cX5_keyOf 58 = .ok (.ireturn, 1) := by decide +kernel
theorem ww38_58 {d : Nat} {l0 l1 l2 l3 l4 : Option mw_V} {z : Int} {σ : mw_S} {Q : Option mw_V → mw_S → Prop} : mw_WP d 38 58 [l0, l1, l2, l3, l4] [jI z] σ Q ↔ Q (some (jI z)) σ := WP_ireturn (ty := .int) mq38 dd38_58 rfl rfl
theorem ee39 {d : Nat} {a : Nat} {z0 : Int} {z1 : Int} {σ : mw_S} {Q : Option mw_V → mw_S → Prop} : mw_Call (d + 1) 39 [jR a, jI z0, jI z1] σ Q ↔ mw_WP d 39 0 [some (jR a), some (jI z0), some (jI z1), none] [] σ Q := CL_u mq39 (Nat.le_of_ble_eq_true rfl) rfl
theorem dd39_0 : decode cX5_addPart 0 = .ok (.iconst 0, 1) := by decide +kernel
theorem ww39_0 {d : Nat} {l0 l1 l2 l3 : Option mw_V} {st : List mw_V} {σ : mw_S} {Q : Option mw_V → mw_S → Prop} : mw_WP d 39 0 [l0, l1, l2, l3] st σ Q ↔ mw_WP d 39 1 [l0, l1, l2, l3] (jI (0) :: st) σ Q := WP_iconst mq39 dd39_0 (by decide)
theorem dd39_1 : decode cX5_addPart 1 = .ok (.istore_n 3, 1) := by decide +kernel
theorem ww39_1 {d : Nat} {l0 l1 l2 l3 : Option mw_V} {x : Int} {st : List mw_V} {σ : mw_S} {Q : Option mw_V → mw_S → Prop} (h : mw_nlo l2 = true) : mw_WP d 39 1 [l0, l1, l2, l3] (jI x :: st) σ Q ↔ mw_WP d 39 2 [l0, l1, l2, some (jI x)] st σ Q := WP_istore_n mq39 dd39_1 (Nat.le_of_ble_eq_true rfl) (mw_nl_of (i := 2) rfl h) rfl
theorem dd39_2 : decode cX5_addPart 2 = .ok (.iload_n 3, 1) := by decide +kernel
theorem ww39_2 {d : Nat} {l0 l1 l2 : Option mw_V} {x : Int} {st : List mw_V} {σ : mw_S} {Q : Option mw_V → mw_S → Prop} : mw_WP d 39 2 [l0, l1, l2, some (jI x)] st σ Q ↔ mw_WP d 39 3 [l0, l1, l2, some (jI x)] (jI x :: st) σ Q := WP_iload_n mq39 dd39_2 rfl
theorem dd39_3 : decode cX5_addPart 3 = .ok (.aload_n 0, 1) := by decide +kernel
theorem ww39_3 {d : Nat} {l1 l2 l3 : Option mw_V} {x : Nat} {st : List mw_V} {σ : mw_S} {Q : Option mw_V → mw_S → Prop} : mw_WP d 39 3 [some (jR x), l1, l2, l3] st σ Q ↔ mw_WP d 39 4 [some (jR x), l1, l2, l3] (jR x :: st) σ Q := WP_aload_n mq39 dd39_3 rfl
theorem dd39_4 : decode cX5_addPart 4 = .ok (.getfield 85, 3) := by decide +kernel
theorem ww39_4 {d : Nat} {l0 l1 l2 l3 : Option mw_V} {st : List mw_V} {σ : mw_S} {Q : Option mw_V → mw_S → Prop} : mw_WP d 39 4 [l0, l1, l2, l3] (jR 65 :: st) σ Q ↔ mw_WP d 39 7 [l0, l1, l2, l3] (jI (σ 65 11) :: st) σ Q := WP_getI (ci := 4) (k := 11) mq39 dd39_4 (by decide) (Or.inl rfl)
theorem dd39_7 : decode cX5_addPart 7 = .ok (.if_icmp .ge 30, 3) := by decide +kernel
theorem ww39_7 {d : Nat} {l0 l1 l2 l3 : Option mw_V} {x y : Int} {st : List mw_V} {σ : mw_S} {Q : Option mw_V → mw_S → Prop} : mw_WP d 39 7 [l0, l1, l2, l3] (jI y :: jI x :: st) σ Q ↔ (if y ≤ x then mw_WP d 39 37 [l0, l1, l2, l3] st σ Q else mw_WP d 39 10 [l0, l1, l2, l3] st σ Q) := WP_icmp_ge mq39 dd39_7 (by decide)
theorem dd39_10 : decode cX5_addPart 10 = .ok (.aload_n 0, 1) := by decide +kernel
theorem ww39_10 {d : Nat} {l1 l2 l3 : Option mw_V} {x : Nat} {st : List mw_V} {σ : mw_S} {Q : Option mw_V → mw_S → Prop} : mw_WP d 39 10 [some (jR x), l1, l2, l3] st σ Q ↔ mw_WP d 39 11 [some (jR x), l1, l2, l3] (jR x :: st) σ Q := WP_aload_n mq39 dd39_10 rfl
theorem dd39_11 : decode cX5_addPart 11 = .ok (.getfield 31, 3) := by decide +kernel
theorem ww39_11 {d : Nat} {l0 l1 l2 l3 : Option mw_V} {st : List mw_V} {σ : mw_S} {Q : Option mw_V → mw_S → Prop} : mw_WP d 39 11 [l0, l1, l2, l3] (jR 65 :: st) σ Q ↔ mw_WP d 39 14 [l0, l1, l2, l3] (jR 72 :: st) σ Q := WP_getR (ci := 4) (k := 8) mq39 dd39_11 (by decide) rfl
theorem dd39_14 : decode cX5_addPart 14 = .ok (.iload_n 3, 1) := by decide +kernel
theorem ww39_14 {d : Nat} {l0 l1 l2 : Option mw_V} {x : Int} {st : List mw_V} {σ : mw_S} {Q : Option mw_V → mw_S → Prop} : mw_WP d 39 14 [l0, l1, l2, some (jI x)] st σ Q ↔ mw_WP d 39 15 [l0, l1, l2, some (jI x)] (jI x :: st) σ Q := WP_iload_n mq39 dd39_14 rfl
theorem dd39_15 : decode cX5_addPart 15 = .ok (.iaload, 1) := by decide +kernel
theorem ww39_15 {d : Nat} {l0 l1 l2 l3 : Option mw_V} {z : Int} {a : Nat} {st : List mw_V} {σ : mw_S} {Q : Option mw_V → mw_S → Prop} : mw_WP d 39 15 [l0, l1, l2, l3] (jI z :: jR a :: st) σ Q ↔ ((0 ≤ z ∧ z < mw_lenI a) ∧ mw_WP d 39 16 [l0, l1, l2, l3] (jI (mw_rdI σ a z.toNat) :: st) σ Q) := WP_iaload mq39 dd39_15
theorem dd39_16 : decode cX5_addPart 16 = .ok (.iload_n 1, 1) := by decide +kernel
theorem ww39_16 {d : Nat} {l0 l2 l3 : Option mw_V} {x : Int} {st : List mw_V} {σ : mw_S} {Q : Option mw_V → mw_S → Prop} : mw_WP d 39 16 [l0, some (jI x), l2, l3] st σ Q ↔ mw_WP d 39 17 [l0, some (jI x), l2, l3] (jI x :: st) σ Q := WP_iload_n mq39 dd39_16 rfl
theorem dd39_17 : decode cX5_addPart 17 = .ok (.if_icmp .ne 14, 3) := by decide +kernel
theorem ww39_17 {d : Nat} {l0 l1 l2 l3 : Option mw_V} {x y : Int} {st : List mw_V} {σ : mw_S} {Q : Option mw_V → mw_S → Prop} : mw_WP d 39 17 [l0, l1, l2, l3] (jI y :: jI x :: st) σ Q ↔ (if ¬ x = y then mw_WP d 39 31 [l0, l1, l2, l3] st σ Q else mw_WP d 39 20 [l0, l1, l2, l3] st σ Q) := WP_icmp_ne mq39 dd39_17 (by decide)
theorem dd39_20 : decode cX5_addPart 20 = .ok (.aload_n 0, 1) := by decide +kernel
theorem ww39_20 {d : Nat} {l1 l2 l3 : Option mw_V} {x : Nat} {st : List mw_V} {σ : mw_S} {Q : Option mw_V → mw_S → Prop} : mw_WP d 39 20 [some (jR x), l1, l2, l3] st σ Q ↔ mw_WP d 39 21 [some (jR x), l1, l2, l3] (jR x :: st) σ Q := WP_aload_n mq39 dd39_20 rfl
theorem dd39_21 : decode cX5_addPart 21 = .ok (.getfield 34, 3) := by decide +kernel
theorem ww39_21 {d : Nat} {l0 l1 l2 l3 : Option mw_V} {st : List mw_V} {σ : mw_S} {Q : Option mw_V → mw_S → Prop} : mw_WP d 39 21 [l0, l1, l2, l3] (jR 65 :: st) σ Q ↔ mw_WP d 39 24 [l0, l1, l2, l3] (jR 73 :: st) σ Q := WP_getR (ci := 4) (k := 9) mq39 dd39_21 (by decide) rfl
theorem dd39_24 : decode cX5_addPart 24 = .ok (.iload_n 3, 1) := by decide +kernel
theorem ww39_24 {d : Nat} {l0 l1 l2 : Option mw_V} {x : Int} {st : List mw_V} {σ : mw_S} {Q : Option mw_V → mw_S → Prop} : mw_WP d 39 24 [l0, l1, l2, some (jI x)] st σ Q ↔ mw_WP d 39 25 [l0, l1, l2, some (jI x)] (jI x :: st) σ Q := WP_iload_n mq39 dd39_24 rfl
theorem dd39_25 : decode cX5_addPart 25 = .ok (.dup2, 1) := by decide +kernel
theorem ww39_25 {d : Nat} {l0 l1 l2 l3 : Option mw_V} {v w : mw_V} {st : List mw_V} {σ : mw_S} {Q : Option mw_V → mw_S → Prop} (h : mw_cat v = 1) (h2 : mw_cat w = 1) : mw_WP d 39 25 [l0, l1, l2, l3] (v :: w :: st) σ Q ↔ mw_WP d 39 26 [l0, l1, l2, l3] (v :: w :: v :: w :: st) σ Q := WP_dup2 mq39 dd39_25 h h2
theorem dd39_26 : decode cX5_addPart 26 = .ok (.iaload, 1) := by decide +kernel
theorem ww39_26 {d : Nat} {l0 l1 l2 l3 : Option mw_V} {z : Int} {a : Nat} {st : List mw_V} {σ : mw_S} {Q : Option mw_V → mw_S → Prop} : mw_WP d 39 26 [l0, l1, l2, l3] (jI z :: jR a :: st) σ Q ↔ ((0 ≤ z ∧ z < mw_lenI a) ∧ mw_WP d 39 27 [l0, l1, l2, l3] (jI (mw_rdI σ a z.toNat) :: st) σ Q) := WP_iaload mq39 dd39_26
theorem dd39_27 : decode cX5_addPart 27 = .ok (.iload_n 2, 1) := by decide +kernel
theorem ww39_27 {d : Nat} {l0 l1 l3 : Option mw_V} {x : Int} {st : List mw_V} {σ : mw_S} {Q : Option mw_V → mw_S → Prop} : mw_WP d 39 27 [l0, l1, some (jI x), l3] st σ Q ↔ mw_WP d 39 28 [l0, l1, some (jI x), l3] (jI x :: st) σ Q := WP_iload_n mq39 dd39_27 rfl
theorem dd39_28 : decode cX5_addPart 28 = .ok (.iadd, 1) := by decide +kernel
theorem ww39_28 {d : Nat} {l0 l1 l2 l3 : Option mw_V} {x y : Int} {st : List mw_V} {σ : mw_S} {Q : Option mw_V → mw_S → Prop} : mw_WP d 39 28 [l0, l1, l2, l3] (jI y :: jI x :: st) σ Q ↔ mw_WP d 39 29 [l0, l1, l2, l3] (jI (w32 (x + y)) :: st) σ Q := WP_iadd mq39 dd39_28
theorem dd39_29 : decode cX5_addPart 29 = .ok (.iastore, 1) := by decide +kernel
theorem ww39_29 {d : Nat} {l0 l1 l2 l3 : Option mw_V} {x z : Int} {a : Nat} {st : List mw_V} {σ : mw_S} {Q : Option mw_V → mw_S → Prop} : mw_WP d 39 29 [l0, l1, l2, l3] (jI x :: jI z :: jR a :: st) σ Q ↔ ((0 ≤ z ∧ z < mw_lenW 0 a) ∧ mw_WP d 39 30 [l0, l1, l2, l3] st (upS σ a z.toNat x) Q) := WP_iastore mq39 dd39_29
theorem dd39_30 : decode cX5_addPart 30 = .ok (.return_, 1) := by decide +kernel
theorem ww39_30 {d : Nat} {l0 l1 l2 l3 : Option mw_V} {σ : mw_S} {Q : Option mw_V → mw_S → Prop} : mw_WP d 39 30 [l0, l1, l2, l3] [] σ Q ↔ Q none σ := WP_return mq39 dd39_30 rfl
theorem dd39_31 : decode cX5_addPart 31 = .ok (.iinc 3 1, 3) := by decide +kernel
theorem ww39_31 {d : Nat} {l0 l1 l2 : Option mw_V} {x : Int} {st : List mw_V} {σ : mw_S} {Q : Option mw_V → mw_S → Prop} (h : mw_nlo l2 = true) : mw_WP d 39 31 [l0, l1, l2, some (jI x)] st σ Q ↔ mw_WP d 39 34 [l0, l1, l2, some (jI (w32 (x + (1))))] st σ Q := WP_iinc mq39 dd39_31 rfl (Nat.le_of_ble_eq_true rfl) (mw_nl_of (i := 2) rfl h) rfl
theorem dd39_34 : decode cX5_addPart 34 = .ok (.goto (-32), 3) := by decide +kernel
theorem ww39_34 {d : Nat} {l0 l1 l2 l3 : Option mw_V} {st : List mw_V} {σ : mw_S} {Q : Option mw_V → mw_S → Prop} : mw_WP d 39 34 [l0, l1, l2, l3] st σ Q ↔ mw_WP d 39 2 [l0, l1, l2, l3] st σ Q := WP_goto mq39 dd39_34 (by decide)
theorem dd39_37 : decode cX5_addPart 37 = .ok (.aload_n 0, 1) := by decide +kernel
theorem ww39_37 {d : Nat} {l1 l2 l3 : Option mw_V} {x : Nat} {st : List mw_V} {σ : mw_S} {Q : Option mw_V → mw_S → Prop} : mw_WP d 39 37 [some (jR x), l1, l2, l3] st σ Q ↔ mw_WP d 39 38 [some (jR x), l1, l2, l3] (jR x :: st) σ Q := WP_aload_n mq39 dd39_37 rfl
theorem dd39_38 : decode cX5_addPart 38 = .ok (.getfield 85, 3) := by decide +kernel
theorem ww39_38 {d : Nat} {l0 l1 l2 l3 : Option mw_V} {st : List mw_V} {σ : mw_S} {Q : Option mw_V → mw_S → Prop} : mw_WP d 39 38 [l0, l1, l2, l3] (jR 65 :: st) σ Q ↔ mw_WP d 39 41 [l0, l1, l2, l3] (jI (σ 65 11) :: st) σ Q := WP_getI (ci := 4) (k := 11) mq39 dd39_38 (by decide) (Or.inl rfl)
theorem dd39_41 : decode cX5_addPart 41 = .ok (.sipush 160, 3) := by decide +kernel
theorem ww39_41 {d : Nat} {l0 l1 l2 l3 : Option mw_V} {st : List mw_V} {σ : mw_S} {Q : Option mw_V → mw_S → Prop} : mw_WP d 39 41 [l0, l1, l2, l3] st σ Q ↔ mw_WP d 39 44 [l0, l1, l2, l3] (jI (160) :: st) σ Q := WP_sipush mq39 dd39_41 (by decide)
theorem dd39_44 : decode cX5_addPart 44 = .ok (.if_icmp .ge 33, 3) := by decide +kernel
theorem ww39_44 {d : Nat} {l0 l1 l2 l3 : Option mw_V} {x y : Int} {st : List mw_V} {σ : mw_S} {Q : Option mw_V → mw_S → Prop} : mw_WP d 39 44 [l0, l1, l2, l3] (jI y :: jI x :: st) σ Q ↔ (if y ≤ x then mw_WP d 39 77 [l0, l1, l2, l3] st σ Q else mw_WP d 39 47 [l0, l1, l2, l3] st σ Q) := WP_icmp_ge mq39 dd39_44 (by decide)
theorem dd39_47 : decode cX5_addPart 47 = .ok (.aload_n 0, 1) := by decide +kernel
theorem ww39_47 {d : Nat} {l1 l2 l3 : Option mw_V} {x : Nat} {st : List mw_V} {σ : mw_S} {Q : Option mw_V → mw_S → Prop} : mw_WP d 39 47 [some (jR x), l1, l2, l3] st σ Q ↔ mw_WP d 39 48 [some (jR x), l1, l2, l3] (jR x :: st) σ Q := WP_aload_n mq39 dd39_47 rfl
theorem dd39_48 : decode cX5_addPart 48 = .ok (.getfield 31, 3) := by decide +kernel
theorem ww39_48 {d : Nat} {l0 l1 l2 l3 : Option mw_V} {st : List mw_V} {σ : mw_S} {Q : Option mw_V → mw_S → Prop} : mw_WP d 39 48 [l0, l1, l2, l3] (jR 65 :: st) σ Q ↔ mw_WP d 39 51 [l0, l1, l2, l3] (jR 72 :: st) σ Q := WP_getR (ci := 4) (k := 8) mq39 dd39_48 (by decide) rfl
theorem dd39_51 : decode cX5_addPart 51 = .ok (.aload_n 0, 1) := by decide +kernel
theorem ww39_51 {d : Nat} {l1 l2 l3 : Option mw_V} {x : Nat} {st : List mw_V} {σ : mw_S} {Q : Option mw_V → mw_S → Prop} : mw_WP d 39 51 [some (jR x), l1, l2, l3] st σ Q ↔ mw_WP d 39 52 [some (jR x), l1, l2, l3] (jR x :: st) σ Q := WP_aload_n mq39 dd39_51 rfl
theorem dd39_52 : decode cX5_addPart 52 = .ok (.getfield 85, 3) := by decide +kernel
theorem ww39_52 {d : Nat} {l0 l1 l2 l3 : Option mw_V} {st : List mw_V} {σ : mw_S} {Q : Option mw_V → mw_S → Prop} : mw_WP d 39 52 [l0, l1, l2, l3] (jR 65 :: st) σ Q ↔ mw_WP d 39 55 [l0, l1, l2, l3] (jI (σ 65 11) :: st) σ Q := WP_getI (ci := 4) (k := 11) mq39 dd39_52 (by decide) (Or.inl rfl)
theorem dd39_55 : decode cX5_addPart 55 = .ok (.iload_n 1, 1) := by decide +kernel
theorem ww39_55 {d : Nat} {l0 l2 l3 : Option mw_V} {x : Int} {st : List mw_V} {σ : mw_S} {Q : Option mw_V → mw_S → Prop} : mw_WP d 39 55 [l0, some (jI x), l2, l3] st σ Q ↔ mw_WP d 39 56 [l0, some (jI x), l2, l3] (jI x :: st) σ Q := WP_iload_n mq39 dd39_55 rfl
theorem dd39_56 : decode cX5_addPart 56 = .ok (.iastore, 1) := by decide +kernel
theorem ww39_56 {d : Nat} {l0 l1 l2 l3 : Option mw_V} {x z : Int} {a : Nat} {st : List mw_V} {σ : mw_S} {Q : Option mw_V → mw_S → Prop} : mw_WP d 39 56 [l0, l1, l2, l3] (jI x :: jI z :: jR a :: st) σ Q ↔ ((0 ≤ z ∧ z < mw_lenW 0 a) ∧ mw_WP d 39 57 [l0, l1, l2, l3] st (upS σ a z.toNat x) Q) := WP_iastore mq39 dd39_56
theorem dd39_57 : decode cX5_addPart 57 = .ok (.aload_n 0, 1) := by decide +kernel
theorem ww39_57 {d : Nat} {l1 l2 l3 : Option mw_V} {x : Nat} {st : List mw_V} {σ : mw_S} {Q : Option mw_V → mw_S → Prop} : mw_WP d 39 57 [some (jR x), l1, l2, l3] st σ Q ↔ mw_WP d 39 58 [some (jR x), l1, l2, l3] (jR x :: st) σ Q := WP_aload_n mq39 dd39_57 rfl
theorem dd39_58 : decode cX5_addPart 58 = .ok (.getfield 34, 3) := by decide +kernel
theorem ww39_58 {d : Nat} {l0 l1 l2 l3 : Option mw_V} {st : List mw_V} {σ : mw_S} {Q : Option mw_V → mw_S → Prop} : mw_WP d 39 58 [l0, l1, l2, l3] (jR 65 :: st) σ Q ↔ mw_WP d 39 61 [l0, l1, l2, l3] (jR 73 :: st) σ Q := WP_getR (ci := 4) (k := 9) mq39 dd39_58 (by decide) rfl
theorem dd39_61 : decode cX5_addPart 61 = .ok (.aload_n 0, 1) := by decide +kernel
theorem ww39_61 {d : Nat} {l1 l2 l3 : Option mw_V} {x : Nat} {st : List mw_V} {σ : mw_S} {Q : Option mw_V → mw_S → Prop} : mw_WP d 39 61 [some (jR x), l1, l2, l3] st σ Q ↔ mw_WP d 39 62 [some (jR x), l1, l2, l3] (jR x :: st) σ Q := WP_aload_n mq39 dd39_61 rfl
theorem dd39_62 : decode cX5_addPart 62 = .ok (.getfield 85, 3) := by decide +kernel
theorem ww39_62 {d : Nat} {l0 l1 l2 l3 : Option mw_V} {st : List mw_V} {σ : mw_S} {Q : Option mw_V → mw_S → Prop} : mw_WP d 39 62 [l0, l1, l2, l3] (jR 65 :: st) σ Q ↔ mw_WP d 39 65 [l0, l1, l2, l3] (jI (σ 65 11) :: st) σ Q := WP_getI (ci := 4) (k := 11) mq39 dd39_62 (by decide) (Or.inl rfl)
theorem dd39_65 : decode cX5_addPart 65 = .ok (.iload_n 2, 1) := by decide +kernel
theorem ww39_65 {d : Nat} {l0 l1 l3 : Option mw_V} {x : Int} {st : List mw_V} {σ : mw_S} {Q : Option mw_V → mw_S → Prop} : mw_WP d 39 65 [l0, l1, some (jI x), l3] st σ Q ↔ mw_WP d 39 66 [l0, l1, some (jI x), l3] (jI x :: st) σ Q := WP_iload_n mq39 dd39_65 rfl
theorem dd39_66 : decode cX5_addPart 66 = .ok (.iastore, 1) := by decide +kernel
theorem ww39_66 {d : Nat} {l0 l1 l2 l3 : Option mw_V} {x z : Int} {a : Nat} {st : List mw_V} {σ : mw_S} {Q : Option mw_V → mw_S → Prop} : mw_WP d 39 66 [l0, l1, l2, l3] (jI x :: jI z :: jR a :: st) σ Q ↔ ((0 ≤ z ∧ z < mw_lenW 0 a) ∧ mw_WP d 39 67 [l0, l1, l2, l3] st (upS σ a z.toNat x) Q) := WP_iastore mq39 dd39_66
theorem dd39_67 : decode cX5_addPart 67 = .ok (.aload_n 0, 1) := by decide +kernel
theorem ww39_67 {d : Nat} {l1 l2 l3 : Option mw_V} {x : Nat} {st : List mw_V} {σ : mw_S} {Q : Option mw_V → mw_S → Prop} : mw_WP d 39 67 [some (jR x), l1, l2, l3] st σ Q ↔ mw_WP d 39 68 [some (jR x), l1, l2, l3] (jR x :: st) σ Q := WP_aload_n mq39 dd39_67 rfl
theorem dd39_68 : decode cX5_addPart 68 = .ok (.dup, 1) := by decide +kernel
theorem ww39_68 {d : Nat} {l0 l1 l2 l3 : Option mw_V} {v : mw_V} {st : List mw_V} {σ : mw_S} {Q : Option mw_V → mw_S → Prop} (h : mw_cat v = 1) : mw_WP d 39 68 [l0, l1, l2, l3] (v :: st) σ Q ↔ mw_WP d 39 69 [l0, l1, l2, l3] (v :: v :: st) σ Q := WP_dup mq39 dd39_68 h
theorem dd39_69 : decode cX5_addPart 69 = .ok (.getfield 85, 3) := by decide +kernel
theorem ww39_69 {d : Nat} {l0 l1 l2 l3 : Option mw_V} {st : List mw_V} {σ : mw_S} {Q : Option mw_V → mw_S → Prop} : mw_WP d 39 69 [l0, l1, l2, l3] (jR 65 :: st) σ Q ↔ mw_WP d 39 72 [l0, l1, l2, l3] (jI (σ 65 11) :: st) σ Q := WP_getI (ci := 4) (k := 11) mq39 dd39_69 (by decide) (Or.inl rfl)
theorem dd39_72 : decode cX5_addPart 72 = .ok (.iconst 1, 1) := by decide +kernel
theorem ww39_72 {d : Nat} {l0 l1 l2 l3 : Option mw_V} {st : List mw_V} {σ : mw_S} {Q : Option mw_V → mw_S → Prop} : mw_WP d 39 72 [l0, l1, l2, l3] st σ Q ↔ mw_WP d 39 73 [l0, l1, l2, l3] (jI (1) :: st) σ Q := WP_iconst mq39 dd39_72 (by decide)
theorem dd39_73 : decode cX5_addPart 73 = .ok (.iadd, 1) := by decide +kernel
theorem ww39_73 {d : Nat} {l0 l1 l2 l3 : Option mw_V} {x y : Int} {st : List mw_V} {σ : mw_S} {Q : Option mw_V → mw_S → Prop} : mw_WP d 39 73 [l0, l1, l2, l3] (jI y :: jI x :: st) σ Q ↔ mw_WP d 39 74 [l0, l1, l2, l3] (jI (w32 (x + y)) :: st) σ Q := WP_iadd mq39 dd39_73
theorem dd39_74 : decode cX5_addPart 74 = .ok (.putfield 85, 3) := by decide +kernel
theorem ww39_74 {d : Nat} {l0 l1 l2 l3 : Option mw_V} {v : Int} {st : List mw_V} {σ : mw_S} {Q : Option mw_V → mw_S → Prop} : mw_WP d 39 74 [l0, l1, l2, l3] (jI v :: jR 65 :: st) σ Q ↔ mw_WP d 39 77 [l0, l1, l2, l3] st (upS σ 65 11 v) Q := WP_putI (ci := 4) (k := 11) mq39 dd39_74 (by decide) rfl
theorem dd39_77 : decode cX5_addPart 77 = .ok (.return_, 1) := by decide +kernel
theorem ww39_77 {d : Nat} {l0 l1 l2 l3 : Option mw_V} {σ : mw_S} {Q : Option mw_V → mw_S → Prop} : mw_WP d 39 77 [l0, l1, l2, l3] [] σ Q ↔ Q none σ := WP_return mq39 dd39_77 rfl
theorem ee78 {d : Nat} {a : Nat} {a0 : Nat} {z1 : Int} {z2 : Int} {z3 : Int} {σ : mw_S} {Q : Option mw_V → mw_S → Prop} : mw_Call (d + 1) 78 [jR a, jR a0, jI z1, jI z2, jI z3] σ Q ↔ mw_WP d 78 0 [some (jR a), some (jR a0), some (jI z1), some (jI z2), some (jI z3), none] [] σ Q := CL_u mq78 (Nat.le_of_ble_eq_true rfl) rfl
theorem dd78_0 : decode cX8_fewestSteps 0 = .ok (.aload_n 0, 1) := by decide +kernel
theorem ww78_0 {d : Nat} {l1 l2 l3 l4 l5 : Option mw_V} {x : Nat} {st : List mw_V} {σ : mw_S} {Q : Option mw_V → mw_S → Prop} : mw_WP d 78 0 [some (jR x), l1, l2, l3, l4, l5] st σ Q ↔ mw_WP d 78 1 [some (jR x), l1, l2, l3, l4, l5] (jR x :: st) σ Q := WP_aload_n mq78 dd78_0 rfl
theorem dd78_1 : decode cX8_fewestSteps 1 = .ok (.iload_n 2, 1) := by decide +kernel
theorem ww78_1 {d : Nat} {l0 l1 l3 l4 l5 : Option mw_V} {x : Int} {st : List mw_V} {σ : mw_S} {Q : Option mw_V → mw_S → Prop} : mw_WP d 78 1 [l0, l1, some (jI x), l3, l4, l5] st σ Q ↔ mw_WP d 78 2 [l0, l1, some (jI x), l3, l4, l5] (jI x :: st) σ Q := WP_iload_n mq78 dd78_1 rfl
theorem dd78_2 : decode cX8_fewestSteps 2 = .ok (.putfield 31, 3) := by decide +kernel
theorem ww78_2 {d : Nat} {l0 l1 l2 l3 l4 l5 : Option mw_V} {v : Int} {st : List mw_V} {σ : mw_S} {Q : Option mw_V → mw_S → Prop} : mw_WP d 78 2 [l0, l1, l2, l3, l4, l5] (jI v :: jR 45 :: st) σ Q ↔ mw_WP d 78 5 [l0, l1, l2, l3, l4, l5] st (upS σ 45 7 v) Q := WP_putI (ci := 7) (k := 7) mq78 dd78_2 (by decide) rfl
theorem dd78_5 : decode cX8_fewestSteps 5 = .ok (.aload_n 0, 1) := by decide +kernel
theorem ww78_5 {d : Nat} {l1 l2 l3 l4 l5 : Option mw_V} {x : Nat} {st : List mw_V} {σ : mw_S} {Q : Option mw_V → mw_S → Prop} : mw_WP d 78 5 [some (jR x), l1, l2, l3, l4, l5] st σ Q ↔ mw_WP d 78 6 [some (jR x), l1, l2, l3, l4, l5] (jR x :: st) σ Q := WP_aload_n mq78 dd78_5 rfl
theorem dd78_6 : decode cX8_fewestSteps 6 = .ok (.iload_n 3, 1) := by decide +kernel
theorem ww78_6 {d : Nat} {l0 l1 l2 l4 l5 : Option mw_V} {x : Int} {st : List mw_V} {σ : mw_S} {Q : Option mw_V → mw_S → Prop} : mw_WP d 78 6 [l0, l1, l2, some (jI x), l4, l5] st σ Q ↔ mw_WP d 78 7 [l0, l1, l2, some (jI x), l4, l5] (jI x :: st) σ Q := WP_iload_n mq78 dd78_6 rfl
theorem dd78_7 : decode cX8_fewestSteps 7 = .ok (.putfield 35, 3) := by decide +kernel
theorem ww78_7 {d : Nat} {l0 l1 l2 l3 l4 l5 : Option mw_V} {v : Int} {st : List mw_V} {σ : mw_S} {Q : Option mw_V → mw_S → Prop} : mw_WP d 78 7 [l0, l1, l2, l3, l4, l5] (jI v :: jR 45 :: st) σ Q ↔ mw_WP d 78 10 [l0, l1, l2, l3, l4, l5] st (upS σ 45 8 v) Q := WP_putI (ci := 7) (k := 8) mq78 dd78_7 (by decide) rfl
theorem dd78_10 : decode cX8_fewestSteps 10 = .ok (.aload_n 0, 1) := by decide +kernel
theorem ww78_10 {d : Nat} {l1 l2 l3 l4 l5 : Option mw_V} {x : Nat} {st : List mw_V} {σ : mw_S} {Q : Option mw_V → mw_S → Prop} : mw_WP d 78 10 [some (jR x), l1, l2, l3, l4, l5] st σ Q ↔ mw_WP d 78 11 [some (jR x), l1, l2, l3, l4, l5] (jR x :: st) σ Q := WP_aload_n mq78 dd78_10 rfl
theorem dd78_11 : decode cX8_fewestSteps 11 = .ok (.iload 4, 2) := by decide +kernel
theorem ww78_11 {d : Nat} {l0 l1 l2 l3 l5 : Option mw_V} {x : Int} {st : List mw_V} {σ : mw_S} {Q : Option mw_V → mw_S → Prop} : mw_WP d 78 11 [l0, l1, l2, l3, some (jI x), l5] st σ Q ↔ mw_WP d 78 13 [l0, l1, l2, l3, some (jI x), l5] (jI x :: st) σ Q := WP_iload mq78 dd78_11 rfl
theorem dd78_13 : decode cX8_fewestSteps 13 = .ok (.putfield 38, 3) := by decide +kernel
theorem ww78_13 {d : Nat} {l0 l1 l2 l3 l4 l5 : Option mw_V} {v : Int} {st : List mw_V} {σ : mw_S} {Q : Option mw_V → mw_S → Prop} : mw_WP d 78 13 [l0, l1, l2, l3, l4, l5] (jI v :: jR 45 :: st) σ Q ↔ mw_WP d 78 16 [l0, l1, l2, l3, l4, l5] st (upS σ 45 9 v) Q := WP_putI (ci := 7) (k := 9) mq78 dd78_13 (by decide) rfl
theorem dd78_16 : decode cX8_fewestSteps 16 = .ok (.aload_n 1, 1) := by decide +kernel
theorem ww78_16 {d : Nat} {l0 l2 l3 l4 l5 : Option mw_V} {x : Nat} {st : List mw_V} {σ : mw_S} {Q : Option mw_V → mw_S → Prop} : mw_WP d 78 16 [l0, some (jR x), l2, l3, l4, l5] st σ Q ↔ mw_WP d 78 17 [l0, some (jR x), l2, l3, l4, l5] (jR x :: st) σ Q := WP_aload_n mq78 dd78_16 rfl
theorem dd78_17 : decode cX8_fewestSteps 17 = .ok (.aload_n 0, 1) := by decide +kernel
theorem ww78_17 {d : Nat} {l1 l2 l3 l4 l5 : Option mw_V} {x : Nat} {st : List mw_V} {σ : mw_S} {Q : Option mw_V → mw_S → Prop} : mw_WP d 78 17 [some (jR x), l1, l2, l3, l4, l5] st σ Q ↔ mw_WP d 78 18 [some (jR x), l1, l2, l3, l4, l5] (jR x :: st) σ Q := WP_aload_n mq78 dd78_17 rfl
theorem dd78_18 : decode cX8_fewestSteps 18 = .ok (.getfield 13, 3) := by decide +kernel
theorem ww78_18 {d : Nat} {l0 l1 l2 l3 l4 l5 : Option mw_V} {st : List mw_V} {σ : mw_S} {Q : Option mw_V → mw_S → Prop} : mw_WP d 78 18 [l0, l1, l2, l3, l4, l5] (jR 45 :: st) σ Q ↔ mw_WP d 78 21 [l0, l1, l2, l3, l4, l5] (jR 46 :: st) σ Q := WP_getR (ci := 7) (k := 3) mq78 dd78_18 (by decide) rfl
theorem dd78_21 : decode cX8_fewestSteps 21 = .ok (.iconst 0, 1) := by decide +kernel
theorem ww78_21 {d : Nat} {l0 l1 l2 l3 l4 l5 : Option mw_V} {st : List mw_V} {σ : mw_S} {Q : Option mw_V → mw_S → Prop} : mw_WP d 78 21 [l0, l1, l2, l3, l4, l5] st σ Q ↔ mw_WP d 78 22 [l0, l1, l2, l3, l4, l5] (jI (0) :: st) σ Q := WP_iconst mq78 dd78_21 (by decide)
theorem dd78_22 : decode cX8_fewestSteps 22 = .ok (.aaload, 1) := by decide +kernel
theorem ww78_22 {d : Nat} {l0 l1 l2 l3 l4 l5 : Option mw_V} {z : Int} {a : Nat} {st : List mw_V} {σ : mw_S} {Q : Option mw_V → mw_S → Prop} : mw_WP d 78 22 [l0, l1, l2, l3, l4, l5] (jI z :: jR a :: st) σ Q ↔ ((0 ≤ z ∧ z < (mw_rows a).length) ∧ mw_WP d 78 23 [l0, l1, l2, l3, l4, l5] (jR ((mw_rows a).getD z.toNat 0) :: st) σ Q) := WP_aaload mq78 dd78_22
theorem dd78_23 : decode cX8_fewestSteps 23 = .ok (.invokestatic 41, 3) := by decide +kernel
theorem ww78_23 {d : Nat} {l0 l1 l2 l3 l4 l5 : Option mw_V} {v0 v1 : mw_V} {st : List mw_V} {σ : mw_S} {Q : Option mw_V → mw_S → Prop} (h8 : (st.map mw_cat).sum ≤ 8) : mw_WP d 78 23 [l0, l1, l2, l3, l4, l5] (v1 :: v0 :: st) σ Q ↔ mw_Call d 169 [v0, v1] σ (fun r1 s1 => mw_WP d 78 26 [l0, l1, l2, l3, l4, l5] (r1.toList ++ st) s1 Q) := WP_invn (as := [v1, v0]) mq78 dd78_23 (by decide) (by decide) mq169 rfl rfl h8
theorem dd78_26 : decode cX8_fewestSteps 26 = .ok (.aload_n 0, 1) := by decide +kernel
theorem ww78_26 {d : Nat} {l1 l2 l3 l4 l5 : Option mw_V} {x : Nat} {st : List mw_V} {σ : mw_S} {Q : Option mw_V → mw_S → Prop} : mw_WP d 78 26 [some (jR x), l1, l2, l3, l4, l5] st σ Q ↔ mw_WP d 78 27 [some (jR x), l1, l2, l3, l4, l5] (jR x :: st) σ Q := WP_aload_n mq78 dd78_26 rfl
theorem dd78_27 : decode cX8_fewestSteps 27 = .ok (.aload_n 0, 1) := by decide +kernel
theorem ww78_27 {d : Nat} {l1 l2 l3 l4 l5 : Option mw_V} {x : Nat} {st : List mw_V} {σ : mw_S} {Q : Option mw_V → mw_S → Prop} : mw_WP d 78 27 [some (jR x), l1, l2, l3, l4, l5] st σ Q ↔ mw_WP d 78 28 [some (jR x), l1, l2, l3, l4, l5] (jR x :: st) σ Q := WP_aload_n mq78 dd78_27 rfl
theorem dd78_28 : decode cX8_fewestSteps 28 = .ok (.getfield 13, 3) := by decide +kernel
theorem ww78_28 {d : Nat} {l0 l1 l2 l3 l4 l5 : Option mw_V} {st : List mw_V} {σ : mw_S} {Q : Option mw_V → mw_S → Prop} : mw_WP d 78 28 [l0, l1, l2, l3, l4, l5] (jR 45 :: st) σ Q ↔ mw_WP d 78 31 [l0, l1, l2, l3, l4, l5] (jR 46 :: st) σ Q := WP_getR (ci := 7) (k := 3) mq78 dd78_28 (by decide) rfl
theorem dd78_31 : decode cX8_fewestSteps 31 = .ok (.iconst 0, 1) := by decide +kernel
theorem ww78_31 {d : Nat} {l0 l1 l2 l3 l4 l5 : Option mw_V} {st : List mw_V} {σ : mw_S} {Q : Option mw_V → mw_S → Prop} : mw_WP d 78 31 [l0, l1, l2, l3, l4, l5] st σ Q ↔ mw_WP d 78 32 [l0, l1, l2, l3, l4, l5] (jI (0) :: st) σ Q := WP_iconst mq78 dd78_31 (by decide)
theorem dd78_32 : decode cX8_fewestSteps 32 = .ok (.aaload, 1) := by decide +kernel
theorem ww78_32 {d : Nat} {l0 l1 l2 l3 l4 l5 : Option mw_V} {z : Int} {a : Nat} {st : List mw_V} {σ : mw_S} {Q : Option mw_V → mw_S → Prop} : mw_WP d 78 32 [l0, l1, l2, l3, l4, l5] (jI z :: jR a :: st) σ Q ↔ ((0 ≤ z ∧ z < (mw_rows a).length) ∧ mw_WP d 78 33 [l0, l1, l2, l3, l4, l5] (jR ((mw_rows a).getD z.toNat 0) :: st) σ Q) := WP_aaload mq78 dd78_32
theorem dd78_33 : decode cX8_fewestSteps 33 = .ok (.iconst 0, 1) := by decide +kernel
theorem ww78_33 {d : Nat} {l0 l1 l2 l3 l4 l5 : Option mw_V} {st : List mw_V} {σ : mw_S} {Q : Option mw_V → mw_S → Prop} : mw_WP d 78 33 [l0, l1, l2, l3, l4, l5] st σ Q ↔ mw_WP d 78 34 [l0, l1, l2, l3, l4, l5] (jI (0) :: st) σ Q := WP_iconst mq78 dd78_33 (by decide)
theorem dd78_34 : decode cX8_fewestSteps 34 = .ok (.invokevirtual 45, 3) := by decide +kernel
theorem ww78_34 {d : Nat} {l0 l1 l2 l3 l4 l5 : Option mw_V} {v0 v1 : mw_V} {a : Nat} {st : List mw_V} {σ : mw_S} {Q : Option mw_V → mw_S → Prop} (hr : mw_rc a = 8) (h8 : (st.map mw_cat).sum ≤ 8) : mw_WP d 78 34 [l0, l1, l2, l3, l4, l5] (v1 :: v0 :: jR a :: st) σ Q ↔ mw_Call d 80 [jR a, v0, v1] σ (fun r1 s1 => mw_WP d 78 37 [l0, l1, l2, l3, l4, l5] (r1.toList ++ st) s1 Q) := WP_inv (as := [v1, v0]) mq78 dd78_34 (by decide) mq80 rfl hr h8
theorem dd78_37 : decode cX8_fewestSteps 37 = .ok (.ifCond .eq 5, 3) := by decide +kernel
theorem ww78_37 {d : Nat} {l0 l1 l2 l3 l4 l5 : Option mw_V} {x : Int} {st : List mw_V} {σ : mw_S} {Q : Option mw_V → mw_S → Prop} : mw_WP d 78 37 [l0, l1, l2, l3, l4, l5] (jI x :: st) σ Q ↔ (if x = 0 then mw_WP d 78 42 [l0, l1, l2, l3, l4, l5] st σ Q else mw_WP d 78 40 [l0, l1, l2, l3, l4, l5] st σ Q) := WP_if_eq mq78 dd78_37 (by decide)
theorem dd78_40 : decode cX8_fewestSteps 40 = .ok (.iconst 0, 1) := by decide +kernel
theorem ww78_40 {d : Nat} {l0 l1 l2 l3 l4 l5 : Option mw_V} {st : List mw_V} {σ : mw_S} {Q : Option mw_V → mw_S → Prop} : mw_WP d 78 40 [l0, l1, l2, l3, l4, l5] st σ Q ↔ mw_WP d 78 41 [l0, l1, l2, l3, l4, l5] (jI (0) :: st) σ Q := WP_iconst mq78 dd78_40 (by decide)
theorem dd78_41 : decode cX8_fewestSteps 41 = .ok (.ireturn, 1) := by decide +kernel
theorem ww78_41 {d : Nat} {l0 l1 l2 l3 l4 l5 : Option mw_V} {z : Int} {σ : mw_S} {Q : Option mw_V → mw_S → Prop} : mw_WP d 78 41 [l0, l1, l2, l3, l4, l5] [jI z] σ Q ↔ Q (some (jI z)) σ := WP_ireturn (ty := .int) mq78 dd78_41 rfl rfl
theorem dd78_42 : decode cX8_fewestSteps 42 = .ok (.iconst 1, 1) := by decide +kernel
theorem ww78_42 {d : Nat} {l0 l1 l2 l3 l4 l5 : Option mw_V} {st : List mw_V} {σ : mw_S} {Q : Option mw_V → mw_S → Prop} : mw_WP d 78 42 [l0, l1, l2, l3, l4, l5] st σ Q ↔ mw_WP d 78 43 [l0, l1, l2, l3, l4, l5] (jI (1) :: st) σ Q := WP_iconst mq78 dd78_42 (by decide)
theorem dd78_43 : decode cX8_fewestSteps 43 = .ok (.istore 5, 2) := by decide +kernel
theorem ww78_43 {d : Nat} {l0 l1 l2 l3 l4 l5 : Option mw_V} {x : Int} {st : List mw_V} {σ : mw_S} {Q : Option mw_V → mw_S → Prop} (h : mw_nlo l4 = true) : mw_WP d 78 43 [l0, l1, l2, l3, l4, l5] (jI x :: st) σ Q ↔ mw_WP d 78 45 [l0, l1, l2, l3, l4, some (jI x)] st σ Q := WP_istore mq78 dd78_43 (Nat.le_of_ble_eq_true rfl) (mw_nl_of (i := 4) rfl h) rfl
theorem dd78_45 : decode cX8_fewestSteps 45 = .ok (.iload 5, 2) := by decide +kernel
theorem ww78_45 {d : Nat} {l0 l1 l2 l3 l4 : Option mw_V} {x : Int} {st : List mw_V} {σ : mw_S} {Q : Option mw_V → mw_S → Prop} : mw_WP d 78 45 [l0, l1, l2, l3, l4, some (jI x)] st σ Q ↔ mw_WP d 78 47 [l0, l1, l2, l3, l4, some (jI x)] (jI x :: st) σ Q := WP_iload mq78 dd78_45 rfl
theorem dd78_47 : decode cX8_fewestSteps 47 = .ok (.iconst 4, 1) := by decide +kernel
theorem ww78_47 {d : Nat} {l0 l1 l2 l3 l4 l5 : Option mw_V} {st : List mw_V} {σ : mw_S} {Q : Option mw_V → mw_S → Prop} : mw_WP d 78 47 [l0, l1, l2, l3, l4, l5] st σ Q ↔ mw_WP d 78 48 [l0, l1, l2, l3, l4, l5] (jI (4) :: st) σ Q := WP_iconst mq78 dd78_47 (by decide)
theorem dd78_48 : decode cX8_fewestSteps 48 = .ok (.if_icmp .gt 22, 3) := by decide +kernel
theorem ww78_48 {d : Nat} {l0 l1 l2 l3 l4 l5 : Option mw_V} {x y : Int} {st : List mw_V} {σ : mw_S} {Q : Option mw_V → mw_S → Prop} : mw_WP d 78 48 [l0, l1, l2, l3, l4, l5] (jI y :: jI x :: st) σ Q ↔ (if y < x then mw_WP d 78 70 [l0, l1, l2, l3, l4, l5] st σ Q else mw_WP d 78 51 [l0, l1, l2, l3, l4, l5] st σ Q) := WP_icmp_gt mq78 dd78_48 (by decide)
theorem dd78_51 : decode cX8_fewestSteps 51 = .ok (.aload_n 0, 1) := by decide +kernel
theorem ww78_51 {d : Nat} {l1 l2 l3 l4 l5 : Option mw_V} {x : Nat} {st : List mw_V} {σ : mw_S} {Q : Option mw_V → mw_S → Prop} : mw_WP d 78 51 [some (jR x), l1, l2, l3, l4, l5] st σ Q ↔ mw_WP d 78 52 [some (jR x), l1, l2, l3, l4, l5] (jR x :: st) σ Q := WP_aload_n mq78 dd78_51 rfl
theorem dd78_52 : decode cX8_fewestSteps 52 = .ok (.iconst 0, 1) := by decide +kernel
theorem ww78_52 {d : Nat} {l0 l1 l2 l3 l4 l5 : Option mw_V} {st : List mw_V} {σ : mw_S} {Q : Option mw_V → mw_S → Prop} : mw_WP d 78 52 [l0, l1, l2, l3, l4, l5] st σ Q ↔ mw_WP d 78 53 [l0, l1, l2, l3, l4, l5] (jI (0) :: st) σ Q := WP_iconst mq78 dd78_52 (by decide)
theorem dd78_53 : decode cX8_fewestSteps 53 = .ok (.iload 5, 2) := by decide +kernel
theorem ww78_53 {d : Nat} {l0 l1 l2 l3 l4 : Option mw_V} {x : Int} {st : List mw_V} {σ : mw_S} {Q : Option mw_V → mw_S → Prop} : mw_WP d 78 53 [l0, l1, l2, l3, l4, some (jI x)] st σ Q ↔ mw_WP d 78 55 [l0, l1, l2, l3, l4, some (jI x)] (jI x :: st) σ Q := WP_iload mq78 dd78_53 rfl
theorem dd78_55 : decode cX8_fewestSteps 55 = .ok (.invokevirtual 49, 3) := by decide +kernel
theorem ww78_55 {d : Nat} {l0 l1 l2 l3 l4 l5 : Option mw_V} {v0 v1 : mw_V} {a : Nat} {st : List mw_V} {σ : mw_S} {Q : Option mw_V → mw_S → Prop} (hr : mw_rc a = 8) (h8 : (st.map mw_cat).sum ≤ 8) : mw_WP d 78 55 [l0, l1, l2, l3, l4, l5] (v1 :: v0 :: jR a :: st) σ Q ↔ mw_Call d 81 [jR a, v0, v1] σ (fun r1 s1 => mw_WP d 78 58 [l0, l1, l2, l3, l4, l5] (r1.toList ++ st) s1 Q) := WP_inv (as := [v1, v0]) mq78 dd78_55 (by decide) mq81 rfl hr h8
theorem dd78_58 : decode cX8_fewestSteps 58 = .ok (.ifCond .eq 6, 3) := by decide +kernel
theorem ww78_58 {d : Nat} {l0 l1 l2 l3 l4 l5 : Option mw_V} {x : Int} {st : List mw_V} {σ : mw_S} {Q : Option mw_V → mw_S → Prop} : mw_WP d 78 58 [l0, l1, l2, l3, l4, l5] (jI x :: st) σ Q ↔ (if x = 0 then mw_WP d 78 64 [l0, l1, l2, l3, l4, l5] st σ Q else mw_WP d 78 61 [l0, l1, l2, l3, l4, l5] st σ Q) := WP_if_eq mq78 dd78_58 (by decide)
theorem dd78_61 : decode cX8_fewestSteps 61 = .ok (.iload 5, 2) := by decide +kernel
theorem ww78_61 {d : Nat} {l0 l1 l2 l3 l4 : Option mw_V} {x : Int} {st : List mw_V} {σ : mw_S} {Q : Option mw_V → mw_S → Prop} : mw_WP d 78 61 [l0, l1, l2, l3, l4, some (jI x)] st σ Q ↔ mw_WP d 78 63 [l0, l1, l2, l3, l4, some (jI x)] (jI x :: st) σ Q := WP_iload mq78 dd78_61 rfl
theorem dd78_63 : decode cX8_fewestSteps 63 = .ok (.ireturn, 1) := by decide +kernel
theorem ww78_63 {d : Nat} {l0 l1 l2 l3 l4 l5 : Option mw_V} {z : Int} {σ : mw_S} {Q : Option mw_V → mw_S → Prop} : mw_WP d 78 63 [l0, l1, l2, l3, l4, l5] [jI z] σ Q ↔ Q (some (jI z)) σ := WP_ireturn (ty := .int) mq78 dd78_63 rfl rfl
theorem dd78_64 : decode cX8_fewestSteps 64 = .ok (.iinc 5 1, 3) := by decide +kernel
theorem ww78_64 {d : Nat} {l0 l1 l2 l3 l4 : Option mw_V} {x : Int} {st : List mw_V} {σ : mw_S} {Q : Option mw_V → mw_S → Prop} (h : mw_nlo l4 = true) : mw_WP d 78 64 [l0, l1, l2, l3, l4, some (jI x)] st σ Q ↔ mw_WP d 78 67 [l0, l1, l2, l3, l4, some (jI (w32 (x + (1))))] st σ Q := WP_iinc mq78 dd78_64 rfl (Nat.le_of_ble_eq_true rfl) (mw_nl_of (i := 4) rfl h) rfl
theorem dd78_67 : decode cX8_fewestSteps 67 = .ok (.goto (-22), 3) := by decide +kernel
theorem ww78_67 {d : Nat} {l0 l1 l2 l3 l4 l5 : Option mw_V} {st : List mw_V} {σ : mw_S} {Q : Option mw_V → mw_S → Prop} : mw_WP d 78 67 [l0, l1, l2, l3, l4, l5] st σ Q ↔ mw_WP d 78 45 [l0, l1, l2, l3, l4, l5] st σ Q := WP_goto mq78 dd78_67 (by decide)
theorem dd78_70 : decode cX8_fewestSteps 70 = .ok (.sipush (-1000), 3) := by decide +kernel
theorem ww78_70 {d : Nat} {l0 l1 l2 l3 l4 l5 : Option mw_V} {st : List mw_V} {σ : mw_S} {Q : Option mw_V → mw_S → Prop} : mw_WP d 78 70 [l0, l1, l2, l3, l4, l5] st σ Q ↔ mw_WP d 78 73 [l0, l1, l2, l3, l4, l5] (jI (-1000) :: st) σ Q := WP_sipush mq78 dd78_70 (by decide)
theorem dd78_73 : decode cX8_fewestSteps 73 = .ok (.ireturn, 1) := by decide +kernel
theorem ww78_73 {d : Nat} {l0 l1 l2 l3 l4 l5 : Option mw_V} {z : Int} {σ : mw_S} {Q : Option mw_V → mw_S → Prop} : mw_WP d 78 73 [l0, l1, l2, l3, l4, l5] [jI z] σ Q ↔ Q (some (jI z)) σ := WP_ireturn (ty := .int) mq78 dd78_73 rfl rfl
theorem ee79 {d : Nat} {a : Nat} {z0 : Int} {σ : mw_S} {Q : Option mw_V → mw_S → Prop} : mw_Call (d + 1) 79 [jR a, jI z0] σ Q ↔ mw_WP d 79 0 [some (jR a), some (jI z0)] [] σ Q := CL_u mq79 (Nat.le_of_ble_eq_true rfl) rfl
theorem dd79_0 : decode cX8_doingOfWay 0 = .ok (.iload_n 1, 1) := by decide +kernel
theorem ww79_0 {d : Nat} {l0 : Option mw_V} {x : Int} {st : List mw_V} {σ : mw_S} {Q : Option mw_V → mw_S → Prop} : mw_WP d 79 0 [l0, some (jI x)] st σ Q ↔ mw_WP d 79 1 [l0, some (jI x)] (jI x :: st) σ Q := WP_iload_n mq79 dd79_0 rfl
theorem dd79_1 : decode cX8_doingOfWay 1 = .ok (.ifCond .lt 17, 3) := by decide +kernel
theorem ww79_1 {d : Nat} {l0 l1 : Option mw_V} {x : Int} {st : List mw_V} {σ : mw_S} {Q : Option mw_V → mw_S → Prop} : mw_WP d 79 1 [l0, l1] (jI x :: st) σ Q ↔ (if x < 0 then mw_WP d 79 18 [l0, l1] st σ Q else mw_WP d 79 4 [l0, l1] st σ Q) := WP_if_lt mq79 dd79_1 (by decide)
theorem dd79_4 : decode cX8_doingOfWay 4 = .ok (.iload_n 1, 1) := by decide +kernel
theorem ww79_4 {d : Nat} {l0 : Option mw_V} {x : Int} {st : List mw_V} {σ : mw_S} {Q : Option mw_V → mw_S → Prop} : mw_WP d 79 4 [l0, some (jI x)] st σ Q ↔ mw_WP d 79 5 [l0, some (jI x)] (jI x :: st) σ Q := WP_iload_n mq79 dd79_4 rfl
theorem dd79_5 : decode cX8_doingOfWay 5 = .ok (.iconst 4, 1) := by decide +kernel
theorem ww79_5 {d : Nat} {l0 l1 : Option mw_V} {st : List mw_V} {σ : mw_S} {Q : Option mw_V → mw_S → Prop} : mw_WP d 79 5 [l0, l1] st σ Q ↔ mw_WP d 79 6 [l0, l1] (jI (4) :: st) σ Q := WP_iconst mq79 dd79_5 (by decide)
theorem dd79_6 : decode cX8_doingOfWay 6 = .ok (.if_icmp .ge 12, 3) := by decide +kernel
theorem ww79_6 {d : Nat} {l0 l1 : Option mw_V} {x y : Int} {st : List mw_V} {σ : mw_S} {Q : Option mw_V → mw_S → Prop} : mw_WP d 79 6 [l0, l1] (jI y :: jI x :: st) σ Q ↔ (if y ≤ x then mw_WP d 79 18 [l0, l1] st σ Q else mw_WP d 79 9 [l0, l1] st σ Q) := WP_icmp_ge mq79 dd79_6 (by decide)
theorem dd79_9 : decode cX8_doingOfWay 9 = .ok (.aload_n 0, 1) := by decide +kernel
theorem ww79_9 {d : Nat} {l1 : Option mw_V} {x : Nat} {st : List mw_V} {σ : mw_S} {Q : Option mw_V → mw_S → Prop} : mw_WP d 79 9 [some (jR x), l1] st σ Q ↔ mw_WP d 79 10 [some (jR x), l1] (jR x :: st) σ Q := WP_aload_n mq79 dd79_9 rfl
theorem dd79_10 : decode cX8_doingOfWay 10 = .ok (.getfield 16, 3) := by decide +kernel
theorem ww79_10 {d : Nat} {l0 l1 : Option mw_V} {st : List mw_V} {σ : mw_S} {Q : Option mw_V → mw_S → Prop} : mw_WP d 79 10 [l0, l1] (jR 45 :: st) σ Q ↔ mw_WP d 79 13 [l0, l1] (jR 52 :: st) σ Q := WP_getR (ci := 7) (k := 4) mq79 dd79_10 (by decide) rfl
theorem dd79_13 : decode cX8_doingOfWay 13 = .ok (.iload_n 1, 1) := by decide +kernel
theorem ww79_13 {d : Nat} {l0 : Option mw_V} {x : Int} {st : List mw_V} {σ : mw_S} {Q : Option mw_V → mw_S → Prop} : mw_WP d 79 13 [l0, some (jI x)] st σ Q ↔ mw_WP d 79 14 [l0, some (jI x)] (jI x :: st) σ Q := WP_iload_n mq79 dd79_13 rfl
theorem dd79_14 : decode cX8_doingOfWay 14 = .ok (.iaload, 1) := by decide +kernel
theorem ww79_14 {d : Nat} {l0 l1 : Option mw_V} {z : Int} {a : Nat} {st : List mw_V} {σ : mw_S} {Q : Option mw_V → mw_S → Prop} : mw_WP d 79 14 [l0, l1] (jI z :: jR a :: st) σ Q ↔ ((0 ≤ z ∧ z < mw_lenI a) ∧ mw_WP d 79 15 [l0, l1] (jI (mw_rdI σ a z.toNat) :: st) σ Q) := WP_iaload mq79 dd79_14
theorem dd79_15 : decode cX8_doingOfWay 15 = .ok (.goto 4, 3) := by decide +kernel
theorem ww79_15 {d : Nat} {l0 l1 : Option mw_V} {st : List mw_V} {σ : mw_S} {Q : Option mw_V → mw_S → Prop} : mw_WP d 79 15 [l0, l1] st σ Q ↔ mw_WP d 79 19 [l0, l1] st σ Q := WP_goto mq79 dd79_15 (by decide)
theorem dd79_18 : decode cX8_doingOfWay 18 = .ok (.iconst (-1), 1) := by decide +kernel
theorem ww79_18 {d : Nat} {l0 l1 : Option mw_V} {st : List mw_V} {σ : mw_S} {Q : Option mw_V → mw_S → Prop} : mw_WP d 79 18 [l0, l1] st σ Q ↔ mw_WP d 79 19 [l0, l1] (jI (-1) :: st) σ Q := WP_iconst mq79 dd79_18 (by decide)
theorem dd79_19 : decode cX8_doingOfWay 19 = .ok (.ireturn, 1) := by decide +kernel
theorem ww79_19 {d : Nat} {l0 l1 : Option mw_V} {z : Int} {σ : mw_S} {Q : Option mw_V → mw_S → Prop} : mw_WP d 79 19 [l0, l1] [jI z] σ Q ↔ Q (some (jI z)) σ := WP_ireturn (ty := .int) mq79 dd79_19 rfl rfl
theorem ee80 {d : Nat} {a : Nat} {a0 : Nat} {z1 : Int} {σ : mw_S} {Q : Option mw_V → mw_S → Prop} : mw_Call (d + 1) 80 [jR a, jR a0, jI z1] σ Q ↔ mw_WP d 80 0 [some (jR a), some (jR a0), some (jI z1)] [] σ Q := CL_u mq80 (Nat.le_of_ble_eq_true rfl) rfl
theorem dd80_0 : decode cX8_isSought 0 = .ok (.aload_n 0, 1) := by decide +kernel
theorem ww80_0 {d : Nat} {l1 l2 : Option mw_V} {x : Nat} {st : List mw_V} {σ : mw_S} {Q : Option mw_V → mw_S → Prop} : mw_WP d 80 0 [some (jR x), l1, l2] st σ Q ↔ mw_WP d 80 1 [some (jR x), l1, l2] (jR x :: st) σ Q := WP_aload_n mq80 dd80_0 rfl
theorem dd80_1 : decode cX8_isSought 1 = .ok (.getfield 35, 3) := by decide +kernel
theorem ww80_1 {d : Nat} {l0 l1 l2 : Option mw_V} {st : List mw_V} {σ : mw_S} {Q : Option mw_V → mw_S → Prop} : mw_WP d 80 1 [l0, l1, l2] (jR 45 :: st) σ Q ↔ mw_WP d 80 4 [l0, l1, l2] (jI (σ 45 8) :: st) σ Q := WP_getI (ci := 7) (k := 8) mq80 dd80_1 (by decide) (Or.inl rfl)
theorem dd80_4 : decode cX8_isSought 4 = .ok (.iconst (-1), 1) := by decide +kernel
theorem ww80_4 {d : Nat} {l0 l1 l2 : Option mw_V} {st : List mw_V} {σ : mw_S} {Q : Option mw_V → mw_S → Prop} : mw_WP d 80 4 [l0, l1, l2] st σ Q ↔ mw_WP d 80 5 [l0, l1, l2] (jI (-1) :: st) σ Q := WP_iconst mq80 dd80_4 (by decide)
theorem dd80_5 : decode cX8_isSought 5 = .ok (.if_icmp .ne 15, 3) := by decide +kernel
theorem ww80_5 {d : Nat} {l0 l1 l2 : Option mw_V} {x y : Int} {st : List mw_V} {σ : mw_S} {Q : Option mw_V → mw_S → Prop} : mw_WP d 80 5 [l0, l1, l2] (jI y :: jI x :: st) σ Q ↔ (if ¬ x = y then mw_WP d 80 20 [l0, l1, l2] st σ Q else mw_WP d 80 8 [l0, l1, l2] st σ Q) := WP_icmp_ne mq80 dd80_5 (by decide)
theorem dd80_8 : decode cX8_isSought 8 = .ok (.iload_n 2, 1) := by decide +kernel
theorem ww80_8 {d : Nat} {l0 l1 : Option mw_V} {x : Int} {st : List mw_V} {σ : mw_S} {Q : Option mw_V → mw_S → Prop} : mw_WP d 80 8 [l0, l1, some (jI x)] st σ Q ↔ mw_WP d 80 9 [l0, l1, some (jI x)] (jI x :: st) σ Q := WP_iload_n mq80 dd80_8 rfl
theorem dd80_9 : decode cX8_isSought 9 = .ok (.ifCond .le 7, 3) := by decide +kernel
theorem ww80_9 {d : Nat} {l0 l1 l2 : Option mw_V} {x : Int} {st : List mw_V} {σ : mw_S} {Q : Option mw_V → mw_S → Prop} : mw_WP d 80 9 [l0, l1, l2] (jI x :: st) σ Q ↔ (if x ≤ 0 then mw_WP d 80 16 [l0, l1, l2] st σ Q else mw_WP d 80 12 [l0, l1, l2] st σ Q) := WP_if_le mq80 dd80_9 (by decide)
theorem dd80_12 : decode cX8_isSought 12 = .ok (.iconst 1, 1) := by decide +kernel
theorem ww80_12 {d : Nat} {l0 l1 l2 : Option mw_V} {st : List mw_V} {σ : mw_S} {Q : Option mw_V → mw_S → Prop} : mw_WP d 80 12 [l0, l1, l2] st σ Q ↔ mw_WP d 80 13 [l0, l1, l2] (jI (1) :: st) σ Q := WP_iconst mq80 dd80_12 (by decide)
theorem dd80_13 : decode cX8_isSought 13 = .ok (.goto 28, 3) := by decide +kernel
theorem ww80_13 {d : Nat} {l0 l1 l2 : Option mw_V} {st : List mw_V} {σ : mw_S} {Q : Option mw_V → mw_S → Prop} : mw_WP d 80 13 [l0, l1, l2] st σ Q ↔ mw_WP d 80 41 [l0, l1, l2] st σ Q := WP_goto mq80 dd80_13 (by decide)
theorem dd80_16 : decode cX8_isSought 16 = .ok (.iconst 0, 1) := by decide +kernel
theorem ww80_16 {d : Nat} {l0 l1 l2 : Option mw_V} {st : List mw_V} {σ : mw_S} {Q : Option mw_V → mw_S → Prop} : mw_WP d 80 16 [l0, l1, l2] st σ Q ↔ mw_WP d 80 17 [l0, l1, l2] (jI (0) :: st) σ Q := WP_iconst mq80 dd80_16 (by decide)
theorem dd80_17 : decode cX8_isSought 17 = .ok (.goto 24, 3) := by decide +kernel
theorem ww80_17 {d : Nat} {l0 l1 l2 : Option mw_V} {st : List mw_V} {σ : mw_S} {Q : Option mw_V → mw_S → Prop} : mw_WP d 80 17 [l0, l1, l2] st σ Q ↔ mw_WP d 80 41 [l0, l1, l2] st σ Q := WP_goto mq80 dd80_17 (by decide)
theorem dd80_20 : decode cX8_isSought 20 = .ok (.aload_n 1, 1) := by decide +kernel
theorem ww80_20 {d : Nat} {l0 l2 : Option mw_V} {x : Nat} {st : List mw_V} {σ : mw_S} {Q : Option mw_V → mw_S → Prop} : mw_WP d 80 20 [l0, some (jR x), l2] st σ Q ↔ mw_WP d 80 21 [l0, some (jR x), l2] (jR x :: st) σ Q := WP_aload_n mq80 dd80_20 rfl
theorem dd80_21 : decode cX8_isSought 21 = .ok (.bipush 6, 2) := by decide +kernel
theorem ww80_21 {d : Nat} {l0 l1 l2 : Option mw_V} {st : List mw_V} {σ : mw_S} {Q : Option mw_V → mw_S → Prop} : mw_WP d 80 21 [l0, l1, l2] st σ Q ↔ mw_WP d 80 23 [l0, l1, l2] (jI (6) :: st) σ Q := WP_bipush mq80 dd80_21 (by decide)
theorem dd80_23 : decode cX8_isSought 23 = .ok (.aload_n 0, 1) := by decide +kernel
theorem ww80_23 {d : Nat} {l1 l2 : Option mw_V} {x : Nat} {st : List mw_V} {σ : mw_S} {Q : Option mw_V → mw_S → Prop} : mw_WP d 80 23 [some (jR x), l1, l2] st σ Q ↔ mw_WP d 80 24 [some (jR x), l1, l2] (jR x :: st) σ Q := WP_aload_n mq80 dd80_23 rfl
theorem dd80_24 : decode cX8_isSought 24 = .ok (.getfield 35, 3) := by decide +kernel
theorem ww80_24 {d : Nat} {l0 l1 l2 : Option mw_V} {st : List mw_V} {σ : mw_S} {Q : Option mw_V → mw_S → Prop} : mw_WP d 80 24 [l0, l1, l2] (jR 45 :: st) σ Q ↔ mw_WP d 80 27 [l0, l1, l2] (jI (σ 45 8) :: st) σ Q := WP_getI (ci := 7) (k := 8) mq80 dd80_24 (by decide) (Or.inl rfl)
theorem dd80_27 : decode cX8_isSought 27 = .ok (.iadd, 1) := by decide +kernel
theorem ww80_27 {d : Nat} {l0 l1 l2 : Option mw_V} {x y : Int} {st : List mw_V} {σ : mw_S} {Q : Option mw_V → mw_S → Prop} : mw_WP d 80 27 [l0, l1, l2] (jI y :: jI x :: st) σ Q ↔ mw_WP d 80 28 [l0, l1, l2] (jI (w32 (x + y)) :: st) σ Q := WP_iadd mq80 dd80_27
theorem dd80_28 : decode cX8_isSought 28 = .ok (.iaload, 1) := by decide +kernel
theorem ww80_28 {d : Nat} {l0 l1 l2 : Option mw_V} {z : Int} {a : Nat} {st : List mw_V} {σ : mw_S} {Q : Option mw_V → mw_S → Prop} : mw_WP d 80 28 [l0, l1, l2] (jI z :: jR a :: st) σ Q ↔ ((0 ≤ z ∧ z < mw_lenI a) ∧ mw_WP d 80 29 [l0, l1, l2] (jI (mw_rdI σ a z.toNat) :: st) σ Q) := WP_iaload mq80 dd80_28
theorem dd80_29 : decode cX8_isSought 29 = .ok (.aload_n 0, 1) := by decide +kernel
theorem ww80_29 {d : Nat} {l1 l2 : Option mw_V} {x : Nat} {st : List mw_V} {σ : mw_S} {Q : Option mw_V → mw_S → Prop} : mw_WP d 80 29 [some (jR x), l1, l2] st σ Q ↔ mw_WP d 80 30 [some (jR x), l1, l2] (jR x :: st) σ Q := WP_aload_n mq80 dd80_29 rfl
theorem dd80_30 : decode cX8_isSought 30 = .ok (.getfield 38, 3) := by decide +kernel
theorem ww80_30 {d : Nat} {l0 l1 l2 : Option mw_V} {st : List mw_V} {σ : mw_S} {Q : Option mw_V → mw_S → Prop} : mw_WP d 80 30 [l0, l1, l2] (jR 45 :: st) σ Q ↔ mw_WP d 80 33 [l0, l1, l2] (jI (σ 45 9) :: st) σ Q := WP_getI (ci := 7) (k := 9) mq80 dd80_30 (by decide) (Or.inl rfl)
theorem dd80_33 : decode cX8_isSought 33 = .ok (.if_icmp .ne 7, 3) := by decide +kernel
theorem ww80_33 {d : Nat} {l0 l1 l2 : Option mw_V} {x y : Int} {st : List mw_V} {σ : mw_S} {Q : Option mw_V → mw_S → Prop} : mw_WP d 80 33 [l0, l1, l2] (jI y :: jI x :: st) σ Q ↔ (if ¬ x = y then mw_WP d 80 40 [l0, l1, l2] st σ Q else mw_WP d 80 36 [l0, l1, l2] st σ Q) := WP_icmp_ne mq80 dd80_33 (by decide)
theorem dd80_36 : decode cX8_isSought 36 = .ok (.iconst 1, 1) := by decide +kernel
theorem ww80_36 {d : Nat} {l0 l1 l2 : Option mw_V} {st : List mw_V} {σ : mw_S} {Q : Option mw_V → mw_S → Prop} : mw_WP d 80 36 [l0, l1, l2] st σ Q ↔ mw_WP d 80 37 [l0, l1, l2] (jI (1) :: st) σ Q := WP_iconst mq80 dd80_36 (by decide)
theorem dd80_37 : decode cX8_isSought 37 = .ok (.goto 4, 3) := by decide +kernel
theorem ww80_37 {d : Nat} {l0 l1 l2 : Option mw_V} {st : List mw_V} {σ : mw_S} {Q : Option mw_V → mw_S → Prop} : mw_WP d 80 37 [l0, l1, l2] st σ Q ↔ mw_WP d 80 41 [l0, l1, l2] st σ Q := WP_goto mq80 dd80_37 (by decide)
theorem dd80_40 : decode cX8_isSought 40 = .ok (.iconst 0, 1) := by decide +kernel
theorem ww80_40 {d : Nat} {l0 l1 l2 : Option mw_V} {st : List mw_V} {σ : mw_S} {Q : Option mw_V → mw_S → Prop} : mw_WP d 80 40 [l0, l1, l2] st σ Q ↔ mw_WP d 80 41 [l0, l1, l2] (jI (0) :: st) σ Q := WP_iconst mq80 dd80_40 (by decide)
theorem dd80_41 : decode cX8_isSought 41 = .ok (.ireturn, 1) := by decide +kernel
theorem ww80_41 {d : Nat} {l0 l1 l2 : Option mw_V} {z : Int} {σ : mw_S} {Q : Option mw_V → mw_S → Prop} (h : z = 0 ∨ z = 1) : mw_WP d 80 41 [l0, l1, l2] [jI z] σ Q ↔ Q (some (jI z)) σ := WP_ireturn (ty := .boolean) mq80 dd80_41 rfl (by rcases h with rfl | rfl <;> decide)
theorem ee81 {d : Nat} {a : Nat} {z0 : Int} {z1 : Int} {σ : mw_S} {Q : Option mw_V → mw_S → Prop} : mw_Call (d + 1) 81 [jR a, jI z0, jI z1] σ Q ↔ mw_WP d 81 0 [some (jR a), some (jI z0), some (jI z1), none, none, none] [] σ Q := CL_u mq81 (Nat.le_of_ble_eq_true rfl) rfl
theorem dd81_0 : decode cX8_isFoundBehind 0 = .ok (.iload_n 1, 1) := by decide +kernel
theorem ww81_0 {d : Nat} {l0 l2 l3 l4 l5 : Option mw_V} {x : Int} {st : List mw_V} {σ : mw_S} {Q : Option mw_V → mw_S → Prop} : mw_WP d 81 0 [l0, some (jI x), l2, l3, l4, l5] st σ Q ↔ mw_WP d 81 1 [l0, some (jI x), l2, l3, l4, l5] (jI x :: st) σ Q := WP_iload_n mq81 dd81_0 rfl
theorem dd81_1 : decode cX8_isFoundBehind 1 = .ok (.iconst 4, 1) := by decide +kernel
theorem ww81_1 {d : Nat} {l0 l1 l2 l3 l4 l5 : Option mw_V} {st : List mw_V} {σ : mw_S} {Q : Option mw_V → mw_S → Prop} : mw_WP d 81 1 [l0, l1, l2, l3, l4, l5] st σ Q ↔ mw_WP d 81 2 [l0, l1, l2, l3, l4, l5] (jI (4) :: st) σ Q := WP_iconst mq81 dd81_1 (by decide)
theorem dd81_2 : decode cX8_isFoundBehind 2 = .ok (.if_icmp .lt 5, 3) := by decide +kernel
theorem ww81_2 {d : Nat} {l0 l1 l2 l3 l4 l5 : Option mw_V} {x y : Int} {st : List mw_V} {σ : mw_S} {Q : Option mw_V → mw_S → Prop} : mw_WP d 81 2 [l0, l1, l2, l3, l4, l5] (jI y :: jI x :: st) σ Q ↔ (if x < y then mw_WP d 81 7 [l0, l1, l2, l3, l4, l5] st σ Q else mw_WP d 81 5 [l0, l1, l2, l3, l4, l5] st σ Q) := WP_icmp_lt mq81 dd81_2 (by decide)
theorem dd81_5 : decode cX8_isFoundBehind 5 = .ok (.iconst 0, 1) := by decide +kernel
theorem ww81_5 {d : Nat} {l0 l1 l2 l3 l4 l5 : Option mw_V} {st : List mw_V} {σ : mw_S} {Q : Option mw_V → mw_S → Prop} : mw_WP d 81 5 [l0, l1, l2, l3, l4, l5] st σ Q ↔ mw_WP d 81 6 [l0, l1, l2, l3, l4, l5] (jI (0) :: st) σ Q := WP_iconst mq81 dd81_5 (by decide)
theorem dd81_6 : decode cX8_isFoundBehind 6 = .ok (.ireturn, 1) := by decide +kernel
theorem ww81_6 {d : Nat} {l0 l1 l2 l3 l4 l5 : Option mw_V} {z : Int} {σ : mw_S} {Q : Option mw_V → mw_S → Prop} (h : z = 0 ∨ z = 1) : mw_WP d 81 6 [l0, l1, l2, l3, l4, l5] [jI z] σ Q ↔ Q (some (jI z)) σ := WP_ireturn (ty := .boolean) mq81 dd81_6 rfl (by rcases h with rfl | rfl <;> decide)
theorem dd81_7 : decode cX8_isFoundBehind 7 = .ok (.iconst 0, 1) := by decide +kernel
theorem ww81_7 {d : Nat} {l0 l1 l2 l3 l4 l5 : Option mw_V} {st : List mw_V} {σ : mw_S} {Q : Option mw_V → mw_S → Prop} : mw_WP d 81 7 [l0, l1, l2, l3, l4, l5] st σ Q ↔ mw_WP d 81 8 [l0, l1, l2, l3, l4, l5] (jI (0) :: st) σ Q := WP_iconst mq81 dd81_7 (by decide)
theorem dd81_8 : decode cX8_isFoundBehind 8 = .ok (.istore_n 3, 1) := by decide +kernel
theorem ww81_8 {d : Nat} {l0 l1 l2 l3 l4 l5 : Option mw_V} {x : Int} {st : List mw_V} {σ : mw_S} {Q : Option mw_V → mw_S → Prop} (h : mw_nlo l2 = true) : mw_WP d 81 8 [l0, l1, l2, l3, l4, l5] (jI x :: st) σ Q ↔ mw_WP d 81 9 [l0, l1, l2, some (jI x), l4, l5] st σ Q := WP_istore_n mq81 dd81_8 (Nat.le_of_ble_eq_true rfl) (mw_nl_of (i := 2) rfl h) rfl
theorem dd81_9 : decode cX8_isFoundBehind 9 = .ok (.iload_n 3, 1) := by decide +kernel
theorem ww81_9 {d : Nat} {l0 l1 l2 l4 l5 : Option mw_V} {x : Int} {st : List mw_V} {σ : mw_S} {Q : Option mw_V → mw_S → Prop} : mw_WP d 81 9 [l0, l1, l2, some (jI x), l4, l5] st σ Q ↔ mw_WP d 81 10 [l0, l1, l2, some (jI x), l4, l5] (jI x :: st) σ Q := WP_iload_n mq81 dd81_9 rfl
theorem dd81_10 : decode cX8_isFoundBehind 10 = .ok (.bipush 9, 2) := by decide +kernel
theorem ww81_10 {d : Nat} {l0 l1 l2 l3 l4 l5 : Option mw_V} {st : List mw_V} {σ : mw_S} {Q : Option mw_V → mw_S → Prop} : mw_WP d 81 10 [l0, l1, l2, l3, l4, l5] st σ Q ↔ mw_WP d 81 12 [l0, l1, l2, l3, l4, l5] (jI (9) :: st) σ Q := WP_bipush mq81 dd81_10 (by decide)
theorem dd81_12 : decode cX8_isFoundBehind 12 = .ok (.if_icmp .ge 101, 3) := by decide +kernel
theorem ww81_12 {d : Nat} {l0 l1 l2 l3 l4 l5 : Option mw_V} {x y : Int} {st : List mw_V} {σ : mw_S} {Q : Option mw_V → mw_S → Prop} : mw_WP d 81 12 [l0, l1, l2, l3, l4, l5] (jI y :: jI x :: st) σ Q ↔ (if y ≤ x then mw_WP d 81 113 [l0, l1, l2, l3, l4, l5] st σ Q else mw_WP d 81 15 [l0, l1, l2, l3, l4, l5] st σ Q) := WP_icmp_ge mq81 dd81_12 (by decide)
theorem dd81_15 : decode cX8_isFoundBehind 15 = .ok (.aload_n 0, 1) := by decide +kernel
theorem ww81_15 {d : Nat} {l1 l2 l3 l4 l5 : Option mw_V} {x : Nat} {st : List mw_V} {σ : mw_S} {Q : Option mw_V → mw_S → Prop} : mw_WP d 81 15 [some (jR x), l1, l2, l3, l4, l5] st σ Q ↔ mw_WP d 81 16 [some (jR x), l1, l2, l3, l4, l5] (jR x :: st) σ Q := WP_aload_n mq81 dd81_15 rfl
theorem dd81_16 : decode cX8_isFoundBehind 16 = .ok (.getfield 13, 3) := by decide +kernel
theorem ww81_16 {d : Nat} {l0 l1 l2 l3 l4 l5 : Option mw_V} {st : List mw_V} {σ : mw_S} {Q : Option mw_V → mw_S → Prop} : mw_WP d 81 16 [l0, l1, l2, l3, l4, l5] (jR 45 :: st) σ Q ↔ mw_WP d 81 19 [l0, l1, l2, l3, l4, l5] (jR 46 :: st) σ Q := WP_getR (ci := 7) (k := 3) mq81 dd81_16 (by decide) rfl
theorem dd81_19 : decode cX8_isFoundBehind 19 = .ok (.iload_n 1, 1) := by decide +kernel
theorem ww81_19 {d : Nat} {l0 l2 l3 l4 l5 : Option mw_V} {x : Int} {st : List mw_V} {σ : mw_S} {Q : Option mw_V → mw_S → Prop} : mw_WP d 81 19 [l0, some (jI x), l2, l3, l4, l5] st σ Q ↔ mw_WP d 81 20 [l0, some (jI x), l2, l3, l4, l5] (jI x :: st) σ Q := WP_iload_n mq81 dd81_19 rfl
theorem dd81_20 : decode cX8_isFoundBehind 20 = .ok (.aaload, 1) := by decide +kernel
theorem ww81_20 {d : Nat} {l0 l1 l2 l3 l4 l5 : Option mw_V} {z : Int} {a : Nat} {st : List mw_V} {σ : mw_S} {Q : Option mw_V → mw_S → Prop} : mw_WP d 81 20 [l0, l1, l2, l3, l4, l5] (jI z :: jR a :: st) σ Q ↔ ((0 ≤ z ∧ z < (mw_rows a).length) ∧ mw_WP d 81 21 [l0, l1, l2, l3, l4, l5] (jR ((mw_rows a).getD z.toNat 0) :: st) σ Q) := WP_aaload mq81 dd81_20
theorem dd81_21 : decode cX8_isFoundBehind 21 = .ok (.aload_n 0, 1) := by decide +kernel
theorem ww81_21 {d : Nat} {l1 l2 l3 l4 l5 : Option mw_V} {x : Nat} {st : List mw_V} {σ : mw_S} {Q : Option mw_V → mw_S → Prop} : mw_WP d 81 21 [some (jR x), l1, l2, l3, l4, l5] st σ Q ↔ mw_WP d 81 22 [some (jR x), l1, l2, l3, l4, l5] (jR x :: st) σ Q := WP_aload_n mq81 dd81_21 rfl
theorem dd81_22 : decode cX8_isFoundBehind 22 = .ok (.getfield 13, 3) := by decide +kernel
theorem ww81_22 {d : Nat} {l0 l1 l2 l3 l4 l5 : Option mw_V} {st : List mw_V} {σ : mw_S} {Q : Option mw_V → mw_S → Prop} : mw_WP d 81 22 [l0, l1, l2, l3, l4, l5] (jR 45 :: st) σ Q ↔ mw_WP d 81 25 [l0, l1, l2, l3, l4, l5] (jR 46 :: st) σ Q := WP_getR (ci := 7) (k := 3) mq81 dd81_22 (by decide) rfl
theorem dd81_25 : decode cX8_isFoundBehind 25 = .ok (.iload_n 1, 1) := by decide +kernel
theorem ww81_25 {d : Nat} {l0 l2 l3 l4 l5 : Option mw_V} {x : Int} {st : List mw_V} {σ : mw_S} {Q : Option mw_V → mw_S → Prop} : mw_WP d 81 25 [l0, some (jI x), l2, l3, l4, l5] st σ Q ↔ mw_WP d 81 26 [l0, some (jI x), l2, l3, l4, l5] (jI x :: st) σ Q := WP_iload_n mq81 dd81_25 rfl
theorem dd81_26 : decode cX8_isFoundBehind 26 = .ok (.iconst 1, 1) := by decide +kernel
theorem ww81_26 {d : Nat} {l0 l1 l2 l3 l4 l5 : Option mw_V} {st : List mw_V} {σ : mw_S} {Q : Option mw_V → mw_S → Prop} : mw_WP d 81 26 [l0, l1, l2, l3, l4, l5] st σ Q ↔ mw_WP d 81 27 [l0, l1, l2, l3, l4, l5] (jI (1) :: st) σ Q := WP_iconst mq81 dd81_26 (by decide)
theorem dd81_27 : decode cX8_isFoundBehind 27 = .ok (.iadd, 1) := by decide +kernel
theorem ww81_27 {d : Nat} {l0 l1 l2 l3 l4 l5 : Option mw_V} {x y : Int} {st : List mw_V} {σ : mw_S} {Q : Option mw_V → mw_S → Prop} : mw_WP d 81 27 [l0, l1, l2, l3, l4, l5] (jI y :: jI x :: st) σ Q ↔ mw_WP d 81 28 [l0, l1, l2, l3, l4, l5] (jI (w32 (x + y)) :: st) σ Q := WP_iadd mq81 dd81_27
theorem dd81_28 : decode cX8_isFoundBehind 28 = .ok (.aaload, 1) := by decide +kernel
theorem ww81_28 {d : Nat} {l0 l1 l2 l3 l4 l5 : Option mw_V} {z : Int} {a : Nat} {st : List mw_V} {σ : mw_S} {Q : Option mw_V → mw_S → Prop} : mw_WP d 81 28 [l0, l1, l2, l3, l4, l5] (jI z :: jR a :: st) σ Q ↔ ((0 ≤ z ∧ z < (mw_rows a).length) ∧ mw_WP d 81 29 [l0, l1, l2, l3, l4, l5] (jR ((mw_rows a).getD z.toNat 0) :: st) σ Q) := WP_aaload mq81 dd81_28
theorem dd81_29 : decode cX8_isFoundBehind 29 = .ok (.invokestatic 41, 3) := by decide +kernel
theorem ww81_29 {d : Nat} {l0 l1 l2 l3 l4 l5 : Option mw_V} {v0 v1 : mw_V} {st : List mw_V} {σ : mw_S} {Q : Option mw_V → mw_S → Prop} (h8 : (st.map mw_cat).sum ≤ 8) : mw_WP d 81 29 [l0, l1, l2, l3, l4, l5] (v1 :: v0 :: st) σ Q ↔ mw_Call d 169 [v0, v1] σ (fun r1 s1 => mw_WP d 81 32 [l0, l1, l2, l3, l4, l5] (r1.toList ++ st) s1 Q) := WP_invn (as := [v1, v0]) mq81 dd81_29 (by decide) (by decide) mq169 rfl rfl h8
theorem dd81_32 : decode cX8_isFoundBehind 32 = .ok (.aload_n 0, 1) := by decide +kernel
theorem ww81_32 {d : Nat} {l1 l2 l3 l4 l5 : Option mw_V} {x : Nat} {st : List mw_V} {σ : mw_S} {Q : Option mw_V → mw_S → Prop} : mw_WP d 81 32 [some (jR x), l1, l2, l3, l4, l5] st σ Q ↔ mw_WP d 81 33 [some (jR x), l1, l2, l3, l4, l5] (jR x :: st) σ Q := WP_aload_n mq81 dd81_32 rfl
theorem dd81_33 : decode cX8_isFoundBehind 33 = .ok (.getfield 27, 3) := by decide +kernel
theorem ww81_33 {d : Nat} {l0 l1 l2 l3 l4 l5 : Option mw_V} {st : List mw_V} {σ : mw_S} {Q : Option mw_V → mw_S → Prop} : mw_WP d 81 33 [l0, l1, l2, l3, l4, l5] (jR 45 :: st) σ Q ↔ mw_WP d 81 36 [l0, l1, l2, l3, l4, l5] (jR 22 :: st) σ Q := WP_getR (ci := 7) (k := 2) mq81 dd81_33 (by decide) rfl
theorem dd81_36 : decode cX8_isFoundBehind 36 = .ok (.aload_n 0, 1) := by decide +kernel
theorem ww81_36 {d : Nat} {l1 l2 l3 l4 l5 : Option mw_V} {x : Nat} {st : List mw_V} {σ : mw_S} {Q : Option mw_V → mw_S → Prop} : mw_WP d 81 36 [some (jR x), l1, l2, l3, l4, l5] st σ Q ↔ mw_WP d 81 37 [some (jR x), l1, l2, l3, l4, l5] (jR x :: st) σ Q := WP_aload_n mq81 dd81_36 rfl
theorem dd81_37 : decode cX8_isFoundBehind 37 = .ok (.getfield 13, 3) := by decide +kernel
theorem ww81_37 {d : Nat} {l0 l1 l2 l3 l4 l5 : Option mw_V} {st : List mw_V} {σ : mw_S} {Q : Option mw_V → mw_S → Prop} : mw_WP d 81 37 [l0, l1, l2, l3, l4, l5] (jR 45 :: st) σ Q ↔ mw_WP d 81 40 [l0, l1, l2, l3, l4, l5] (jR 46 :: st) σ Q := WP_getR (ci := 7) (k := 3) mq81 dd81_37 (by decide) rfl
theorem dd81_40 : decode cX8_isFoundBehind 40 = .ok (.iload_n 1, 1) := by decide +kernel
theorem ww81_40 {d : Nat} {l0 l2 l3 l4 l5 : Option mw_V} {x : Int} {st : List mw_V} {σ : mw_S} {Q : Option mw_V → mw_S → Prop} : mw_WP d 81 40 [l0, some (jI x), l2, l3, l4, l5] st σ Q ↔ mw_WP d 81 41 [l0, some (jI x), l2, l3, l4, l5] (jI x :: st) σ Q := WP_iload_n mq81 dd81_40 rfl
theorem dd81_41 : decode cX8_isFoundBehind 41 = .ok (.iconst 1, 1) := by decide +kernel
theorem ww81_41 {d : Nat} {l0 l1 l2 l3 l4 l5 : Option mw_V} {st : List mw_V} {σ : mw_S} {Q : Option mw_V → mw_S → Prop} : mw_WP d 81 41 [l0, l1, l2, l3, l4, l5] st σ Q ↔ mw_WP d 81 42 [l0, l1, l2, l3, l4, l5] (jI (1) :: st) σ Q := WP_iconst mq81 dd81_41 (by decide)
theorem dd81_42 : decode cX8_isFoundBehind 42 = .ok (.iadd, 1) := by decide +kernel
theorem ww81_42 {d : Nat} {l0 l1 l2 l3 l4 l5 : Option mw_V} {x y : Int} {st : List mw_V} {σ : mw_S} {Q : Option mw_V → mw_S → Prop} : mw_WP d 81 42 [l0, l1, l2, l3, l4, l5] (jI y :: jI x :: st) σ Q ↔ mw_WP d 81 43 [l0, l1, l2, l3, l4, l5] (jI (w32 (x + y)) :: st) σ Q := WP_iadd mq81 dd81_42
theorem dd81_43 : decode cX8_isFoundBehind 43 = .ok (.aaload, 1) := by decide +kernel
theorem ww81_43 {d : Nat} {l0 l1 l2 l3 l4 l5 : Option mw_V} {z : Int} {a : Nat} {st : List mw_V} {σ : mw_S} {Q : Option mw_V → mw_S → Prop} : mw_WP d 81 43 [l0, l1, l2, l3, l4, l5] (jI z :: jR a :: st) σ Q ↔ ((0 ≤ z ∧ z < (mw_rows a).length) ∧ mw_WP d 81 44 [l0, l1, l2, l3, l4, l5] (jR ((mw_rows a).getD z.toNat 0) :: st) σ Q) := WP_aaload mq81 dd81_43
theorem dd81_44 : decode cX8_isFoundBehind 44 = .ok (.iload_n 3, 1) := by decide +kernel
theorem ww81_44 {d : Nat} {l0 l1 l2 l4 l5 : Option mw_V} {x : Int} {st : List mw_V} {σ : mw_S} {Q : Option mw_V → mw_S → Prop} : mw_WP d 81 44 [l0, l1, l2, some (jI x), l4, l5] st σ Q ↔ mw_WP d 81 45 [l0, l1, l2, some (jI x), l4, l5] (jI x :: st) σ Q := WP_iload_n mq81 dd81_44 rfl
theorem dd81_45 : decode cX8_isFoundBehind 45 = .ok (.getstatic 53, 3) := by decide +kernel
theorem ww81_45 {d : Nat} {l0 l1 l2 l3 l4 l5 : Option mw_V} {st : List mw_V} {σ : mw_S} {Q : Option mw_V → mw_S → Prop} : mw_WP d 81 45 [l0, l1, l2, l3, l4, l5] st σ Q ↔ mw_WP d 81 48 [l0, l1, l2, l3, l4, l5] (jR 3000 :: st) σ Q := WP_gets0 mq81 dd81_45 (by decide)
theorem dd81_48 : decode cX8_isFoundBehind 48 = .ok (.aload_n 0, 1) := by decide +kernel
theorem ww81_48 {d : Nat} {l1 l2 l3 l4 l5 : Option mw_V} {x : Nat} {st : List mw_V} {σ : mw_S} {Q : Option mw_V → mw_S → Prop} : mw_WP d 81 48 [some (jR x), l1, l2, l3, l4, l5] st σ Q ↔ mw_WP d 81 49 [some (jR x), l1, l2, l3, l4, l5] (jR x :: st) σ Q := WP_aload_n mq81 dd81_48 rfl
theorem dd81_49 : decode cX8_isFoundBehind 49 = .ok (.getfield 31, 3) := by decide +kernel
theorem ww81_49 {d : Nat} {l0 l1 l2 l3 l4 l5 : Option mw_V} {st : List mw_V} {σ : mw_S} {Q : Option mw_V → mw_S → Prop} : mw_WP d 81 49 [l0, l1, l2, l3, l4, l5] (jR 45 :: st) σ Q ↔ mw_WP d 81 52 [l0, l1, l2, l3, l4, l5] (jI (σ 45 7) :: st) σ Q := WP_getI (ci := 7) (k := 7) mq81 dd81_49 (by decide) (Or.inl rfl)
theorem dd81_52 : decode cX8_isFoundBehind 52 = .ok (.iaload, 1) := by decide +kernel
theorem ww81_52 {d : Nat} {l0 l1 l2 l3 l4 l5 : Option mw_V} {z : Int} {a : Nat} {st : List mw_V} {σ : mw_S} {Q : Option mw_V → mw_S → Prop} : mw_WP d 81 52 [l0, l1, l2, l3, l4, l5] (jI z :: jR a :: st) σ Q ↔ ((0 ≤ z ∧ z < mw_lenI a) ∧ mw_WP d 81 53 [l0, l1, l2, l3, l4, l5] (jI (mw_rdI σ a z.toNat) :: st) σ Q) := WP_iaload mq81 dd81_52
theorem dd81_53 : decode cX8_isFoundBehind 53 = .ok (.imul, 1) := by decide +kernel
theorem ww81_53 {d : Nat} {l0 l1 l2 l3 l4 l5 : Option mw_V} {x y : Int} {st : List mw_V} {σ : mw_S} {Q : Option mw_V → mw_S → Prop} : mw_WP d 81 53 [l0, l1, l2, l3, l4, l5] (jI y :: jI x :: st) σ Q ↔ mw_WP d 81 54 [l0, l1, l2, l3, l4, l5] (jI (w32 (x * y)) :: st) σ Q := WP_imul mq81 dd81_53
theorem dd81_54 : decode cX8_isFoundBehind 54 = .ok (.invokevirtual 56, 3) := by decide +kernel
theorem ww81_54 {d : Nat} {l0 l1 l2 l3 l4 l5 : Option mw_V} {v0 v1 : mw_V} {a : Nat} {st : List mw_V} {σ : mw_S} {Q : Option mw_V → mw_S → Prop} (hr : mw_rc a = 9) (h8 : (st.map mw_cat).sum ≤ 8) : mw_WP d 81 54 [l0, l1, l2, l3, l4, l5] (v1 :: v0 :: jR a :: st) σ Q ↔ mw_Call d 88 [jR a, v0, v1] σ (fun r1 s1 => mw_WP d 81 57 [l0, l1, l2, l3, l4, l5] (r1.toList ++ st) s1 Q) := WP_inv (as := [v1, v0]) mq81 dd81_54 (by decide) mq88 rfl hr h8
theorem dd81_57 : decode cX8_isFoundBehind 57 = .ok (.istore 4, 2) := by decide +kernel
theorem ww81_57 {d : Nat} {l0 l1 l2 l3 l4 l5 : Option mw_V} {x : Int} {st : List mw_V} {σ : mw_S} {Q : Option mw_V → mw_S → Prop} (h : mw_nlo l3 = true) : mw_WP d 81 57 [l0, l1, l2, l3, l4, l5] (jI x :: st) σ Q ↔ mw_WP d 81 59 [l0, l1, l2, l3, some (jI x), l5] st σ Q := WP_istore mq81 dd81_57 (Nat.le_of_ble_eq_true rfl) (mw_nl_of (i := 3) rfl h) rfl
theorem dd81_59 : decode cX8_isFoundBehind 59 = .ok (.aload_n 0, 1) := by decide +kernel
theorem ww81_59 {d : Nat} {l1 l2 l3 l4 l5 : Option mw_V} {x : Nat} {st : List mw_V} {σ : mw_S} {Q : Option mw_V → mw_S → Prop} : mw_WP d 81 59 [some (jR x), l1, l2, l3, l4, l5] st σ Q ↔ mw_WP d 81 60 [some (jR x), l1, l2, l3, l4, l5] (jR x :: st) σ Q := WP_aload_n mq81 dd81_59 rfl
theorem dd81_60 : decode cX8_isFoundBehind 60 = .ok (.getfield 16, 3) := by decide +kernel
theorem ww81_60 {d : Nat} {l0 l1 l2 l3 l4 l5 : Option mw_V} {st : List mw_V} {σ : mw_S} {Q : Option mw_V → mw_S → Prop} : mw_WP d 81 60 [l0, l1, l2, l3, l4, l5] (jR 45 :: st) σ Q ↔ mw_WP d 81 63 [l0, l1, l2, l3, l4, l5] (jR 52 :: st) σ Q := WP_getR (ci := 7) (k := 4) mq81 dd81_60 (by decide) rfl
theorem dd81_63 : decode cX8_isFoundBehind 63 = .ok (.iload_n 1, 1) := by decide +kernel
theorem ww81_63 {d : Nat} {l0 l2 l3 l4 l5 : Option mw_V} {x : Int} {st : List mw_V} {σ : mw_S} {Q : Option mw_V → mw_S → Prop} : mw_WP d 81 63 [l0, some (jI x), l2, l3, l4, l5] st σ Q ↔ mw_WP d 81 64 [l0, some (jI x), l2, l3, l4, l5] (jI x :: st) σ Q := WP_iload_n mq81 dd81_63 rfl
theorem dd81_64 : decode cX8_isFoundBehind 64 = .ok (.iload_n 3, 1) := by decide +kernel
theorem ww81_64 {d : Nat} {l0 l1 l2 l4 l5 : Option mw_V} {x : Int} {st : List mw_V} {σ : mw_S} {Q : Option mw_V → mw_S → Prop} : mw_WP d 81 64 [l0, l1, l2, some (jI x), l4, l5] st σ Q ↔ mw_WP d 81 65 [l0, l1, l2, some (jI x), l4, l5] (jI x :: st) σ Q := WP_iload_n mq81 dd81_64 rfl
theorem dd81_65 : decode cX8_isFoundBehind 65 = .ok (.iastore, 1) := by decide +kernel
theorem ww81_65 {d : Nat} {l0 l1 l2 l3 l4 l5 : Option mw_V} {x z : Int} {a : Nat} {st : List mw_V} {σ : mw_S} {Q : Option mw_V → mw_S → Prop} : mw_WP d 81 65 [l0, l1, l2, l3, l4, l5] (jI x :: jI z :: jR a :: st) σ Q ↔ ((0 ≤ z ∧ z < mw_lenW 0 a) ∧ mw_WP d 81 66 [l0, l1, l2, l3, l4, l5] st (upS σ a z.toNat x) Q) := WP_iastore mq81 dd81_65
theorem dd81_66 : decode cX8_isFoundBehind 66 = .ok (.iload_n 1, 1) := by decide +kernel
theorem ww81_66 {d : Nat} {l0 l2 l3 l4 l5 : Option mw_V} {x : Int} {st : List mw_V} {σ : mw_S} {Q : Option mw_V → mw_S → Prop} : mw_WP d 81 66 [l0, some (jI x), l2, l3, l4, l5] st σ Q ↔ mw_WP d 81 67 [l0, some (jI x), l2, l3, l4, l5] (jI x :: st) σ Q := WP_iload_n mq81 dd81_66 rfl
theorem dd81_67 : decode cX8_isFoundBehind 67 = .ok (.iconst 1, 1) := by decide +kernel
theorem ww81_67 {d : Nat} {l0 l1 l2 l3 l4 l5 : Option mw_V} {st : List mw_V} {σ : mw_S} {Q : Option mw_V → mw_S → Prop} : mw_WP d 81 67 [l0, l1, l2, l3, l4, l5] st σ Q ↔ mw_WP d 81 68 [l0, l1, l2, l3, l4, l5] (jI (1) :: st) σ Q := WP_iconst mq81 dd81_67 (by decide)
theorem dd81_68 : decode cX8_isFoundBehind 68 = .ok (.iadd, 1) := by decide +kernel
theorem ww81_68 {d : Nat} {l0 l1 l2 l3 l4 l5 : Option mw_V} {x y : Int} {st : List mw_V} {σ : mw_S} {Q : Option mw_V → mw_S → Prop} : mw_WP d 81 68 [l0, l1, l2, l3, l4, l5] (jI y :: jI x :: st) σ Q ↔ mw_WP d 81 69 [l0, l1, l2, l3, l4, l5] (jI (w32 (x + y)) :: st) σ Q := WP_iadd mq81 dd81_68
theorem dd81_69 : decode cX8_isFoundBehind 69 = .ok (.iload_n 2, 1) := by decide +kernel
theorem ww81_69 {d : Nat} {l0 l1 l3 l4 l5 : Option mw_V} {x : Int} {st : List mw_V} {σ : mw_S} {Q : Option mw_V → mw_S → Prop} : mw_WP d 81 69 [l0, l1, some (jI x), l3, l4, l5] st σ Q ↔ mw_WP d 81 70 [l0, l1, some (jI x), l3, l4, l5] (jI x :: st) σ Q := WP_iload_n mq81 dd81_69 rfl
theorem dd81_70 : decode cX8_isFoundBehind 70 = .ok (.if_icmp .ge 14, 3) := by decide +kernel
theorem ww81_70 {d : Nat} {l0 l1 l2 l3 l4 l5 : Option mw_V} {x y : Int} {st : List mw_V} {σ : mw_S} {Q : Option mw_V → mw_S → Prop} : mw_WP d 81 70 [l0, l1, l2, l3, l4, l5] (jI y :: jI x :: st) σ Q ↔ (if y ≤ x then mw_WP d 81 84 [l0, l1, l2, l3, l4, l5] st σ Q else mw_WP d 81 73 [l0, l1, l2, l3, l4, l5] st σ Q) := WP_icmp_ge mq81 dd81_70 (by decide)
theorem dd81_73 : decode cX8_isFoundBehind 73 = .ok (.aload_n 0, 1) := by decide +kernel
theorem ww81_73 {d : Nat} {l1 l2 l3 l4 l5 : Option mw_V} {x : Nat} {st : List mw_V} {σ : mw_S} {Q : Option mw_V → mw_S → Prop} : mw_WP d 81 73 [some (jR x), l1, l2, l3, l4, l5] st σ Q ↔ mw_WP d 81 74 [some (jR x), l1, l2, l3, l4, l5] (jR x :: st) σ Q := WP_aload_n mq81 dd81_73 rfl
theorem dd81_74 : decode cX8_isFoundBehind 74 = .ok (.iload_n 1, 1) := by decide +kernel
theorem ww81_74 {d : Nat} {l0 l2 l3 l4 l5 : Option mw_V} {x : Int} {st : List mw_V} {σ : mw_S} {Q : Option mw_V → mw_S → Prop} : mw_WP d 81 74 [l0, some (jI x), l2, l3, l4, l5] st σ Q ↔ mw_WP d 81 75 [l0, some (jI x), l2, l3, l4, l5] (jI x :: st) σ Q := WP_iload_n mq81 dd81_74 rfl
theorem dd81_75 : decode cX8_isFoundBehind 75 = .ok (.iconst 1, 1) := by decide +kernel
theorem ww81_75 {d : Nat} {l0 l1 l2 l3 l4 l5 : Option mw_V} {st : List mw_V} {σ : mw_S} {Q : Option mw_V → mw_S → Prop} : mw_WP d 81 75 [l0, l1, l2, l3, l4, l5] st σ Q ↔ mw_WP d 81 76 [l0, l1, l2, l3, l4, l5] (jI (1) :: st) σ Q := WP_iconst mq81 dd81_75 (by decide)
theorem dd81_76 : decode cX8_isFoundBehind 76 = .ok (.iadd, 1) := by decide +kernel
theorem ww81_76 {d : Nat} {l0 l1 l2 l3 l4 l5 : Option mw_V} {x y : Int} {st : List mw_V} {σ : mw_S} {Q : Option mw_V → mw_S → Prop} : mw_WP d 81 76 [l0, l1, l2, l3, l4, l5] (jI y :: jI x :: st) σ Q ↔ mw_WP d 81 77 [l0, l1, l2, l3, l4, l5] (jI (w32 (x + y)) :: st) σ Q := WP_iadd mq81 dd81_76
theorem dd81_77 : decode cX8_isFoundBehind 77 = .ok (.iload_n 2, 1) := by decide +kernel
theorem ww81_77 {d : Nat} {l0 l1 l3 l4 l5 : Option mw_V} {x : Int} {st : List mw_V} {σ : mw_S} {Q : Option mw_V → mw_S → Prop} : mw_WP d 81 77 [l0, l1, some (jI x), l3, l4, l5] st σ Q ↔ mw_WP d 81 78 [l0, l1, some (jI x), l3, l4, l5] (jI x :: st) σ Q := WP_iload_n mq81 dd81_77 rfl
theorem dd81_78 : decode cX8_isFoundBehind 78 = .ok (.invokevirtual 49, 3) := by decide +kernel
theorem ww81_78 {d : Nat} {l0 l1 l2 l3 l4 l5 : Option mw_V} {v0 v1 : mw_V} {a : Nat} {st : List mw_V} {σ : mw_S} {Q : Option mw_V → mw_S → Prop} (hr : mw_rc a = 8) (h8 : (st.map mw_cat).sum ≤ 8) : mw_WP d 81 78 [l0, l1, l2, l3, l4, l5] (v1 :: v0 :: jR a :: st) σ Q ↔ mw_Call d 81 [jR a, v0, v1] σ (fun r1 s1 => mw_WP d 81 81 [l0, l1, l2, l3, l4, l5] (r1.toList ++ st) s1 Q) := WP_inv (as := [v1, v0]) mq81 dd81_78 (by decide) mq81 rfl hr h8
theorem dd81_81 : decode cX8_isFoundBehind 81 = .ok (.goto 17, 3) := by decide +kernel
theorem ww81_81 {d : Nat} {l0 l1 l2 l3 l4 l5 : Option mw_V} {st : List mw_V} {σ : mw_S} {Q : Option mw_V → mw_S → Prop} : mw_WP d 81 81 [l0, l1, l2, l3, l4, l5] st σ Q ↔ mw_WP d 81 98 [l0, l1, l2, l3, l4, l5] st σ Q := WP_goto mq81 dd81_81 (by decide)
theorem dd81_84 : decode cX8_isFoundBehind 84 = .ok (.aload_n 0, 1) := by decide +kernel
theorem ww81_84 {d : Nat} {l1 l2 l3 l4 l5 : Option mw_V} {x : Nat} {st : List mw_V} {σ : mw_S} {Q : Option mw_V → mw_S → Prop} : mw_WP d 81 84 [some (jR x), l1, l2, l3, l4, l5] st σ Q ↔ mw_WP d 81 85 [some (jR x), l1, l2, l3, l4, l5] (jR x :: st) σ Q := WP_aload_n mq81 dd81_84 rfl
theorem dd81_85 : decode cX8_isFoundBehind 85 = .ok (.aload_n 0, 1) := by decide +kernel
theorem ww81_85 {d : Nat} {l1 l2 l3 l4 l5 : Option mw_V} {x : Nat} {st : List mw_V} {σ : mw_S} {Q : Option mw_V → mw_S → Prop} : mw_WP d 81 85 [some (jR x), l1, l2, l3, l4, l5] st σ Q ↔ mw_WP d 81 86 [some (jR x), l1, l2, l3, l4, l5] (jR x :: st) σ Q := WP_aload_n mq81 dd81_85 rfl
theorem dd81_86 : decode cX8_isFoundBehind 86 = .ok (.getfield 13, 3) := by decide +kernel
theorem ww81_86 {d : Nat} {l0 l1 l2 l3 l4 l5 : Option mw_V} {st : List mw_V} {σ : mw_S} {Q : Option mw_V → mw_S → Prop} : mw_WP d 81 86 [l0, l1, l2, l3, l4, l5] (jR 45 :: st) σ Q ↔ mw_WP d 81 89 [l0, l1, l2, l3, l4, l5] (jR 46 :: st) σ Q := WP_getR (ci := 7) (k := 3) mq81 dd81_86 (by decide) rfl
theorem dd81_89 : decode cX8_isFoundBehind 89 = .ok (.iload_n 1, 1) := by decide +kernel
theorem ww81_89 {d : Nat} {l0 l2 l3 l4 l5 : Option mw_V} {x : Int} {st : List mw_V} {σ : mw_S} {Q : Option mw_V → mw_S → Prop} : mw_WP d 81 89 [l0, some (jI x), l2, l3, l4, l5] st σ Q ↔ mw_WP d 81 90 [l0, some (jI x), l2, l3, l4, l5] (jI x :: st) σ Q := WP_iload_n mq81 dd81_89 rfl
theorem dd81_90 : decode cX8_isFoundBehind 90 = .ok (.iconst 1, 1) := by decide +kernel
theorem ww81_90 {d : Nat} {l0 l1 l2 l3 l4 l5 : Option mw_V} {st : List mw_V} {σ : mw_S} {Q : Option mw_V → mw_S → Prop} : mw_WP d 81 90 [l0, l1, l2, l3, l4, l5] st σ Q ↔ mw_WP d 81 91 [l0, l1, l2, l3, l4, l5] (jI (1) :: st) σ Q := WP_iconst mq81 dd81_90 (by decide)
theorem dd81_91 : decode cX8_isFoundBehind 91 = .ok (.iadd, 1) := by decide +kernel
theorem ww81_91 {d : Nat} {l0 l1 l2 l3 l4 l5 : Option mw_V} {x y : Int} {st : List mw_V} {σ : mw_S} {Q : Option mw_V → mw_S → Prop} : mw_WP d 81 91 [l0, l1, l2, l3, l4, l5] (jI y :: jI x :: st) σ Q ↔ mw_WP d 81 92 [l0, l1, l2, l3, l4, l5] (jI (w32 (x + y)) :: st) σ Q := WP_iadd mq81 dd81_91
theorem dd81_92 : decode cX8_isFoundBehind 92 = .ok (.aaload, 1) := by decide +kernel
theorem ww81_92 {d : Nat} {l0 l1 l2 l3 l4 l5 : Option mw_V} {z : Int} {a : Nat} {st : List mw_V} {σ : mw_S} {Q : Option mw_V → mw_S → Prop} : mw_WP d 81 92 [l0, l1, l2, l3, l4, l5] (jI z :: jR a :: st) σ Q ↔ ((0 ≤ z ∧ z < (mw_rows a).length) ∧ mw_WP d 81 93 [l0, l1, l2, l3, l4, l5] (jR ((mw_rows a).getD z.toNat 0) :: st) σ Q) := WP_aaload mq81 dd81_92
theorem dd81_93 : decode cX8_isFoundBehind 93 = .ok (.iload 4, 2) := by decide +kernel
theorem ww81_93 {d : Nat} {l0 l1 l2 l3 l5 : Option mw_V} {x : Int} {st : List mw_V} {σ : mw_S} {Q : Option mw_V → mw_S → Prop} : mw_WP d 81 93 [l0, l1, l2, l3, some (jI x), l5] st σ Q ↔ mw_WP d 81 95 [l0, l1, l2, l3, some (jI x), l5] (jI x :: st) σ Q := WP_iload mq81 dd81_93 rfl
theorem dd81_95 : decode cX8_isFoundBehind 95 = .ok (.invokevirtual 45, 3) := by decide +kernel
theorem ww81_95 {d : Nat} {l0 l1 l2 l3 l4 l5 : Option mw_V} {v0 v1 : mw_V} {a : Nat} {st : List mw_V} {σ : mw_S} {Q : Option mw_V → mw_S → Prop} (hr : mw_rc a = 8) (h8 : (st.map mw_cat).sum ≤ 8) : mw_WP d 81 95 [l0, l1, l2, l3, l4, l5] (v1 :: v0 :: jR a :: st) σ Q ↔ mw_Call d 80 [jR a, v0, v1] σ (fun r1 s1 => mw_WP d 81 98 [l0, l1, l2, l3, l4, l5] (r1.toList ++ st) s1 Q) := WP_inv (as := [v1, v0]) mq81 dd81_95 (by decide) mq80 rfl hr h8
theorem dd81_98 : decode cX8_isFoundBehind 98 = .ok (.istore 5, 2) := by decide +kernel
theorem ww81_98 {d : Nat} {l0 l1 l2 l3 l4 l5 : Option mw_V} {x : Int} {st : List mw_V} {σ : mw_S} {Q : Option mw_V → mw_S → Prop} (h : mw_nlo l4 = true) : mw_WP d 81 98 [l0, l1, l2, l3, l4, l5] (jI x :: st) σ Q ↔ mw_WP d 81 100 [l0, l1, l2, l3, l4, some (jI x)] st σ Q := WP_istore mq81 dd81_98 (Nat.le_of_ble_eq_true rfl) (mw_nl_of (i := 4) rfl h) rfl
theorem dd81_100 : decode cX8_isFoundBehind 100 = .ok (.iload 5, 2) := by decide +kernel
theorem ww81_100 {d : Nat} {l0 l1 l2 l3 l4 : Option mw_V} {x : Int} {st : List mw_V} {σ : mw_S} {Q : Option mw_V → mw_S → Prop} : mw_WP d 81 100 [l0, l1, l2, l3, l4, some (jI x)] st σ Q ↔ mw_WP d 81 102 [l0, l1, l2, l3, l4, some (jI x)] (jI x :: st) σ Q := WP_iload mq81 dd81_100 rfl
theorem dd81_102 : decode cX8_isFoundBehind 102 = .ok (.ifCond .eq 5, 3) := by decide +kernel
theorem ww81_102 {d : Nat} {l0 l1 l2 l3 l4 l5 : Option mw_V} {x : Int} {st : List mw_V} {σ : mw_S} {Q : Option mw_V → mw_S → Prop} : mw_WP d 81 102 [l0, l1, l2, l3, l4, l5] (jI x :: st) σ Q ↔ (if x = 0 then mw_WP d 81 107 [l0, l1, l2, l3, l4, l5] st σ Q else mw_WP d 81 105 [l0, l1, l2, l3, l4, l5] st σ Q) := WP_if_eq mq81 dd81_102 (by decide)
theorem dd81_105 : decode cX8_isFoundBehind 105 = .ok (.iconst 1, 1) := by decide +kernel
theorem ww81_105 {d : Nat} {l0 l1 l2 l3 l4 l5 : Option mw_V} {st : List mw_V} {σ : mw_S} {Q : Option mw_V → mw_S → Prop} : mw_WP d 81 105 [l0, l1, l2, l3, l4, l5] st σ Q ↔ mw_WP d 81 106 [l0, l1, l2, l3, l4, l5] (jI (1) :: st) σ Q := WP_iconst mq81 dd81_105 (by decide)
theorem dd81_106 : decode cX8_isFoundBehind 106 = .ok (.ireturn, 1) := by decide +kernel
theorem ww81_106 {d : Nat} {l0 l1 l2 l3 l4 l5 : Option mw_V} {z : Int} {σ : mw_S} {Q : Option mw_V → mw_S → Prop} (h : z = 0 ∨ z = 1) : mw_WP d 81 106 [l0, l1, l2, l3, l4, l5] [jI z] σ Q ↔ Q (some (jI z)) σ := WP_ireturn (ty := .boolean) mq81 dd81_106 rfl (by rcases h with rfl | rfl <;> decide)
theorem dd81_107 : decode cX8_isFoundBehind 107 = .ok (.iinc 3 1, 3) := by decide +kernel
theorem ww81_107 {d : Nat} {l0 l1 l2 l4 l5 : Option mw_V} {x : Int} {st : List mw_V} {σ : mw_S} {Q : Option mw_V → mw_S → Prop} (h : mw_nlo l2 = true) : mw_WP d 81 107 [l0, l1, l2, some (jI x), l4, l5] st σ Q ↔ mw_WP d 81 110 [l0, l1, l2, some (jI (w32 (x + (1)))), l4, l5] st σ Q := WP_iinc mq81 dd81_107 rfl (Nat.le_of_ble_eq_true rfl) (mw_nl_of (i := 2) rfl h) rfl
theorem dd81_110 : decode cX8_isFoundBehind 110 = .ok (.goto (-101), 3) := by decide +kernel
theorem ww81_110 {d : Nat} {l0 l1 l2 l3 l4 l5 : Option mw_V} {st : List mw_V} {σ : mw_S} {Q : Option mw_V → mw_S → Prop} : mw_WP d 81 110 [l0, l1, l2, l3, l4, l5] st σ Q ↔ mw_WP d 81 9 [l0, l1, l2, l3, l4, l5] st σ Q := WP_goto mq81 dd81_110 (by decide)
theorem dd81_113 : decode cX8_isFoundBehind 113 = .ok (.iconst 0, 1) := by decide +kernel
theorem ww81_113 {d : Nat} {l0 l1 l2 l3 l4 l5 : Option mw_V} {st : List mw_V} {σ : mw_S} {Q : Option mw_V → mw_S → Prop} : mw_WP d 81 113 [l0, l1, l2, l3, l4, l5] st σ Q ↔ mw_WP d 81 114 [l0, l1, l2, l3, l4, l5] (jI (0) :: st) σ Q := WP_iconst mq81 dd81_113 (by decide)
theorem dd81_114 : decode cX8_isFoundBehind 114 = .ok (.ireturn, 1) := by decide +kernel
theorem ww81_114 {d : Nat} {l0 l1 l2 l3 l4 l5 : Option mw_V} {z : Int} {σ : mw_S} {Q : Option mw_V → mw_S → Prop} (h : z = 0 ∨ z = 1) : mw_WP d 81 114 [l0, l1, l2, l3, l4, l5] [jI z] σ Q ↔ Q (some (jI z)) σ := WP_ireturn (ty := .boolean) mq81 dd81_114 rfl (by rcases h with rfl | rfl <;> decide)
theorem ee82 {d : Nat} {a : Nat} {a0 : Nat} {z1 : Int} {z2 : Int} {σ : mw_S} {Q : Option mw_V → mw_S → Prop} : mw_Call (d + 1) 82 [jR a, jR a0, jI z1, jI z2] σ Q ↔ mw_WP d 82 0 [some (jR a), some (jR a0), some (jI z1), some (jI z2)] [] σ Q := CL_u mq82 (Nat.le_of_ble_eq_true rfl) rfl
theorem dd82_0 : decode cX8_cellsBehind 0 = .ok (.aload_n 0, 1) := by decide +kernel
theorem ww82_0 {d : Nat} {l1 l2 l3 : Option mw_V} {x : Nat} {st : List mw_V} {σ : mw_S} {Q : Option mw_V → mw_S → Prop} : mw_WP d 82 0 [some (jR x), l1, l2, l3] st σ Q ↔ mw_WP d 82 1 [some (jR x), l1, l2, l3] (jR x :: st) σ Q := WP_aload_n mq82 dd82_0 rfl
theorem dd82_1 : decode cX8_cellsBehind 1 = .ok (.iload_n 2, 1) := by decide +kernel
theorem ww82_1 {d : Nat} {l0 l1 l3 : Option mw_V} {x : Int} {st : List mw_V} {σ : mw_S} {Q : Option mw_V → mw_S → Prop} : mw_WP d 82 1 [l0, l1, some (jI x), l3] st σ Q ↔ mw_WP d 82 2 [l0, l1, some (jI x), l3] (jI x :: st) σ Q := WP_iload_n mq82 dd82_1 rfl
theorem dd82_2 : decode cX8_cellsBehind 2 = .ok (.putfield 31, 3) := by decide +kernel
theorem ww82_2 {d : Nat} {l0 l1 l2 l3 : Option mw_V} {v : Int} {st : List mw_V} {σ : mw_S} {Q : Option mw_V → mw_S → Prop} : mw_WP d 82 2 [l0, l1, l2, l3] (jI v :: jR 45 :: st) σ Q ↔ mw_WP d 82 5 [l0, l1, l2, l3] st (upS σ 45 7 v) Q := WP_putI (ci := 7) (k := 7) mq82 dd82_2 (by decide) rfl
theorem dd82_5 : decode cX8_cellsBehind 5 = .ok (.aload_n 1, 1) := by decide +kernel
theorem ww82_5 {d : Nat} {l0 l2 l3 : Option mw_V} {x : Nat} {st : List mw_V} {σ : mw_S} {Q : Option mw_V → mw_S → Prop} : mw_WP d 82 5 [l0, some (jR x), l2, l3] st σ Q ↔ mw_WP d 82 6 [l0, some (jR x), l2, l3] (jR x :: st) σ Q := WP_aload_n mq82 dd82_5 rfl
theorem dd82_6 : decode cX8_cellsBehind 6 = .ok (.aload_n 0, 1) := by decide +kernel
theorem ww82_6 {d : Nat} {l1 l2 l3 : Option mw_V} {x : Nat} {st : List mw_V} {σ : mw_S} {Q : Option mw_V → mw_S → Prop} : mw_WP d 82 6 [some (jR x), l1, l2, l3] st σ Q ↔ mw_WP d 82 7 [some (jR x), l1, l2, l3] (jR x :: st) σ Q := WP_aload_n mq82 dd82_6 rfl
theorem dd82_7 : decode cX8_cellsBehind 7 = .ok (.getfield 13, 3) := by decide +kernel
theorem ww82_7 {d : Nat} {l0 l1 l2 l3 : Option mw_V} {st : List mw_V} {σ : mw_S} {Q : Option mw_V → mw_S → Prop} : mw_WP d 82 7 [l0, l1, l2, l3] (jR 45 :: st) σ Q ↔ mw_WP d 82 10 [l0, l1, l2, l3] (jR 46 :: st) σ Q := WP_getR (ci := 7) (k := 3) mq82 dd82_7 (by decide) rfl
theorem dd82_10 : decode cX8_cellsBehind 10 = .ok (.iconst 0, 1) := by decide +kernel
theorem ww82_10 {d : Nat} {l0 l1 l2 l3 : Option mw_V} {st : List mw_V} {σ : mw_S} {Q : Option mw_V → mw_S → Prop} : mw_WP d 82 10 [l0, l1, l2, l3] st σ Q ↔ mw_WP d 82 11 [l0, l1, l2, l3] (jI (0) :: st) σ Q := WP_iconst mq82 dd82_10 (by decide)
theorem dd82_11 : decode cX8_cellsBehind 11 = .ok (.aaload, 1) := by decide +kernel
theorem ww82_11 {d : Nat} {l0 l1 l2 l3 : Option mw_V} {z : Int} {a : Nat} {st : List mw_V} {σ : mw_S} {Q : Option mw_V → mw_S → Prop} : mw_WP d 82 11 [l0, l1, l2, l3] (jI z :: jR a :: st) σ Q ↔ ((0 ≤ z ∧ z < (mw_rows a).length) ∧ mw_WP d 82 12 [l0, l1, l2, l3] (jR ((mw_rows a).getD z.toNat 0) :: st) σ Q) := WP_aaload mq82 dd82_11
theorem dd82_12 : decode cX8_cellsBehind 12 = .ok (.invokestatic 41, 3) := by decide +kernel
theorem ww82_12 {d : Nat} {l0 l1 l2 l3 : Option mw_V} {v0 v1 : mw_V} {st : List mw_V} {σ : mw_S} {Q : Option mw_V → mw_S → Prop} (h8 : (st.map mw_cat).sum ≤ 8) : mw_WP d 82 12 [l0, l1, l2, l3] (v1 :: v0 :: st) σ Q ↔ mw_Call d 169 [v0, v1] σ (fun r1 s1 => mw_WP d 82 15 [l0, l1, l2, l3] (r1.toList ++ st) s1 Q) := WP_invn (as := [v1, v0]) mq82 dd82_12 (by decide) (by decide) mq169 rfl rfl h8
theorem dd82_15 : decode cX8_cellsBehind 15 = .ok (.iload_n 3, 1) := by decide +kernel
theorem ww82_15 {d : Nat} {l0 l1 l2 : Option mw_V} {x : Int} {st : List mw_V} {σ : mw_S} {Q : Option mw_V → mw_S → Prop} : mw_WP d 82 15 [l0, l1, l2, some (jI x)] st σ Q ↔ mw_WP d 82 16 [l0, l1, l2, some (jI x)] (jI x :: st) σ Q := WP_iload_n mq82 dd82_15 rfl
theorem dd82_16 : decode cX8_cellsBehind 16 = .ok (.ifCond .ne 13, 3) := by decide +kernel
theorem ww82_16 {d : Nat} {l0 l1 l2 l3 : Option mw_V} {x : Int} {st : List mw_V} {σ : mw_S} {Q : Option mw_V → mw_S → Prop} : mw_WP d 82 16 [l0, l1, l2, l3] (jI x :: st) σ Q ↔ (if ¬ x = 0 then mw_WP d 82 29 [l0, l1, l2, l3] st σ Q else mw_WP d 82 19 [l0, l1, l2, l3] st σ Q) := WP_if_ne mq82 dd82_16 (by decide)
theorem dd82_19 : decode cX8_cellsBehind 19 = .ok (.iconst 1, 1) := by decide +kernel
theorem ww82_19 {d : Nat} {l0 l1 l2 l3 : Option mw_V} {st : List mw_V} {σ : mw_S} {Q : Option mw_V → mw_S → Prop} : mw_WP d 82 19 [l0, l1, l2, l3] st σ Q ↔ mw_WP d 82 20 [l0, l1, l2, l3] (jI (1) :: st) σ Q := WP_iconst mq82 dd82_19 (by decide)
theorem dd82_20 : decode cX8_cellsBehind 20 = .ok (.aload_n 1, 1) := by decide +kernel
theorem ww82_20 {d : Nat} {l0 l2 l3 : Option mw_V} {x : Nat} {st : List mw_V} {σ : mw_S} {Q : Option mw_V → mw_S → Prop} : mw_WP d 82 20 [l0, some (jR x), l2, l3] st σ Q ↔ mw_WP d 82 21 [l0, some (jR x), l2, l3] (jR x :: st) σ Q := WP_aload_n mq82 dd82_20 rfl
theorem dd82_21 : decode cX8_cellsBehind 21 = .ok (.iconst 3, 1) := by decide +kernel
theorem ww82_21 {d : Nat} {l0 l1 l2 l3 : Option mw_V} {st : List mw_V} {σ : mw_S} {Q : Option mw_V → mw_S → Prop} : mw_WP d 82 21 [l0, l1, l2, l3] st σ Q ↔ mw_WP d 82 22 [l0, l1, l2, l3] (jI (3) :: st) σ Q := WP_iconst mq82 dd82_21 (by decide)
theorem dd82_22 : decode cX8_cellsBehind 22 = .ok (.iload_n 2, 1) := by decide +kernel
theorem ww82_22 {d : Nat} {l0 l1 l3 : Option mw_V} {x : Int} {st : List mw_V} {σ : mw_S} {Q : Option mw_V → mw_S → Prop} : mw_WP d 82 22 [l0, l1, some (jI x), l3] st σ Q ↔ mw_WP d 82 23 [l0, l1, some (jI x), l3] (jI x :: st) σ Q := WP_iload_n mq82 dd82_22 rfl
theorem dd82_23 : decode cX8_cellsBehind 23 = .ok (.iadd, 1) := by decide +kernel
theorem ww82_23 {d : Nat} {l0 l1 l2 l3 : Option mw_V} {x y : Int} {st : List mw_V} {σ : mw_S} {Q : Option mw_V → mw_S → Prop} : mw_WP d 82 23 [l0, l1, l2, l3] (jI y :: jI x :: st) σ Q ↔ mw_WP d 82 24 [l0, l1, l2, l3] (jI (w32 (x + y)) :: st) σ Q := WP_iadd mq82 dd82_23
theorem dd82_24 : decode cX8_cellsBehind 24 = .ok (.iaload, 1) := by decide +kernel
theorem ww82_24 {d : Nat} {l0 l1 l2 l3 : Option mw_V} {z : Int} {a : Nat} {st : List mw_V} {σ : mw_S} {Q : Option mw_V → mw_S → Prop} : mw_WP d 82 24 [l0, l1, l2, l3] (jI z :: jR a :: st) σ Q ↔ ((0 ≤ z ∧ z < mw_lenI a) ∧ mw_WP d 82 25 [l0, l1, l2, l3] (jI (mw_rdI σ a z.toNat) :: st) σ Q) := WP_iaload mq82 dd82_24
theorem dd82_25 : decode cX8_cellsBehind 25 = .ok (.ishl, 1) := by decide +kernel
theorem ww82_25 {d : Nat} {l0 l1 l2 l3 : Option mw_V} {x y : Int} {st : List mw_V} {σ : mw_S} {Q : Option mw_V → mw_S → Prop} : mw_WP d 82 25 [l0, l1, l2, l3] (jI y :: jI x :: st) σ Q ↔ mw_WP d 82 26 [l0, l1, l2, l3] (jI (zShl x y) :: st) σ Q := WP_ishl mq82 dd82_25
theorem dd82_26 : decode cX8_cellsBehind 26 = .ok (.goto 9, 3) := by decide +kernel
theorem ww82_26 {d : Nat} {l0 l1 l2 l3 : Option mw_V} {st : List mw_V} {σ : mw_S} {Q : Option mw_V → mw_S → Prop} : mw_WP d 82 26 [l0, l1, l2, l3] st σ Q ↔ mw_WP d 82 35 [l0, l1, l2, l3] st σ Q := WP_goto mq82 dd82_26 (by decide)
theorem dd82_29 : decode cX8_cellsBehind 29 = .ok (.aload_n 0, 1) := by decide +kernel
theorem ww82_29 {d : Nat} {l1 l2 l3 : Option mw_V} {x : Nat} {st : List mw_V} {σ : mw_S} {Q : Option mw_V → mw_S → Prop} : mw_WP d 82 29 [some (jR x), l1, l2, l3] st σ Q ↔ mw_WP d 82 30 [some (jR x), l1, l2, l3] (jR x :: st) σ Q := WP_aload_n mq82 dd82_29 rfl
theorem dd82_30 : decode cX8_cellsBehind 30 = .ok (.iconst 0, 1) := by decide +kernel
theorem ww82_30 {d : Nat} {l0 l1 l2 l3 : Option mw_V} {st : List mw_V} {σ : mw_S} {Q : Option mw_V → mw_S → Prop} : mw_WP d 82 30 [l0, l1, l2, l3] st σ Q ↔ mw_WP d 82 31 [l0, l1, l2, l3] (jI (0) :: st) σ Q := WP_iconst mq82 dd82_30 (by decide)
theorem dd82_31 : decode cX8_cellsBehind 31 = .ok (.iload_n 3, 1) := by decide +kernel
theorem ww82_31 {d : Nat} {l0 l1 l2 : Option mw_V} {x : Int} {st : List mw_V} {σ : mw_S} {Q : Option mw_V → mw_S → Prop} : mw_WP d 82 31 [l0, l1, l2, some (jI x)] st σ Q ↔ mw_WP d 82 32 [l0, l1, l2, some (jI x)] (jI x :: st) σ Q := WP_iload_n mq82 dd82_31 rfl
theorem dd82_32 : decode cX8_cellsBehind 32 = .ok (.invokevirtual 62, 3) := by decide +kernel
theorem ww82_32 {d : Nat} {l0 l1 l2 l3 : Option mw_V} {v0 v1 : mw_V} {a : Nat} {st : List mw_V} {σ : mw_S} {Q : Option mw_V → mw_S → Prop} (hr : mw_rc a = 8) (h8 : (st.map mw_cat).sum ≤ 8) : mw_WP d 82 32 [l0, l1, l2, l3] (v1 :: v0 :: jR a :: st) σ Q ↔ mw_Call d 83 [jR a, v0, v1] σ (fun r1 s1 => mw_WP d 82 35 [l0, l1, l2, l3] (r1.toList ++ st) s1 Q) := WP_inv (as := [v1, v0]) mq82 dd82_32 (by decide) mq83 rfl hr h8
theorem dd82_35 : decode cX8_cellsBehind 35 = .ok (.ireturn, 1) := by decide +kernel
theorem ww82_35 {d : Nat} {l0 l1 l2 l3 : Option mw_V} {z : Int} {σ : mw_S} {Q : Option mw_V → mw_S → Prop} : mw_WP d 82 35 [l0, l1, l2, l3] [jI z] σ Q ↔ Q (some (jI z)) σ := WP_ireturn (ty := .int) mq82 dd82_35 rfl rfl
theorem ee83 {d : Nat} {a : Nat} {z0 : Int} {z1 : Int} {σ : mw_S} {Q : Option mw_V → mw_S → Prop} : mw_Call (d + 1) 83 [jR a, jI z0, jI z1] σ Q ↔ mw_WP d 83 0 [some (jR a), some (jI z0), some (jI z1), none, none, none] [] σ Q := CL_u mq83 (Nat.le_of_ble_eq_true rfl) rfl
theorem dd83_0 : decode cX8_cellsFrom 0 = .ok (.iconst 0, 1) := by decide +kernel
theorem ww83_0 {d : Nat} {l0 l1 l2 l3 l4 l5 : Option mw_V} {st : List mw_V} {σ : mw_S} {Q : Option mw_V → mw_S → Prop} : mw_WP d 83 0 [l0, l1, l2, l3, l4, l5] st σ Q ↔ mw_WP d 83 1 [l0, l1, l2, l3, l4, l5] (jI (0) :: st) σ Q := WP_iconst mq83 dd83_0 (by decide)
theorem dd83_1 : decode cX8_cellsFrom 1 = .ok (.istore_n 3, 1) := by decide +kernel
theorem ww83_1 {d : Nat} {l0 l1 l2 l3 l4 l5 : Option mw_V} {x : Int} {st : List mw_V} {σ : mw_S} {Q : Option mw_V → mw_S → Prop} (h : mw_nlo l2 = true) : mw_WP d 83 1 [l0, l1, l2, l3, l4, l5] (jI x :: st) σ Q ↔ mw_WP d 83 2 [l0, l1, l2, some (jI x), l4, l5] st σ Q := WP_istore_n mq83 dd83_1 (Nat.le_of_ble_eq_true rfl) (mw_nl_of (i := 2) rfl h) rfl
theorem dd83_2 : decode cX8_cellsFrom 2 = .ok (.iload_n 1, 1) := by decide +kernel
theorem ww83_2 {d : Nat} {l0 l2 l3 l4 l5 : Option mw_V} {x : Int} {st : List mw_V} {σ : mw_S} {Q : Option mw_V → mw_S → Prop} : mw_WP d 83 2 [l0, some (jI x), l2, l3, l4, l5] st σ Q ↔ mw_WP d 83 3 [l0, some (jI x), l2, l3, l4, l5] (jI x :: st) σ Q := WP_iload_n mq83 dd83_2 rfl
theorem dd83_3 : decode cX8_cellsFrom 3 = .ok (.iconst 4, 1) := by decide +kernel
theorem ww83_3 {d : Nat} {l0 l1 l2 l3 l4 l5 : Option mw_V} {st : List mw_V} {σ : mw_S} {Q : Option mw_V → mw_S → Prop} : mw_WP d 83 3 [l0, l1, l2, l3, l4, l5] st σ Q ↔ mw_WP d 83 4 [l0, l1, l2, l3, l4, l5] (jI (4) :: st) σ Q := WP_iconst mq83 dd83_3 (by decide)
theorem dd83_4 : decode cX8_cellsFrom 4 = .ok (.if_icmp .lt 5, 3) := by decide +kernel
theorem ww83_4 {d : Nat} {l0 l1 l2 l3 l4 l5 : Option mw_V} {x y : Int} {st : List mw_V} {σ : mw_S} {Q : Option mw_V → mw_S → Prop} : mw_WP d 83 4 [l0, l1, l2, l3, l4, l5] (jI y :: jI x :: st) σ Q ↔ (if x < y then mw_WP d 83 9 [l0, l1, l2, l3, l4, l5] st σ Q else mw_WP d 83 7 [l0, l1, l2, l3, l4, l5] st σ Q) := WP_icmp_lt mq83 dd83_4 (by decide)
theorem dd83_7 : decode cX8_cellsFrom 7 = .ok (.iload_n 3, 1) := by decide +kernel
theorem ww83_7 {d : Nat} {l0 l1 l2 l4 l5 : Option mw_V} {x : Int} {st : List mw_V} {σ : mw_S} {Q : Option mw_V → mw_S → Prop} : mw_WP d 83 7 [l0, l1, l2, some (jI x), l4, l5] st σ Q ↔ mw_WP d 83 8 [l0, l1, l2, some (jI x), l4, l5] (jI x :: st) σ Q := WP_iload_n mq83 dd83_7 rfl
theorem dd83_8 : decode cX8_cellsFrom 8 = .ok (.ireturn, 1) := by decide +kernel
theorem ww83_8 {d : Nat} {l0 l1 l2 l3 l4 l5 : Option mw_V} {z : Int} {σ : mw_S} {Q : Option mw_V → mw_S → Prop} : mw_WP d 83 8 [l0, l1, l2, l3, l4, l5] [jI z] σ Q ↔ Q (some (jI z)) σ := WP_ireturn (ty := .int) mq83 dd83_8 rfl rfl
theorem dd83_9 : decode cX8_cellsFrom 9 = .ok (.iconst 0, 1) := by decide +kernel
theorem ww83_9 {d : Nat} {l0 l1 l2 l3 l4 l5 : Option mw_V} {st : List mw_V} {σ : mw_S} {Q : Option mw_V → mw_S → Prop} : mw_WP d 83 9 [l0, l1, l2, l3, l4, l5] st σ Q ↔ mw_WP d 83 10 [l0, l1, l2, l3, l4, l5] (jI (0) :: st) σ Q := WP_iconst mq83 dd83_9 (by decide)
theorem dd83_10 : decode cX8_cellsFrom 10 = .ok (.istore 4, 2) := by decide +kernel
theorem ww83_10 {d : Nat} {l0 l1 l2 l3 l4 l5 : Option mw_V} {x : Int} {st : List mw_V} {σ : mw_S} {Q : Option mw_V → mw_S → Prop} (h : mw_nlo l3 = true) : mw_WP d 83 10 [l0, l1, l2, l3, l4, l5] (jI x :: st) σ Q ↔ mw_WP d 83 12 [l0, l1, l2, l3, some (jI x), l5] st σ Q := WP_istore mq83 dd83_10 (Nat.le_of_ble_eq_true rfl) (mw_nl_of (i := 3) rfl h) rfl
theorem dd83_12 : decode cX8_cellsFrom 12 = .ok (.iload 4, 2) := by decide +kernel
theorem ww83_12 {d : Nat} {l0 l1 l2 l3 l5 : Option mw_V} {x : Int} {st : List mw_V} {σ : mw_S} {Q : Option mw_V → mw_S → Prop} : mw_WP d 83 12 [l0, l1, l2, l3, some (jI x), l5] st σ Q ↔ mw_WP d 83 14 [l0, l1, l2, l3, some (jI x), l5] (jI x :: st) σ Q := WP_iload mq83 dd83_12 rfl
theorem dd83_14 : decode cX8_cellsFrom 14 = .ok (.bipush 9, 2) := by decide +kernel
theorem ww83_14 {d : Nat} {l0 l1 l2 l3 l4 l5 : Option mw_V} {st : List mw_V} {σ : mw_S} {Q : Option mw_V → mw_S → Prop} : mw_WP d 83 14 [l0, l1, l2, l3, l4, l5] st σ Q ↔ mw_WP d 83 16 [l0, l1, l2, l3, l4, l5] (jI (9) :: st) σ Q := WP_bipush mq83 dd83_14 (by decide)
theorem dd83_16 : decode cX8_cellsFrom 16 = .ok (.if_icmp .ge 138, 3) := by decide +kernel
theorem ww83_16 {d : Nat} {l0 l1 l2 l3 l4 l5 : Option mw_V} {x y : Int} {st : List mw_V} {σ : mw_S} {Q : Option mw_V → mw_S → Prop} : mw_WP d 83 16 [l0, l1, l2, l3, l4, l5] (jI y :: jI x :: st) σ Q ↔ (if y ≤ x then mw_WP d 83 154 [l0, l1, l2, l3, l4, l5] st σ Q else mw_WP d 83 19 [l0, l1, l2, l3, l4, l5] st σ Q) := WP_icmp_ge mq83 dd83_16 (by decide)
theorem dd83_19 : decode cX8_cellsFrom 19 = .ok (.iload_n 1, 1) := by decide +kernel
theorem ww83_19 {d : Nat} {l0 l2 l3 l4 l5 : Option mw_V} {x : Int} {st : List mw_V} {σ : mw_S} {Q : Option mw_V → mw_S → Prop} : mw_WP d 83 19 [l0, some (jI x), l2, l3, l4, l5] st σ Q ↔ mw_WP d 83 20 [l0, some (jI x), l2, l3, l4, l5] (jI x :: st) σ Q := WP_iload_n mq83 dd83_19 rfl
theorem dd83_20 : decode cX8_cellsFrom 20 = .ok (.iconst 1, 1) := by decide +kernel
theorem ww83_20 {d : Nat} {l0 l1 l2 l3 l4 l5 : Option mw_V} {st : List mw_V} {σ : mw_S} {Q : Option mw_V → mw_S → Prop} : mw_WP d 83 20 [l0, l1, l2, l3, l4, l5] st σ Q ↔ mw_WP d 83 21 [l0, l1, l2, l3, l4, l5] (jI (1) :: st) σ Q := WP_iconst mq83 dd83_20 (by decide)
theorem dd83_21 : decode cX8_cellsFrom 21 = .ok (.iadd, 1) := by decide +kernel
theorem ww83_21 {d : Nat} {l0 l1 l2 l3 l4 l5 : Option mw_V} {x y : Int} {st : List mw_V} {σ : mw_S} {Q : Option mw_V → mw_S → Prop} : mw_WP d 83 21 [l0, l1, l2, l3, l4, l5] (jI y :: jI x :: st) σ Q ↔ mw_WP d 83 22 [l0, l1, l2, l3, l4, l5] (jI (w32 (x + y)) :: st) σ Q := WP_iadd mq83 dd83_21
theorem dd83_22 : decode cX8_cellsFrom 22 = .ok (.iload_n 2, 1) := by decide +kernel
theorem ww83_22 {d : Nat} {l0 l1 l3 l4 l5 : Option mw_V} {x : Int} {st : List mw_V} {σ : mw_S} {Q : Option mw_V → mw_S → Prop} : mw_WP d 83 22 [l0, l1, some (jI x), l3, l4, l5] st σ Q ↔ mw_WP d 83 23 [l0, l1, some (jI x), l3, l4, l5] (jI x :: st) σ Q := WP_iload_n mq83 dd83_22 rfl
theorem dd83_23 : decode cX8_cellsFrom 23 = .ok (.if_icmp .ge 61, 3) := by decide +kernel
theorem ww83_23 {d : Nat} {l0 l1 l2 l3 l4 l5 : Option mw_V} {x y : Int} {st : List mw_V} {σ : mw_S} {Q : Option mw_V → mw_S → Prop} : mw_WP d 83 23 [l0, l1, l2, l3, l4, l5] (jI y :: jI x :: st) σ Q ↔ (if y ≤ x then mw_WP d 83 84 [l0, l1, l2, l3, l4, l5] st σ Q else mw_WP d 83 26 [l0, l1, l2, l3, l4, l5] st σ Q) := WP_icmp_ge mq83 dd83_23 (by decide)
theorem dd83_26 : decode cX8_cellsFrom 26 = .ok (.aload_n 0, 1) := by decide +kernel
theorem ww83_26 {d : Nat} {l1 l2 l3 l4 l5 : Option mw_V} {x : Nat} {st : List mw_V} {σ : mw_S} {Q : Option mw_V → mw_S → Prop} : mw_WP d 83 26 [some (jR x), l1, l2, l3, l4, l5] st σ Q ↔ mw_WP d 83 27 [some (jR x), l1, l2, l3, l4, l5] (jR x :: st) σ Q := WP_aload_n mq83 dd83_26 rfl
theorem dd83_27 : decode cX8_cellsFrom 27 = .ok (.getfield 13, 3) := by decide +kernel
theorem ww83_27 {d : Nat} {l0 l1 l2 l3 l4 l5 : Option mw_V} {st : List mw_V} {σ : mw_S} {Q : Option mw_V → mw_S → Prop} : mw_WP d 83 27 [l0, l1, l2, l3, l4, l5] (jR 45 :: st) σ Q ↔ mw_WP d 83 30 [l0, l1, l2, l3, l4, l5] (jR 46 :: st) σ Q := WP_getR (ci := 7) (k := 3) mq83 dd83_27 (by decide) rfl
theorem dd83_30 : decode cX8_cellsFrom 30 = .ok (.iload_n 1, 1) := by decide +kernel
theorem ww83_30 {d : Nat} {l0 l2 l3 l4 l5 : Option mw_V} {x : Int} {st : List mw_V} {σ : mw_S} {Q : Option mw_V → mw_S → Prop} : mw_WP d 83 30 [l0, some (jI x), l2, l3, l4, l5] st σ Q ↔ mw_WP d 83 31 [l0, some (jI x), l2, l3, l4, l5] (jI x :: st) σ Q := WP_iload_n mq83 dd83_30 rfl
theorem dd83_31 : decode cX8_cellsFrom 31 = .ok (.aaload, 1) := by decide +kernel
theorem ww83_31 {d : Nat} {l0 l1 l2 l3 l4 l5 : Option mw_V} {z : Int} {a : Nat} {st : List mw_V} {σ : mw_S} {Q : Option mw_V → mw_S → Prop} : mw_WP d 83 31 [l0, l1, l2, l3, l4, l5] (jI z :: jR a :: st) σ Q ↔ ((0 ≤ z ∧ z < (mw_rows a).length) ∧ mw_WP d 83 32 [l0, l1, l2, l3, l4, l5] (jR ((mw_rows a).getD z.toNat 0) :: st) σ Q) := WP_aaload mq83 dd83_31
theorem dd83_32 : decode cX8_cellsFrom 32 = .ok (.aload_n 0, 1) := by decide +kernel
theorem ww83_32 {d : Nat} {l1 l2 l3 l4 l5 : Option mw_V} {x : Nat} {st : List mw_V} {σ : mw_S} {Q : Option mw_V → mw_S → Prop} : mw_WP d 83 32 [some (jR x), l1, l2, l3, l4, l5] st σ Q ↔ mw_WP d 83 33 [some (jR x), l1, l2, l3, l4, l5] (jR x :: st) σ Q := WP_aload_n mq83 dd83_32 rfl
theorem dd83_33 : decode cX8_cellsFrom 33 = .ok (.getfield 13, 3) := by decide +kernel
theorem ww83_33 {d : Nat} {l0 l1 l2 l3 l4 l5 : Option mw_V} {st : List mw_V} {σ : mw_S} {Q : Option mw_V → mw_S → Prop} : mw_WP d 83 33 [l0, l1, l2, l3, l4, l5] (jR 45 :: st) σ Q ↔ mw_WP d 83 36 [l0, l1, l2, l3, l4, l5] (jR 46 :: st) σ Q := WP_getR (ci := 7) (k := 3) mq83 dd83_33 (by decide) rfl
theorem dd83_36 : decode cX8_cellsFrom 36 = .ok (.iload_n 1, 1) := by decide +kernel
theorem ww83_36 {d : Nat} {l0 l2 l3 l4 l5 : Option mw_V} {x : Int} {st : List mw_V} {σ : mw_S} {Q : Option mw_V → mw_S → Prop} : mw_WP d 83 36 [l0, some (jI x), l2, l3, l4, l5] st σ Q ↔ mw_WP d 83 37 [l0, some (jI x), l2, l3, l4, l5] (jI x :: st) σ Q := WP_iload_n mq83 dd83_36 rfl
theorem dd83_37 : decode cX8_cellsFrom 37 = .ok (.iconst 1, 1) := by decide +kernel
theorem ww83_37 {d : Nat} {l0 l1 l2 l3 l4 l5 : Option mw_V} {st : List mw_V} {σ : mw_S} {Q : Option mw_V → mw_S → Prop} : mw_WP d 83 37 [l0, l1, l2, l3, l4, l5] st σ Q ↔ mw_WP d 83 38 [l0, l1, l2, l3, l4, l5] (jI (1) :: st) σ Q := WP_iconst mq83 dd83_37 (by decide)
theorem dd83_38 : decode cX8_cellsFrom 38 = .ok (.iadd, 1) := by decide +kernel
theorem ww83_38 {d : Nat} {l0 l1 l2 l3 l4 l5 : Option mw_V} {x y : Int} {st : List mw_V} {σ : mw_S} {Q : Option mw_V → mw_S → Prop} : mw_WP d 83 38 [l0, l1, l2, l3, l4, l5] (jI y :: jI x :: st) σ Q ↔ mw_WP d 83 39 [l0, l1, l2, l3, l4, l5] (jI (w32 (x + y)) :: st) σ Q := WP_iadd mq83 dd83_38
theorem dd83_39 : decode cX8_cellsFrom 39 = .ok (.aaload, 1) := by decide +kernel
theorem ww83_39 {d : Nat} {l0 l1 l2 l3 l4 l5 : Option mw_V} {z : Int} {a : Nat} {st : List mw_V} {σ : mw_S} {Q : Option mw_V → mw_S → Prop} : mw_WP d 83 39 [l0, l1, l2, l3, l4, l5] (jI z :: jR a :: st) σ Q ↔ ((0 ≤ z ∧ z < (mw_rows a).length) ∧ mw_WP d 83 40 [l0, l1, l2, l3, l4, l5] (jR ((mw_rows a).getD z.toNat 0) :: st) σ Q) := WP_aaload mq83 dd83_39
theorem dd83_40 : decode cX8_cellsFrom 40 = .ok (.invokestatic 41, 3) := by decide +kernel
theorem ww83_40 {d : Nat} {l0 l1 l2 l3 l4 l5 : Option mw_V} {v0 v1 : mw_V} {st : List mw_V} {σ : mw_S} {Q : Option mw_V → mw_S → Prop} (h8 : (st.map mw_cat).sum ≤ 8) : mw_WP d 83 40 [l0, l1, l2, l3, l4, l5] (v1 :: v0 :: st) σ Q ↔ mw_Call d 169 [v0, v1] σ (fun r1 s1 => mw_WP d 83 43 [l0, l1, l2, l3, l4, l5] (r1.toList ++ st) s1 Q) := WP_invn (as := [v1, v0]) mq83 dd83_40 (by decide) (by decide) mq169 rfl rfl h8
theorem dd83_43 : decode cX8_cellsFrom 43 = .ok (.aload_n 0, 1) := by decide +kernel
theorem ww83_43 {d : Nat} {l1 l2 l3 l4 l5 : Option mw_V} {x : Nat} {st : List mw_V} {σ : mw_S} {Q : Option mw_V → mw_S → Prop} : mw_WP d 83 43 [some (jR x), l1, l2, l3, l4, l5] st σ Q ↔ mw_WP d 83 44 [some (jR x), l1, l2, l3, l4, l5] (jR x :: st) σ Q := WP_aload_n mq83 dd83_43 rfl
theorem dd83_44 : decode cX8_cellsFrom 44 = .ok (.getfield 27, 3) := by decide +kernel
theorem ww83_44 {d : Nat} {l0 l1 l2 l3 l4 l5 : Option mw_V} {st : List mw_V} {σ : mw_S} {Q : Option mw_V → mw_S → Prop} : mw_WP d 83 44 [l0, l1, l2, l3, l4, l5] (jR 45 :: st) σ Q ↔ mw_WP d 83 47 [l0, l1, l2, l3, l4, l5] (jR 22 :: st) σ Q := WP_getR (ci := 7) (k := 2) mq83 dd83_44 (by decide) rfl
theorem dd83_47 : decode cX8_cellsFrom 47 = .ok (.aload_n 0, 1) := by decide +kernel
theorem ww83_47 {d : Nat} {l1 l2 l3 l4 l5 : Option mw_V} {x : Nat} {st : List mw_V} {σ : mw_S} {Q : Option mw_V → mw_S → Prop} : mw_WP d 83 47 [some (jR x), l1, l2, l3, l4, l5] st σ Q ↔ mw_WP d 83 48 [some (jR x), l1, l2, l3, l4, l5] (jR x :: st) σ Q := WP_aload_n mq83 dd83_47 rfl
theorem dd83_48 : decode cX8_cellsFrom 48 = .ok (.getfield 13, 3) := by decide +kernel
theorem ww83_48 {d : Nat} {l0 l1 l2 l3 l4 l5 : Option mw_V} {st : List mw_V} {σ : mw_S} {Q : Option mw_V → mw_S → Prop} : mw_WP d 83 48 [l0, l1, l2, l3, l4, l5] (jR 45 :: st) σ Q ↔ mw_WP d 83 51 [l0, l1, l2, l3, l4, l5] (jR 46 :: st) σ Q := WP_getR (ci := 7) (k := 3) mq83 dd83_48 (by decide) rfl
theorem dd83_51 : decode cX8_cellsFrom 51 = .ok (.iload_n 1, 1) := by decide +kernel
theorem ww83_51 {d : Nat} {l0 l2 l3 l4 l5 : Option mw_V} {x : Int} {st : List mw_V} {σ : mw_S} {Q : Option mw_V → mw_S → Prop} : mw_WP d 83 51 [l0, some (jI x), l2, l3, l4, l5] st σ Q ↔ mw_WP d 83 52 [l0, some (jI x), l2, l3, l4, l5] (jI x :: st) σ Q := WP_iload_n mq83 dd83_51 rfl
theorem dd83_52 : decode cX8_cellsFrom 52 = .ok (.iconst 1, 1) := by decide +kernel
theorem ww83_52 {d : Nat} {l0 l1 l2 l3 l4 l5 : Option mw_V} {st : List mw_V} {σ : mw_S} {Q : Option mw_V → mw_S → Prop} : mw_WP d 83 52 [l0, l1, l2, l3, l4, l5] st σ Q ↔ mw_WP d 83 53 [l0, l1, l2, l3, l4, l5] (jI (1) :: st) σ Q := WP_iconst mq83 dd83_52 (by decide)
theorem dd83_53 : decode cX8_cellsFrom 53 = .ok (.iadd, 1) := by decide +kernel
theorem ww83_53 {d : Nat} {l0 l1 l2 l3 l4 l5 : Option mw_V} {x y : Int} {st : List mw_V} {σ : mw_S} {Q : Option mw_V → mw_S → Prop} : mw_WP d 83 53 [l0, l1, l2, l3, l4, l5] (jI y :: jI x :: st) σ Q ↔ mw_WP d 83 54 [l0, l1, l2, l3, l4, l5] (jI (w32 (x + y)) :: st) σ Q := WP_iadd mq83 dd83_53
theorem dd83_54 : decode cX8_cellsFrom 54 = .ok (.aaload, 1) := by decide +kernel
theorem ww83_54 {d : Nat} {l0 l1 l2 l3 l4 l5 : Option mw_V} {z : Int} {a : Nat} {st : List mw_V} {σ : mw_S} {Q : Option mw_V → mw_S → Prop} : mw_WP d 83 54 [l0, l1, l2, l3, l4, l5] (jI z :: jR a :: st) σ Q ↔ ((0 ≤ z ∧ z < (mw_rows a).length) ∧ mw_WP d 83 55 [l0, l1, l2, l3, l4, l5] (jR ((mw_rows a).getD z.toNat 0) :: st) σ Q) := WP_aaload mq83 dd83_54
theorem dd83_55 : decode cX8_cellsFrom 55 = .ok (.iload 4, 2) := by decide +kernel
theorem ww83_55 {d : Nat} {l0 l1 l2 l3 l5 : Option mw_V} {x : Int} {st : List mw_V} {σ : mw_S} {Q : Option mw_V → mw_S → Prop} : mw_WP d 83 55 [l0, l1, l2, l3, some (jI x), l5] st σ Q ↔ mw_WP d 83 57 [l0, l1, l2, l3, some (jI x), l5] (jI x :: st) σ Q := WP_iload mq83 dd83_55 rfl
theorem dd83_57 : decode cX8_cellsFrom 57 = .ok (.getstatic 53, 3) := by decide +kernel
theorem ww83_57 {d : Nat} {l0 l1 l2 l3 l4 l5 : Option mw_V} {st : List mw_V} {σ : mw_S} {Q : Option mw_V → mw_S → Prop} : mw_WP d 83 57 [l0, l1, l2, l3, l4, l5] st σ Q ↔ mw_WP d 83 60 [l0, l1, l2, l3, l4, l5] (jR 3000 :: st) σ Q := WP_gets0 mq83 dd83_57 (by decide)
theorem dd83_60 : decode cX8_cellsFrom 60 = .ok (.aload_n 0, 1) := by decide +kernel
theorem ww83_60 {d : Nat} {l1 l2 l3 l4 l5 : Option mw_V} {x : Nat} {st : List mw_V} {σ : mw_S} {Q : Option mw_V → mw_S → Prop} : mw_WP d 83 60 [some (jR x), l1, l2, l3, l4, l5] st σ Q ↔ mw_WP d 83 61 [some (jR x), l1, l2, l3, l4, l5] (jR x :: st) σ Q := WP_aload_n mq83 dd83_60 rfl
theorem dd83_61 : decode cX8_cellsFrom 61 = .ok (.getfield 31, 3) := by decide +kernel
theorem ww83_61 {d : Nat} {l0 l1 l2 l3 l4 l5 : Option mw_V} {st : List mw_V} {σ : mw_S} {Q : Option mw_V → mw_S → Prop} : mw_WP d 83 61 [l0, l1, l2, l3, l4, l5] (jR 45 :: st) σ Q ↔ mw_WP d 83 64 [l0, l1, l2, l3, l4, l5] (jI (σ 45 7) :: st) σ Q := WP_getI (ci := 7) (k := 7) mq83 dd83_61 (by decide) (Or.inl rfl)
theorem dd83_64 : decode cX8_cellsFrom 64 = .ok (.iaload, 1) := by decide +kernel
theorem ww83_64 {d : Nat} {l0 l1 l2 l3 l4 l5 : Option mw_V} {z : Int} {a : Nat} {st : List mw_V} {σ : mw_S} {Q : Option mw_V → mw_S → Prop} : mw_WP d 83 64 [l0, l1, l2, l3, l4, l5] (jI z :: jR a :: st) σ Q ↔ ((0 ≤ z ∧ z < mw_lenI a) ∧ mw_WP d 83 65 [l0, l1, l2, l3, l4, l5] (jI (mw_rdI σ a z.toNat) :: st) σ Q) := WP_iaload mq83 dd83_64
theorem dd83_65 : decode cX8_cellsFrom 65 = .ok (.imul, 1) := by decide +kernel
theorem ww83_65 {d : Nat} {l0 l1 l2 l3 l4 l5 : Option mw_V} {x y : Int} {st : List mw_V} {σ : mw_S} {Q : Option mw_V → mw_S → Prop} : mw_WP d 83 65 [l0, l1, l2, l3, l4, l5] (jI y :: jI x :: st) σ Q ↔ mw_WP d 83 66 [l0, l1, l2, l3, l4, l5] (jI (w32 (x * y)) :: st) σ Q := WP_imul mq83 dd83_65
theorem dd83_66 : decode cX8_cellsFrom 66 = .ok (.invokevirtual 56, 3) := by decide +kernel
theorem ww83_66 {d : Nat} {l0 l1 l2 l3 l4 l5 : Option mw_V} {v0 v1 : mw_V} {a : Nat} {st : List mw_V} {σ : mw_S} {Q : Option mw_V → mw_S → Prop} (hr : mw_rc a = 9) (h8 : (st.map mw_cat).sum ≤ 8) : mw_WP d 83 66 [l0, l1, l2, l3, l4, l5] (v1 :: v0 :: jR a :: st) σ Q ↔ mw_Call d 88 [jR a, v0, v1] σ (fun r1 s1 => mw_WP d 83 69 [l0, l1, l2, l3, l4, l5] (r1.toList ++ st) s1 Q) := WP_inv (as := [v1, v0]) mq83 dd83_66 (by decide) mq88 rfl hr h8
theorem dd83_69 : decode cX8_cellsFrom 69 = .ok (.pop, 1) := by decide +kernel
theorem ww83_69 {d : Nat} {l0 l1 l2 l3 l4 l5 : Option mw_V} {v : mw_V} {st : List mw_V} {σ : mw_S} {Q : Option mw_V → mw_S → Prop} (h : mw_cat v = 1) : mw_WP d 83 69 [l0, l1, l2, l3, l4, l5] (v :: st) σ Q ↔ mw_WP d 83 70 [l0, l1, l2, l3, l4, l5] st σ Q := WP_pop mq83 dd83_69 h
theorem dd83_70 : decode cX8_cellsFrom 70 = .ok (.iload_n 3, 1) := by decide +kernel
theorem ww83_70 {d : Nat} {l0 l1 l2 l4 l5 : Option mw_V} {x : Int} {st : List mw_V} {σ : mw_S} {Q : Option mw_V → mw_S → Prop} : mw_WP d 83 70 [l0, l1, l2, some (jI x), l4, l5] st σ Q ↔ mw_WP d 83 71 [l0, l1, l2, some (jI x), l4, l5] (jI x :: st) σ Q := WP_iload_n mq83 dd83_70 rfl
theorem dd83_71 : decode cX8_cellsFrom 71 = .ok (.aload_n 0, 1) := by decide +kernel
theorem ww83_71 {d : Nat} {l1 l2 l3 l4 l5 : Option mw_V} {x : Nat} {st : List mw_V} {σ : mw_S} {Q : Option mw_V → mw_S → Prop} : mw_WP d 83 71 [some (jR x), l1, l2, l3, l4, l5] st σ Q ↔ mw_WP d 83 72 [some (jR x), l1, l2, l3, l4, l5] (jR x :: st) σ Q := WP_aload_n mq83 dd83_71 rfl
theorem dd83_72 : decode cX8_cellsFrom 72 = .ok (.iload_n 1, 1) := by decide +kernel
theorem ww83_72 {d : Nat} {l0 l2 l3 l4 l5 : Option mw_V} {x : Int} {st : List mw_V} {σ : mw_S} {Q : Option mw_V → mw_S → Prop} : mw_WP d 83 72 [l0, some (jI x), l2, l3, l4, l5] st σ Q ↔ mw_WP d 83 73 [l0, some (jI x), l2, l3, l4, l5] (jI x :: st) σ Q := WP_iload_n mq83 dd83_72 rfl
theorem dd83_73 : decode cX8_cellsFrom 73 = .ok (.iconst 1, 1) := by decide +kernel
theorem ww83_73 {d : Nat} {l0 l1 l2 l3 l4 l5 : Option mw_V} {st : List mw_V} {σ : mw_S} {Q : Option mw_V → mw_S → Prop} : mw_WP d 83 73 [l0, l1, l2, l3, l4, l5] st σ Q ↔ mw_WP d 83 74 [l0, l1, l2, l3, l4, l5] (jI (1) :: st) σ Q := WP_iconst mq83 dd83_73 (by decide)
theorem dd83_74 : decode cX8_cellsFrom 74 = .ok (.iadd, 1) := by decide +kernel
theorem ww83_74 {d : Nat} {l0 l1 l2 l3 l4 l5 : Option mw_V} {x y : Int} {st : List mw_V} {σ : mw_S} {Q : Option mw_V → mw_S → Prop} : mw_WP d 83 74 [l0, l1, l2, l3, l4, l5] (jI y :: jI x :: st) σ Q ↔ mw_WP d 83 75 [l0, l1, l2, l3, l4, l5] (jI (w32 (x + y)) :: st) σ Q := WP_iadd mq83 dd83_74
theorem dd83_75 : decode cX8_cellsFrom 75 = .ok (.iload_n 2, 1) := by decide +kernel
theorem ww83_75 {d : Nat} {l0 l1 l3 l4 l5 : Option mw_V} {x : Int} {st : List mw_V} {σ : mw_S} {Q : Option mw_V → mw_S → Prop} : mw_WP d 83 75 [l0, l1, some (jI x), l3, l4, l5] st σ Q ↔ mw_WP d 83 76 [l0, l1, some (jI x), l3, l4, l5] (jI x :: st) σ Q := WP_iload_n mq83 dd83_75 rfl
theorem dd83_76 : decode cX8_cellsFrom 76 = .ok (.invokevirtual 62, 3) := by decide +kernel
theorem ww83_76 {d : Nat} {l0 l1 l2 l3 l4 l5 : Option mw_V} {v0 v1 : mw_V} {a : Nat} {st : List mw_V} {σ : mw_S} {Q : Option mw_V → mw_S → Prop} (hr : mw_rc a = 8) (h8 : (st.map mw_cat).sum ≤ 8) : mw_WP d 83 76 [l0, l1, l2, l3, l4, l5] (v1 :: v0 :: jR a :: st) σ Q ↔ mw_Call d 83 [jR a, v0, v1] σ (fun r1 s1 => mw_WP d 83 79 [l0, l1, l2, l3, l4, l5] (r1.toList ++ st) s1 Q) := WP_inv (as := [v1, v0]) mq83 dd83_76 (by decide) mq83 rfl hr h8
theorem dd83_79 : decode cX8_cellsFrom 79 = .ok (.ior, 1) := by decide +kernel
theorem ww83_79 {d : Nat} {l0 l1 l2 l3 l4 l5 : Option mw_V} {x y : Int} {st : List mw_V} {σ : mw_S} {Q : Option mw_V → mw_S → Prop} : mw_WP d 83 79 [l0, l1, l2, l3, l4, l5] (jI y :: jI x :: st) σ Q ↔ mw_WP d 83 80 [l0, l1, l2, l3, l4, l5] (jI (zOr x y) :: st) σ Q := WP_ior mq83 dd83_79
theorem dd83_80 : decode cX8_cellsFrom 80 = .ok (.istore_n 3, 1) := by decide +kernel
theorem ww83_80 {d : Nat} {l0 l1 l2 l3 l4 l5 : Option mw_V} {x : Int} {st : List mw_V} {σ : mw_S} {Q : Option mw_V → mw_S → Prop} (h : mw_nlo l2 = true) : mw_WP d 83 80 [l0, l1, l2, l3, l4, l5] (jI x :: st) σ Q ↔ mw_WP d 83 81 [l0, l1, l2, some (jI x), l4, l5] st σ Q := WP_istore_n mq83 dd83_80 (Nat.le_of_ble_eq_true rfl) (mw_nl_of (i := 2) rfl h) rfl
theorem dd83_81 : decode cX8_cellsFrom 81 = .ok (.goto 67, 3) := by decide +kernel
theorem ww83_81 {d : Nat} {l0 l1 l2 l3 l4 l5 : Option mw_V} {st : List mw_V} {σ : mw_S} {Q : Option mw_V → mw_S → Prop} : mw_WP d 83 81 [l0, l1, l2, l3, l4, l5] st σ Q ↔ mw_WP d 83 148 [l0, l1, l2, l3, l4, l5] st σ Q := WP_goto mq83 dd83_81 (by decide)
theorem dd83_84 : decode cX8_cellsFrom 84 = .ok (.aload_n 0, 1) := by decide +kernel
theorem ww83_84 {d : Nat} {l1 l2 l3 l4 l5 : Option mw_V} {x : Nat} {st : List mw_V} {σ : mw_S} {Q : Option mw_V → mw_S → Prop} : mw_WP d 83 84 [some (jR x), l1, l2, l3, l4, l5] st σ Q ↔ mw_WP d 83 85 [some (jR x), l1, l2, l3, l4, l5] (jR x :: st) σ Q := WP_aload_n mq83 dd83_84 rfl
theorem dd83_85 : decode cX8_cellsFrom 85 = .ok (.getfield 27, 3) := by decide +kernel
theorem ww83_85 {d : Nat} {l0 l1 l2 l3 l4 l5 : Option mw_V} {st : List mw_V} {σ : mw_S} {Q : Option mw_V → mw_S → Prop} : mw_WP d 83 85 [l0, l1, l2, l3, l4, l5] (jR 45 :: st) σ Q ↔ mw_WP d 83 88 [l0, l1, l2, l3, l4, l5] (jR 22 :: st) σ Q := WP_getR (ci := 7) (k := 2) mq83 dd83_85 (by decide) rfl
theorem dd83_88 : decode cX8_cellsFrom 88 = .ok (.aload_n 0, 1) := by decide +kernel
theorem ww83_88 {d : Nat} {l1 l2 l3 l4 l5 : Option mw_V} {x : Nat} {st : List mw_V} {σ : mw_S} {Q : Option mw_V → mw_S → Prop} : mw_WP d 83 88 [some (jR x), l1, l2, l3, l4, l5] st σ Q ↔ mw_WP d 83 89 [some (jR x), l1, l2, l3, l4, l5] (jR x :: st) σ Q := WP_aload_n mq83 dd83_88 rfl
theorem dd83_89 : decode cX8_cellsFrom 89 = .ok (.getfield 31, 3) := by decide +kernel
theorem ww83_89 {d : Nat} {l0 l1 l2 l3 l4 l5 : Option mw_V} {st : List mw_V} {σ : mw_S} {Q : Option mw_V → mw_S → Prop} : mw_WP d 83 89 [l0, l1, l2, l3, l4, l5] (jR 45 :: st) σ Q ↔ mw_WP d 83 92 [l0, l1, l2, l3, l4, l5] (jI (σ 45 7) :: st) σ Q := WP_getI (ci := 7) (k := 7) mq83 dd83_89 (by decide) (Or.inl rfl)
theorem dd83_92 : decode cX8_cellsFrom 92 = .ok (.iload 4, 2) := by decide +kernel
theorem ww83_92 {d : Nat} {l0 l1 l2 l3 l5 : Option mw_V} {x : Int} {st : List mw_V} {σ : mw_S} {Q : Option mw_V → mw_S → Prop} : mw_WP d 83 92 [l0, l1, l2, l3, some (jI x), l5] st σ Q ↔ mw_WP d 83 94 [l0, l1, l2, l3, some (jI x), l5] (jI x :: st) σ Q := WP_iload mq83 dd83_92 rfl
theorem dd83_94 : decode cX8_cellsFrom 94 = .ok (.invokevirtual 66, 3) := by decide +kernel
theorem ww83_94 {d : Nat} {l0 l1 l2 l3 l4 l5 : Option mw_V} {v0 v1 : mw_V} {a : Nat} {st : List mw_V} {σ : mw_S} {Q : Option mw_V → mw_S → Prop} (hr : mw_rc a = 9) (h8 : (st.map mw_cat).sum ≤ 8) : mw_WP d 83 94 [l0, l1, l2, l3, l4, l5] (v1 :: v0 :: jR a :: st) σ Q ↔ mw_Call d 90 [jR a, v0, v1] σ (fun r1 s1 => mw_WP d 83 97 [l0, l1, l2, l3, l4, l5] (r1.toList ++ st) s1 Q) := WP_inv (as := [v1, v0]) mq83 dd83_94 (by decide) mq90 rfl hr h8
theorem dd83_97 : decode cX8_cellsFrom 97 = .ok (.ifCond .ne 51, 3) := by decide +kernel
theorem ww83_97 {d : Nat} {l0 l1 l2 l3 l4 l5 : Option mw_V} {x : Int} {st : List mw_V} {σ : mw_S} {Q : Option mw_V → mw_S → Prop} : mw_WP d 83 97 [l0, l1, l2, l3, l4, l5] (jI x :: st) σ Q ↔ (if ¬ x = 0 then mw_WP d 83 148 [l0, l1, l2, l3, l4, l5] st σ Q else mw_WP d 83 100 [l0, l1, l2, l3, l4, l5] st σ Q) := WP_if_ne mq83 dd83_97 (by decide)
theorem dd83_100 : decode cX8_cellsFrom 100 = .ok (.aload_n 0, 1) := by decide +kernel
theorem ww83_100 {d : Nat} {l1 l2 l3 l4 l5 : Option mw_V} {x : Nat} {st : List mw_V} {σ : mw_S} {Q : Option mw_V → mw_S → Prop} : mw_WP d 83 100 [some (jR x), l1, l2, l3, l4, l5] st σ Q ↔ mw_WP d 83 101 [some (jR x), l1, l2, l3, l4, l5] (jR x :: st) σ Q := WP_aload_n mq83 dd83_100 rfl
theorem dd83_101 : decode cX8_cellsFrom 101 = .ok (.getfield 27, 3) := by decide +kernel
theorem ww83_101 {d : Nat} {l0 l1 l2 l3 l4 l5 : Option mw_V} {st : List mw_V} {σ : mw_S} {Q : Option mw_V → mw_S → Prop} : mw_WP d 83 101 [l0, l1, l2, l3, l4, l5] (jR 45 :: st) σ Q ↔ mw_WP d 83 104 [l0, l1, l2, l3, l4, l5] (jR 22 :: st) σ Q := WP_getR (ci := 7) (k := 2) mq83 dd83_101 (by decide) rfl
theorem dd83_104 : decode cX8_cellsFrom 104 = .ok (.aload_n 0, 1) := by decide +kernel
theorem ww83_104 {d : Nat} {l1 l2 l3 l4 l5 : Option mw_V} {x : Nat} {st : List mw_V} {σ : mw_S} {Q : Option mw_V → mw_S → Prop} : mw_WP d 83 104 [some (jR x), l1, l2, l3, l4, l5] st σ Q ↔ mw_WP d 83 105 [some (jR x), l1, l2, l3, l4, l5] (jR x :: st) σ Q := WP_aload_n mq83 dd83_104 rfl
theorem dd83_105 : decode cX8_cellsFrom 105 = .ok (.getfield 13, 3) := by decide +kernel
theorem ww83_105 {d : Nat} {l0 l1 l2 l3 l4 l5 : Option mw_V} {st : List mw_V} {σ : mw_S} {Q : Option mw_V → mw_S → Prop} : mw_WP d 83 105 [l0, l1, l2, l3, l4, l5] (jR 45 :: st) σ Q ↔ mw_WP d 83 108 [l0, l1, l2, l3, l4, l5] (jR 46 :: st) σ Q := WP_getR (ci := 7) (k := 3) mq83 dd83_105 (by decide) rfl
theorem dd83_108 : decode cX8_cellsFrom 108 = .ok (.iload_n 1, 1) := by decide +kernel
theorem ww83_108 {d : Nat} {l0 l2 l3 l4 l5 : Option mw_V} {x : Int} {st : List mw_V} {σ : mw_S} {Q : Option mw_V → mw_S → Prop} : mw_WP d 83 108 [l0, some (jI x), l2, l3, l4, l5] st σ Q ↔ mw_WP d 83 109 [l0, some (jI x), l2, l3, l4, l5] (jI x :: st) σ Q := WP_iload_n mq83 dd83_108 rfl
theorem dd83_109 : decode cX8_cellsFrom 109 = .ok (.aaload, 1) := by decide +kernel
theorem ww83_109 {d : Nat} {l0 l1 l2 l3 l4 l5 : Option mw_V} {z : Int} {a : Nat} {st : List mw_V} {σ : mw_S} {Q : Option mw_V → mw_S → Prop} : mw_WP d 83 109 [l0, l1, l2, l3, l4, l5] (jI z :: jR a :: st) σ Q ↔ ((0 ≤ z ∧ z < (mw_rows a).length) ∧ mw_WP d 83 110 [l0, l1, l2, l3, l4, l5] (jR ((mw_rows a).getD z.toNat 0) :: st) σ Q) := WP_aaload mq83 dd83_109
theorem dd83_110 : decode cX8_cellsFrom 110 = .ok (.aload_n 0, 1) := by decide +kernel
theorem ww83_110 {d : Nat} {l1 l2 l3 l4 l5 : Option mw_V} {x : Nat} {st : List mw_V} {σ : mw_S} {Q : Option mw_V → mw_S → Prop} : mw_WP d 83 110 [some (jR x), l1, l2, l3, l4, l5] st σ Q ↔ mw_WP d 83 111 [some (jR x), l1, l2, l3, l4, l5] (jR x :: st) σ Q := WP_aload_n mq83 dd83_110 rfl
theorem dd83_111 : decode cX8_cellsFrom 111 = .ok (.getfield 31, 3) := by decide +kernel
theorem ww83_111 {d : Nat} {l0 l1 l2 l3 l4 l5 : Option mw_V} {st : List mw_V} {σ : mw_S} {Q : Option mw_V → mw_S → Prop} : mw_WP d 83 111 [l0, l1, l2, l3, l4, l5] (jR 45 :: st) σ Q ↔ mw_WP d 83 114 [l0, l1, l2, l3, l4, l5] (jI (σ 45 7) :: st) σ Q := WP_getI (ci := 7) (k := 7) mq83 dd83_111 (by decide) (Or.inl rfl)
theorem dd83_114 : decode cX8_cellsFrom 114 = .ok (.iload 4, 2) := by decide +kernel
theorem ww83_114 {d : Nat} {l0 l1 l2 l3 l5 : Option mw_V} {x : Int} {st : List mw_V} {σ : mw_S} {Q : Option mw_V → mw_S → Prop} : mw_WP d 83 114 [l0, l1, l2, l3, some (jI x), l5] st σ Q ↔ mw_WP d 83 116 [l0, l1, l2, l3, some (jI x), l5] (jI x :: st) σ Q := WP_iload mq83 dd83_114 rfl
theorem dd83_116 : decode cX8_cellsFrom 116 = .ok (.invokevirtual 69, 3) := by decide +kernel
theorem ww83_116 {d : Nat} {l0 l1 l2 l3 l4 l5 : Option mw_V} {v0 v1 v2 : mw_V} {a : Nat} {st : List mw_V} {σ : mw_S} {Q : Option mw_V → mw_S → Prop} (hr : mw_rc a = 9) (h8 : (st.map mw_cat).sum ≤ 8) : mw_WP d 83 116 [l0, l1, l2, l3, l4, l5] (v2 :: v1 :: v0 :: jR a :: st) σ Q ↔ mw_Call d 89 [jR a, v0, v1, v2] σ (fun r1 s1 => mw_WP d 83 119 [l0, l1, l2, l3, l4, l5] (r1.toList ++ st) s1 Q) := WP_inv (as := [v2, v1, v0]) mq83 dd83_116 (by decide) mq89 rfl hr h8
theorem dd83_119 : decode cX8_cellsFrom 119 = .ok (.istore 5, 2) := by decide +kernel
theorem ww83_119 {d : Nat} {l0 l1 l2 l3 l4 l5 : Option mw_V} {x : Int} {st : List mw_V} {σ : mw_S} {Q : Option mw_V → mw_S → Prop} (h : mw_nlo l4 = true) : mw_WP d 83 119 [l0, l1, l2, l3, l4, l5] (jI x :: st) σ Q ↔ mw_WP d 83 121 [l0, l1, l2, l3, l4, some (jI x)] st σ Q := WP_istore mq83 dd83_119 (Nat.le_of_ble_eq_true rfl) (mw_nl_of (i := 4) rfl h) rfl
theorem dd83_121 : decode cX8_cellsFrom 121 = .ok (.iload_n 3, 1) := by decide +kernel
theorem ww83_121 {d : Nat} {l0 l1 l2 l4 l5 : Option mw_V} {x : Int} {st : List mw_V} {σ : mw_S} {Q : Option mw_V → mw_S → Prop} : mw_WP d 83 121 [l0, l1, l2, some (jI x), l4, l5] st σ Q ↔ mw_WP d 83 122 [l0, l1, l2, some (jI x), l4, l5] (jI x :: st) σ Q := WP_iload_n mq83 dd83_121 rfl
theorem dd83_122 : decode cX8_cellsFrom 122 = .ok (.iconst 1, 1) := by decide +kernel
theorem ww83_122 {d : Nat} {l0 l1 l2 l3 l4 l5 : Option mw_V} {st : List mw_V} {σ : mw_S} {Q : Option mw_V → mw_S → Prop} : mw_WP d 83 122 [l0, l1, l2, l3, l4, l5] st σ Q ↔ mw_WP d 83 123 [l0, l1, l2, l3, l4, l5] (jI (1) :: st) σ Q := WP_iconst mq83 dd83_122 (by decide)
theorem dd83_123 : decode cX8_cellsFrom 123 = .ok (.aload_n 0, 1) := by decide +kernel
theorem ww83_123 {d : Nat} {l1 l2 l3 l4 l5 : Option mw_V} {x : Nat} {st : List mw_V} {σ : mw_S} {Q : Option mw_V → mw_S → Prop} : mw_WP d 83 123 [some (jR x), l1, l2, l3, l4, l5] st σ Q ↔ mw_WP d 83 124 [some (jR x), l1, l2, l3, l4, l5] (jR x :: st) σ Q := WP_aload_n mq83 dd83_123 rfl
theorem dd83_124 : decode cX8_cellsFrom 124 = .ok (.getfield 27, 3) := by decide +kernel
theorem ww83_124 {d : Nat} {l0 l1 l2 l3 l4 l5 : Option mw_V} {st : List mw_V} {σ : mw_S} {Q : Option mw_V → mw_S → Prop} : mw_WP d 83 124 [l0, l1, l2, l3, l4, l5] (jR 45 :: st) σ Q ↔ mw_WP d 83 127 [l0, l1, l2, l3, l4, l5] (jR 22 :: st) σ Q := WP_getR (ci := 7) (k := 2) mq83 dd83_124 (by decide) rfl
theorem dd83_127 : decode cX8_cellsFrom 127 = .ok (.aload_n 0, 1) := by decide +kernel
theorem ww83_127 {d : Nat} {l1 l2 l3 l4 l5 : Option mw_V} {x : Nat} {st : List mw_V} {σ : mw_S} {Q : Option mw_V → mw_S → Prop} : mw_WP d 83 127 [some (jR x), l1, l2, l3, l4, l5] st σ Q ↔ mw_WP d 83 128 [some (jR x), l1, l2, l3, l4, l5] (jR x :: st) σ Q := WP_aload_n mq83 dd83_127 rfl
theorem dd83_128 : decode cX8_cellsFrom 128 = .ok (.getfield 13, 3) := by decide +kernel
theorem ww83_128 {d : Nat} {l0 l1 l2 l3 l4 l5 : Option mw_V} {st : List mw_V} {σ : mw_S} {Q : Option mw_V → mw_S → Prop} : mw_WP d 83 128 [l0, l1, l2, l3, l4, l5] (jR 45 :: st) σ Q ↔ mw_WP d 83 131 [l0, l1, l2, l3, l4, l5] (jR 46 :: st) σ Q := WP_getR (ci := 7) (k := 3) mq83 dd83_128 (by decide) rfl
theorem dd83_131 : decode cX8_cellsFrom 131 = .ok (.iload_n 1, 1) := by decide +kernel
theorem ww83_131 {d : Nat} {l0 l2 l3 l4 l5 : Option mw_V} {x : Int} {st : List mw_V} {σ : mw_S} {Q : Option mw_V → mw_S → Prop} : mw_WP d 83 131 [l0, some (jI x), l2, l3, l4, l5] st σ Q ↔ mw_WP d 83 132 [l0, some (jI x), l2, l3, l4, l5] (jI x :: st) σ Q := WP_iload_n mq83 dd83_131 rfl
theorem dd83_132 : decode cX8_cellsFrom 132 = .ok (.aaload, 1) := by decide +kernel
theorem ww83_132 {d : Nat} {l0 l1 l2 l3 l4 l5 : Option mw_V} {z : Int} {a : Nat} {st : List mw_V} {σ : mw_S} {Q : Option mw_V → mw_S → Prop} : mw_WP d 83 132 [l0, l1, l2, l3, l4, l5] (jI z :: jR a :: st) σ Q ↔ ((0 ≤ z ∧ z < (mw_rows a).length) ∧ mw_WP d 83 133 [l0, l1, l2, l3, l4, l5] (jR ((mw_rows a).getD z.toNat 0) :: st) σ Q) := WP_aaload mq83 dd83_132
theorem dd83_133 : decode cX8_cellsFrom 133 = .ok (.iconst 3, 1) := by decide +kernel
theorem ww83_133 {d : Nat} {l0 l1 l2 l3 l4 l5 : Option mw_V} {st : List mw_V} {σ : mw_S} {Q : Option mw_V → mw_S → Prop} : mw_WP d 83 133 [l0, l1, l2, l3, l4, l5] st σ Q ↔ mw_WP d 83 134 [l0, l1, l2, l3, l4, l5] (jI (3) :: st) σ Q := WP_iconst mq83 dd83_133 (by decide)
theorem dd83_134 : decode cX8_cellsFrom 134 = .ok (.aload_n 0, 1) := by decide +kernel
theorem ww83_134 {d : Nat} {l1 l2 l3 l4 l5 : Option mw_V} {x : Nat} {st : List mw_V} {σ : mw_S} {Q : Option mw_V → mw_S → Prop} : mw_WP d 83 134 [some (jR x), l1, l2, l3, l4, l5] st σ Q ↔ mw_WP d 83 135 [some (jR x), l1, l2, l3, l4, l5] (jR x :: st) σ Q := WP_aload_n mq83 dd83_134 rfl
theorem dd83_135 : decode cX8_cellsFrom 135 = .ok (.getfield 31, 3) := by decide +kernel
theorem ww83_135 {d : Nat} {l0 l1 l2 l3 l4 l5 : Option mw_V} {st : List mw_V} {σ : mw_S} {Q : Option mw_V → mw_S → Prop} : mw_WP d 83 135 [l0, l1, l2, l3, l4, l5] (jR 45 :: st) σ Q ↔ mw_WP d 83 138 [l0, l1, l2, l3, l4, l5] (jI (σ 45 7) :: st) σ Q := WP_getI (ci := 7) (k := 7) mq83 dd83_135 (by decide) (Or.inl rfl)
theorem dd83_138 : decode cX8_cellsFrom 138 = .ok (.iadd, 1) := by decide +kernel
theorem ww83_138 {d : Nat} {l0 l1 l2 l3 l4 l5 : Option mw_V} {x y : Int} {st : List mw_V} {σ : mw_S} {Q : Option mw_V → mw_S → Prop} : mw_WP d 83 138 [l0, l1, l2, l3, l4, l5] (jI y :: jI x :: st) σ Q ↔ mw_WP d 83 139 [l0, l1, l2, l3, l4, l5] (jI (w32 (x + y)) :: st) σ Q := WP_iadd mq83 dd83_138
theorem dd83_139 : decode cX8_cellsFrom 139 = .ok (.iaload, 1) := by decide +kernel
theorem ww83_139 {d : Nat} {l0 l1 l2 l3 l4 l5 : Option mw_V} {z : Int} {a : Nat} {st : List mw_V} {σ : mw_S} {Q : Option mw_V → mw_S → Prop} : mw_WP d 83 139 [l0, l1, l2, l3, l4, l5] (jI z :: jR a :: st) σ Q ↔ ((0 ≤ z ∧ z < mw_lenI a) ∧ mw_WP d 83 140 [l0, l1, l2, l3, l4, l5] (jI (mw_rdI σ a z.toNat) :: st) σ Q) := WP_iaload mq83 dd83_139
theorem dd83_140 : decode cX8_cellsFrom 140 = .ok (.iload 5, 2) := by decide +kernel
theorem ww83_140 {d : Nat} {l0 l1 l2 l3 l4 : Option mw_V} {x : Int} {st : List mw_V} {σ : mw_S} {Q : Option mw_V → mw_S → Prop} : mw_WP d 83 140 [l0, l1, l2, l3, l4, some (jI x)] st σ Q ↔ mw_WP d 83 142 [l0, l1, l2, l3, l4, some (jI x)] (jI x :: st) σ Q := WP_iload mq83 dd83_140 rfl
theorem dd83_142 : decode cX8_cellsFrom 142 = .ok (.invokevirtual 73, 3) := by decide +kernel
theorem ww83_142 {d : Nat} {l0 l1 l2 l3 l4 l5 : Option mw_V} {v0 v1 : mw_V} {a : Nat} {st : List mw_V} {σ : mw_S} {Q : Option mw_V → mw_S → Prop} (hr : mw_rc a = 9) (h8 : (st.map mw_cat).sum ≤ 8) : mw_WP d 83 142 [l0, l1, l2, l3, l4, l5] (v1 :: v0 :: jR a :: st) σ Q ↔ mw_Call d 91 [jR a, v0, v1] σ (fun r1 s1 => mw_WP d 83 145 [l0, l1, l2, l3, l4, l5] (r1.toList ++ st) s1 Q) := WP_inv (as := [v1, v0]) mq83 dd83_142 (by decide) mq91 rfl hr h8
theorem dd83_145 : decode cX8_cellsFrom 145 = .ok (.ishl, 1) := by decide +kernel
theorem ww83_145 {d : Nat} {l0 l1 l2 l3 l4 l5 : Option mw_V} {x y : Int} {st : List mw_V} {σ : mw_S} {Q : Option mw_V → mw_S → Prop} : mw_WP d 83 145 [l0, l1, l2, l3, l4, l5] (jI y :: jI x :: st) σ Q ↔ mw_WP d 83 146 [l0, l1, l2, l3, l4, l5] (jI (zShl x y) :: st) σ Q := WP_ishl mq83 dd83_145
theorem dd83_146 : decode cX8_cellsFrom 146 = .ok (.ior, 1) := by decide +kernel
theorem ww83_146 {d : Nat} {l0 l1 l2 l3 l4 l5 : Option mw_V} {x y : Int} {st : List mw_V} {σ : mw_S} {Q : Option mw_V → mw_S → Prop} : mw_WP d 83 146 [l0, l1, l2, l3, l4, l5] (jI y :: jI x :: st) σ Q ↔ mw_WP d 83 147 [l0, l1, l2, l3, l4, l5] (jI (zOr x y) :: st) σ Q := WP_ior mq83 dd83_146
theorem dd83_147 : decode cX8_cellsFrom 147 = .ok (.istore_n 3, 1) := by decide +kernel
theorem ww83_147 {d : Nat} {l0 l1 l2 l3 l4 l5 : Option mw_V} {x : Int} {st : List mw_V} {σ : mw_S} {Q : Option mw_V → mw_S → Prop} (h : mw_nlo l2 = true) : mw_WP d 83 147 [l0, l1, l2, l3, l4, l5] (jI x :: st) σ Q ↔ mw_WP d 83 148 [l0, l1, l2, some (jI x), l4, l5] st σ Q := WP_istore_n mq83 dd83_147 (Nat.le_of_ble_eq_true rfl) (mw_nl_of (i := 2) rfl h) rfl
theorem dd83_148 : decode cX8_cellsFrom 148 = .ok (.iinc 4 1, 3) := by decide +kernel
theorem ww83_148 {d : Nat} {l0 l1 l2 l3 l5 : Option mw_V} {x : Int} {st : List mw_V} {σ : mw_S} {Q : Option mw_V → mw_S → Prop} (h : mw_nlo l3 = true) : mw_WP d 83 148 [l0, l1, l2, l3, some (jI x), l5] st σ Q ↔ mw_WP d 83 151 [l0, l1, l2, l3, some (jI (w32 (x + (1)))), l5] st σ Q := WP_iinc mq83 dd83_148 rfl (Nat.le_of_ble_eq_true rfl) (mw_nl_of (i := 3) rfl h) rfl
theorem dd83_151 : decode cX8_cellsFrom 151 = .ok (.goto (-139), 3) := by decide +kernel
theorem ww83_151 {d : Nat} {l0 l1 l2 l3 l4 l5 : Option mw_V} {st : List mw_V} {σ : mw_S} {Q : Option mw_V → mw_S → Prop} : mw_WP d 83 151 [l0, l1, l2, l3, l4, l5] st σ Q ↔ mw_WP d 83 12 [l0, l1, l2, l3, l4, l5] st σ Q := WP_goto mq83 dd83_151 (by decide)
theorem dd83_154 : decode cX8_cellsFrom 154 = .ok (.iload_n 3, 1) := by decide +kernel
theorem ww83_154 {d : Nat} {l0 l1 l2 l4 l5 : Option mw_V} {x : Int} {st : List mw_V} {σ : mw_S} {Q : Option mw_V → mw_S → Prop} : mw_WP d 83 154 [l0, l1, l2, some (jI x), l4, l5] st σ Q ↔ mw_WP d 83 155 [l0, l1, l2, some (jI x), l4, l5] (jI x :: st) σ Q := WP_iload_n mq83 dd83_154 rfl
theorem dd83_155 : decode cX8_cellsFrom 155 = .ok (.ireturn, 1) := by decide +kernel
theorem ww83_155 {d : Nat} {l0 l1 l2 l3 l4 l5 : Option mw_V} {z : Int} {σ : mw_S} {Q : Option mw_V → mw_S → Prop} : mw_WP d 83 155 [l0, l1, l2, l3, l4, l5] [jI z] σ Q ↔ Q (some (jI z)) σ := WP_ireturn (ty := .int) mq83 dd83_155 rfl rfl
theorem ee84 {d : Nat} {a : Nat} {a0 : Nat} {a1 : Nat} {z2 : Int} {σ : mw_S} {Q : Option mw_V → mw_S → Prop} : mw_Call (d + 1) 84 [jR a, jR a0, jR a1, jI z2] σ Q ↔ mw_WP d 84 0 [some (jR a), some (jR a0), some (jR a1), some (jI z2), none, none, none] [] σ Q := CL_u mq84 (Nat.le_of_ble_eq_true rfl) rfl
theorem dd84_0 : decode cX8_goRound 0 = .ok (.aload_n 0, 1) := by decide +kernel
theorem ww84_0 {d : Nat} {l1 l2 l3 l4 l5 l6 : Option mw_V} {x : Nat} {st : List mw_V} {σ : mw_S} {Q : Option mw_V → mw_S → Prop} : mw_WP d 84 0 [some (jR x), l1, l2, l3, l4, l5, l6] st σ Q ↔ mw_WP d 84 1 [some (jR x), l1, l2, l3, l4, l5, l6] (jR x :: st) σ Q := WP_aload_n mq84 dd84_0 rfl
theorem dd84_1 : decode cX8_goRound 1 = .ok (.getfield 13, 3) := by decide +kernel
theorem ww84_1 {d : Nat} {l0 l1 l2 l3 l4 l5 l6 : Option mw_V} {st : List mw_V} {σ : mw_S} {Q : Option mw_V → mw_S → Prop} : mw_WP d 84 1 [l0, l1, l2, l3, l4, l5, l6] (jR 45 :: st) σ Q ↔ mw_WP d 84 4 [l0, l1, l2, l3, l4, l5, l6] (jR 46 :: st) σ Q := WP_getR (ci := 7) (k := 3) mq84 dd84_1 (by decide) rfl
theorem dd84_4 : decode cX8_goRound 4 = .ok (.iconst 0, 1) := by decide +kernel
theorem ww84_4 {d : Nat} {l0 l1 l2 l3 l4 l5 l6 : Option mw_V} {st : List mw_V} {σ : mw_S} {Q : Option mw_V → mw_S → Prop} : mw_WP d 84 4 [l0, l1, l2, l3, l4, l5, l6] st σ Q ↔ mw_WP d 84 5 [l0, l1, l2, l3, l4, l5, l6] (jI (0) :: st) σ Q := WP_iconst mq84 dd84_4 (by decide)
theorem dd84_5 : decode cX8_goRound 5 = .ok (.aaload, 1) := by decide +kernel
theorem ww84_5 {d : Nat} {l0 l1 l2 l3 l4 l5 l6 : Option mw_V} {z : Int} {a : Nat} {st : List mw_V} {σ : mw_S} {Q : Option mw_V → mw_S → Prop} : mw_WP d 84 5 [l0, l1, l2, l3, l4, l5, l6] (jI z :: jR a :: st) σ Q ↔ ((0 ≤ z ∧ z < (mw_rows a).length) ∧ mw_WP d 84 6 [l0, l1, l2, l3, l4, l5, l6] (jR ((mw_rows a).getD z.toNat 0) :: st) σ Q) := WP_aaload mq84 dd84_5
theorem dd84_6 : decode cX8_goRound 6 = .ok (.astore 4, 2) := by decide +kernel
theorem ww84_6 {d : Nat} {l0 l1 l2 l3 l4 l5 l6 : Option mw_V} {x : Nat} {st : List mw_V} {σ : mw_S} {Q : Option mw_V → mw_S → Prop} (h : mw_nlo l3 = true) : mw_WP d 84 6 [l0, l1, l2, l3, l4, l5, l6] (jR x :: st) σ Q ↔ mw_WP d 84 8 [l0, l1, l2, l3, some (jR x), l5, l6] st σ Q := WP_astore mq84 dd84_6 (Nat.le_of_ble_eq_true rfl) (mw_nl_of (i := 3) rfl h) rfl
theorem dd84_8 : decode cX8_goRound 8 = .ok (.aload_n 1, 1) := by decide +kernel
theorem ww84_8 {d : Nat} {l0 l2 l3 l4 l5 l6 : Option mw_V} {x : Nat} {st : List mw_V} {σ : mw_S} {Q : Option mw_V → mw_S → Prop} : mw_WP d 84 8 [l0, some (jR x), l2, l3, l4, l5, l6] st σ Q ↔ mw_WP d 84 9 [l0, some (jR x), l2, l3, l4, l5, l6] (jR x :: st) σ Q := WP_aload_n mq84 dd84_8 rfl
theorem dd84_9 : decode cX8_goRound 9 = .ok (.aload 4, 2) := by decide +kernel
theorem ww84_9 {d : Nat} {l0 l1 l2 l3 l5 l6 : Option mw_V} {x : Nat} {st : List mw_V} {σ : mw_S} {Q : Option mw_V → mw_S → Prop} : mw_WP d 84 9 [l0, l1, l2, l3, some (jR x), l5, l6] st σ Q ↔ mw_WP d 84 11 [l0, l1, l2, l3, some (jR x), l5, l6] (jR x :: st) σ Q := WP_aload mq84 dd84_9 rfl
theorem dd84_11 : decode cX8_goRound 11 = .ok (.invokestatic 41, 3) := by decide +kernel
theorem ww84_11 {d : Nat} {l0 l1 l2 l3 l4 l5 l6 : Option mw_V} {v0 v1 : mw_V} {st : List mw_V} {σ : mw_S} {Q : Option mw_V → mw_S → Prop} (h8 : (st.map mw_cat).sum ≤ 8) : mw_WP d 84 11 [l0, l1, l2, l3, l4, l5, l6] (v1 :: v0 :: st) σ Q ↔ mw_Call d 169 [v0, v1] σ (fun r1 s1 => mw_WP d 84 14 [l0, l1, l2, l3, l4, l5, l6] (r1.toList ++ st) s1 Q) := WP_invn (as := [v1, v0]) mq84 dd84_11 (by decide) (by decide) mq169 rfl rfl h8
theorem dd84_14 : decode cX8_goRound 14 = .ok (.iconst 0, 1) := by decide +kernel
theorem ww84_14 {d : Nat} {l0 l1 l2 l3 l4 l5 l6 : Option mw_V} {st : List mw_V} {σ : mw_S} {Q : Option mw_V → mw_S → Prop} : mw_WP d 84 14 [l0, l1, l2, l3, l4, l5, l6] st σ Q ↔ mw_WP d 84 15 [l0, l1, l2, l3, l4, l5, l6] (jI (0) :: st) σ Q := WP_iconst mq84 dd84_14 (by decide)
theorem dd84_15 : decode cX8_goRound 15 = .ok (.istore 5, 2) := by decide +kernel
theorem ww84_15 {d : Nat} {l0 l1 l2 l3 l4 l5 l6 : Option mw_V} {x : Int} {st : List mw_V} {σ : mw_S} {Q : Option mw_V → mw_S → Prop} (h : mw_nlo l4 = true) : mw_WP d 84 15 [l0, l1, l2, l3, l4, l5, l6] (jI x :: st) σ Q ↔ mw_WP d 84 17 [l0, l1, l2, l3, l4, some (jI x), l6] st σ Q := WP_istore mq84 dd84_15 (Nat.le_of_ble_eq_true rfl) (mw_nl_of (i := 4) rfl h) rfl
theorem dd84_17 : decode cX8_goRound 17 = .ok (.iload 5, 2) := by decide +kernel
theorem ww84_17 {d : Nat} {l0 l1 l2 l3 l4 l6 : Option mw_V} {x : Int} {st : List mw_V} {σ : mw_S} {Q : Option mw_V → mw_S → Prop} : mw_WP d 84 17 [l0, l1, l2, l3, l4, some (jI x), l6] st σ Q ↔ mw_WP d 84 19 [l0, l1, l2, l3, l4, some (jI x), l6] (jI x :: st) σ Q := WP_iload mq84 dd84_17 rfl
theorem dd84_19 : decode cX8_goRound 19 = .ok (.sipush 200, 3) := by decide +kernel
theorem ww84_19 {d : Nat} {l0 l1 l2 l3 l4 l5 l6 : Option mw_V} {st : List mw_V} {σ : mw_S} {Q : Option mw_V → mw_S → Prop} : mw_WP d 84 19 [l0, l1, l2, l3, l4, l5, l6] st σ Q ↔ mw_WP d 84 22 [l0, l1, l2, l3, l4, l5, l6] (jI (200) :: st) σ Q := WP_sipush mq84 dd84_19 (by decide)
theorem dd84_22 : decode cX8_goRound 22 = .ok (.if_icmp .gt 112, 3) := by decide +kernel
theorem ww84_22 {d : Nat} {l0 l1 l2 l3 l4 l5 l6 : Option mw_V} {x y : Int} {st : List mw_V} {σ : mw_S} {Q : Option mw_V → mw_S → Prop} : mw_WP d 84 22 [l0, l1, l2, l3, l4, l5, l6] (jI y :: jI x :: st) σ Q ↔ (if y < x then mw_WP d 84 134 [l0, l1, l2, l3, l4, l5, l6] st σ Q else mw_WP d 84 25 [l0, l1, l2, l3, l4, l5, l6] st σ Q) := WP_icmp_gt mq84 dd84_22 (by decide)
theorem dd84_25 : decode cX8_goRound 25 = .ok (.aload_n 0, 1) := by decide +kernel
theorem ww84_25 {d : Nat} {l1 l2 l3 l4 l5 l6 : Option mw_V} {x : Nat} {st : List mw_V} {σ : mw_S} {Q : Option mw_V → mw_S → Prop} : mw_WP d 84 25 [some (jR x), l1, l2, l3, l4, l5, l6] st σ Q ↔ mw_WP d 84 26 [some (jR x), l1, l2, l3, l4, l5, l6] (jR x :: st) σ Q := WP_aload_n mq84 dd84_25 rfl
theorem dd84_26 : decode cX8_goRound 26 = .ok (.getfield 20, 3) := by decide +kernel
theorem ww84_26 {d : Nat} {l0 l1 l2 l3 l4 l5 l6 : Option mw_V} {st : List mw_V} {σ : mw_S} {Q : Option mw_V → mw_S → Prop} : mw_WP d 84 26 [l0, l1, l2, l3, l4, l5, l6] (jR 45 :: st) σ Q ↔ mw_WP d 84 29 [l0, l1, l2, l3, l4, l5, l6] (jR 53 :: st) σ Q := WP_getR (ci := 7) (k := 5) mq84 dd84_26 (by decide) rfl
theorem dd84_29 : decode cX8_goRound 29 = .ok (.iload 5, 2) := by decide +kernel
theorem ww84_29 {d : Nat} {l0 l1 l2 l3 l4 l6 : Option mw_V} {x : Int} {st : List mw_V} {σ : mw_S} {Q : Option mw_V → mw_S → Prop} : mw_WP d 84 29 [l0, l1, l2, l3, l4, some (jI x), l6] st σ Q ↔ mw_WP d 84 31 [l0, l1, l2, l3, l4, some (jI x), l6] (jI x :: st) σ Q := WP_iload mq84 dd84_29 rfl
theorem dd84_31 : decode cX8_goRound 31 = .ok (.aload 4, 2) := by decide +kernel
theorem ww84_31 {d : Nat} {l0 l1 l2 l3 l5 l6 : Option mw_V} {x : Nat} {st : List mw_V} {σ : mw_S} {Q : Option mw_V → mw_S → Prop} : mw_WP d 84 31 [l0, l1, l2, l3, some (jR x), l5, l6] st σ Q ↔ mw_WP d 84 33 [l0, l1, l2, l3, some (jR x), l5, l6] (jR x :: st) σ Q := WP_aload mq84 dd84_31 rfl
theorem dd84_33 : decode cX8_goRound 33 = .ok (.invokestatic 76, 3) := by decide +kernel
theorem ww84_33 {d : Nat} {l0 l1 l2 l3 l4 l5 l6 : Option mw_V} {v0 : mw_V} {st : List mw_V} {σ : mw_S} {Q : Option mw_V → mw_S → Prop} (h8 : (st.map mw_cat).sum ≤ 8) : mw_WP d 84 33 [l0, l1, l2, l3, l4, l5, l6] (v0 :: st) σ Q ↔ mw_Call d 85 [v0] σ (fun r1 s1 => mw_WP d 84 36 [l0, l1, l2, l3, l4, l5, l6] (r1.toList ++ st) s1 Q) := WP_invs (as := [v0]) mq84 dd84_33 (by decide) mq85 rfl rfl h8
theorem dd84_36 : decode cX8_goRound 36 = .ok (.lastore, 1) := by decide +kernel
theorem ww84_36 {d : Nat} {l0 l1 l2 l3 l4 l5 l6 : Option mw_V} {x z : Int} {a : Nat} {st : List mw_V} {σ : mw_S} {Q : Option mw_V → mw_S → Prop} : mw_WP d 84 36 [l0, l1, l2, l3, l4, l5, l6] (jL x :: jI z :: jR a :: st) σ Q ↔ ((0 ≤ z ∧ z < mw_lenW 2 a) ∧ mw_WP d 84 37 [l0, l1, l2, l3, l4, l5, l6] st (upS σ a z.toNat x) Q) := WP_lastore mq84 dd84_36
theorem dd84_37 : decode cX8_goRound 37 = .ok (.aload_n 0, 1) := by decide +kernel
theorem ww84_37 {d : Nat} {l1 l2 l3 l4 l5 l6 : Option mw_V} {x : Nat} {st : List mw_V} {σ : mw_S} {Q : Option mw_V → mw_S → Prop} : mw_WP d 84 37 [some (jR x), l1, l2, l3, l4, l5, l6] st σ Q ↔ mw_WP d 84 38 [some (jR x), l1, l2, l3, l4, l5, l6] (jR x :: st) σ Q := WP_aload_n mq84 dd84_37 rfl
theorem dd84_38 : decode cX8_goRound 38 = .ok (.getfield 24, 3) := by decide +kernel
theorem ww84_38 {d : Nat} {l0 l1 l2 l3 l4 l5 l6 : Option mw_V} {st : List mw_V} {σ : mw_S} {Q : Option mw_V → mw_S → Prop} : mw_WP d 84 38 [l0, l1, l2, l3, l4, l5, l6] (jR 45 :: st) σ Q ↔ mw_WP d 84 41 [l0, l1, l2, l3, l4, l5, l6] (jR 54 :: st) σ Q := WP_getR (ci := 7) (k := 6) mq84 dd84_38 (by decide) rfl
theorem dd84_41 : decode cX8_goRound 41 = .ok (.iload 5, 2) := by decide +kernel
theorem ww84_41 {d : Nat} {l0 l1 l2 l3 l4 l6 : Option mw_V} {x : Int} {st : List mw_V} {σ : mw_S} {Q : Option mw_V → mw_S → Prop} : mw_WP d 84 41 [l0, l1, l2, l3, l4, some (jI x), l6] st σ Q ↔ mw_WP d 84 43 [l0, l1, l2, l3, l4, some (jI x), l6] (jI x :: st) σ Q := WP_iload mq84 dd84_41 rfl
theorem dd84_43 : decode cX8_goRound 43 = .ok (.aload 4, 2) := by decide +kernel
theorem ww84_43 {d : Nat} {l0 l1 l2 l3 l5 l6 : Option mw_V} {x : Nat} {st : List mw_V} {σ : mw_S} {Q : Option mw_V → mw_S → Prop} : mw_WP d 84 43 [l0, l1, l2, l3, some (jR x), l5, l6] st σ Q ↔ mw_WP d 84 45 [l0, l1, l2, l3, some (jR x), l5, l6] (jR x :: st) σ Q := WP_aload mq84 dd84_43 rfl
theorem dd84_45 : decode cX8_goRound 45 = .ok (.invokestatic 80, 3) := by decide +kernel
theorem ww84_45 {d : Nat} {l0 l1 l2 l3 l4 l5 l6 : Option mw_V} {v0 : mw_V} {st : List mw_V} {σ : mw_S} {Q : Option mw_V → mw_S → Prop} (h8 : (st.map mw_cat).sum ≤ 8) : mw_WP d 84 45 [l0, l1, l2, l3, l4, l5, l6] (v0 :: st) σ Q ↔ mw_Call d 86 [v0] σ (fun r1 s1 => mw_WP d 84 48 [l0, l1, l2, l3, l4, l5, l6] (r1.toList ++ st) s1 Q) := WP_invs (as := [v0]) mq84 dd84_45 (by decide) mq86 rfl rfl h8
theorem dd84_48 : decode cX8_goRound 48 = .ok (.lastore, 1) := by decide +kernel
theorem ww84_48 {d : Nat} {l0 l1 l2 l3 l4 l5 l6 : Option mw_V} {x z : Int} {a : Nat} {st : List mw_V} {σ : mw_S} {Q : Option mw_V → mw_S → Prop} : mw_WP d 84 48 [l0, l1, l2, l3, l4, l5, l6] (jL x :: jI z :: jR a :: st) σ Q ↔ ((0 ≤ z ∧ z < mw_lenW 2 a) ∧ mw_WP d 84 49 [l0, l1, l2, l3, l4, l5, l6] st (upS σ a z.toNat x) Q) := WP_lastore mq84 dd84_48
theorem dd84_49 : decode cX8_goRound 49 = .ok (.iconst 0, 1) := by decide +kernel
theorem ww84_49 {d : Nat} {l0 l1 l2 l3 l4 l5 l6 : Option mw_V} {st : List mw_V} {σ : mw_S} {Q : Option mw_V → mw_S → Prop} : mw_WP d 84 49 [l0, l1, l2, l3, l4, l5, l6] st σ Q ↔ mw_WP d 84 50 [l0, l1, l2, l3, l4, l5, l6] (jI (0) :: st) σ Q := WP_iconst mq84 dd84_49 (by decide)
theorem dd84_50 : decode cX8_goRound 50 = .ok (.istore 6, 2) := by decide +kernel
theorem ww84_50 {d : Nat} {l0 l1 l2 l3 l4 l5 l6 : Option mw_V} {x : Int} {st : List mw_V} {σ : mw_S} {Q : Option mw_V → mw_S → Prop} (h : mw_nlo l5 = true) : mw_WP d 84 50 [l0, l1, l2, l3, l4, l5, l6] (jI x :: st) σ Q ↔ mw_WP d 84 52 [l0, l1, l2, l3, l4, l5, some (jI x)] st σ Q := WP_istore mq84 dd84_50 (Nat.le_of_ble_eq_true rfl) (mw_nl_of (i := 5) rfl h) rfl
theorem dd84_52 : decode cX8_goRound 52 = .ok (.iload 6, 2) := by decide +kernel
theorem ww84_52 {d : Nat} {l0 l1 l2 l3 l4 l5 : Option mw_V} {x : Int} {st : List mw_V} {σ : mw_S} {Q : Option mw_V → mw_S → Prop} : mw_WP d 84 52 [l0, l1, l2, l3, l4, l5, some (jI x)] st σ Q ↔ mw_WP d 84 54 [l0, l1, l2, l3, l4, l5, some (jI x)] (jI x :: st) σ Q := WP_iload mq84 dd84_52 rfl
theorem dd84_54 : decode cX8_goRound 54 = .ok (.iload 5, 2) := by decide +kernel
theorem ww84_54 {d : Nat} {l0 l1 l2 l3 l4 l6 : Option mw_V} {x : Int} {st : List mw_V} {σ : mw_S} {Q : Option mw_V → mw_S → Prop} : mw_WP d 84 54 [l0, l1, l2, l3, l4, some (jI x), l6] st σ Q ↔ mw_WP d 84 56 [l0, l1, l2, l3, l4, some (jI x), l6] (jI x :: st) σ Q := WP_iload mq84 dd84_54 rfl
theorem dd84_56 : decode cX8_goRound 56 = .ok (.if_icmp .ge 61, 3) := by decide +kernel
theorem ww84_56 {d : Nat} {l0 l1 l2 l3 l4 l5 l6 : Option mw_V} {x y : Int} {st : List mw_V} {σ : mw_S} {Q : Option mw_V → mw_S → Prop} : mw_WP d 84 56 [l0, l1, l2, l3, l4, l5, l6] (jI y :: jI x :: st) σ Q ↔ (if y ≤ x then mw_WP d 84 117 [l0, l1, l2, l3, l4, l5, l6] st σ Q else mw_WP d 84 59 [l0, l1, l2, l3, l4, l5, l6] st σ Q) := WP_icmp_ge mq84 dd84_56 (by decide)
theorem dd84_59 : decode cX8_goRound 59 = .ok (.aload_n 0, 1) := by decide +kernel
theorem ww84_59 {d : Nat} {l1 l2 l3 l4 l5 l6 : Option mw_V} {x : Nat} {st : List mw_V} {σ : mw_S} {Q : Option mw_V → mw_S → Prop} : mw_WP d 84 59 [some (jR x), l1, l2, l3, l4, l5, l6] st σ Q ↔ mw_WP d 84 60 [some (jR x), l1, l2, l3, l4, l5, l6] (jR x :: st) σ Q := WP_aload_n mq84 dd84_59 rfl
theorem dd84_60 : decode cX8_goRound 60 = .ok (.getfield 20, 3) := by decide +kernel
theorem ww84_60 {d : Nat} {l0 l1 l2 l3 l4 l5 l6 : Option mw_V} {st : List mw_V} {σ : mw_S} {Q : Option mw_V → mw_S → Prop} : mw_WP d 84 60 [l0, l1, l2, l3, l4, l5, l6] (jR 45 :: st) σ Q ↔ mw_WP d 84 63 [l0, l1, l2, l3, l4, l5, l6] (jR 53 :: st) σ Q := WP_getR (ci := 7) (k := 5) mq84 dd84_60 (by decide) rfl
theorem dd84_63 : decode cX8_goRound 63 = .ok (.iload 6, 2) := by decide +kernel
theorem ww84_63 {d : Nat} {l0 l1 l2 l3 l4 l5 : Option mw_V} {x : Int} {st : List mw_V} {σ : mw_S} {Q : Option mw_V → mw_S → Prop} : mw_WP d 84 63 [l0, l1, l2, l3, l4, l5, some (jI x)] st σ Q ↔ mw_WP d 84 65 [l0, l1, l2, l3, l4, l5, some (jI x)] (jI x :: st) σ Q := WP_iload mq84 dd84_63 rfl
theorem dd84_65 : decode cX8_goRound 65 = .ok (.laload, 1) := by decide +kernel
theorem ww84_65 {d : Nat} {l0 l1 l2 l3 l4 l5 l6 : Option mw_V} {z : Int} {a : Nat} {st : List mw_V} {σ : mw_S} {Q : Option mw_V → mw_S → Prop} : mw_WP d 84 65 [l0, l1, l2, l3, l4, l5, l6] (jI z :: jR a :: st) σ Q ↔ ((0 ≤ z ∧ z < mw_lenW 2 a) ∧ mw_WP d 84 66 [l0, l1, l2, l3, l4, l5, l6] (jL (σ a z.toNat) :: st) σ Q) := WP_laload mq84 dd84_65
theorem dd84_66 : decode cX8_goRound 66 = .ok (.aload_n 0, 1) := by decide +kernel
theorem ww84_66 {d : Nat} {l1 l2 l3 l4 l5 l6 : Option mw_V} {x : Nat} {st : List mw_V} {σ : mw_S} {Q : Option mw_V → mw_S → Prop} : mw_WP d 84 66 [some (jR x), l1, l2, l3, l4, l5, l6] st σ Q ↔ mw_WP d 84 67 [some (jR x), l1, l2, l3, l4, l5, l6] (jR x :: st) σ Q := WP_aload_n mq84 dd84_66 rfl
theorem dd84_67 : decode cX8_goRound 67 = .ok (.getfield 20, 3) := by decide +kernel
theorem ww84_67 {d : Nat} {l0 l1 l2 l3 l4 l5 l6 : Option mw_V} {st : List mw_V} {σ : mw_S} {Q : Option mw_V → mw_S → Prop} : mw_WP d 84 67 [l0, l1, l2, l3, l4, l5, l6] (jR 45 :: st) σ Q ↔ mw_WP d 84 70 [l0, l1, l2, l3, l4, l5, l6] (jR 53 :: st) σ Q := WP_getR (ci := 7) (k := 5) mq84 dd84_67 (by decide) rfl
theorem dd84_70 : decode cX8_goRound 70 = .ok (.iload 5, 2) := by decide +kernel
theorem ww84_70 {d : Nat} {l0 l1 l2 l3 l4 l6 : Option mw_V} {x : Int} {st : List mw_V} {σ : mw_S} {Q : Option mw_V → mw_S → Prop} : mw_WP d 84 70 [l0, l1, l2, l3, l4, some (jI x), l6] st σ Q ↔ mw_WP d 84 72 [l0, l1, l2, l3, l4, some (jI x), l6] (jI x :: st) σ Q := WP_iload mq84 dd84_70 rfl
theorem dd84_72 : decode cX8_goRound 72 = .ok (.laload, 1) := by decide +kernel
theorem ww84_72 {d : Nat} {l0 l1 l2 l3 l4 l5 l6 : Option mw_V} {z : Int} {a : Nat} {st : List mw_V} {σ : mw_S} {Q : Option mw_V → mw_S → Prop} : mw_WP d 84 72 [l0, l1, l2, l3, l4, l5, l6] (jI z :: jR a :: st) σ Q ↔ ((0 ≤ z ∧ z < mw_lenW 2 a) ∧ mw_WP d 84 73 [l0, l1, l2, l3, l4, l5, l6] (jL (σ a z.toNat) :: st) σ Q) := WP_laload mq84 dd84_72
theorem dd84_73 : decode cX8_goRound 73 = .ok (.lcmp, 1) := by decide +kernel
theorem ww84_73 {d : Nat} {l0 l1 l2 l3 l4 l5 l6 : Option mw_V} {x y : Int} {st : List mw_V} {σ : mw_S} {Q : Option mw_V → mw_S → Prop} : mw_WP d 84 73 [l0, l1, l2, l3, l4, l5, l6] (jL y :: jL x :: st) σ Q ↔ mw_WP d 84 74 [l0, l1, l2, l3, l4, l5, l6] (jI (yCmp x y) :: st) σ Q := WP_lcmp mq84 dd84_73
theorem dd84_74 : decode cX8_goRound 74 = .ok (.ifCond .ne 37, 3) := by decide +kernel
theorem ww84_74 {d : Nat} {l0 l1 l2 l3 l4 l5 l6 : Option mw_V} {x : Int} {st : List mw_V} {σ : mw_S} {Q : Option mw_V → mw_S → Prop} : mw_WP d 84 74 [l0, l1, l2, l3, l4, l5, l6] (jI x :: st) σ Q ↔ (if ¬ x = 0 then mw_WP d 84 111 [l0, l1, l2, l3, l4, l5, l6] st σ Q else mw_WP d 84 77 [l0, l1, l2, l3, l4, l5, l6] st σ Q) := WP_if_ne mq84 dd84_74 (by decide)
theorem dd84_77 : decode cX8_goRound 77 = .ok (.aload_n 0, 1) := by decide +kernel
theorem ww84_77 {d : Nat} {l1 l2 l3 l4 l5 l6 : Option mw_V} {x : Nat} {st : List mw_V} {σ : mw_S} {Q : Option mw_V → mw_S → Prop} : mw_WP d 84 77 [some (jR x), l1, l2, l3, l4, l5, l6] st σ Q ↔ mw_WP d 84 78 [some (jR x), l1, l2, l3, l4, l5, l6] (jR x :: st) σ Q := WP_aload_n mq84 dd84_77 rfl
theorem dd84_78 : decode cX8_goRound 78 = .ok (.getfield 24, 3) := by decide +kernel
theorem ww84_78 {d : Nat} {l0 l1 l2 l3 l4 l5 l6 : Option mw_V} {st : List mw_V} {σ : mw_S} {Q : Option mw_V → mw_S → Prop} : mw_WP d 84 78 [l0, l1, l2, l3, l4, l5, l6] (jR 45 :: st) σ Q ↔ mw_WP d 84 81 [l0, l1, l2, l3, l4, l5, l6] (jR 54 :: st) σ Q := WP_getR (ci := 7) (k := 6) mq84 dd84_78 (by decide) rfl
theorem dd84_81 : decode cX8_goRound 81 = .ok (.iload 6, 2) := by decide +kernel
theorem ww84_81 {d : Nat} {l0 l1 l2 l3 l4 l5 : Option mw_V} {x : Int} {st : List mw_V} {σ : mw_S} {Q : Option mw_V → mw_S → Prop} : mw_WP d 84 81 [l0, l1, l2, l3, l4, l5, some (jI x)] st σ Q ↔ mw_WP d 84 83 [l0, l1, l2, l3, l4, l5, some (jI x)] (jI x :: st) σ Q := WP_iload mq84 dd84_81 rfl
theorem dd84_83 : decode cX8_goRound 83 = .ok (.laload, 1) := by decide +kernel
theorem ww84_83 {d : Nat} {l0 l1 l2 l3 l4 l5 l6 : Option mw_V} {z : Int} {a : Nat} {st : List mw_V} {σ : mw_S} {Q : Option mw_V → mw_S → Prop} : mw_WP d 84 83 [l0, l1, l2, l3, l4, l5, l6] (jI z :: jR a :: st) σ Q ↔ ((0 ≤ z ∧ z < mw_lenW 2 a) ∧ mw_WP d 84 84 [l0, l1, l2, l3, l4, l5, l6] (jL (σ a z.toNat) :: st) σ Q) := WP_laload mq84 dd84_83
theorem dd84_84 : decode cX8_goRound 84 = .ok (.aload_n 0, 1) := by decide +kernel
theorem ww84_84 {d : Nat} {l1 l2 l3 l4 l5 l6 : Option mw_V} {x : Nat} {st : List mw_V} {σ : mw_S} {Q : Option mw_V → mw_S → Prop} : mw_WP d 84 84 [some (jR x), l1, l2, l3, l4, l5, l6] st σ Q ↔ mw_WP d 84 85 [some (jR x), l1, l2, l3, l4, l5, l6] (jR x :: st) σ Q := WP_aload_n mq84 dd84_84 rfl
theorem dd84_85 : decode cX8_goRound 85 = .ok (.getfield 24, 3) := by decide +kernel
theorem ww84_85 {d : Nat} {l0 l1 l2 l3 l4 l5 l6 : Option mw_V} {st : List mw_V} {σ : mw_S} {Q : Option mw_V → mw_S → Prop} : mw_WP d 84 85 [l0, l1, l2, l3, l4, l5, l6] (jR 45 :: st) σ Q ↔ mw_WP d 84 88 [l0, l1, l2, l3, l4, l5, l6] (jR 54 :: st) σ Q := WP_getR (ci := 7) (k := 6) mq84 dd84_85 (by decide) rfl
theorem dd84_88 : decode cX8_goRound 88 = .ok (.iload 5, 2) := by decide +kernel
theorem ww84_88 {d : Nat} {l0 l1 l2 l3 l4 l6 : Option mw_V} {x : Int} {st : List mw_V} {σ : mw_S} {Q : Option mw_V → mw_S → Prop} : mw_WP d 84 88 [l0, l1, l2, l3, l4, some (jI x), l6] st σ Q ↔ mw_WP d 84 90 [l0, l1, l2, l3, l4, some (jI x), l6] (jI x :: st) σ Q := WP_iload mq84 dd84_88 rfl
theorem dd84_90 : decode cX8_goRound 90 = .ok (.laload, 1) := by decide +kernel
theorem ww84_90 {d : Nat} {l0 l1 l2 l3 l4 l5 l6 : Option mw_V} {z : Int} {a : Nat} {st : List mw_V} {σ : mw_S} {Q : Option mw_V → mw_S → Prop} : mw_WP d 84 90 [l0, l1, l2, l3, l4, l5, l6] (jI z :: jR a :: st) σ Q ↔ ((0 ≤ z ∧ z < mw_lenW 2 a) ∧ mw_WP d 84 91 [l0, l1, l2, l3, l4, l5, l6] (jL (σ a z.toNat) :: st) σ Q) := WP_laload mq84 dd84_90
theorem dd84_91 : decode cX8_goRound 91 = .ok (.lcmp, 1) := by decide +kernel
theorem ww84_91 {d : Nat} {l0 l1 l2 l3 l4 l5 l6 : Option mw_V} {x y : Int} {st : List mw_V} {σ : mw_S} {Q : Option mw_V → mw_S → Prop} : mw_WP d 84 91 [l0, l1, l2, l3, l4, l5, l6] (jL y :: jL x :: st) σ Q ↔ mw_WP d 84 92 [l0, l1, l2, l3, l4, l5, l6] (jI (yCmp x y) :: st) σ Q := WP_lcmp mq84 dd84_91
theorem dd84_92 : decode cX8_goRound 92 = .ok (.ifCond .ne 19, 3) := by decide +kernel
theorem ww84_92 {d : Nat} {l0 l1 l2 l3 l4 l5 l6 : Option mw_V} {x : Int} {st : List mw_V} {σ : mw_S} {Q : Option mw_V → mw_S → Prop} : mw_WP d 84 92 [l0, l1, l2, l3, l4, l5, l6] (jI x :: st) σ Q ↔ (if ¬ x = 0 then mw_WP d 84 111 [l0, l1, l2, l3, l4, l5, l6] st σ Q else mw_WP d 84 95 [l0, l1, l2, l3, l4, l5, l6] st σ Q) := WP_if_ne mq84 dd84_92 (by decide)
theorem dd84_95 : decode cX8_goRound 95 = .ok (.aload_n 0, 1) := by decide +kernel
theorem ww84_95 {d : Nat} {l1 l2 l3 l4 l5 l6 : Option mw_V} {x : Nat} {st : List mw_V} {σ : mw_S} {Q : Option mw_V → mw_S → Prop} : mw_WP d 84 95 [some (jR x), l1, l2, l3, l4, l5, l6] st σ Q ↔ mw_WP d 84 96 [some (jR x), l1, l2, l3, l4, l5, l6] (jR x :: st) σ Q := WP_aload_n mq84 dd84_95 rfl
theorem dd84_96 : decode cX8_goRound 96 = .ok (.iload 6, 2) := by decide +kernel
theorem ww84_96 {d : Nat} {l0 l1 l2 l3 l4 l5 : Option mw_V} {x : Int} {st : List mw_V} {σ : mw_S} {Q : Option mw_V → mw_S → Prop} : mw_WP d 84 96 [l0, l1, l2, l3, l4, l5, some (jI x)] st σ Q ↔ mw_WP d 84 98 [l0, l1, l2, l3, l4, l5, some (jI x)] (jI x :: st) σ Q := WP_iload mq84 dd84_96 rfl
theorem dd84_98 : decode cX8_goRound 98 = .ok (.putfield 83, 3) := by decide +kernel
theorem ww84_98 {d : Nat} {l0 l1 l2 l3 l4 l5 l6 : Option mw_V} {v : Int} {st : List mw_V} {σ : mw_S} {Q : Option mw_V → mw_S → Prop} : mw_WP d 84 98 [l0, l1, l2, l3, l4, l5, l6] (jI v :: jR 45 :: st) σ Q ↔ mw_WP d 84 101 [l0, l1, l2, l3, l4, l5, l6] st (upS σ 45 1 v) Q := WP_putI (ci := 7) (k := 1) mq84 dd84_98 (by decide) rfl
theorem dd84_101 : decode cX8_goRound 101 = .ok (.aload_n 0, 1) := by decide +kernel
theorem ww84_101 {d : Nat} {l1 l2 l3 l4 l5 l6 : Option mw_V} {x : Nat} {st : List mw_V} {σ : mw_S} {Q : Option mw_V → mw_S → Prop} : mw_WP d 84 101 [some (jR x), l1, l2, l3, l4, l5, l6] st σ Q ↔ mw_WP d 84 102 [some (jR x), l1, l2, l3, l4, l5, l6] (jR x :: st) σ Q := WP_aload_n mq84 dd84_101 rfl
theorem dd84_102 : decode cX8_goRound 102 = .ok (.iload 5, 2) := by decide +kernel
theorem ww84_102 {d : Nat} {l0 l1 l2 l3 l4 l6 : Option mw_V} {x : Int} {st : List mw_V} {σ : mw_S} {Q : Option mw_V → mw_S → Prop} : mw_WP d 84 102 [l0, l1, l2, l3, l4, some (jI x), l6] st σ Q ↔ mw_WP d 84 104 [l0, l1, l2, l3, l4, some (jI x), l6] (jI x :: st) σ Q := WP_iload mq84 dd84_102 rfl
theorem dd84_104 : decode cX8_goRound 104 = .ok (.iload 6, 2) := by decide +kernel
theorem ww84_104 {d : Nat} {l0 l1 l2 l3 l4 l5 : Option mw_V} {x : Int} {st : List mw_V} {σ : mw_S} {Q : Option mw_V → mw_S → Prop} : mw_WP d 84 104 [l0, l1, l2, l3, l4, l5, some (jI x)] st σ Q ↔ mw_WP d 84 106 [l0, l1, l2, l3, l4, l5, some (jI x)] (jI x :: st) σ Q := WP_iload mq84 dd84_104 rfl
theorem dd84_106 : decode cX8_goRound 106 = .ok (.isub, 1) := by decide +kernel
theorem ww84_106 {d : Nat} {l0 l1 l2 l3 l4 l5 l6 : Option mw_V} {x y : Int} {st : List mw_V} {σ : mw_S} {Q : Option mw_V → mw_S → Prop} : mw_WP d 84 106 [l0, l1, l2, l3, l4, l5, l6] (jI y :: jI x :: st) σ Q ↔ mw_WP d 84 107 [l0, l1, l2, l3, l4, l5, l6] (jI (w32 (x - y)) :: st) σ Q := WP_isub mq84 dd84_106
theorem dd84_107 : decode cX8_goRound 107 = .ok (.putfield 86, 3) := by decide +kernel
theorem ww84_107 {d : Nat} {l0 l1 l2 l3 l4 l5 l6 : Option mw_V} {v : Int} {st : List mw_V} {σ : mw_S} {Q : Option mw_V → mw_S → Prop} : mw_WP d 84 107 [l0, l1, l2, l3, l4, l5, l6] (jI v :: jR 45 :: st) σ Q ↔ mw_WP d 84 110 [l0, l1, l2, l3, l4, l5, l6] st (upS σ 45 0 v) Q := WP_putI (ci := 7) (k := 0) mq84 dd84_107 (by decide) rfl
theorem dd84_110 : decode cX8_goRound 110 = .ok (.return_, 1) := by decide +kernel
theorem ww84_110 {d : Nat} {l0 l1 l2 l3 l4 l5 l6 : Option mw_V} {σ : mw_S} {Q : Option mw_V → mw_S → Prop} : mw_WP d 84 110 [l0, l1, l2, l3, l4, l5, l6] [] σ Q ↔ Q none σ := WP_return mq84 dd84_110 rfl
theorem dd84_111 : decode cX8_goRound 111 = .ok (.iinc 6 1, 3) := by decide +kernel
theorem ww84_111 {d : Nat} {l0 l1 l2 l3 l4 l5 : Option mw_V} {x : Int} {st : List mw_V} {σ : mw_S} {Q : Option mw_V → mw_S → Prop} (h : mw_nlo l5 = true) : mw_WP d 84 111 [l0, l1, l2, l3, l4, l5, some (jI x)] st σ Q ↔ mw_WP d 84 114 [l0, l1, l2, l3, l4, l5, some (jI (w32 (x + (1))))] st σ Q := WP_iinc mq84 dd84_111 rfl (Nat.le_of_ble_eq_true rfl) (mw_nl_of (i := 5) rfl h) rfl
theorem dd84_114 : decode cX8_goRound 114 = .ok (.goto (-62), 3) := by decide +kernel
theorem ww84_114 {d : Nat} {l0 l1 l2 l3 l4 l5 l6 : Option mw_V} {st : List mw_V} {σ : mw_S} {Q : Option mw_V → mw_S → Prop} : mw_WP d 84 114 [l0, l1, l2, l3, l4, l5, l6] st σ Q ↔ mw_WP d 84 52 [l0, l1, l2, l3, l4, l5, l6] st σ Q := WP_goto mq84 dd84_114 (by decide)
theorem dd84_117 : decode cX8_goRound 117 = .ok (.aload_n 0, 1) := by decide +kernel
theorem ww84_117 {d : Nat} {l1 l2 l3 l4 l5 l6 : Option mw_V} {x : Nat} {st : List mw_V} {σ : mw_S} {Q : Option mw_V → mw_S → Prop} : mw_WP d 84 117 [some (jR x), l1, l2, l3, l4, l5, l6] st σ Q ↔ mw_WP d 84 118 [some (jR x), l1, l2, l3, l4, l5, l6] (jR x :: st) σ Q := WP_aload_n mq84 dd84_117 rfl
theorem dd84_118 : decode cX8_goRound 118 = .ok (.getfield 27, 3) := by decide +kernel
theorem ww84_118 {d : Nat} {l0 l1 l2 l3 l4 l5 l6 : Option mw_V} {st : List mw_V} {σ : mw_S} {Q : Option mw_V → mw_S → Prop} : mw_WP d 84 118 [l0, l1, l2, l3, l4, l5, l6] (jR 45 :: st) σ Q ↔ mw_WP d 84 121 [l0, l1, l2, l3, l4, l5, l6] (jR 22 :: st) σ Q := WP_getR (ci := 7) (k := 2) mq84 dd84_118 (by decide) rfl
theorem dd84_121 : decode cX8_goRound 121 = .ok (.aload 4, 2) := by decide +kernel
theorem ww84_121 {d : Nat} {l0 l1 l2 l3 l5 l6 : Option mw_V} {x : Nat} {st : List mw_V} {σ : mw_S} {Q : Option mw_V → mw_S → Prop} : mw_WP d 84 121 [l0, l1, l2, l3, some (jR x), l5, l6] st σ Q ↔ mw_WP d 84 123 [l0, l1, l2, l3, some (jR x), l5, l6] (jR x :: st) σ Q := WP_aload mq84 dd84_121 rfl
theorem dd84_123 : decode cX8_goRound 123 = .ok (.aload_n 2, 1) := by decide +kernel
theorem ww84_123 {d : Nat} {l0 l1 l3 l4 l5 l6 : Option mw_V} {x : Nat} {st : List mw_V} {σ : mw_S} {Q : Option mw_V → mw_S → Prop} : mw_WP d 84 123 [l0, l1, some (jR x), l3, l4, l5, l6] st σ Q ↔ mw_WP d 84 124 [l0, l1, some (jR x), l3, l4, l5, l6] (jR x :: st) σ Q := WP_aload_n mq84 dd84_123 rfl
theorem dd84_124 : decode cX8_goRound 124 = .ok (.iload_n 3, 1) := by decide +kernel
theorem ww84_124 {d : Nat} {l0 l1 l2 l4 l5 l6 : Option mw_V} {x : Int} {st : List mw_V} {σ : mw_S} {Q : Option mw_V → mw_S → Prop} : mw_WP d 84 124 [l0, l1, l2, some (jI x), l4, l5, l6] st σ Q ↔ mw_WP d 84 125 [l0, l1, l2, some (jI x), l4, l5, l6] (jI x :: st) σ Q := WP_iload_n mq84 dd84_124 rfl
theorem dd84_125 : decode cX8_goRound 125 = .ok (.invokevirtual 89, 3) := by decide +kernel
theorem ww84_125 {d : Nat} {l0 l1 l2 l3 l4 l5 l6 : Option mw_V} {v0 v1 v2 : mw_V} {a : Nat} {st : List mw_V} {σ : mw_S} {Q : Option mw_V → mw_S → Prop} (hr : mw_rc a = 9) (h8 : (st.map mw_cat).sum ≤ 8) : mw_WP d 84 125 [l0, l1, l2, l3, l4, l5, l6] (v2 :: v1 :: v0 :: jR a :: st) σ Q ↔ mw_Call d 109 [jR a, v0, v1, v2] σ (fun r1 s1 => mw_WP d 84 128 [l0, l1, l2, l3, l4, l5, l6] (r1.toList ++ st) s1 Q) := WP_inv (as := [v2, v1, v0]) mq84 dd84_125 (by decide) mq109 rfl hr h8
theorem dd84_128 : decode cX8_goRound 128 = .ok (.iinc 5 1, 3) := by decide +kernel
theorem ww84_128 {d : Nat} {l0 l1 l2 l3 l4 l6 : Option mw_V} {x : Int} {st : List mw_V} {σ : mw_S} {Q : Option mw_V → mw_S → Prop} (h : mw_nlo l4 = true) : mw_WP d 84 128 [l0, l1, l2, l3, l4, some (jI x), l6] st σ Q ↔ mw_WP d 84 131 [l0, l1, l2, l3, l4, some (jI (w32 (x + (1)))), l6] st σ Q := WP_iinc mq84 dd84_128 rfl (Nat.le_of_ble_eq_true rfl) (mw_nl_of (i := 4) rfl h) rfl
theorem dd84_131 : decode cX8_goRound 131 = .ok (.goto (-114), 3) := by decide +kernel
theorem ww84_131 {d : Nat} {l0 l1 l2 l3 l4 l5 l6 : Option mw_V} {st : List mw_V} {σ : mw_S} {Q : Option mw_V → mw_S → Prop} : mw_WP d 84 131 [l0, l1, l2, l3, l4, l5, l6] st σ Q ↔ mw_WP d 84 17 [l0, l1, l2, l3, l4, l5, l6] st σ Q := WP_goto mq84 dd84_131 (by decide)
theorem dd84_134 : decode cX8_goRound 134 = .ok (.aload_n 0, 1) := by decide +kernel
theorem ww84_134 {d : Nat} {l1 l2 l3 l4 l5 l6 : Option mw_V} {x : Nat} {st : List mw_V} {σ : mw_S} {Q : Option mw_V → mw_S → Prop} : mw_WP d 84 134 [some (jR x), l1, l2, l3, l4, l5, l6] st σ Q ↔ mw_WP d 84 135 [some (jR x), l1, l2, l3, l4, l5, l6] (jR x :: st) σ Q := WP_aload_n mq84 dd84_134 rfl
theorem dd84_135 : decode cX8_goRound 135 = .ok (.iconst (-1), 1) := by decide +kernel
theorem ww84_135 {d : Nat} {l0 l1 l2 l3 l4 l5 l6 : Option mw_V} {st : List mw_V} {σ : mw_S} {Q : Option mw_V → mw_S → Prop} : mw_WP d 84 135 [l0, l1, l2, l3, l4, l5, l6] st σ Q ↔ mw_WP d 84 136 [l0, l1, l2, l3, l4, l5, l6] (jI (-1) :: st) σ Q := WP_iconst mq84 dd84_135 (by decide)
theorem dd84_136 : decode cX8_goRound 136 = .ok (.putfield 83, 3) := by decide +kernel
theorem ww84_136 {d : Nat} {l0 l1 l2 l3 l4 l5 l6 : Option mw_V} {v : Int} {st : List mw_V} {σ : mw_S} {Q : Option mw_V → mw_S → Prop} : mw_WP d 84 136 [l0, l1, l2, l3, l4, l5, l6] (jI v :: jR 45 :: st) σ Q ↔ mw_WP d 84 139 [l0, l1, l2, l3, l4, l5, l6] st (upS σ 45 1 v) Q := WP_putI (ci := 7) (k := 1) mq84 dd84_136 (by decide) rfl
theorem dd84_139 : decode cX8_goRound 139 = .ok (.aload_n 0, 1) := by decide +kernel
theorem ww84_139 {d : Nat} {l1 l2 l3 l4 l5 l6 : Option mw_V} {x : Nat} {st : List mw_V} {σ : mw_S} {Q : Option mw_V → mw_S → Prop} : mw_WP d 84 139 [some (jR x), l1, l2, l3, l4, l5, l6] st σ Q ↔ mw_WP d 84 140 [some (jR x), l1, l2, l3, l4, l5, l6] (jR x :: st) σ Q := WP_aload_n mq84 dd84_139 rfl
theorem dd84_140 : decode cX8_goRound 140 = .ok (.iconst (-1), 1) := by decide +kernel
theorem ww84_140 {d : Nat} {l0 l1 l2 l3 l4 l5 l6 : Option mw_V} {st : List mw_V} {σ : mw_S} {Q : Option mw_V → mw_S → Prop} : mw_WP d 84 140 [l0, l1, l2, l3, l4, l5, l6] st σ Q ↔ mw_WP d 84 141 [l0, l1, l2, l3, l4, l5, l6] (jI (-1) :: st) σ Q := WP_iconst mq84 dd84_140 (by decide)
theorem dd84_141 : decode cX8_goRound 141 = .ok (.putfield 86, 3) := by decide +kernel
theorem ww84_141 {d : Nat} {l0 l1 l2 l3 l4 l5 l6 : Option mw_V} {v : Int} {st : List mw_V} {σ : mw_S} {Q : Option mw_V → mw_S → Prop} : mw_WP d 84 141 [l0, l1, l2, l3, l4, l5, l6] (jI v :: jR 45 :: st) σ Q ↔ mw_WP d 84 144 [l0, l1, l2, l3, l4, l5, l6] st (upS σ 45 0 v) Q := WP_putI (ci := 7) (k := 0) mq84 dd84_141 (by decide) rfl
theorem dd84_144 : decode cX8_goRound 144 = .ok (.return_, 1) := by decide +kernel
theorem ww84_144 {d : Nat} {l0 l1 l2 l3 l4 l5 l6 : Option mw_V} {σ : mw_S} {Q : Option mw_V → mw_S → Prop} : mw_WP d 84 144 [l0, l1, l2, l3, l4, l5, l6] [] σ Q ↔ Q none σ := WP_return mq84 dd84_144 rfl
theorem ee85 {d : Nat} {a0 : Nat} {σ : mw_S} {Q : Option mw_V → mw_S → Prop} : mw_Call (d + 1) 85 [jR a0] σ Q ↔ mw_WP d 85 0 [some (jR a0), none, none, none] [] σ Q := CL_u mq85 (Nat.le_of_ble_eq_true rfl) rfl
theorem dd85_0 : decode cX8_bodyOf 0 = .ok (.lconst 0, 1) := by decide +kernel
theorem ww85_0 {d : Nat} {l0 l1 l2 l3 : Option mw_V} {st : List mw_V} {σ : mw_S} {Q : Option mw_V → mw_S → Prop} : mw_WP d 85 0 [l0, l1, l2, l3] st σ Q ↔ mw_WP d 85 1 [l0, l1, l2, l3] (jL (0) :: st) σ Q := WP_lconst mq85 dd85_0 (by decide)
theorem dd85_1 : decode cX8_bodyOf 1 = .ok (.lstore_n 1, 1) := by decide +kernel
theorem ww85_1 {d : Nat} {l0 l1 l2 l3 : Option mw_V} {x : Int} {st : List mw_V} {σ : mw_S} {Q : Option mw_V → mw_S → Prop} (h : mw_nlo l0 = true) : mw_WP d 85 1 [l0, l1, l2, l3] (jL x :: st) σ Q ↔ mw_WP d 85 2 [l0, some (jL x), none, l3] st σ Q := WP_lstore_n mq85 dd85_1 (Nat.le_of_ble_eq_true rfl) (mw_nl_of (i := 0) rfl h) rfl
theorem dd85_2 : decode cX8_bodyOf 2 = .ok (.iconst 0, 1) := by decide +kernel
theorem ww85_2 {d : Nat} {l0 l1 l2 l3 : Option mw_V} {st : List mw_V} {σ : mw_S} {Q : Option mw_V → mw_S → Prop} : mw_WP d 85 2 [l0, l1, l2, l3] st σ Q ↔ mw_WP d 85 3 [l0, l1, l2, l3] (jI (0) :: st) σ Q := WP_iconst mq85 dd85_2 (by decide)
theorem dd85_3 : decode cX8_bodyOf 3 = .ok (.istore_n 3, 1) := by decide +kernel
theorem ww85_3 {d : Nat} {l0 l1 l2 l3 : Option mw_V} {x : Int} {st : List mw_V} {σ : mw_S} {Q : Option mw_V → mw_S → Prop} (h : mw_nlo l2 = true) : mw_WP d 85 3 [l0, l1, l2, l3] (jI x :: st) σ Q ↔ mw_WP d 85 4 [l0, l1, l2, some (jI x)] st σ Q := WP_istore_n mq85 dd85_3 (Nat.le_of_ble_eq_true rfl) (mw_nl_of (i := 2) rfl h) rfl
theorem dd85_4 : decode cX8_bodyOf 4 = .ok (.iload_n 3, 1) := by decide +kernel
theorem ww85_4 {d : Nat} {l0 l1 l2 : Option mw_V} {x : Int} {st : List mw_V} {σ : mw_S} {Q : Option mw_V → mw_S → Prop} : mw_WP d 85 4 [l0, l1, l2, some (jI x)] st σ Q ↔ mw_WP d 85 5 [l0, l1, l2, some (jI x)] (jI x :: st) σ Q := WP_iload_n mq85 dd85_4 rfl
theorem dd85_5 : decode cX8_bodyOf 5 = .ok (.bipush 6, 2) := by decide +kernel
theorem ww85_5 {d : Nat} {l0 l1 l2 l3 : Option mw_V} {st : List mw_V} {σ : mw_S} {Q : Option mw_V → mw_S → Prop} : mw_WP d 85 5 [l0, l1, l2, l3] st σ Q ↔ mw_WP d 85 7 [l0, l1, l2, l3] (jI (6) :: st) σ Q := WP_bipush mq85 dd85_5 (by decide)
theorem dd85_7 : decode cX8_bodyOf 7 = .ok (.if_icmp .ge 20, 3) := by decide +kernel
theorem ww85_7 {d : Nat} {l0 l1 l2 l3 : Option mw_V} {x y : Int} {st : List mw_V} {σ : mw_S} {Q : Option mw_V → mw_S → Prop} : mw_WP d 85 7 [l0, l1, l2, l3] (jI y :: jI x :: st) σ Q ↔ (if y ≤ x then mw_WP d 85 27 [l0, l1, l2, l3] st σ Q else mw_WP d 85 10 [l0, l1, l2, l3] st σ Q) := WP_icmp_ge mq85 dd85_7 (by decide)
theorem dd85_10 : decode cX8_bodyOf 10 = .ok (.lload_n 1, 1) := by decide +kernel
theorem ww85_10 {d : Nat} {l0 l2 l3 : Option mw_V} {x : Int} {st : List mw_V} {σ : mw_S} {Q : Option mw_V → mw_S → Prop} : mw_WP d 85 10 [l0, some (jL x), l2, l3] st σ Q ↔ mw_WP d 85 11 [l0, some (jL x), l2, l3] (jL x :: st) σ Q := WP_lload_n mq85 dd85_10 rfl
theorem dd85_11 : decode cX8_bodyOf 11 = .ok (.iconst 4, 1) := by decide +kernel
theorem ww85_11 {d : Nat} {l0 l1 l2 l3 : Option mw_V} {st : List mw_V} {σ : mw_S} {Q : Option mw_V → mw_S → Prop} : mw_WP d 85 11 [l0, l1, l2, l3] st σ Q ↔ mw_WP d 85 12 [l0, l1, l2, l3] (jI (4) :: st) σ Q := WP_iconst mq85 dd85_11 (by decide)
theorem dd85_12 : decode cX8_bodyOf 12 = .ok (.lshl, 1) := by decide +kernel
theorem ww85_12 {d : Nat} {l0 l1 l2 l3 : Option mw_V} {x y : Int} {st : List mw_V} {σ : mw_S} {Q : Option mw_V → mw_S → Prop} : mw_WP d 85 12 [l0, l1, l2, l3] (jI y :: jL x :: st) σ Q ↔ mw_WP d 85 13 [l0, l1, l2, l3] (jL (yShl x y) :: st) σ Q := WP_lshl mq85 dd85_12
theorem dd85_13 : decode cX8_bodyOf 13 = .ok (.aload_n 0, 1) := by decide +kernel
theorem ww85_13 {d : Nat} {l1 l2 l3 : Option mw_V} {x : Nat} {st : List mw_V} {σ : mw_S} {Q : Option mw_V → mw_S → Prop} : mw_WP d 85 13 [some (jR x), l1, l2, l3] st σ Q ↔ mw_WP d 85 14 [some (jR x), l1, l2, l3] (jR x :: st) σ Q := WP_aload_n mq85 dd85_13 rfl
theorem dd85_14 : decode cX8_bodyOf 14 = .ok (.iconst 0, 1) := by decide +kernel
theorem ww85_14 {d : Nat} {l0 l1 l2 l3 : Option mw_V} {st : List mw_V} {σ : mw_S} {Q : Option mw_V → mw_S → Prop} : mw_WP d 85 14 [l0, l1, l2, l3] st σ Q ↔ mw_WP d 85 15 [l0, l1, l2, l3] (jI (0) :: st) σ Q := WP_iconst mq85 dd85_14 (by decide)
theorem dd85_15 : decode cX8_bodyOf 15 = .ok (.iload_n 3, 1) := by decide +kernel
theorem ww85_15 {d : Nat} {l0 l1 l2 : Option mw_V} {x : Int} {st : List mw_V} {σ : mw_S} {Q : Option mw_V → mw_S → Prop} : mw_WP d 85 15 [l0, l1, l2, some (jI x)] st σ Q ↔ mw_WP d 85 16 [l0, l1, l2, some (jI x)] (jI x :: st) σ Q := WP_iload_n mq85 dd85_15 rfl
theorem dd85_16 : decode cX8_bodyOf 16 = .ok (.iadd, 1) := by decide +kernel
theorem ww85_16 {d : Nat} {l0 l1 l2 l3 : Option mw_V} {x y : Int} {st : List mw_V} {σ : mw_S} {Q : Option mw_V → mw_S → Prop} : mw_WP d 85 16 [l0, l1, l2, l3] (jI y :: jI x :: st) σ Q ↔ mw_WP d 85 17 [l0, l1, l2, l3] (jI (w32 (x + y)) :: st) σ Q := WP_iadd mq85 dd85_16
theorem dd85_17 : decode cX8_bodyOf 17 = .ok (.iaload, 1) := by decide +kernel
theorem ww85_17 {d : Nat} {l0 l1 l2 l3 : Option mw_V} {z : Int} {a : Nat} {st : List mw_V} {σ : mw_S} {Q : Option mw_V → mw_S → Prop} : mw_WP d 85 17 [l0, l1, l2, l3] (jI z :: jR a :: st) σ Q ↔ ((0 ≤ z ∧ z < mw_lenI a) ∧ mw_WP d 85 18 [l0, l1, l2, l3] (jI (mw_rdI σ a z.toNat) :: st) σ Q) := WP_iaload mq85 dd85_17
theorem dd85_18 : decode cX8_bodyOf 18 = .ok (.i2l, 1) := by decide +kernel
theorem ww85_18 {d : Nat} {l0 l1 l2 l3 : Option mw_V} {x : Int} {st : List mw_V} {σ : mw_S} {Q : Option mw_V → mw_S → Prop} : mw_WP d 85 18 [l0, l1, l2, l3] (jI x :: st) σ Q ↔ mw_WP d 85 19 [l0, l1, l2, l3] (jL (yL x) :: st) σ Q := WP_i2l mq85 dd85_18
theorem dd85_19 : decode cX8_bodyOf 19 = .ok (.lor, 1) := by decide +kernel
theorem ww85_19 {d : Nat} {l0 l1 l2 l3 : Option mw_V} {x y : Int} {st : List mw_V} {σ : mw_S} {Q : Option mw_V → mw_S → Prop} : mw_WP d 85 19 [l0, l1, l2, l3] (jL y :: jL x :: st) σ Q ↔ mw_WP d 85 20 [l0, l1, l2, l3] (jL (yOr x y) :: st) σ Q := WP_lor mq85 dd85_19
theorem dd85_20 : decode cX8_bodyOf 20 = .ok (.lstore_n 1, 1) := by decide +kernel
theorem ww85_20 {d : Nat} {l0 l1 l2 l3 : Option mw_V} {x : Int} {st : List mw_V} {σ : mw_S} {Q : Option mw_V → mw_S → Prop} (h : mw_nlo l0 = true) : mw_WP d 85 20 [l0, l1, l2, l3] (jL x :: st) σ Q ↔ mw_WP d 85 21 [l0, some (jL x), none, l3] st σ Q := WP_lstore_n mq85 dd85_20 (Nat.le_of_ble_eq_true rfl) (mw_nl_of (i := 0) rfl h) rfl
theorem dd85_21 : decode cX8_bodyOf 21 = .ok (.iinc 3 1, 3) := by decide +kernel
theorem ww85_21 {d : Nat} {l0 l1 l2 : Option mw_V} {x : Int} {st : List mw_V} {σ : mw_S} {Q : Option mw_V → mw_S → Prop} (h : mw_nlo l2 = true) : mw_WP d 85 21 [l0, l1, l2, some (jI x)] st σ Q ↔ mw_WP d 85 24 [l0, l1, l2, some (jI (w32 (x + (1))))] st σ Q := WP_iinc mq85 dd85_21 rfl (Nat.le_of_ble_eq_true rfl) (mw_nl_of (i := 2) rfl h) rfl
theorem dd85_24 : decode cX8_bodyOf 24 = .ok (.goto (-20), 3) := by decide +kernel
theorem ww85_24 {d : Nat} {l0 l1 l2 l3 : Option mw_V} {st : List mw_V} {σ : mw_S} {Q : Option mw_V → mw_S → Prop} : mw_WP d 85 24 [l0, l1, l2, l3] st σ Q ↔ mw_WP d 85 4 [l0, l1, l2, l3] st σ Q := WP_goto mq85 dd85_24 (by decide)
theorem dd85_27 : decode cX8_bodyOf 27 = .ok (.iconst 0, 1) := by decide +kernel
theorem ww85_27 {d : Nat} {l0 l1 l2 l3 : Option mw_V} {st : List mw_V} {σ : mw_S} {Q : Option mw_V → mw_S → Prop} : mw_WP d 85 27 [l0, l1, l2, l3] st σ Q ↔ mw_WP d 85 28 [l0, l1, l2, l3] (jI (0) :: st) σ Q := WP_iconst mq85 dd85_27 (by decide)
theorem dd85_28 : decode cX8_bodyOf 28 = .ok (.istore_n 3, 1) := by decide +kernel
theorem ww85_28 {d : Nat} {l0 l1 l2 l3 : Option mw_V} {x : Int} {st : List mw_V} {σ : mw_S} {Q : Option mw_V → mw_S → Prop} (h : mw_nlo l2 = true) : mw_WP d 85 28 [l0, l1, l2, l3] (jI x :: st) σ Q ↔ mw_WP d 85 29 [l0, l1, l2, some (jI x)] st σ Q := WP_istore_n mq85 dd85_28 (Nat.le_of_ble_eq_true rfl) (mw_nl_of (i := 2) rfl h) rfl
theorem dd85_29 : decode cX8_bodyOf 29 = .ok (.iload_n 3, 1) := by decide +kernel
theorem ww85_29 {d : Nat} {l0 l1 l2 : Option mw_V} {x : Int} {st : List mw_V} {σ : mw_S} {Q : Option mw_V → mw_S → Prop} : mw_WP d 85 29 [l0, l1, l2, some (jI x)] st σ Q ↔ mw_WP d 85 30 [l0, l1, l2, some (jI x)] (jI x :: st) σ Q := WP_iload_n mq85 dd85_29 rfl
theorem dd85_30 : decode cX8_bodyOf 30 = .ok (.iconst 4, 1) := by decide +kernel
theorem ww85_30 {d : Nat} {l0 l1 l2 l3 : Option mw_V} {st : List mw_V} {σ : mw_S} {Q : Option mw_V → mw_S → Prop} : mw_WP d 85 30 [l0, l1, l2, l3] st σ Q ↔ mw_WP d 85 31 [l0, l1, l2, l3] (jI (4) :: st) σ Q := WP_iconst mq85 dd85_30 (by decide)
theorem dd85_31 : decode cX8_bodyOf 31 = .ok (.if_icmp .ge 22, 3) := by decide +kernel
theorem ww85_31 {d : Nat} {l0 l1 l2 l3 : Option mw_V} {x y : Int} {st : List mw_V} {σ : mw_S} {Q : Option mw_V → mw_S → Prop} : mw_WP d 85 31 [l0, l1, l2, l3] (jI y :: jI x :: st) σ Q ↔ (if y ≤ x then mw_WP d 85 53 [l0, l1, l2, l3] st σ Q else mw_WP d 85 34 [l0, l1, l2, l3] st σ Q) := WP_icmp_ge mq85 dd85_31 (by decide)
theorem dd85_34 : decode cX8_bodyOf 34 = .ok (.lload_n 1, 1) := by decide +kernel
theorem ww85_34 {d : Nat} {l0 l2 l3 : Option mw_V} {x : Int} {st : List mw_V} {σ : mw_S} {Q : Option mw_V → mw_S → Prop} : mw_WP d 85 34 [l0, some (jL x), l2, l3] st σ Q ↔ mw_WP d 85 35 [l0, some (jL x), l2, l3] (jL x :: st) σ Q := WP_lload_n mq85 dd85_34 rfl
theorem dd85_35 : decode cX8_bodyOf 35 = .ok (.bipush 6, 2) := by decide +kernel
theorem ww85_35 {d : Nat} {l0 l1 l2 l3 : Option mw_V} {st : List mw_V} {σ : mw_S} {Q : Option mw_V → mw_S → Prop} : mw_WP d 85 35 [l0, l1, l2, l3] st σ Q ↔ mw_WP d 85 37 [l0, l1, l2, l3] (jI (6) :: st) σ Q := WP_bipush mq85 dd85_35 (by decide)
theorem dd85_37 : decode cX8_bodyOf 37 = .ok (.lshl, 1) := by decide +kernel
theorem ww85_37 {d : Nat} {l0 l1 l2 l3 : Option mw_V} {x y : Int} {st : List mw_V} {σ : mw_S} {Q : Option mw_V → mw_S → Prop} : mw_WP d 85 37 [l0, l1, l2, l3] (jI y :: jL x :: st) σ Q ↔ mw_WP d 85 38 [l0, l1, l2, l3] (jL (yShl x y) :: st) σ Q := WP_lshl mq85 dd85_37
theorem dd85_38 : decode cX8_bodyOf 38 = .ok (.aload_n 0, 1) := by decide +kernel
theorem ww85_38 {d : Nat} {l1 l2 l3 : Option mw_V} {x : Nat} {st : List mw_V} {σ : mw_S} {Q : Option mw_V → mw_S → Prop} : mw_WP d 85 38 [some (jR x), l1, l2, l3] st σ Q ↔ mw_WP d 85 39 [some (jR x), l1, l2, l3] (jR x :: st) σ Q := WP_aload_n mq85 dd85_38 rfl
theorem dd85_39 : decode cX8_bodyOf 39 = .ok (.bipush 6, 2) := by decide +kernel
theorem ww85_39 {d : Nat} {l0 l1 l2 l3 : Option mw_V} {st : List mw_V} {σ : mw_S} {Q : Option mw_V → mw_S → Prop} : mw_WP d 85 39 [l0, l1, l2, l3] st σ Q ↔ mw_WP d 85 41 [l0, l1, l2, l3] (jI (6) :: st) σ Q := WP_bipush mq85 dd85_39 (by decide)
theorem dd85_41 : decode cX8_bodyOf 41 = .ok (.iload_n 3, 1) := by decide +kernel
theorem ww85_41 {d : Nat} {l0 l1 l2 : Option mw_V} {x : Int} {st : List mw_V} {σ : mw_S} {Q : Option mw_V → mw_S → Prop} : mw_WP d 85 41 [l0, l1, l2, some (jI x)] st σ Q ↔ mw_WP d 85 42 [l0, l1, l2, some (jI x)] (jI x :: st) σ Q := WP_iload_n mq85 dd85_41 rfl
theorem dd85_42 : decode cX8_bodyOf 42 = .ok (.iadd, 1) := by decide +kernel
theorem ww85_42 {d : Nat} {l0 l1 l2 l3 : Option mw_V} {x y : Int} {st : List mw_V} {σ : mw_S} {Q : Option mw_V → mw_S → Prop} : mw_WP d 85 42 [l0, l1, l2, l3] (jI y :: jI x :: st) σ Q ↔ mw_WP d 85 43 [l0, l1, l2, l3] (jI (w32 (x + y)) :: st) σ Q := WP_iadd mq85 dd85_42
theorem dd85_43 : decode cX8_bodyOf 43 = .ok (.iaload, 1) := by decide +kernel
theorem ww85_43 {d : Nat} {l0 l1 l2 l3 : Option mw_V} {z : Int} {a : Nat} {st : List mw_V} {σ : mw_S} {Q : Option mw_V → mw_S → Prop} : mw_WP d 85 43 [l0, l1, l2, l3] (jI z :: jR a :: st) σ Q ↔ ((0 ≤ z ∧ z < mw_lenI a) ∧ mw_WP d 85 44 [l0, l1, l2, l3] (jI (mw_rdI σ a z.toNat) :: st) σ Q) := WP_iaload mq85 dd85_43
theorem dd85_44 : decode cX8_bodyOf 44 = .ok (.i2l, 1) := by decide +kernel
theorem ww85_44 {d : Nat} {l0 l1 l2 l3 : Option mw_V} {x : Int} {st : List mw_V} {σ : mw_S} {Q : Option mw_V → mw_S → Prop} : mw_WP d 85 44 [l0, l1, l2, l3] (jI x :: st) σ Q ↔ mw_WP d 85 45 [l0, l1, l2, l3] (jL (yL x) :: st) σ Q := WP_i2l mq85 dd85_44
theorem dd85_45 : decode cX8_bodyOf 45 = .ok (.lor, 1) := by decide +kernel
theorem ww85_45 {d : Nat} {l0 l1 l2 l3 : Option mw_V} {x y : Int} {st : List mw_V} {σ : mw_S} {Q : Option mw_V → mw_S → Prop} : mw_WP d 85 45 [l0, l1, l2, l3] (jL y :: jL x :: st) σ Q ↔ mw_WP d 85 46 [l0, l1, l2, l3] (jL (yOr x y) :: st) σ Q := WP_lor mq85 dd85_45
theorem dd85_46 : decode cX8_bodyOf 46 = .ok (.lstore_n 1, 1) := by decide +kernel
theorem ww85_46 {d : Nat} {l0 l1 l2 l3 : Option mw_V} {x : Int} {st : List mw_V} {σ : mw_S} {Q : Option mw_V → mw_S → Prop} (h : mw_nlo l0 = true) : mw_WP d 85 46 [l0, l1, l2, l3] (jL x :: st) σ Q ↔ mw_WP d 85 47 [l0, some (jL x), none, l3] st σ Q := WP_lstore_n mq85 dd85_46 (Nat.le_of_ble_eq_true rfl) (mw_nl_of (i := 0) rfl h) rfl
theorem dd85_47 : decode cX8_bodyOf 47 = .ok (.iinc 3 1, 3) := by decide +kernel
theorem ww85_47 {d : Nat} {l0 l1 l2 : Option mw_V} {x : Int} {st : List mw_V} {σ : mw_S} {Q : Option mw_V → mw_S → Prop} (h : mw_nlo l2 = true) : mw_WP d 85 47 [l0, l1, l2, some (jI x)] st σ Q ↔ mw_WP d 85 50 [l0, l1, l2, some (jI (w32 (x + (1))))] st σ Q := WP_iinc mq85 dd85_47 rfl (Nat.le_of_ble_eq_true rfl) (mw_nl_of (i := 2) rfl h) rfl
theorem dd85_50 : decode cX8_bodyOf 50 = .ok (.goto (-21), 3) := by decide +kernel
theorem ww85_50 {d : Nat} {l0 l1 l2 l3 : Option mw_V} {st : List mw_V} {σ : mw_S} {Q : Option mw_V → mw_S → Prop} : mw_WP d 85 50 [l0, l1, l2, l3] st σ Q ↔ mw_WP d 85 29 [l0, l1, l2, l3] st σ Q := WP_goto mq85 dd85_50 (by decide)
theorem dd85_53 : decode cX8_bodyOf 53 = .ok (.iconst 0, 1) := by decide +kernel
theorem ww85_53 {d : Nat} {l0 l1 l2 l3 : Option mw_V} {st : List mw_V} {σ : mw_S} {Q : Option mw_V → mw_S → Prop} : mw_WP d 85 53 [l0, l1, l2, l3] st σ Q ↔ mw_WP d 85 54 [l0, l1, l2, l3] (jI (0) :: st) σ Q := WP_iconst mq85 dd85_53 (by decide)
theorem dd85_54 : decode cX8_bodyOf 54 = .ok (.istore_n 3, 1) := by decide +kernel
theorem ww85_54 {d : Nat} {l0 l1 l2 l3 : Option mw_V} {x : Int} {st : List mw_V} {σ : mw_S} {Q : Option mw_V → mw_S → Prop} (h : mw_nlo l2 = true) : mw_WP d 85 54 [l0, l1, l2, l3] (jI x :: st) σ Q ↔ mw_WP d 85 55 [l0, l1, l2, some (jI x)] st σ Q := WP_istore_n mq85 dd85_54 (Nat.le_of_ble_eq_true rfl) (mw_nl_of (i := 2) rfl h) rfl
theorem dd85_55 : decode cX8_bodyOf 55 = .ok (.iload_n 3, 1) := by decide +kernel
theorem ww85_55 {d : Nat} {l0 l1 l2 : Option mw_V} {x : Int} {st : List mw_V} {σ : mw_S} {Q : Option mw_V → mw_S → Prop} : mw_WP d 85 55 [l0, l1, l2, some (jI x)] st σ Q ↔ mw_WP d 85 56 [l0, l1, l2, some (jI x)] (jI x :: st) σ Q := WP_iload_n mq85 dd85_55 rfl
theorem dd85_56 : decode cX8_bodyOf 56 = .ok (.iconst 3, 1) := by decide +kernel
theorem ww85_56 {d : Nat} {l0 l1 l2 l3 : Option mw_V} {st : List mw_V} {σ : mw_S} {Q : Option mw_V → mw_S → Prop} : mw_WP d 85 56 [l0, l1, l2, l3] st σ Q ↔ mw_WP d 85 57 [l0, l1, l2, l3] (jI (3) :: st) σ Q := WP_iconst mq85 dd85_56 (by decide)
theorem dd85_57 : decode cX8_bodyOf 57 = .ok (.if_icmp .ge 21, 3) := by decide +kernel
theorem ww85_57 {d : Nat} {l0 l1 l2 l3 : Option mw_V} {x y : Int} {st : List mw_V} {σ : mw_S} {Q : Option mw_V → mw_S → Prop} : mw_WP d 85 57 [l0, l1, l2, l3] (jI y :: jI x :: st) σ Q ↔ (if y ≤ x then mw_WP d 85 78 [l0, l1, l2, l3] st σ Q else mw_WP d 85 60 [l0, l1, l2, l3] st σ Q) := WP_icmp_ge mq85 dd85_57 (by decide)
theorem dd85_60 : decode cX8_bodyOf 60 = .ok (.lload_n 1, 1) := by decide +kernel
theorem ww85_60 {d : Nat} {l0 l2 l3 : Option mw_V} {x : Int} {st : List mw_V} {σ : mw_S} {Q : Option mw_V → mw_S → Prop} : mw_WP d 85 60 [l0, some (jL x), l2, l3] st σ Q ↔ mw_WP d 85 61 [l0, some (jL x), l2, l3] (jL x :: st) σ Q := WP_lload_n mq85 dd85_60 rfl
theorem dd85_61 : decode cX8_bodyOf 61 = .ok (.iconst 4, 1) := by decide +kernel
theorem ww85_61 {d : Nat} {l0 l1 l2 l3 : Option mw_V} {st : List mw_V} {σ : mw_S} {Q : Option mw_V → mw_S → Prop} : mw_WP d 85 61 [l0, l1, l2, l3] st σ Q ↔ mw_WP d 85 62 [l0, l1, l2, l3] (jI (4) :: st) σ Q := WP_iconst mq85 dd85_61 (by decide)
theorem dd85_62 : decode cX8_bodyOf 62 = .ok (.lshl, 1) := by decide +kernel
theorem ww85_62 {d : Nat} {l0 l1 l2 l3 : Option mw_V} {x y : Int} {st : List mw_V} {σ : mw_S} {Q : Option mw_V → mw_S → Prop} : mw_WP d 85 62 [l0, l1, l2, l3] (jI y :: jL x :: st) σ Q ↔ mw_WP d 85 63 [l0, l1, l2, l3] (jL (yShl x y) :: st) σ Q := WP_lshl mq85 dd85_62
theorem dd85_63 : decode cX8_bodyOf 63 = .ok (.aload_n 0, 1) := by decide +kernel
theorem ww85_63 {d : Nat} {l1 l2 l3 : Option mw_V} {x : Nat} {st : List mw_V} {σ : mw_S} {Q : Option mw_V → mw_S → Prop} : mw_WP d 85 63 [some (jR x), l1, l2, l3] st σ Q ↔ mw_WP d 85 64 [some (jR x), l1, l2, l3] (jR x :: st) σ Q := WP_aload_n mq85 dd85_63 rfl
theorem dd85_64 : decode cX8_bodyOf 64 = .ok (.bipush 10, 2) := by decide +kernel
theorem ww85_64 {d : Nat} {l0 l1 l2 l3 : Option mw_V} {st : List mw_V} {σ : mw_S} {Q : Option mw_V → mw_S → Prop} : mw_WP d 85 64 [l0, l1, l2, l3] st σ Q ↔ mw_WP d 85 66 [l0, l1, l2, l3] (jI (10) :: st) σ Q := WP_bipush mq85 dd85_64 (by decide)
theorem dd85_66 : decode cX8_bodyOf 66 = .ok (.iload_n 3, 1) := by decide +kernel
theorem ww85_66 {d : Nat} {l0 l1 l2 : Option mw_V} {x : Int} {st : List mw_V} {σ : mw_S} {Q : Option mw_V → mw_S → Prop} : mw_WP d 85 66 [l0, l1, l2, some (jI x)] st σ Q ↔ mw_WP d 85 67 [l0, l1, l2, some (jI x)] (jI x :: st) σ Q := WP_iload_n mq85 dd85_66 rfl
theorem dd85_67 : decode cX8_bodyOf 67 = .ok (.iadd, 1) := by decide +kernel
theorem ww85_67 {d : Nat} {l0 l1 l2 l3 : Option mw_V} {x y : Int} {st : List mw_V} {σ : mw_S} {Q : Option mw_V → mw_S → Prop} : mw_WP d 85 67 [l0, l1, l2, l3] (jI y :: jI x :: st) σ Q ↔ mw_WP d 85 68 [l0, l1, l2, l3] (jI (w32 (x + y)) :: st) σ Q := WP_iadd mq85 dd85_67
theorem dd85_68 : decode cX8_bodyOf 68 = .ok (.iaload, 1) := by decide +kernel
theorem ww85_68 {d : Nat} {l0 l1 l2 l3 : Option mw_V} {z : Int} {a : Nat} {st : List mw_V} {σ : mw_S} {Q : Option mw_V → mw_S → Prop} : mw_WP d 85 68 [l0, l1, l2, l3] (jI z :: jR a :: st) σ Q ↔ ((0 ≤ z ∧ z < mw_lenI a) ∧ mw_WP d 85 69 [l0, l1, l2, l3] (jI (mw_rdI σ a z.toNat) :: st) σ Q) := WP_iaload mq85 dd85_68
theorem dd85_69 : decode cX8_bodyOf 69 = .ok (.i2l, 1) := by decide +kernel
theorem ww85_69 {d : Nat} {l0 l1 l2 l3 : Option mw_V} {x : Int} {st : List mw_V} {σ : mw_S} {Q : Option mw_V → mw_S → Prop} : mw_WP d 85 69 [l0, l1, l2, l3] (jI x :: st) σ Q ↔ mw_WP d 85 70 [l0, l1, l2, l3] (jL (yL x) :: st) σ Q := WP_i2l mq85 dd85_69
theorem dd85_70 : decode cX8_bodyOf 70 = .ok (.lor, 1) := by decide +kernel
theorem ww85_70 {d : Nat} {l0 l1 l2 l3 : Option mw_V} {x y : Int} {st : List mw_V} {σ : mw_S} {Q : Option mw_V → mw_S → Prop} : mw_WP d 85 70 [l0, l1, l2, l3] (jL y :: jL x :: st) σ Q ↔ mw_WP d 85 71 [l0, l1, l2, l3] (jL (yOr x y) :: st) σ Q := WP_lor mq85 dd85_70
theorem dd85_71 : decode cX8_bodyOf 71 = .ok (.lstore_n 1, 1) := by decide +kernel
theorem ww85_71 {d : Nat} {l0 l1 l2 l3 : Option mw_V} {x : Int} {st : List mw_V} {σ : mw_S} {Q : Option mw_V → mw_S → Prop} (h : mw_nlo l0 = true) : mw_WP d 85 71 [l0, l1, l2, l3] (jL x :: st) σ Q ↔ mw_WP d 85 72 [l0, some (jL x), none, l3] st σ Q := WP_lstore_n mq85 dd85_71 (Nat.le_of_ble_eq_true rfl) (mw_nl_of (i := 0) rfl h) rfl
theorem dd85_72 : decode cX8_bodyOf 72 = .ok (.iinc 3 1, 3) := by decide +kernel
theorem ww85_72 {d : Nat} {l0 l1 l2 : Option mw_V} {x : Int} {st : List mw_V} {σ : mw_S} {Q : Option mw_V → mw_S → Prop} (h : mw_nlo l2 = true) : mw_WP d 85 72 [l0, l1, l2, some (jI x)] st σ Q ↔ mw_WP d 85 75 [l0, l1, l2, some (jI (w32 (x + (1))))] st σ Q := WP_iinc mq85 dd85_72 rfl (Nat.le_of_ble_eq_true rfl) (mw_nl_of (i := 2) rfl h) rfl
theorem dd85_75 : decode cX8_bodyOf 75 = .ok (.goto (-20), 3) := by decide +kernel
theorem ww85_75 {d : Nat} {l0 l1 l2 l3 : Option mw_V} {st : List mw_V} {σ : mw_S} {Q : Option mw_V → mw_S → Prop} : mw_WP d 85 75 [l0, l1, l2, l3] st σ Q ↔ mw_WP d 85 55 [l0, l1, l2, l3] st σ Q := WP_goto mq85 dd85_75 (by decide)
theorem dd85_78 : decode cX8_bodyOf 78 = .ok (.lload_n 1, 1) := by decide +kernel
theorem ww85_78 {d : Nat} {l0 l2 l3 : Option mw_V} {x : Int} {st : List mw_V} {σ : mw_S} {Q : Option mw_V → mw_S → Prop} : mw_WP d 85 78 [l0, some (jL x), l2, l3] st σ Q ↔ mw_WP d 85 79 [l0, some (jL x), l2, l3] (jL x :: st) σ Q := WP_lload_n mq85 dd85_78 rfl
theorem dd85_79 : decode cX8_bodyOf 79 = .ok (.lreturn, 1) := by decide +kernel
theorem ww85_79 {d : Nat} {l0 l1 l2 l3 : Option mw_V} {z : Int} {σ : mw_S} {Q : Option mw_V → mw_S → Prop} : mw_WP d 85 79 [l0, l1, l2, l3] [jL z] σ Q ↔ Q (some (jL z)) σ := WP_lreturn mq85 dd85_79 rfl
theorem ee86 {d : Nat} {a0 : Nat} {σ : mw_S} {Q : Option mw_V → mw_S → Prop} : mw_Call (d + 1) 86 [jR a0] σ Q ↔ mw_WP d 86 0 [some (jR a0), none, none, none] [] σ Q := CL_u mq86 (Nat.le_of_ble_eq_true rfl) rfl
theorem dd86_0 : decode cX8_tellingOf 0 = .ok (.lconst 0, 1) := by decide +kernel
theorem ww86_0 {d : Nat} {l0 l1 l2 l3 : Option mw_V} {st : List mw_V} {σ : mw_S} {Q : Option mw_V → mw_S → Prop} : mw_WP d 86 0 [l0, l1, l2, l3] st σ Q ↔ mw_WP d 86 1 [l0, l1, l2, l3] (jL (0) :: st) σ Q := WP_lconst mq86 dd86_0 (by decide)
theorem dd86_1 : decode cX8_tellingOf 1 = .ok (.lstore_n 1, 1) := by decide +kernel
theorem ww86_1 {d : Nat} {l0 l1 l2 l3 : Option mw_V} {x : Int} {st : List mw_V} {σ : mw_S} {Q : Option mw_V → mw_S → Prop} (h : mw_nlo l0 = true) : mw_WP d 86 1 [l0, l1, l2, l3] (jL x :: st) σ Q ↔ mw_WP d 86 2 [l0, some (jL x), none, l3] st σ Q := WP_lstore_n mq86 dd86_1 (Nat.le_of_ble_eq_true rfl) (mw_nl_of (i := 0) rfl h) rfl
theorem dd86_2 : decode cX8_tellingOf 2 = .ok (.iconst 0, 1) := by decide +kernel
theorem ww86_2 {d : Nat} {l0 l1 l2 l3 : Option mw_V} {st : List mw_V} {σ : mw_S} {Q : Option mw_V → mw_S → Prop} : mw_WP d 86 2 [l0, l1, l2, l3] st σ Q ↔ mw_WP d 86 3 [l0, l1, l2, l3] (jI (0) :: st) σ Q := WP_iconst mq86 dd86_2 (by decide)
theorem dd86_3 : decode cX8_tellingOf 3 = .ok (.istore_n 3, 1) := by decide +kernel
theorem ww86_3 {d : Nat} {l0 l1 l2 l3 : Option mw_V} {x : Int} {st : List mw_V} {σ : mw_S} {Q : Option mw_V → mw_S → Prop} (h : mw_nlo l2 = true) : mw_WP d 86 3 [l0, l1, l2, l3] (jI x :: st) σ Q ↔ mw_WP d 86 4 [l0, l1, l2, some (jI x)] st σ Q := WP_istore_n mq86 dd86_3 (Nat.le_of_ble_eq_true rfl) (mw_nl_of (i := 2) rfl h) rfl
theorem dd86_4 : decode cX8_tellingOf 4 = .ok (.iload_n 3, 1) := by decide +kernel
theorem ww86_4 {d : Nat} {l0 l1 l2 : Option mw_V} {x : Int} {st : List mw_V} {σ : mw_S} {Q : Option mw_V → mw_S → Prop} : mw_WP d 86 4 [l0, l1, l2, some (jI x)] st σ Q ↔ mw_WP d 86 5 [l0, l1, l2, some (jI x)] (jI x :: st) σ Q := WP_iload_n mq86 dd86_4 rfl
theorem dd86_5 : decode cX8_tellingOf 5 = .ok (.iconst 3, 1) := by decide +kernel
theorem ww86_5 {d : Nat} {l0 l1 l2 l3 : Option mw_V} {st : List mw_V} {σ : mw_S} {Q : Option mw_V → mw_S → Prop} : mw_WP d 86 5 [l0, l1, l2, l3] st σ Q ↔ mw_WP d 86 6 [l0, l1, l2, l3] (jI (3) :: st) σ Q := WP_iconst mq86 dd86_5 (by decide)
theorem dd86_6 : decode cX8_tellingOf 6 = .ok (.if_icmp .ge 25, 3) := by decide +kernel
theorem ww86_6 {d : Nat} {l0 l1 l2 l3 : Option mw_V} {x y : Int} {st : List mw_V} {σ : mw_S} {Q : Option mw_V → mw_S → Prop} : mw_WP d 86 6 [l0, l1, l2, l3] (jI y :: jI x :: st) σ Q ↔ (if y ≤ x then mw_WP d 86 31 [l0, l1, l2, l3] st σ Q else mw_WP d 86 9 [l0, l1, l2, l3] st σ Q) := WP_icmp_ge mq86 dd86_6 (by decide)
theorem dd86_9 : decode cX8_tellingOf 9 = .ok (.lload_n 1, 1) := by decide +kernel
theorem ww86_9 {d : Nat} {l0 l2 l3 : Option mw_V} {x : Int} {st : List mw_V} {σ : mw_S} {Q : Option mw_V → mw_S → Prop} : mw_WP d 86 9 [l0, some (jL x), l2, l3] st σ Q ↔ mw_WP d 86 10 [l0, some (jL x), l2, l3] (jL x :: st) σ Q := WP_lload_n mq86 dd86_9 rfl
theorem dd86_10 : decode cX8_tellingOf 10 = .ok (.bipush 16, 2) := by decide +kernel
theorem ww86_10 {d : Nat} {l0 l1 l2 l3 : Option mw_V} {st : List mw_V} {σ : mw_S} {Q : Option mw_V → mw_S → Prop} : mw_WP d 86 10 [l0, l1, l2, l3] st σ Q ↔ mw_WP d 86 12 [l0, l1, l2, l3] (jI (16) :: st) σ Q := WP_bipush mq86 dd86_10 (by decide)
theorem dd86_12 : decode cX8_tellingOf 12 = .ok (.lshl, 1) := by decide +kernel
theorem ww86_12 {d : Nat} {l0 l1 l2 l3 : Option mw_V} {x y : Int} {st : List mw_V} {σ : mw_S} {Q : Option mw_V → mw_S → Prop} : mw_WP d 86 12 [l0, l1, l2, l3] (jI y :: jL x :: st) σ Q ↔ mw_WP d 86 13 [l0, l1, l2, l3] (jL (yShl x y) :: st) σ Q := WP_lshl mq86 dd86_12
theorem dd86_13 : decode cX8_tellingOf 13 = .ok (.aload_n 0, 1) := by decide +kernel
theorem ww86_13 {d : Nat} {l1 l2 l3 : Option mw_V} {x : Nat} {st : List mw_V} {σ : mw_S} {Q : Option mw_V → mw_S → Prop} : mw_WP d 86 13 [some (jR x), l1, l2, l3] st σ Q ↔ mw_WP d 86 14 [some (jR x), l1, l2, l3] (jR x :: st) σ Q := WP_aload_n mq86 dd86_13 rfl
theorem dd86_14 : decode cX8_tellingOf 14 = .ok (.bipush 13, 2) := by decide +kernel
theorem ww86_14 {d : Nat} {l0 l1 l2 l3 : Option mw_V} {st : List mw_V} {σ : mw_S} {Q : Option mw_V → mw_S → Prop} : mw_WP d 86 14 [l0, l1, l2, l3] st σ Q ↔ mw_WP d 86 16 [l0, l1, l2, l3] (jI (13) :: st) σ Q := WP_bipush mq86 dd86_14 (by decide)
theorem dd86_16 : decode cX8_tellingOf 16 = .ok (.iload_n 3, 1) := by decide +kernel
theorem ww86_16 {d : Nat} {l0 l1 l2 : Option mw_V} {x : Int} {st : List mw_V} {σ : mw_S} {Q : Option mw_V → mw_S → Prop} : mw_WP d 86 16 [l0, l1, l2, some (jI x)] st σ Q ↔ mw_WP d 86 17 [l0, l1, l2, some (jI x)] (jI x :: st) σ Q := WP_iload_n mq86 dd86_16 rfl
theorem dd86_17 : decode cX8_tellingOf 17 = .ok (.iadd, 1) := by decide +kernel
theorem ww86_17 {d : Nat} {l0 l1 l2 l3 : Option mw_V} {x y : Int} {st : List mw_V} {σ : mw_S} {Q : Option mw_V → mw_S → Prop} : mw_WP d 86 17 [l0, l1, l2, l3] (jI y :: jI x :: st) σ Q ↔ mw_WP d 86 18 [l0, l1, l2, l3] (jI (w32 (x + y)) :: st) σ Q := WP_iadd mq86 dd86_17
theorem dd86_18 : decode cX8_tellingOf 18 = .ok (.iaload, 1) := by decide +kernel
theorem ww86_18 {d : Nat} {l0 l1 l2 l3 : Option mw_V} {z : Int} {a : Nat} {st : List mw_V} {σ : mw_S} {Q : Option mw_V → mw_S → Prop} : mw_WP d 86 18 [l0, l1, l2, l3] (jI z :: jR a :: st) σ Q ↔ ((0 ≤ z ∧ z < mw_lenI a) ∧ mw_WP d 86 19 [l0, l1, l2, l3] (jI (mw_rdI σ a z.toNat) :: st) σ Q) := WP_iaload mq86 dd86_18
theorem dd86_19 : decode cX8_tellingOf 19 = .ok (.ldc 93, 2) := by decide +kernel
theorem ww86_19 {d : Nat} {l0 l1 l2 l3 : Option mw_V} {st : List mw_V} {σ : mw_S} {Q : Option mw_V → mw_S → Prop} : mw_WP d 86 19 [l0, l1, l2, l3] st σ Q ↔ mw_WP d 86 21 [l0, l1, l2, l3] (jI (65535) :: st) σ Q := WP_ldc (v := 65535) mq86 dd86_19 (by decide) (by decide)
theorem dd86_21 : decode cX8_tellingOf 21 = .ok (.iand, 1) := by decide +kernel
theorem ww86_21 {d : Nat} {l0 l1 l2 l3 : Option mw_V} {x y : Int} {st : List mw_V} {σ : mw_S} {Q : Option mw_V → mw_S → Prop} : mw_WP d 86 21 [l0, l1, l2, l3] (jI y :: jI x :: st) σ Q ↔ mw_WP d 86 22 [l0, l1, l2, l3] (jI (zAnd x y) :: st) σ Q := WP_iand mq86 dd86_21
theorem dd86_22 : decode cX8_tellingOf 22 = .ok (.i2l, 1) := by decide +kernel
theorem ww86_22 {d : Nat} {l0 l1 l2 l3 : Option mw_V} {x : Int} {st : List mw_V} {σ : mw_S} {Q : Option mw_V → mw_S → Prop} : mw_WP d 86 22 [l0, l1, l2, l3] (jI x :: st) σ Q ↔ mw_WP d 86 23 [l0, l1, l2, l3] (jL (yL x) :: st) σ Q := WP_i2l mq86 dd86_22
theorem dd86_23 : decode cX8_tellingOf 23 = .ok (.lor, 1) := by decide +kernel
theorem ww86_23 {d : Nat} {l0 l1 l2 l3 : Option mw_V} {x y : Int} {st : List mw_V} {σ : mw_S} {Q : Option mw_V → mw_S → Prop} : mw_WP d 86 23 [l0, l1, l2, l3] (jL y :: jL x :: st) σ Q ↔ mw_WP d 86 24 [l0, l1, l2, l3] (jL (yOr x y) :: st) σ Q := WP_lor mq86 dd86_23
theorem dd86_24 : decode cX8_tellingOf 24 = .ok (.lstore_n 1, 1) := by decide +kernel
theorem ww86_24 {d : Nat} {l0 l1 l2 l3 : Option mw_V} {x : Int} {st : List mw_V} {σ : mw_S} {Q : Option mw_V → mw_S → Prop} (h : mw_nlo l0 = true) : mw_WP d 86 24 [l0, l1, l2, l3] (jL x :: st) σ Q ↔ mw_WP d 86 25 [l0, some (jL x), none, l3] st σ Q := WP_lstore_n mq86 dd86_24 (Nat.le_of_ble_eq_true rfl) (mw_nl_of (i := 0) rfl h) rfl
theorem dd86_25 : decode cX8_tellingOf 25 = .ok (.iinc 3 1, 3) := by decide +kernel
theorem ww86_25 {d : Nat} {l0 l1 l2 : Option mw_V} {x : Int} {st : List mw_V} {σ : mw_S} {Q : Option mw_V → mw_S → Prop} (h : mw_nlo l2 = true) : mw_WP d 86 25 [l0, l1, l2, some (jI x)] st σ Q ↔ mw_WP d 86 28 [l0, l1, l2, some (jI (w32 (x + (1))))] st σ Q := WP_iinc mq86 dd86_25 rfl (Nat.le_of_ble_eq_true rfl) (mw_nl_of (i := 2) rfl h) rfl
theorem dd86_28 : decode cX8_tellingOf 28 = .ok (.goto (-24), 3) := by decide +kernel
theorem ww86_28 {d : Nat} {l0 l1 l2 l3 : Option mw_V} {st : List mw_V} {σ : mw_S} {Q : Option mw_V → mw_S → Prop} : mw_WP d 86 28 [l0, l1, l2, l3] st σ Q ↔ mw_WP d 86 4 [l0, l1, l2, l3] st σ Q := WP_goto mq86 dd86_28 (by decide)
theorem dd86_31 : decode cX8_tellingOf 31 = .ok (.lload_n 1, 1) := by decide +kernel
theorem ww86_31 {d : Nat} {l0 l2 l3 : Option mw_V} {x : Int} {st : List mw_V} {σ : mw_S} {Q : Option mw_V → mw_S → Prop} : mw_WP d 86 31 [l0, some (jL x), l2, l3] st σ Q ↔ mw_WP d 86 32 [l0, some (jL x), l2, l3] (jL x :: st) σ Q := WP_lload_n mq86 dd86_31 rfl
theorem dd86_32 : decode cX8_tellingOf 32 = .ok (.lreturn, 1) := by decide +kernel
theorem ww86_32 {d : Nat} {l0 l1 l2 l3 : Option mw_V} {z : Int} {σ : mw_S} {Q : Option mw_V → mw_S → Prop} : mw_WP d 86 32 [l0, l1, l2, l3] [jL z] σ Q ↔ Q (some (jL z)) σ := WP_lreturn mq86 dd86_32 rfl
