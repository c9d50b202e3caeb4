/-! 13.j: rows that decode each instruction, and its rule -/
theorem ee279 {d : Nat} {z0 : Int} {σ : mw_S} {Q : Option mw_V → mw_S → Prop} : mw_Call (d + 1) 279 [jI z0] σ Q ↔ mw_WP d 279 0 [some (jI z0)] [] σ Q := CL_u mq279 (Nat.le_of_ble_eq_true rfl) rfl
theorem dd279_0 : decode cJ6_bitCount_0f7a4 0 = .ok (.iload_n 0, 1) := by decide +kernel
theorem ww279_0 {d : Nat} {x : Int} {st : List mw_V} {σ : mw_S} {Q : Option mw_V → mw_S → Prop} : mw_WP d 279 0 [some (jI x)] st σ Q ↔ mw_WP d 279 1 [some (jI x)] (jI x :: st) σ Q := WP_iload_n mq279 dd279_0 rfl
theorem dd279_1 : decode cJ6_bitCount_0f7a4 1 = .ok (.iload_n 0, 1) := by decide +kernel
theorem ww279_1 {d : Nat} {x : Int} {st : List mw_V} {σ : mw_S} {Q : Option mw_V → mw_S → Prop} : mw_WP d 279 1 [some (jI x)] st σ Q ↔ mw_WP d 279 2 [some (jI x)] (jI x :: st) σ Q := WP_iload_n mq279 dd279_1 rfl
theorem dd279_2 : decode cJ6_bitCount_0f7a4 2 = .ok (.iconst 1, 1) := by decide +kernel
theorem ww279_2 {d : Nat} {l0 : Option mw_V} {st : List mw_V} {σ : mw_S} {Q : Option mw_V → mw_S → Prop} : mw_WP d 279 2 [l0] st σ Q ↔ mw_WP d 279 3 [l0] (jI (1) :: st) σ Q := WP_iconst mq279 dd279_2 (by decide)
theorem dd279_3 : decode cJ6_bitCount_0f7a4 3 = .ok (.iushr, 1) := by decide +kernel
theorem ww279_3 {d : Nat} {l0 : Option mw_V} {x y : Int} {st : List mw_V} {σ : mw_S} {Q : Option mw_V → mw_S → Prop} : mw_WP d 279 3 [l0] (jI y :: jI x :: st) σ Q ↔ mw_WP d 279 4 [l0] (jI (zUshr x y) :: st) σ Q := WP_iushr mq279 dd279_3
theorem dd279_4 : decode cJ6_bitCount_0f7a4 4 = .ok (.ldc_w 265, 3) := by decide +kernel
theorem ww279_4 {d : Nat} {l0 : Option mw_V} {st : List mw_V} {σ : mw_S} {Q : Option mw_V → mw_S → Prop} : mw_WP d 279 4 [l0] st σ Q ↔ mw_WP d 279 7 [l0] (jI (1431655765) :: st) σ Q := WP_ldc_w (v := 1431655765) mq279 dd279_4 (by decide) (by decide)
theorem dd279_7 : decode cJ6_bitCount_0f7a4 7 = .ok (.iand, 1) := by decide +kernel
theorem ww279_7 {d : Nat} {l0 : Option mw_V} {x y : Int} {st : List mw_V} {σ : mw_S} {Q : Option mw_V → mw_S → Prop} : mw_WP d 279 7 [l0] (jI y :: jI x :: st) σ Q ↔ mw_WP d 279 8 [l0] (jI (zAnd x y) :: st) σ Q := WP_iand mq279 dd279_7
theorem dd279_8 : decode cJ6_bitCount_0f7a4 8 = .ok (.isub, 1) := by decide +kernel
theorem ww279_8 {d : Nat} {l0 : Option mw_V} {x y : Int} {st : List mw_V} {σ : mw_S} {Q : Option mw_V → mw_S → Prop} : mw_WP d 279 8 [l0] (jI y :: jI x :: st) σ Q ↔ mw_WP d 279 9 [l0] (jI (w32 (x - y)) :: st) σ Q := WP_isub mq279 dd279_8
theorem dd279_9 : decode cJ6_bitCount_0f7a4 9 = .ok (.istore_n 0, 1) := by decide +kernel
theorem ww279_9 {d : Nat} {l0 : Option mw_V} {x : Int} {st : List mw_V} {σ : mw_S} {Q : Option mw_V → mw_S → Prop} : mw_WP d 279 9 [l0] (jI x :: st) σ Q ↔ mw_WP d 279 10 [some (jI x)] st σ Q := WP_istore_n mq279 dd279_9 (Nat.le_of_ble_eq_true rfl) rfl rfl
theorem dd279_10 : decode cJ6_bitCount_0f7a4 10 = .ok (.iload_n 0, 1) := by decide +kernel
theorem ww279_10 {d : Nat} {x : Int} {st : List mw_V} {σ : mw_S} {Q : Option mw_V → mw_S → Prop} : mw_WP d 279 10 [some (jI x)] st σ Q ↔ mw_WP d 279 11 [some (jI x)] (jI x :: st) σ Q := WP_iload_n mq279 dd279_10 rfl
theorem dd279_11 : decode cJ6_bitCount_0f7a4 11 = .ok (.ldc_w 266, 3) := by decide +kernel
theorem ww279_11 {d : Nat} {l0 : Option mw_V} {st : List mw_V} {σ : mw_S} {Q : Option mw_V → mw_S → Prop} : mw_WP d 279 11 [l0] st σ Q ↔ mw_WP d 279 14 [l0] (jI (858993459) :: st) σ Q := WP_ldc_w (v := 858993459) mq279 dd279_11 (by decide) (by decide)
theorem dd279_14 : decode cJ6_bitCount_0f7a4 14 = .ok (.iand, 1) := by decide +kernel
theorem ww279_14 {d : Nat} {l0 : Option mw_V} {x y : Int} {st : List mw_V} {σ : mw_S} {Q : Option mw_V → mw_S → Prop} : mw_WP d 279 14 [l0] (jI y :: jI x :: st) σ Q ↔ mw_WP d 279 15 [l0] (jI (zAnd x y) :: st) σ Q := WP_iand mq279 dd279_14
theorem dd279_15 : decode cJ6_bitCount_0f7a4 15 = .ok (.iload_n 0, 1) := by decide +kernel
theorem ww279_15 {d : Nat} {x : Int} {st : List mw_V} {σ : mw_S} {Q : Option mw_V → mw_S → Prop} : mw_WP d 279 15 [some (jI x)] st σ Q ↔ mw_WP d 279 16 [some (jI x)] (jI x :: st) σ Q := WP_iload_n mq279 dd279_15 rfl
theorem dd279_16 : decode cJ6_bitCount_0f7a4 16 = .ok (.iconst 2, 1) := by decide +kernel
theorem ww279_16 {d : Nat} {l0 : Option mw_V} {st : List mw_V} {σ : mw_S} {Q : Option mw_V → mw_S → Prop} : mw_WP d 279 16 [l0] st σ Q ↔ mw_WP d 279 17 [l0] (jI (2) :: st) σ Q := WP_iconst mq279 dd279_16 (by decide)
theorem dd279_17 : decode cJ6_bitCount_0f7a4 17 = .ok (.iushr, 1) := by decide +kernel
theorem ww279_17 {d : Nat} {l0 : Option mw_V} {x y : Int} {st : List mw_V} {σ : mw_S} {Q : Option mw_V → mw_S → Prop} : mw_WP d 279 17 [l0] (jI y :: jI x :: st) σ Q ↔ mw_WP d 279 18 [l0] (jI (zUshr x y) :: st) σ Q := WP_iushr mq279 dd279_17
theorem dd279_18 : decode cJ6_bitCount_0f7a4 18 = .ok (.ldc_w 266, 3) := by decide +kernel
theorem ww279_18 {d : Nat} {l0 : Option mw_V} {st : List mw_V} {σ : mw_S} {Q : Option mw_V → mw_S → Prop} : mw_WP d 279 18 [l0] st σ Q ↔ mw_WP d 279 21 [l0] (jI (858993459) :: st) σ Q := WP_ldc_w (v := 858993459) mq279 dd279_18 (by decide) (by decide)
theorem dd279_21 : decode cJ6_bitCount_0f7a4 21 = .ok (.iand, 1) := by decide +kernel
theorem ww279_21 {d : Nat} {l0 : Option mw_V} {x y : Int} {st : List mw_V} {σ : mw_S} {Q : Option mw_V → mw_S → Prop} : mw_WP d 279 21 [l0] (jI y :: jI x :: st) σ Q ↔ mw_WP d 279 22 [l0] (jI (zAnd x y) :: st) σ Q := WP_iand mq279 dd279_21
theorem dd279_22 : decode cJ6_bitCount_0f7a4 22 = .ok (.iadd, 1) := by decide +kernel
theorem ww279_22 {d : Nat} {l0 : Option mw_V} {x y : Int} {st : List mw_V} {σ : mw_S} {Q : Option mw_V → mw_S → Prop} : mw_WP d 279 22 [l0] (jI y :: jI x :: st) σ Q ↔ mw_WP d 279 23 [l0] (jI (w32 (x + y)) :: st) σ Q := WP_iadd mq279 dd279_22
theorem dd279_23 : decode cJ6_bitCount_0f7a4 23 = .ok (.istore_n 0, 1) := by decide +kernel
theorem ww279_23 {d : Nat} {l0 : Option mw_V} {x : Int} {st : List mw_V} {σ : mw_S} {Q : Option mw_V → mw_S → Prop} : mw_WP d 279 23 [l0] (jI x :: st) σ Q ↔ mw_WP d 279 24 [some (jI x)] st σ Q := WP_istore_n mq279 dd279_23 (Nat.le_of_ble_eq_true rfl) rfl rfl
theorem dd279_24 : decode cJ6_bitCount_0f7a4 24 = .ok (.iload_n 0, 1) := by decide +kernel
theorem ww279_24 {d : Nat} {x : Int} {st : List mw_V} {σ : mw_S} {Q : Option mw_V → mw_S → Prop} : mw_WP d 279 24 [some (jI x)] st σ Q ↔ mw_WP d 279 25 [some (jI x)] (jI x :: st) σ Q := WP_iload_n mq279 dd279_24 rfl
theorem dd279_25 : decode cJ6_bitCount_0f7a4 25 = .ok (.iload_n 0, 1) := by decide +kernel
theorem ww279_25 {d : Nat} {x : Int} {st : List mw_V} {σ : mw_S} {Q : Option mw_V → mw_S → Prop} : mw_WP d 279 25 [some (jI x)] st σ Q ↔ mw_WP d 279 26 [some (jI x)] (jI x :: st) σ Q := WP_iload_n mq279 dd279_25 rfl
theorem dd279_26 : decode cJ6_bitCount_0f7a4 26 = .ok (.iconst 4, 1) := by decide +kernel
theorem ww279_26 {d : Nat} {l0 : Option mw_V} {st : List mw_V} {σ : mw_S} {Q : Option mw_V → mw_S → Prop} : mw_WP d 279 26 [l0] st σ Q ↔ mw_WP d 279 27 [l0] (jI (4) :: st) σ Q := WP_iconst mq279 dd279_26 (by decide)
theorem dd279_27 : decode cJ6_bitCount_0f7a4 27 = .ok (.iushr, 1) := by decide +kernel
theorem ww279_27 {d : Nat} {l0 : Option mw_V} {x y : Int} {st : List mw_V} {σ : mw_S} {Q : Option mw_V → mw_S → Prop} : mw_WP d 279 27 [l0] (jI y :: jI x :: st) σ Q ↔ mw_WP d 279 28 [l0] (jI (zUshr x y) :: st) σ Q := WP_iushr mq279 dd279_27
theorem dd279_28 : decode cJ6_bitCount_0f7a4 28 = .ok (.iadd, 1) := by decide +kernel
theorem ww279_28 {d : Nat} {l0 : Option mw_V} {x y : Int} {st : List mw_V} {σ : mw_S} {Q : Option mw_V → mw_S → Prop} : mw_WP d 279 28 [l0] (jI y :: jI x :: st) σ Q ↔ mw_WP d 279 29 [l0] (jI (w32 (x + y)) :: st) σ Q := WP_iadd mq279 dd279_28
theorem dd279_29 : decode cJ6_bitCount_0f7a4 29 = .ok (.ldc_w 267, 3) := by decide +kernel
theorem ww279_29 {d : Nat} {l0 : Option mw_V} {st : List mw_V} {σ : mw_S} {Q : Option mw_V → mw_S → Prop} : mw_WP d 279 29 [l0] st σ Q ↔ mw_WP d 279 32 [l0] (jI (252645135) :: st) σ Q := WP_ldc_w (v := 252645135) mq279 dd279_29 (by decide) (by decide)
theorem dd279_32 : decode cJ6_bitCount_0f7a4 32 = .ok (.iand, 1) := by decide +kernel
theorem ww279_32 {d : Nat} {l0 : Option mw_V} {x y : Int} {st : List mw_V} {σ : mw_S} {Q : Option mw_V → mw_S → Prop} : mw_WP d 279 32 [l0] (jI y :: jI x :: st) σ Q ↔ mw_WP d 279 33 [l0] (jI (zAnd x y) :: st) σ Q := WP_iand mq279 dd279_32
theorem dd279_33 : decode cJ6_bitCount_0f7a4 33 = .ok (.istore_n 0, 1) := by decide +kernel
theorem ww279_33 {d : Nat} {l0 : Option mw_V} {x : Int} {st : List mw_V} {σ : mw_S} {Q : Option mw_V → mw_S → Prop} : mw_WP d 279 33 [l0] (jI x :: st) σ Q ↔ mw_WP d 279 34 [some (jI x)] st σ Q := WP_istore_n mq279 dd279_33 (Nat.le_of_ble_eq_true rfl) rfl rfl
theorem dd279_34 : decode cJ6_bitCount_0f7a4 34 = .ok (.iload_n 0, 1) := by decide +kernel
theorem ww279_34 {d : Nat} {x : Int} {st : List mw_V} {σ : mw_S} {Q : Option mw_V → mw_S → Prop} : mw_WP d 279 34 [some (jI x)] st σ Q ↔ mw_WP d 279 35 [some (jI x)] (jI x :: st) σ Q := WP_iload_n mq279 dd279_34 rfl
theorem dd279_35 : decode cJ6_bitCount_0f7a4 35 = .ok (.iload_n 0, 1) := by decide +kernel
theorem ww279_35 {d : Nat} {x : Int} {st : List mw_V} {σ : mw_S} {Q : Option mw_V → mw_S → Prop} : mw_WP d 279 35 [some (jI x)] st σ Q ↔ mw_WP d 279 36 [some (jI x)] (jI x :: st) σ Q := WP_iload_n mq279 dd279_35 rfl
theorem dd279_36 : decode cJ6_bitCount_0f7a4 36 = .ok (.bipush 8, 2) := by decide +kernel
theorem ww279_36 {d : Nat} {l0 : Option mw_V} {st : List mw_V} {σ : mw_S} {Q : Option mw_V → mw_S → Prop} : mw_WP d 279 36 [l0] st σ Q ↔ mw_WP d 279 38 [l0] (jI (8) :: st) σ Q := WP_bipush mq279 dd279_36 (by decide)
theorem dd279_38 : decode cJ6_bitCount_0f7a4 38 = .ok (.iushr, 1) := by decide +kernel
theorem ww279_38 {d : Nat} {l0 : Option mw_V} {x y : Int} {st : List mw_V} {σ : mw_S} {Q : Option mw_V → mw_S → Prop} : mw_WP d 279 38 [l0] (jI y :: jI x :: st) σ Q ↔ mw_WP d 279 39 [l0] (jI (zUshr x y) :: st) σ Q := WP_iushr mq279 dd279_38
theorem dd279_39 : decode cJ6_bitCount_0f7a4 39 = .ok (.iadd, 1) := by decide +kernel
theorem ww279_39 {d : Nat} {l0 : Option mw_V} {x y : Int} {st : List mw_V} {σ : mw_S} {Q : Option mw_V → mw_S → Prop} : mw_WP d 279 39 [l0] (jI y :: jI x :: st) σ Q ↔ mw_WP d 279 40 [l0] (jI (w32 (x + y)) :: st) σ Q := WP_iadd mq279 dd279_39
theorem dd279_40 : decode cJ6_bitCount_0f7a4 40 = .ok (.istore_n 0, 1) := by decide +kernel
theorem ww279_40 {d : Nat} {l0 : Option mw_V} {x : Int} {st : List mw_V} {σ : mw_S} {Q : Option mw_V → mw_S → Prop} : mw_WP d 279 40 [l0] (jI x :: st) σ Q ↔ mw_WP d 279 41 [some (jI x)] st σ Q := WP_istore_n mq279 dd279_40 (Nat.le_of_ble_eq_true rfl) rfl rfl
theorem dd279_41 : decode cJ6_bitCount_0f7a4 41 = .ok (.iload_n 0, 1) := by decide +kernel
theorem ww279_41 {d : Nat} {x : Int} {st : List mw_V} {σ : mw_S} {Q : Option mw_V → mw_S → Prop} : mw_WP d 279 41 [some (jI x)] st σ Q ↔ mw_WP d 279 42 [some (jI x)] (jI x :: st) σ Q := WP_iload_n mq279 dd279_41 rfl
theorem dd279_42 : decode cJ6_bitCount_0f7a4 42 = .ok (.iload_n 0, 1) := by decide +kernel
theorem ww279_42 {d : Nat} {x : Int} {st : List mw_V} {σ : mw_S} {Q : Option mw_V → mw_S → Prop} : mw_WP d 279 42 [some (jI x)] st σ Q ↔ mw_WP d 279 43 [some (jI x)] (jI x :: st) σ Q := WP_iload_n mq279 dd279_42 rfl
theorem dd279_43 : decode cJ6_bitCount_0f7a4 43 = .ok (.bipush 16, 2) := by decide +kernel
theorem ww279_43 {d : Nat} {l0 : Option mw_V} {st : List mw_V} {σ : mw_S} {Q : Option mw_V → mw_S → Prop} : mw_WP d 279 43 [l0] st σ Q ↔ mw_WP d 279 45 [l0] (jI (16) :: st) σ Q := WP_bipush mq279 dd279_43 (by decide)
theorem dd279_45 : decode cJ6_bitCount_0f7a4 45 = .ok (.iushr, 1) := by decide +kernel
theorem ww279_45 {d : Nat} {l0 : Option mw_V} {x y : Int} {st : List mw_V} {σ : mw_S} {Q : Option mw_V → mw_S → Prop} : mw_WP d 279 45 [l0] (jI y :: jI x :: st) σ Q ↔ mw_WP d 279 46 [l0] (jI (zUshr x y) :: st) σ Q := WP_iushr mq279 dd279_45
theorem dd279_46 : decode cJ6_bitCount_0f7a4 46 = .ok (.iadd, 1) := by decide +kernel
theorem ww279_46 {d : Nat} {l0 : Option mw_V} {x y : Int} {st : List mw_V} {σ : mw_S} {Q : Option mw_V → mw_S → Prop} : mw_WP d 279 46 [l0] (jI y :: jI x :: st) σ Q ↔ mw_WP d 279 47 [l0] (jI (w32 (x + y)) :: st) σ Q := WP_iadd mq279 dd279_46
theorem dd279_47 : decode cJ6_bitCount_0f7a4 47 = .ok (.istore_n 0, 1) := by decide +kernel
theorem ww279_47 {d : Nat} {l0 : Option mw_V} {x : Int} {st : List mw_V} {σ : mw_S} {Q : Option mw_V → mw_S → Prop} : mw_WP d 279 47 [l0] (jI x :: st) σ Q ↔ mw_WP d 279 48 [some (jI x)] st σ Q := WP_istore_n mq279 dd279_47 (Nat.le_of_ble_eq_true rfl) rfl rfl
theorem dd279_48 : decode cJ6_bitCount_0f7a4 48 = .ok (.iload_n 0, 1) := by decide +kernel
theorem ww279_48 {d : Nat} {x : Int} {st : List mw_V} {σ : mw_S} {Q : Option mw_V → mw_S → Prop} : mw_WP d 279 48 [some (jI x)] st σ Q ↔ mw_WP d 279 49 [some (jI x)] (jI x :: st) σ Q := WP_iload_n mq279 dd279_48 rfl
theorem dd279_49 : decode cJ6_bitCount_0f7a4 49 = .ok (.bipush 63, 2) := by decide +kernel
theorem ww279_49 {d : Nat} {l0 : Option mw_V} {st : List mw_V} {σ : mw_S} {Q : Option mw_V → mw_S → Prop} : mw_WP d 279 49 [l0] st σ Q ↔ mw_WP d 279 51 [l0] (jI (63) :: st) σ Q := WP_bipush mq279 dd279_49 (by decide)
theorem dd279_51 : decode cJ6_bitCount_0f7a4 51 = .ok (.iand, 1) := by decide +kernel
theorem ww279_51 {d : Nat} {l0 : Option mw_V} {x y : Int} {st : List mw_V} {σ : mw_S} {Q : Option mw_V → mw_S → Prop} : mw_WP d 279 51 [l0] (jI y :: jI x :: st) σ Q ↔ mw_WP d 279 52 [l0] (jI (zAnd x y) :: st) σ Q := WP_iand mq279 dd279_51
theorem dd279_52 : decode cJ6_bitCount_0f7a4 52 = .ok (.ireturn, 1) := by decide +kernel
theorem ww279_52 {d : Nat} {l0 : Option mw_V} {z : Int} {σ : mw_S} {Q : Option mw_V → mw_S → Prop} : mw_WP d 279 52 [l0] [jI z] σ Q ↔ Q (some (jI z)) σ := WP_ireturn (ty := .int) mq279 dd279_52 rfl rfl
theorem ee280 {d : Nat} {z0 : Int} {σ : mw_S} {Q : Option mw_V → mw_S → Prop} : mw_Call (d + 1) 280 [jL z0] σ Q ↔ mw_WP d 280 0 [some (jL z0), none] [] σ Q := CL_u mq280 (Nat.le_of_ble_eq_true rfl) rfl
theorem dd280_0 : decode cJ13_bitCount_95d88 0 = .ok (.lload_n 0, 1) := by decide +kernel
theorem ww280_0 {d : Nat} {l1 : Option mw_V} {x : Int} {st : List mw_V} {σ : mw_S} {Q : Option mw_V → mw_S → Prop} : mw_WP d 280 0 [some (jL x), l1] st σ Q ↔ mw_WP d 280 1 [some (jL x), l1] (jL x :: st) σ Q := WP_lload_n mq280 dd280_0 rfl
theorem dd280_1 : decode cJ13_bitCount_95d88 1 = .ok (.lload_n 0, 1) := by decide +kernel
theorem ww280_1 {d : Nat} {l1 : Option mw_V} {x : Int} {st : List mw_V} {σ : mw_S} {Q : Option mw_V → mw_S → Prop} : mw_WP d 280 1 [some (jL x), l1] st σ Q ↔ mw_WP d 280 2 [some (jL x), l1] (jL x :: st) σ Q := WP_lload_n mq280 dd280_1 rfl
theorem dd280_2 : decode cJ13_bitCount_95d88 2 = .ok (.iconst 1, 1) := by decide +kernel
theorem ww280_2 {d : Nat} {l0 l1 : Option mw_V} {st : List mw_V} {σ : mw_S} {Q : Option mw_V → mw_S → Prop} : mw_WP d 280 2 [l0, l1] st σ Q ↔ mw_WP d 280 3 [l0, l1] (jI (1) :: st) σ Q := WP_iconst mq280 dd280_2 (by decide)
theorem dd280_3 : decode cJ13_bitCount_95d88 3 = .ok (.lushr, 1) := by decide +kernel
theorem ww280_3 {d : Nat} {l0 l1 : Option mw_V} {x y : Int} {st : List mw_V} {σ : mw_S} {Q : Option mw_V → mw_S → Prop} : mw_WP d 280 3 [l0, l1] (jI y :: jL x :: st) σ Q ↔ mw_WP d 280 4 [l0, l1] (jL (yUshr x y) :: st) σ Q := WP_lushr mq280 dd280_3
theorem dd280_4 : decode cJ13_bitCount_95d88 4 = .ok (.ldc2_w 314, 3) := by decide +kernel
theorem ww280_4 {d : Nat} {l0 l1 : Option mw_V} {st : List mw_V} {σ : mw_S} {Q : Option mw_V → mw_S → Prop} : mw_WP d 280 4 [l0, l1] st σ Q ↔ mw_WP d 280 7 [l0, l1] (jL (6148914691236517205) :: st) σ Q := WP_ldc2_w (v := 6148914691236517205) mq280 dd280_4 (by decide) (by decide)
theorem dd280_7 : decode cJ13_bitCount_95d88 7 = .ok (.land, 1) := by decide +kernel
theorem ww280_7 {d : Nat} {l0 l1 : Option mw_V} {x y : Int} {st : List mw_V} {σ : mw_S} {Q : Option mw_V → mw_S → Prop} : mw_WP d 280 7 [l0, l1] (jL y :: jL x :: st) σ Q ↔ mw_WP d 280 8 [l0, l1] (jL (yAnd x y) :: st) σ Q := WP_land mq280 dd280_7
theorem dd280_8 : decode cJ13_bitCount_95d88 8 = .ok (.lsub, 1) := by decide +kernel
theorem ww280_8 {d : Nat} {l0 l1 : Option mw_V} {x y : Int} {st : List mw_V} {σ : mw_S} {Q : Option mw_V → mw_S → Prop} : mw_WP d 280 8 [l0, l1] (jL y :: jL x :: st) σ Q ↔ mw_WP d 280 9 [l0, l1] (jL (w64 (x - y)) :: st) σ Q := WP_lsub mq280 dd280_8
theorem dd280_9 : decode cJ13_bitCount_95d88 9 = .ok (.lstore_n 0, 1) := by decide +kernel
theorem ww280_9 {d : Nat} {l0 l1 : Option mw_V} {x : Int} {st : List mw_V} {σ : mw_S} {Q : Option mw_V → mw_S → Prop} : mw_WP d 280 9 [l0, l1] (jL x :: st) σ Q ↔ mw_WP d 280 10 [some (jL x), none] st σ Q := WP_lstore_n mq280 dd280_9 (Nat.le_of_ble_eq_true rfl) rfl rfl
theorem dd280_10 : decode cJ13_bitCount_95d88 10 = .ok (.lload_n 0, 1) := by decide +kernel
theorem ww280_10 {d : Nat} {l1 : Option mw_V} {x : Int} {st : List mw_V} {σ : mw_S} {Q : Option mw_V → mw_S → Prop} : mw_WP d 280 10 [some (jL x), l1] st σ Q ↔ mw_WP d 280 11 [some (jL x), l1] (jL x :: st) σ Q := WP_lload_n mq280 dd280_10 rfl
theorem dd280_11 : decode cJ13_bitCount_95d88 11 = .ok (.ldc2_w 316, 3) := by decide +kernel
theorem ww280_11 {d : Nat} {l0 l1 : Option mw_V} {st : List mw_V} {σ : mw_S} {Q : Option mw_V → mw_S → Prop} : mw_WP d 280 11 [l0, l1] st σ Q ↔ mw_WP d 280 14 [l0, l1] (jL (3689348814741910323) :: st) σ Q := WP_ldc2_w (v := 3689348814741910323) mq280 dd280_11 (by decide) (by decide)
theorem dd280_14 : decode cJ13_bitCount_95d88 14 = .ok (.land, 1) := by decide +kernel
theorem ww280_14 {d : Nat} {l0 l1 : Option mw_V} {x y : Int} {st : List mw_V} {σ : mw_S} {Q : Option mw_V → mw_S → Prop} : mw_WP d 280 14 [l0, l1] (jL y :: jL x :: st) σ Q ↔ mw_WP d 280 15 [l0, l1] (jL (yAnd x y) :: st) σ Q := WP_land mq280 dd280_14
theorem dd280_15 : decode cJ13_bitCount_95d88 15 = .ok (.lload_n 0, 1) := by decide +kernel
theorem ww280_15 {d : Nat} {l1 : Option mw_V} {x : Int} {st : List mw_V} {σ : mw_S} {Q : Option mw_V → mw_S → Prop} : mw_WP d 280 15 [some (jL x), l1] st σ Q ↔ mw_WP d 280 16 [some (jL x), l1] (jL x :: st) σ Q := WP_lload_n mq280 dd280_15 rfl
theorem dd280_16 : decode cJ13_bitCount_95d88 16 = .ok (.iconst 2, 1) := by decide +kernel
theorem ww280_16 {d : Nat} {l0 l1 : Option mw_V} {st : List mw_V} {σ : mw_S} {Q : Option mw_V → mw_S → Prop} : mw_WP d 280 16 [l0, l1] st σ Q ↔ mw_WP d 280 17 [l0, l1] (jI (2) :: st) σ Q := WP_iconst mq280 dd280_16 (by decide)
theorem dd280_17 : decode cJ13_bitCount_95d88 17 = .ok (.lushr, 1) := by decide +kernel
theorem ww280_17 {d : Nat} {l0 l1 : Option mw_V} {x y : Int} {st : List mw_V} {σ : mw_S} {Q : Option mw_V → mw_S → Prop} : mw_WP d 280 17 [l0, l1] (jI y :: jL x :: st) σ Q ↔ mw_WP d 280 18 [l0, l1] (jL (yUshr x y) :: st) σ Q := WP_lushr mq280 dd280_17
theorem dd280_18 : decode cJ13_bitCount_95d88 18 = .ok (.ldc2_w 316, 3) := by decide +kernel
theorem ww280_18 {d : Nat} {l0 l1 : Option mw_V} {st : List mw_V} {σ : mw_S} {Q : Option mw_V → mw_S → Prop} : mw_WP d 280 18 [l0, l1] st σ Q ↔ mw_WP d 280 21 [l0, l1] (jL (3689348814741910323) :: st) σ Q := WP_ldc2_w (v := 3689348814741910323) mq280 dd280_18 (by decide) (by decide)
theorem dd280_21 : decode cJ13_bitCount_95d88 21 = .ok (.land, 1) := by decide +kernel
theorem ww280_21 {d : Nat} {l0 l1 : Option mw_V} {x y : Int} {st : List mw_V} {σ : mw_S} {Q : Option mw_V → mw_S → Prop} : mw_WP d 280 21 [l0, l1] (jL y :: jL x :: st) σ Q ↔ mw_WP d 280 22 [l0, l1] (jL (yAnd x y) :: st) σ Q := WP_land mq280 dd280_21
theorem dd280_22 : decode cJ13_bitCount_95d88 22 = .ok (.ladd, 1) := by decide +kernel
theorem ww280_22 {d : Nat} {l0 l1 : Option mw_V} {x y : Int} {st : List mw_V} {σ : mw_S} {Q : Option mw_V → mw_S → Prop} : mw_WP d 280 22 [l0, l1] (jL y :: jL x :: st) σ Q ↔ mw_WP d 280 23 [l0, l1] (jL (w64 (x + y)) :: st) σ Q := WP_ladd mq280 dd280_22
theorem dd280_23 : decode cJ13_bitCount_95d88 23 = .ok (.lstore_n 0, 1) := by decide +kernel
theorem ww280_23 {d : Nat} {l0 l1 : Option mw_V} {x : Int} {st : List mw_V} {σ : mw_S} {Q : Option mw_V → mw_S → Prop} : mw_WP d 280 23 [l0, l1] (jL x :: st) σ Q ↔ mw_WP d 280 24 [some (jL x), none] st σ Q := WP_lstore_n mq280 dd280_23 (Nat.le_of_ble_eq_true rfl) rfl rfl
theorem dd280_24 : decode cJ13_bitCount_95d88 24 = .ok (.lload_n 0, 1) := by decide +kernel
theorem ww280_24 {d : Nat} {l1 : Option mw_V} {x : Int} {st : List mw_V} {σ : mw_S} {Q : Option mw_V → mw_S → Prop} : mw_WP d 280 24 [some (jL x), l1] st σ Q ↔ mw_WP d 280 25 [some (jL x), l1] (jL x :: st) σ Q := WP_lload_n mq280 dd280_24 rfl
theorem dd280_25 : decode cJ13_bitCount_95d88 25 = .ok (.lload_n 0, 1) := by decide +kernel
theorem ww280_25 {d : Nat} {l1 : Option mw_V} {x : Int} {st : List mw_V} {σ : mw_S} {Q : Option mw_V → mw_S → Prop} : mw_WP d 280 25 [some (jL x), l1] st σ Q ↔ mw_WP d 280 26 [some (jL x), l1] (jL x :: st) σ Q := WP_lload_n mq280 dd280_25 rfl
theorem dd280_26 : decode cJ13_bitCount_95d88 26 = .ok (.iconst 4, 1) := by decide +kernel
theorem ww280_26 {d : Nat} {l0 l1 : Option mw_V} {st : List mw_V} {σ : mw_S} {Q : Option mw_V → mw_S → Prop} : mw_WP d 280 26 [l0, l1] st σ Q ↔ mw_WP d 280 27 [l0, l1] (jI (4) :: st) σ Q := WP_iconst mq280 dd280_26 (by decide)
theorem dd280_27 : decode cJ13_bitCount_95d88 27 = .ok (.lushr, 1) := by decide +kernel
theorem ww280_27 {d : Nat} {l0 l1 : Option mw_V} {x y : Int} {st : List mw_V} {σ : mw_S} {Q : Option mw_V → mw_S → Prop} : mw_WP d 280 27 [l0, l1] (jI y :: jL x :: st) σ Q ↔ mw_WP d 280 28 [l0, l1] (jL (yUshr x y) :: st) σ Q := WP_lushr mq280 dd280_27
theorem dd280_28 : decode cJ13_bitCount_95d88 28 = .ok (.ladd, 1) := by decide +kernel
theorem ww280_28 {d : Nat} {l0 l1 : Option mw_V} {x y : Int} {st : List mw_V} {σ : mw_S} {Q : Option mw_V → mw_S → Prop} : mw_WP d 280 28 [l0, l1] (jL y :: jL x :: st) σ Q ↔ mw_WP d 280 29 [l0, l1] (jL (w64 (x + y)) :: st) σ Q := WP_ladd mq280 dd280_28
theorem dd280_29 : decode cJ13_bitCount_95d88 29 = .ok (.ldc2_w 318, 3) := by decide +kernel
theorem ww280_29 {d : Nat} {l0 l1 : Option mw_V} {st : List mw_V} {σ : mw_S} {Q : Option mw_V → mw_S → Prop} : mw_WP d 280 29 [l0, l1] st σ Q ↔ mw_WP d 280 32 [l0, l1] (jL (1085102592571150095) :: st) σ Q := WP_ldc2_w (v := 1085102592571150095) mq280 dd280_29 (by decide) (by decide)
theorem dd280_32 : decode cJ13_bitCount_95d88 32 = .ok (.land, 1) := by decide +kernel
theorem ww280_32 {d : Nat} {l0 l1 : Option mw_V} {x y : Int} {st : List mw_V} {σ : mw_S} {Q : Option mw_V → mw_S → Prop} : mw_WP d 280 32 [l0, l1] (jL y :: jL x :: st) σ Q ↔ mw_WP d 280 33 [l0, l1] (jL (yAnd x y) :: st) σ Q := WP_land mq280 dd280_32
theorem dd280_33 : decode cJ13_bitCount_95d88 33 = .ok (.lstore_n 0, 1) := by decide +kernel
theorem ww280_33 {d : Nat} {l0 l1 : Option mw_V} {x : Int} {st : List mw_V} {σ : mw_S} {Q : Option mw_V → mw_S → Prop} : mw_WP d 280 33 [l0, l1] (jL x :: st) σ Q ↔ mw_WP d 280 34 [some (jL x), none] st σ Q := WP_lstore_n mq280 dd280_33 (Nat.le_of_ble_eq_true rfl) rfl rfl
theorem dd280_34 : decode cJ13_bitCount_95d88 34 = .ok (.lload_n 0, 1) := by decide +kernel
theorem ww280_34 {d : Nat} {l1 : Option mw_V} {x : Int} {st : List mw_V} {σ : mw_S} {Q : Option mw_V → mw_S → Prop} : mw_WP d 280 34 [some (jL x), l1] st σ Q ↔ mw_WP d 280 35 [some (jL x), l1] (jL x :: st) σ Q := WP_lload_n mq280 dd280_34 rfl
theorem dd280_35 : decode cJ13_bitCount_95d88 35 = .ok (.lload_n 0, 1) := by decide +kernel
theorem ww280_35 {d : Nat} {l1 : Option mw_V} {x : Int} {st : List mw_V} {σ : mw_S} {Q : Option mw_V → mw_S → Prop} : mw_WP d 280 35 [some (jL x), l1] st σ Q ↔ mw_WP d 280 36 [some (jL x), l1] (jL x :: st) σ Q := WP_lload_n mq280 dd280_35 rfl
theorem dd280_36 : decode cJ13_bitCount_95d88 36 = .ok (.bipush 8, 2) := by decide +kernel
theorem ww280_36 {d : Nat} {l0 l1 : Option mw_V} {st : List mw_V} {σ : mw_S} {Q : Option mw_V → mw_S → Prop} : mw_WP d 280 36 [l0, l1] st σ Q ↔ mw_WP d 280 38 [l0, l1] (jI (8) :: st) σ Q := WP_bipush mq280 dd280_36 (by decide)
theorem dd280_38 : decode cJ13_bitCount_95d88 38 = .ok (.lushr, 1) := by decide +kernel
theorem ww280_38 {d : Nat} {l0 l1 : Option mw_V} {x y : Int} {st : List mw_V} {σ : mw_S} {Q : Option mw_V → mw_S → Prop} : mw_WP d 280 38 [l0, l1] (jI y :: jL x :: st) σ Q ↔ mw_WP d 280 39 [l0, l1] (jL (yUshr x y) :: st) σ Q := WP_lushr mq280 dd280_38
theorem dd280_39 : decode cJ13_bitCount_95d88 39 = .ok (.ladd, 1) := by decide +kernel
theorem ww280_39 {d : Nat} {l0 l1 : Option mw_V} {x y : Int} {st : List mw_V} {σ : mw_S} {Q : Option mw_V → mw_S → Prop} : mw_WP d 280 39 [l0, l1] (jL y :: jL x :: st) σ Q ↔ mw_WP d 280 40 [l0, l1] (jL (w64 (x + y)) :: st) σ Q := WP_ladd mq280 dd280_39
theorem dd280_40 : decode cJ13_bitCount_95d88 40 = .ok (.lstore_n 0, 1) := by decide +kernel
theorem ww280_40 {d : Nat} {l0 l1 : Option mw_V} {x : Int} {st : List mw_V} {σ : mw_S} {Q : Option mw_V → mw_S → Prop} : mw_WP d 280 40 [l0, l1] (jL x :: st) σ Q ↔ mw_WP d 280 41 [some (jL x), none] st σ Q := WP_lstore_n mq280 dd280_40 (Nat.le_of_ble_eq_true rfl) rfl rfl
theorem dd280_41 : decode cJ13_bitCount_95d88 41 = .ok (.lload_n 0, 1) := by decide +kernel
theorem ww280_41 {d : Nat} {l1 : Option mw_V} {x : Int} {st : List mw_V} {σ : mw_S} {Q : Option mw_V → mw_S → Prop} : mw_WP d 280 41 [some (jL x), l1] st σ Q ↔ mw_WP d 280 42 [some (jL x), l1] (jL x :: st) σ Q := WP_lload_n mq280 dd280_41 rfl
theorem dd280_42 : decode cJ13_bitCount_95d88 42 = .ok (.lload_n 0, 1) := by decide +kernel
theorem ww280_42 {d : Nat} {l1 : Option mw_V} {x : Int} {st : List mw_V} {σ : mw_S} {Q : Option mw_V → mw_S → Prop} : mw_WP d 280 42 [some (jL x), l1] st σ Q ↔ mw_WP d 280 43 [some (jL x), l1] (jL x :: st) σ Q := WP_lload_n mq280 dd280_42 rfl
theorem dd280_43 : decode cJ13_bitCount_95d88 43 = .ok (.bipush 16, 2) := by decide +kernel
theorem ww280_43 {d : Nat} {l0 l1 : Option mw_V} {st : List mw_V} {σ : mw_S} {Q : Option mw_V → mw_S → Prop} : mw_WP d 280 43 [l0, l1] st σ Q ↔ mw_WP d 280 45 [l0, l1] (jI (16) :: st) σ Q := WP_bipush mq280 dd280_43 (by decide)
theorem dd280_45 : decode cJ13_bitCount_95d88 45 = .ok (.lushr, 1) := by decide +kernel
theorem ww280_45 {d : Nat} {l0 l1 : Option mw_V} {x y : Int} {st : List mw_V} {σ : mw_S} {Q : Option mw_V → mw_S → Prop} : mw_WP d 280 45 [l0, l1] (jI y :: jL x :: st) σ Q ↔ mw_WP d 280 46 [l0, l1] (jL (yUshr x y) :: st) σ Q := WP_lushr mq280 dd280_45
theorem dd280_46 : decode cJ13_bitCount_95d88 46 = .ok (.ladd, 1) := by decide +kernel
theorem ww280_46 {d : Nat} {l0 l1 : Option mw_V} {x y : Int} {st : List mw_V} {σ : mw_S} {Q : Option mw_V → mw_S → Prop} : mw_WP d 280 46 [l0, l1] (jL y :: jL x :: st) σ Q ↔ mw_WP d 280 47 [l0, l1] (jL (w64 (x + y)) :: st) σ Q := WP_ladd mq280 dd280_46
theorem dd280_47 : decode cJ13_bitCount_95d88 47 = .ok (.lstore_n 0, 1) := by decide +kernel
theorem ww280_47 {d : Nat} {l0 l1 : Option mw_V} {x : Int} {st : List mw_V} {σ : mw_S} {Q : Option mw_V → mw_S → Prop} : mw_WP d 280 47 [l0, l1] (jL x :: st) σ Q ↔ mw_WP d 280 48 [some (jL x), none] st σ Q := WP_lstore_n mq280 dd280_47 (Nat.le_of_ble_eq_true rfl) rfl rfl
theorem dd280_48 : decode cJ13_bitCount_95d88 48 = .ok (.lload_n 0, 1) := by decide +kernel
theorem ww280_48 {d : Nat} {l1 : Option mw_V} {x : Int} {st : List mw_V} {σ : mw_S} {Q : Option mw_V → mw_S → Prop} : mw_WP d 280 48 [some (jL x), l1] st σ Q ↔ mw_WP d 280 49 [some (jL x), l1] (jL x :: st) σ Q := WP_lload_n mq280 dd280_48 rfl
theorem dd280_49 : decode cJ13_bitCount_95d88 49 = .ok (.lload_n 0, 1) := by decide +kernel
theorem ww280_49 {d : Nat} {l1 : Option mw_V} {x : Int} {st : List mw_V} {σ : mw_S} {Q : Option mw_V → mw_S → Prop} : mw_WP d 280 49 [some (jL x), l1] st σ Q ↔ mw_WP d 280 50 [some (jL x), l1] (jL x :: st) σ Q := WP_lload_n mq280 dd280_49 rfl
theorem dd280_50 : decode cJ13_bitCount_95d88 50 = .ok (.bipush 32, 2) := by decide +kernel
theorem ww280_50 {d : Nat} {l0 l1 : Option mw_V} {st : List mw_V} {σ : mw_S} {Q : Option mw_V → mw_S → Prop} : mw_WP d 280 50 [l0, l1] st σ Q ↔ mw_WP d 280 52 [l0, l1] (jI (32) :: st) σ Q := WP_bipush mq280 dd280_50 (by decide)
theorem dd280_52 : decode cJ13_bitCount_95d88 52 = .ok (.lushr, 1) := by decide +kernel
theorem ww280_52 {d : Nat} {l0 l1 : Option mw_V} {x y : Int} {st : List mw_V} {σ : mw_S} {Q : Option mw_V → mw_S → Prop} : mw_WP d 280 52 [l0, l1] (jI y :: jL x :: st) σ Q ↔ mw_WP d 280 53 [l0, l1] (jL (yUshr x y) :: st) σ Q := WP_lushr mq280 dd280_52
theorem dd280_53 : decode cJ13_bitCount_95d88 53 = .ok (.ladd, 1) := by decide +kernel
theorem ww280_53 {d : Nat} {l0 l1 : Option mw_V} {x y : Int} {st : List mw_V} {σ : mw_S} {Q : Option mw_V → mw_S → Prop} : mw_WP d 280 53 [l0, l1] (jL y :: jL x :: st) σ Q ↔ mw_WP d 280 54 [l0, l1] (jL (w64 (x + y)) :: st) σ Q := WP_ladd mq280 dd280_53
theorem dd280_54 : decode cJ13_bitCount_95d88 54 = .ok (.lstore_n 0, 1) := by decide +kernel
theorem ww280_54 {d : Nat} {l0 l1 : Option mw_V} {x : Int} {st : List mw_V} {σ : mw_S} {Q : Option mw_V → mw_S → Prop} : mw_WP d 280 54 [l0, l1] (jL x :: st) σ Q ↔ mw_WP d 280 55 [some (jL x), none] st σ Q := WP_lstore_n mq280 dd280_54 (Nat.le_of_ble_eq_true rfl) rfl rfl
theorem dd280_55 : decode cJ13_bitCount_95d88 55 = .ok (.lload_n 0, 1) := by decide +kernel
theorem ww280_55 {d : Nat} {l1 : Option mw_V} {x : Int} {st : List mw_V} {σ : mw_S} {Q : Option mw_V → mw_S → Prop} : mw_WP d 280 55 [some (jL x), l1] st σ Q ↔ mw_WP d 280 56 [some (jL x), l1] (jL x :: st) σ Q := WP_lload_n mq280 dd280_55 rfl
theorem dd280_56 : decode cJ13_bitCount_95d88 56 = .ok (.l2i, 1) := by decide +kernel
theorem ww280_56 {d : Nat} {l0 l1 : Option mw_V} {x : Int} {st : List mw_V} {σ : mw_S} {Q : Option mw_V → mw_S → Prop} : mw_WP d 280 56 [l0, l1] (jL x :: st) σ Q ↔ mw_WP d 280 57 [l0, l1] (jI (zI x) :: st) σ Q := WP_l2i mq280 dd280_56
theorem dd280_57 : decode cJ13_bitCount_95d88 57 = .ok (.bipush 127, 2) := by decide +kernel
theorem ww280_57 {d : Nat} {l0 l1 : Option mw_V} {st : List mw_V} {σ : mw_S} {Q : Option mw_V → mw_S → Prop} : mw_WP d 280 57 [l0, l1] st σ Q ↔ mw_WP d 280 59 [l0, l1] (jI (127) :: st) σ Q := WP_bipush mq280 dd280_57 (by decide)
theorem dd280_59 : decode cJ13_bitCount_95d88 59 = .ok (.iand, 1) := by decide +kernel
theorem ww280_59 {d : Nat} {l0 l1 : Option mw_V} {x y : Int} {st : List mw_V} {σ : mw_S} {Q : Option mw_V → mw_S → Prop} : mw_WP d 280 59 [l0, l1] (jI y :: jI x :: st) σ Q ↔ mw_WP d 280 60 [l0, l1] (jI (zAnd x y) :: st) σ Q := WP_iand mq280 dd280_59
theorem dd280_60 : decode cJ13_bitCount_95d88 60 = .ok (.ireturn, 1) := by decide +kernel
theorem ww280_60 {d : Nat} {l0 l1 : Option mw_V} {z : Int} {σ : mw_S} {Q : Option mw_V → mw_S → Prop} : mw_WP d 280 60 [l0, l1] [jI z] σ Q ↔ Q (some (jI z)) σ := WP_ireturn (ty := .int) mq280 dd280_60 rfl rfl
theorem ee281 {d : Nat} {z0 : Int} {z1 : Int} {σ : mw_S} {Q : Option mw_V → mw_S → Prop} : mw_Call (d + 1) 281 [jI z0, jI z1] σ Q ↔ mw_WP d 281 0 [some (jI z0), some (jI z1), none] [] σ Q := CL_u mq281 (Nat.le_of_ble_eq_true rfl) rfl
theorem dd281_0 : decode cJ9_floorMod_7cf53 0 = .ok (.iload_n 0, 1) := by decide +kernel
theorem ww281_0 {d : Nat} {l1 l2 : Option mw_V} {x : Int} {st : List mw_V} {σ : mw_S} {Q : Option mw_V → mw_S → Prop} : mw_WP d 281 0 [some (jI x), l1, l2] st σ Q ↔ mw_WP d 281 1 [some (jI x), l1, l2] (jI x :: st) σ Q := WP_iload_n mq281 dd281_0 rfl
theorem dd281_1 : decode cJ9_floorMod_7cf53 1 = .ok (.iload_n 1, 1) := by decide +kernel
theorem ww281_1 {d : Nat} {l0 l2 : Option mw_V} {x : Int} {st : List mw_V} {σ : mw_S} {Q : Option mw_V → mw_S → Prop} : mw_WP d 281 1 [l0, some (jI x), l2] st σ Q ↔ mw_WP d 281 2 [l0, some (jI x), l2] (jI x :: st) σ Q := WP_iload_n mq281 dd281_1 rfl
theorem dd281_2 : decode cJ9_floorMod_7cf53 2 = .ok (.irem, 1) := by decide +kernel
theorem ww281_2 {d : Nat} {l0 l1 l2 : Option mw_V} {x y : Int} {st : List mw_V} {σ : mw_S} {Q : Option mw_V → mw_S → Prop} : mw_WP d 281 2 [l0, l1, l2] (jI y :: jI x :: st) σ Q ↔ (¬ i32 y = 0 ∧ mw_WP d 281 3 [l0, l1, l2] (jI (zRem x y) :: st) σ Q) := WP_irem mq281 dd281_2
theorem dd281_3 : decode cJ9_floorMod_7cf53 3 = .ok (.istore_n 2, 1) := by decide +kernel
theorem ww281_3 {d : Nat} {l0 l1 l2 : Option mw_V} {x : Int} {st : List mw_V} {σ : mw_S} {Q : Option mw_V → mw_S → Prop} (h : mw_nlo l1 = true) : mw_WP d 281 3 [l0, l1, l2] (jI x :: st) σ Q ↔ mw_WP d 281 4 [l0, l1, some (jI x)] st σ Q := WP_istore_n mq281 dd281_3 (Nat.le_of_ble_eq_true rfl) (mw_nl_of (i := 1) rfl h) rfl
theorem dd281_4 : decode cJ9_floorMod_7cf53 4 = .ok (.iload_n 0, 1) := by decide +kernel
theorem ww281_4 {d : Nat} {l1 l2 : Option mw_V} {x : Int} {st : List mw_V} {σ : mw_S} {Q : Option mw_V → mw_S → Prop} : mw_WP d 281 4 [some (jI x), l1, l2] st σ Q ↔ mw_WP d 281 5 [some (jI x), l1, l2] (jI x :: st) σ Q := WP_iload_n mq281 dd281_4 rfl
theorem dd281_5 : decode cJ9_floorMod_7cf53 5 = .ok (.iload_n 1, 1) := by decide +kernel
theorem ww281_5 {d : Nat} {l0 l2 : Option mw_V} {x : Int} {st : List mw_V} {σ : mw_S} {Q : Option mw_V → mw_S → Prop} : mw_WP d 281 5 [l0, some (jI x), l2] st σ Q ↔ mw_WP d 281 6 [l0, some (jI x), l2] (jI x :: st) σ Q := WP_iload_n mq281 dd281_5 rfl
theorem dd281_6 : decode cJ9_floorMod_7cf53 6 = .ok (.ixor, 1) := by decide +kernel
theorem ww281_6 {d : Nat} {l0 l1 l2 : Option mw_V} {x y : Int} {st : List mw_V} {σ : mw_S} {Q : Option mw_V → mw_S → Prop} : mw_WP d 281 6 [l0, l1, l2] (jI y :: jI x :: st) σ Q ↔ mw_WP d 281 7 [l0, l1, l2] (jI (zXor x y) :: st) σ Q := WP_ixor mq281 dd281_6
theorem dd281_7 : decode cJ9_floorMod_7cf53 7 = .ok (.ifCond .ge 11, 3) := by decide +kernel
theorem ww281_7 {d : Nat} {l0 l1 l2 : Option mw_V} {x : Int} {st : List mw_V} {σ : mw_S} {Q : Option mw_V → mw_S → Prop} : mw_WP d 281 7 [l0, l1, l2] (jI x :: st) σ Q ↔ (if 0 ≤ x then mw_WP d 281 18 [l0, l1, l2] st σ Q else mw_WP d 281 10 [l0, l1, l2] st σ Q) := WP_if_ge mq281 dd281_7 (by decide)
theorem dd281_10 : decode cJ9_floorMod_7cf53 10 = .ok (.iload_n 2, 1) := by decide +kernel
theorem ww281_10 {d : Nat} {l0 l1 : Option mw_V} {x : Int} {st : List mw_V} {σ : mw_S} {Q : Option mw_V → mw_S → Prop} : mw_WP d 281 10 [l0, l1, some (jI x)] st σ Q ↔ mw_WP d 281 11 [l0, l1, some (jI x)] (jI x :: st) σ Q := WP_iload_n mq281 dd281_10 rfl
theorem dd281_11 : decode cJ9_floorMod_7cf53 11 = .ok (.ifCond .eq 7, 3) := by decide +kernel
theorem ww281_11 {d : Nat} {l0 l1 l2 : Option mw_V} {x : Int} {st : List mw_V} {σ : mw_S} {Q : Option mw_V → mw_S → Prop} : mw_WP d 281 11 [l0, l1, l2] (jI x :: st) σ Q ↔ (if x = 0 then mw_WP d 281 18 [l0, l1, l2] st σ Q else mw_WP d 281 14 [l0, l1, l2] st σ Q) := WP_if_eq mq281 dd281_11 (by decide)
theorem dd281_14 : decode cJ9_floorMod_7cf53 14 = .ok (.iload_n 2, 1) := by decide +kernel
theorem ww281_14 {d : Nat} {l0 l1 : Option mw_V} {x : Int} {st : List mw_V} {σ : mw_S} {Q : Option mw_V → mw_S → Prop} : mw_WP d 281 14 [l0, l1, some (jI x)] st σ Q ↔ mw_WP d 281 15 [l0, l1, some (jI x)] (jI x :: st) σ Q := WP_iload_n mq281 dd281_14 rfl
theorem dd281_15 : decode cJ9_floorMod_7cf53 15 = .ok (.iload_n 1, 1) := by decide +kernel
theorem ww281_15 {d : Nat} {l0 l2 : Option mw_V} {x : Int} {st : List mw_V} {σ : mw_S} {Q : Option mw_V → mw_S → Prop} : mw_WP d 281 15 [l0, some (jI x), l2] st σ Q ↔ mw_WP d 281 16 [l0, some (jI x), l2] (jI x :: st) σ Q := WP_iload_n mq281 dd281_15 rfl
theorem dd281_16 : decode cJ9_floorMod_7cf53 16 = .ok (.iadd, 1) := by decide +kernel
theorem ww281_16 {d : Nat} {l0 l1 l2 : Option mw_V} {x y : Int} {st : List mw_V} {σ : mw_S} {Q : Option mw_V → mw_S → Prop} : mw_WP d 281 16 [l0, l1, l2] (jI y :: jI x :: st) σ Q ↔ mw_WP d 281 17 [l0, l1, l2] (jI (w32 (x + y)) :: st) σ Q := WP_iadd mq281 dd281_16
theorem dd281_17 : decode cJ9_floorMod_7cf53 17 = .ok (.ireturn, 1) := by decide +kernel
theorem ww281_17 {d : Nat} {l0 l1 l2 : Option mw_V} {z : Int} {σ : mw_S} {Q : Option mw_V → mw_S → Prop} : mw_WP d 281 17 [l0, l1, l2] [jI z] σ Q ↔ Q (some (jI z)) σ := WP_ireturn (ty := .int) mq281 dd281_17 rfl rfl
theorem dd281_18 : decode cJ9_floorMod_7cf53 18 = .ok (.iload_n 2, 1) := by decide +kernel
theorem ww281_18 {d : Nat} {l0 l1 : Option mw_V} {x : Int} {st : List mw_V} {σ : mw_S} {Q : Option mw_V → mw_S → Prop} : mw_WP d 281 18 [l0, l1, some (jI x)] st σ Q ↔ mw_WP d 281 19 [l0, l1, some (jI x)] (jI x :: st) σ Q := WP_iload_n mq281 dd281_18 rfl
theorem dd281_19 : decode cJ9_floorMod_7cf53 19 = .ok (.ireturn, 1) := by decide +kernel
theorem ww281_19 {d : Nat} {l0 l1 l2 : Option mw_V} {z : Int} {σ : mw_S} {Q : Option mw_V → mw_S → Prop} : mw_WP d 281 19 [l0, l1, l2] [jI z] σ Q ↔ Q (some (jI z)) σ := WP_ireturn (ty := .int) mq281 dd281_19 rfl rfl
theorem ee282 {d : Nat} {z0 : Int} {z1 : Int} {σ : mw_S} {Q : Option mw_V → mw_S → Prop} : mw_Call (d + 1) 282 [jI z0, jI z1] σ Q ↔ mw_WP d 282 0 [some (jI z0), some (jI z1)] [] σ Q := CL_u mq282 (Nat.le_of_ble_eq_true rfl) rfl
theorem dd282_0 : decode cJ9_max_7cf53 0 = .ok (.iload_n 0, 1) := by decide +kernel
theorem ww282_0 {d : Nat} {l1 : Option mw_V} {x : Int} {st : List mw_V} {σ : mw_S} {Q : Option mw_V → mw_S → Prop} : mw_WP d 282 0 [some (jI x), l1] st σ Q ↔ mw_WP d 282 1 [some (jI x), l1] (jI x :: st) σ Q := WP_iload_n mq282 dd282_0 rfl
theorem dd282_1 : decode cJ9_max_7cf53 1 = .ok (.iload_n 1, 1) := by decide +kernel
theorem ww282_1 {d : Nat} {l0 : Option mw_V} {x : Int} {st : List mw_V} {σ : mw_S} {Q : Option mw_V → mw_S → Prop} : mw_WP d 282 1 [l0, some (jI x)] st σ Q ↔ mw_WP d 282 2 [l0, some (jI x)] (jI x :: st) σ Q := WP_iload_n mq282 dd282_1 rfl
theorem dd282_2 : decode cJ9_max_7cf53 2 = .ok (.if_icmp .lt 7, 3) := by decide +kernel
theorem ww282_2 {d : Nat} {l0 l1 : Option mw_V} {x y : Int} {st : List mw_V} {σ : mw_S} {Q : Option mw_V → mw_S → Prop} : mw_WP d 282 2 [l0, l1] (jI y :: jI x :: st) σ Q ↔ (if x < y then mw_WP d 282 9 [l0, l1] st σ Q else mw_WP d 282 5 [l0, l1] st σ Q) := WP_icmp_lt mq282 dd282_2 (by decide)
theorem dd282_5 : decode cJ9_max_7cf53 5 = .ok (.iload_n 0, 1) := by decide +kernel
theorem ww282_5 {d : Nat} {l1 : Option mw_V} {x : Int} {st : List mw_V} {σ : mw_S} {Q : Option mw_V → mw_S → Prop} : mw_WP d 282 5 [some (jI x), l1] st σ Q ↔ mw_WP d 282 6 [some (jI x), l1] (jI x :: st) σ Q := WP_iload_n mq282 dd282_5 rfl
theorem dd282_6 : decode cJ9_max_7cf53 6 = .ok (.goto 4, 3) := by decide +kernel
theorem ww282_6 {d : Nat} {l0 l1 : Option mw_V} {st : List mw_V} {σ : mw_S} {Q : Option mw_V → mw_S → Prop} : mw_WP d 282 6 [l0, l1] st σ Q ↔ mw_WP d 282 10 [l0, l1] st σ Q := WP_goto mq282 dd282_6 (by decide)
theorem dd282_9 : decode cJ9_max_7cf53 9 = .ok (.iload_n 1, 1) := by decide +kernel
theorem ww282_9 {d : Nat} {l0 : Option mw_V} {x : Int} {st : List mw_V} {σ : mw_S} {Q : Option mw_V → mw_S → Prop} : mw_WP d 282 9 [l0, some (jI x)] st σ Q ↔ mw_WP d 282 10 [l0, some (jI x)] (jI x :: st) σ Q := WP_iload_n mq282 dd282_9 rfl
theorem dd282_10 : decode cJ9_max_7cf53 10 = .ok (.ireturn, 1) := by decide +kernel
theorem ww282_10 {d : Nat} {l0 l1 : Option mw_V} {z : Int} {σ : mw_S} {Q : Option mw_V → mw_S → Prop} : mw_WP d 282 10 [l0, l1] [jI z] σ Q ↔ Q (some (jI z)) σ := WP_ireturn (ty := .int) mq282 dd282_10 rfl rfl
theorem ee283 {d : Nat} {z0 : Int} {z1 : Int} {σ : mw_S} {Q : Option mw_V → mw_S → Prop} : mw_Call (d + 1) 283 [jI z0, jI z1] σ Q ↔ mw_WP d 283 0 [some (jI z0), some (jI z1)] [] σ Q := CL_u mq283 (Nat.le_of_ble_eq_true rfl) rfl
theorem dd283_0 : decode cJ9_min_7cf53 0 = .ok (.iload_n 0, 1) := by decide +kernel
theorem ww283_0 {d : Nat} {l1 : Option mw_V} {x : Int} {st : List mw_V} {σ : mw_S} {Q : Option mw_V → mw_S → Prop} : mw_WP d 283 0 [some (jI x), l1] st σ Q ↔ mw_WP d 283 1 [some (jI x), l1] (jI x :: st) σ Q := WP_iload_n mq283 dd283_0 rfl
theorem dd283_1 : decode cJ9_min_7cf53 1 = .ok (.iload_n 1, 1) := by decide +kernel
theorem ww283_1 {d : Nat} {l0 : Option mw_V} {x : Int} {st : List mw_V} {σ : mw_S} {Q : Option mw_V → mw_S → Prop} : mw_WP d 283 1 [l0, some (jI x)] st σ Q ↔ mw_WP d 283 2 [l0, some (jI x)] (jI x :: st) σ Q := WP_iload_n mq283 dd283_1 rfl
theorem dd283_2 : decode cJ9_min_7cf53 2 = .ok (.if_icmp .gt 7, 3) := by decide +kernel
theorem ww283_2 {d : Nat} {l0 l1 : Option mw_V} {x y : Int} {st : List mw_V} {σ : mw_S} {Q : Option mw_V → mw_S → Prop} : mw_WP d 283 2 [l0, l1] (jI y :: jI x :: st) σ Q ↔ (if y < x then mw_WP d 283 9 [l0, l1] st σ Q else mw_WP d 283 5 [l0, l1] st σ Q) := WP_icmp_gt mq283 dd283_2 (by decide)
theorem dd283_5 : decode cJ9_min_7cf53 5 = .ok (.iload_n 0, 1) := by decide +kernel
theorem ww283_5 {d : Nat} {l1 : Option mw_V} {x : Int} {st : List mw_V} {σ : mw_S} {Q : Option mw_V → mw_S → Prop} : mw_WP d 283 5 [some (jI x), l1] st σ Q ↔ mw_WP d 283 6 [some (jI x), l1] (jI x :: st) σ Q := WP_iload_n mq283 dd283_5 rfl
theorem dd283_6 : decode cJ9_min_7cf53 6 = .ok (.goto 4, 3) := by decide +kernel
theorem ww283_6 {d : Nat} {l0 l1 : Option mw_V} {st : List mw_V} {σ : mw_S} {Q : Option mw_V → mw_S → Prop} : mw_WP d 283 6 [l0, l1] st σ Q ↔ mw_WP d 283 10 [l0, l1] st σ Q := WP_goto mq283 dd283_6 (by decide)
theorem dd283_9 : decode cJ9_min_7cf53 9 = .ok (.iload_n 1, 1) := by decide +kernel
theorem ww283_9 {d : Nat} {l0 : Option mw_V} {x : Int} {st : List mw_V} {σ : mw_S} {Q : Option mw_V → mw_S → Prop} : mw_WP d 283 9 [l0, some (jI x)] st σ Q ↔ mw_WP d 283 10 [l0, some (jI x)] (jI x :: st) σ Q := WP_iload_n mq283 dd283_9 rfl
theorem dd283_10 : decode cJ9_min_7cf53 10 = .ok (.ireturn, 1) := by decide +kernel
theorem ww283_10 {d : Nat} {l0 l1 : Option mw_V} {z : Int} {σ : mw_S} {Q : Option mw_V → mw_S → Prop} : mw_WP d 283 10 [l0, l1] [jI z] σ Q ↔ Q (some (jI z)) σ := WP_ireturn (ty := .int) mq283 dd283_10 rfl rfl
theorem ee284 {d : Nat} {a : Nat} {σ : mw_S} {Q : Option mw_V → mw_S → Prop} : mw_Call (d + 1) 284 [jR a] σ Q ↔ mw_WP d 284 0 [some (jR a)] [] σ Q := CL_u mq284 (Nat.le_of_ble_eq_true rfl) rfl
theorem dd284_0 : decode cJ0_length_8abf5 0 = .ok (.aload_n 0, 1) := by decide +kernel
theorem ww284_0 {d : Nat} {x : Nat} {st : List mw_V} {σ : mw_S} {Q : Option mw_V → mw_S → Prop} : mw_WP d 284 0 [some (jR x)] st σ Q ↔ mw_WP d 284 1 [some (jR x)] (jR x :: st) σ Q := WP_aload_n mq284 dd284_0 rfl
theorem dd284_1 : decode cJ0_length_8abf5 1 = .ok (.getfield 9, 3) := by decide +kernel
theorem ww284_1 {d : Nat} {l0 : Option mw_V} {a : Nat} {st : List mw_V} {σ : mw_S} {Q : Option mw_V → mw_S → Prop} (h : 1000 ≤ a ∧ a < 1028) : mw_WP d 284 1 [l0] (jR a :: st) σ Q ↔ mw_WP d 284 4 [l0] (jR (a + 1000) :: st) σ Q := WP_getV mq284 dd284_1 (by decide) (by decide) h
theorem dd284_4 : decode cJ0_length_8abf5 4 = .ok (.arraylength, 1) := by decide +kernel
theorem ww284_4 {d : Nat} {l0 : Option mw_V} {a n : Nat} {st : List mw_V} {σ : mw_S} {Q : Option mw_V → mw_S → Prop} (h : mw_isT a = true) (h2 : mw_lenB a = n) : mw_WP d 284 4 [l0] (jR a :: st) σ Q ↔ mw_WP d 284 5 [l0] (jI n :: st) σ Q := WP_alenT mq284 dd284_4 h h2
theorem dd284_5 : decode cJ0_length_8abf5 5 = .ok (.aload_n 0, 1) := by decide +kernel
theorem ww284_5 {d : Nat} {x : Nat} {st : List mw_V} {σ : mw_S} {Q : Option mw_V → mw_S → Prop} : mw_WP d 284 5 [some (jR x)] st σ Q ↔ mw_WP d 284 6 [some (jR x)] (jR x :: st) σ Q := WP_aload_n mq284 dd284_5 rfl
theorem dd284_6 : decode cJ0_length_8abf5 6 = .ok (.invokevirtual 335, 3) := by decide +kernel
theorem ww284_6 {d : Nat} {l0 : Option mw_V} {a : Nat} {st : List mw_V} {σ : mw_S} {Q : Option mw_V → mw_S → Prop} (hr : mw_rc a = 50) (h8 : (st.map mw_cat).sum ≤ 8) : mw_WP d 284 6 [l0] (jR a :: st) σ Q ↔ mw_Call d 288 [jR a] σ (fun r1 s1 => mw_WP d 284 9 [l0] (r1.toList ++ st) s1 Q) := WP_inv (as := []) mq284 dd284_6 (by decide) mq288 rfl hr h8
theorem dd284_9 : decode cJ0_length_8abf5 9 = .ok (.ishr, 1) := by decide +kernel
theorem ww284_9 {d : Nat} {l0 : Option mw_V} {x y : Int} {st : List mw_V} {σ : mw_S} {Q : Option mw_V → mw_S → Prop} : mw_WP d 284 9 [l0] (jI y :: jI x :: st) σ Q ↔ mw_WP d 284 10 [l0] (jI (zShr x y) :: st) σ Q := WP_ishr mq284 dd284_9
theorem dd284_10 : decode cJ0_length_8abf5 10 = .ok (.ireturn, 1) := by decide +kernel
theorem ww284_10 {d : Nat} {l0 : Option mw_V} {z : Int} {σ : mw_S} {Q : Option mw_V → mw_S → Prop} : mw_WP d 284 10 [l0] [jI z] σ Q ↔ Q (some (jI z)) σ := WP_ireturn (ty := .int) mq284 dd284_10 rfl rfl
theorem ee285 {d : Nat} {a : Nat} {z0 : Int} {σ : mw_S} {Q : Option mw_V → mw_S → Prop} : mw_Call (d + 1) 285 [jR a, jI z0] σ Q ↔ mw_WP d 285 0 [some (jR a), some (jI z0)] [] σ Q := CL_u mq285 (Nat.le_of_ble_eq_true rfl) rfl
theorem dd285_0 : decode cJ0_charAt_5068e 0 = .ok (.aload_n 0, 1) := by decide +kernel
theorem ww285_0 {d : Nat} {l1 : Option mw_V} {x : Nat} {st : List mw_V} {σ : mw_S} {Q : Option mw_V → mw_S → Prop} : mw_WP d 285 0 [some (jR x), l1] st σ Q ↔ mw_WP d 285 1 [some (jR x), l1] (jR x :: st) σ Q := WP_aload_n mq285 dd285_0 rfl
theorem dd285_1 : decode cJ0_charAt_5068e 1 = .ok (.invokevirtual 492, 3) := by decide +kernel
theorem ww285_1 {d : Nat} {l0 l1 : Option mw_V} {a : Nat} {st : List mw_V} {σ : mw_S} {Q : Option mw_V → mw_S → Prop} (hr : mw_rc a = 50) (h8 : (st.map mw_cat).sum ≤ 8) : mw_WP d 285 1 [l0, l1] (jR a :: st) σ Q ↔ mw_Call d 289 [jR a] σ (fun r1 s1 => mw_WP d 285 4 [l0, l1] (r1.toList ++ st) s1 Q) := WP_inv (as := []) mq285 dd285_1 (by decide) mq289 rfl hr h8
theorem dd285_4 : decode cJ0_charAt_5068e 4 = .ok (.ifCond .eq 12, 3) := by decide +kernel
theorem ww285_4 {d : Nat} {l0 l1 : Option mw_V} {x : Int} {st : List mw_V} {σ : mw_S} {Q : Option mw_V → mw_S → Prop} : mw_WP d 285 4 [l0, l1] (jI x :: st) σ Q ↔ (if x = 0 then mw_WP d 285 16 [l0, l1] st σ Q else mw_WP d 285 7 [l0, l1] st σ Q) := WP_if_eq mq285 dd285_4 (by decide)
theorem dd285_7 : decode cJ0_charAt_5068e 7 = .ok (.aload_n 0, 1) := by decide +kernel
theorem ww285_7 {d : Nat} {l1 : Option mw_V} {x : Nat} {st : List mw_V} {σ : mw_S} {Q : Option mw_V → mw_S → Prop} : mw_WP d 285 7 [some (jR x), l1] st σ Q ↔ mw_WP d 285 8 [some (jR x), l1] (jR x :: st) σ Q := WP_aload_n mq285 dd285_7 rfl
theorem dd285_8 : decode cJ0_charAt_5068e 8 = .ok (.getfield 9, 3) := by decide +kernel
theorem ww285_8 {d : Nat} {l0 l1 : Option mw_V} {a : Nat} {st : List mw_V} {σ : mw_S} {Q : Option mw_V → mw_S → Prop} (h : 1000 ≤ a ∧ a < 1028) : mw_WP d 285 8 [l0, l1] (jR a :: st) σ Q ↔ mw_WP d 285 11 [l0, l1] (jR (a + 1000) :: st) σ Q := WP_getV mq285 dd285_8 (by decide) (by decide) h
theorem dd285_11 : decode cJ0_charAt_5068e 11 = .ok (.iload_n 1, 1) := by decide +kernel
theorem ww285_11 {d : Nat} {l0 : Option mw_V} {x : Int} {st : List mw_V} {σ : mw_S} {Q : Option mw_V → mw_S → Prop} : mw_WP d 285 11 [l0, some (jI x)] st σ Q ↔ mw_WP d 285 12 [l0, some (jI x)] (jI x :: st) σ Q := WP_iload_n mq285 dd285_11 rfl
theorem dd285_12 : decode cJ0_charAt_5068e 12 = .ok (.invokestatic 495, 3) := by decide +kernel
theorem ww285_12 {d : Nat} {l0 l1 : Option mw_V} {v0 v1 : mw_V} {st : List mw_V} {σ : mw_S} {Q : Option mw_V → mw_S → Prop} (h8 : (st.map mw_cat).sum ≤ 8) : mw_WP d 285 12 [l0, l1] (v1 :: v0 :: st) σ Q ↔ mw_Call d 291 [v0, v1] σ (fun r1 s1 => mw_WP d 285 15 [l0, l1] (r1.toList ++ st) s1 Q) := WP_invs (as := [v1, v0]) mq285 dd285_12 (by decide) mq291 rfl rfl h8
theorem dd285_15 : decode cJ0_charAt_5068e 15 = .ok (.ireturn, 1) := by decide +kernel
theorem ww285_15 {d : Nat} {l0 l1 : Option mw_V} {z : Int} {σ : mw_S} {Q : Option mw_V → mw_S → Prop} (h : narrow .char (.int (i32 z)) = .int (i32 z)) : mw_WP d 285 15 [l0, l1] [jI z] σ Q ↔ Q (some (jI z)) σ := WP_ireturn mq285 dd285_15 rfl h
theorem dd285_16 : decode cJ0_charAt_5068e 16 = .ok (.aload_n 0, 1) := by decide +kernel
theorem ww285_16 {d : Nat} {l1 : Option mw_V} {x : Nat} {st : List mw_V} {σ : mw_S} {Q : Option mw_V → mw_S → Prop} : mw_WP d 285 16 [some (jR x), l1] st σ Q ↔ mw_WP d 285 17 [some (jR x), l1] (jR x :: st) σ Q := WP_aload_n mq285 dd285_16 rfl
theorem dd285_17 : decode cJ0_charAt_5068e 17 = .ok (.getfield 9, 3) := by decide +kernel
theorem ww285_17 {d : Nat} {l0 l1 : Option mw_V} {a : Nat} {st : List mw_V} {σ : mw_S} {Q : Option mw_V → mw_S → Prop} (h : 1000 ≤ a ∧ a < 1028) : mw_WP d 285 17 [l0, l1] (jR a :: st) σ Q ↔ mw_WP d 285 20 [l0, l1] (jR (a + 1000) :: st) σ Q := WP_getV mq285 dd285_17 (by decide) (by decide) h
theorem dd285_20 : decode cJ0_charAt_5068e 20 = .ok (.iload_n 1, 1) := by decide +kernel
theorem ww285_20 {d : Nat} {l0 : Option mw_V} {x : Int} {st : List mw_V} {σ : mw_S} {Q : Option mw_V → mw_S → Prop} : mw_WP d 285 20 [l0, some (jI x)] st σ Q ↔ mw_WP d 285 21 [l0, some (jI x)] (jI x :: st) σ Q := WP_iload_n mq285 dd285_20 rfl
theorem dd285_21 : decode cJ0_charAt_5068e 21 = .ok (.invokestatic 498, 3) := by decide +kernel
-- charAt_5068e 21: a call that is never made (498)
theorem dd285_24 : decode cJ0_charAt_5068e 24 = .ok (.ireturn, 1) := by decide +kernel
theorem ww285_24 {d : Nat} {l0 l1 : Option mw_V} {z : Int} {σ : mw_S} {Q : Option mw_V → mw_S → Prop} (h : narrow .char (.int (i32 z)) = .int (i32 z)) : mw_WP d 285 24 [l0, l1] [jI z] σ Q ↔ Q (some (jI z)) σ := WP_ireturn mq285 dd285_24 rfl h
theorem ee286 {d : Nat} {a : Nat} {z0 : Int} {σ : mw_S} {Q : Option mw_V → mw_S → Prop} : mw_Call (d + 1) 286 [jR a, jI z0] σ Q ↔ mw_WP d 286 0 [some (jR a), some (jI z0)] [] σ Q := CL_u mq286 (Nat.le_of_ble_eq_true rfl) rfl
theorem dd286_0 : decode cJ0_indexOf_0f7a4 0 = .ok (.aload_n 0, 1) := by decide +kernel
theorem ww286_0 {d : Nat} {l1 : Option mw_V} {x : Nat} {st : List mw_V} {σ : mw_S} {Q : Option mw_V → mw_S → Prop} : mw_WP d 286 0 [some (jR x), l1] st σ Q ↔ mw_WP d 286 1 [some (jR x), l1] (jR x :: st) σ Q := WP_aload_n mq286 dd286_0 rfl
theorem dd286_1 : decode cJ0_indexOf_0f7a4 1 = .ok (.iload_n 1, 1) := by decide +kernel
theorem ww286_1 {d : Nat} {l0 : Option mw_V} {x : Int} {st : List mw_V} {σ : mw_S} {Q : Option mw_V → mw_S → Prop} : mw_WP d 286 1 [l0, some (jI x)] st σ Q ↔ mw_WP d 286 2 [l0, some (jI x)] (jI x :: st) σ Q := WP_iload_n mq286 dd286_1 rfl
theorem dd286_2 : decode cJ0_indexOf_0f7a4 2 = .ok (.iconst 0, 1) := by decide +kernel
theorem ww286_2 {d : Nat} {l0 l1 : Option mw_V} {st : List mw_V} {σ : mw_S} {Q : Option mw_V → mw_S → Prop} : mw_WP d 286 2 [l0, l1] st σ Q ↔ mw_WP d 286 3 [l0, l1] (jI (0) :: st) σ Q := WP_iconst mq286 dd286_2 (by decide)
theorem dd286_3 : decode cJ0_indexOf_0f7a4 3 = .ok (.invokevirtual 633, 3) := by decide +kernel
theorem ww286_3 {d : Nat} {l0 l1 : Option mw_V} {v0 v1 : mw_V} {a : Nat} {st : List mw_V} {σ : mw_S} {Q : Option mw_V → mw_S → Prop} (hr : mw_rc a = 50) (h8 : (st.map mw_cat).sum ≤ 8) : mw_WP d 286 3 [l0, l1] (v1 :: v0 :: jR a :: st) σ Q ↔ mw_Call d 287 [jR a, v0, v1] σ (fun r1 s1 => mw_WP d 286 6 [l0, l1] (r1.toList ++ st) s1 Q) := WP_inv (as := [v1, v0]) mq286 dd286_3 (by decide) mq287 rfl hr h8
theorem dd286_6 : decode cJ0_indexOf_0f7a4 6 = .ok (.ireturn, 1) := by decide +kernel
theorem ww286_6 {d : Nat} {l0 l1 : Option mw_V} {z : Int} {σ : mw_S} {Q : Option mw_V → mw_S → Prop} : mw_WP d 286 6 [l0, l1] [jI z] σ Q ↔ Q (some (jI z)) σ := WP_ireturn (ty := .int) mq286 dd286_6 rfl rfl
theorem ee287 {d : Nat} {a : Nat} {z0 : Int} {z1 : Int} {σ : mw_S} {Q : Option mw_V → mw_S → Prop} : mw_Call (d + 1) 287 [jR a, jI z0, jI z1] σ Q ↔ mw_WP d 287 0 [some (jR a), some (jI z0), some (jI z1)] [] σ Q := CL_u mq287 (Nat.le_of_ble_eq_true rfl) rfl
theorem dd287_0 : decode cJ0_indexOf_7cf53 0 = .ok (.aload_n 0, 1) := by decide +kernel
theorem ww287_0 {d : Nat} {l1 l2 : Option mw_V} {x : Nat} {st : List mw_V} {σ : mw_S} {Q : Option mw_V → mw_S → Prop} : mw_WP d 287 0 [some (jR x), l1, l2] st σ Q ↔ mw_WP d 287 1 [some (jR x), l1, l2] (jR x :: st) σ Q := WP_aload_n mq287 dd287_0 rfl
theorem dd287_1 : decode cJ0_indexOf_7cf53 1 = .ok (.invokevirtual 492, 3) := by decide +kernel
theorem ww287_1 {d : Nat} {l0 l1 l2 : Option mw_V} {a : Nat} {st : List mw_V} {σ : mw_S} {Q : Option mw_V → mw_S → Prop} (hr : mw_rc a = 50) (h8 : (st.map mw_cat).sum ≤ 8) : mw_WP d 287 1 [l0, l1, l2] (jR a :: st) σ Q ↔ mw_Call d 289 [jR a] σ (fun r1 s1 => mw_WP d 287 4 [l0, l1, l2] (r1.toList ++ st) s1 Q) := WP_inv (as := []) mq287 dd287_1 (by decide) mq289 rfl hr h8
theorem dd287_4 : decode cJ0_indexOf_7cf53 4 = .ok (.ifCond .eq 19, 3) := by decide +kernel
theorem ww287_4 {d : Nat} {l0 l1 l2 : Option mw_V} {x : Int} {st : List mw_V} {σ : mw_S} {Q : Option mw_V → mw_S → Prop} : mw_WP d 287 4 [l0, l1, l2] (jI x :: st) σ Q ↔ (if x = 0 then mw_WP d 287 23 [l0, l1, l2] st σ Q else mw_WP d 287 7 [l0, l1, l2] st σ Q) := WP_if_eq mq287 dd287_4 (by decide)
theorem dd287_7 : decode cJ0_indexOf_7cf53 7 = .ok (.aload_n 0, 1) := by decide +kernel
theorem ww287_7 {d : Nat} {l1 l2 : Option mw_V} {x : Nat} {st : List mw_V} {σ : mw_S} {Q : Option mw_V → mw_S → Prop} : mw_WP d 287 7 [some (jR x), l1, l2] st σ Q ↔ mw_WP d 287 8 [some (jR x), l1, l2] (jR x :: st) σ Q := WP_aload_n mq287 dd287_7 rfl
theorem dd287_8 : decode cJ0_indexOf_7cf53 8 = .ok (.getfield 9, 3) := by decide +kernel
theorem ww287_8 {d : Nat} {l0 l1 l2 : Option mw_V} {a : Nat} {st : List mw_V} {σ : mw_S} {Q : Option mw_V → mw_S → Prop} (h : 1000 ≤ a ∧ a < 1028) : mw_WP d 287 8 [l0, l1, l2] (jR a :: st) σ Q ↔ mw_WP d 287 11 [l0, l1, l2] (jR (a + 1000) :: st) σ Q := WP_getV mq287 dd287_8 (by decide) (by decide) h
theorem dd287_11 : decode cJ0_indexOf_7cf53 11 = .ok (.iload_n 1, 1) := by decide +kernel
theorem ww287_11 {d : Nat} {l0 l2 : Option mw_V} {x : Int} {st : List mw_V} {σ : mw_S} {Q : Option mw_V → mw_S → Prop} : mw_WP d 287 11 [l0, some (jI x), l2] st σ Q ↔ mw_WP d 287 12 [l0, some (jI x), l2] (jI x :: st) σ Q := WP_iload_n mq287 dd287_11 rfl
theorem dd287_12 : decode cJ0_indexOf_7cf53 12 = .ok (.iload_n 2, 1) := by decide +kernel
theorem ww287_12 {d : Nat} {l0 l1 : Option mw_V} {x : Int} {st : List mw_V} {σ : mw_S} {Q : Option mw_V → mw_S → Prop} : mw_WP d 287 12 [l0, l1, some (jI x)] st σ Q ↔ mw_WP d 287 13 [l0, l1, some (jI x)] (jI x :: st) σ Q := WP_iload_n mq287 dd287_12 rfl
theorem dd287_13 : decode cJ0_indexOf_7cf53 13 = .ok (.aload_n 0, 1) := by decide +kernel
theorem ww287_13 {d : Nat} {l1 l2 : Option mw_V} {x : Nat} {st : List mw_V} {σ : mw_S} {Q : Option mw_V → mw_S → Prop} : mw_WP d 287 13 [some (jR x), l1, l2] st σ Q ↔ mw_WP d 287 14 [some (jR x), l1, l2] (jR x :: st) σ Q := WP_aload_n mq287 dd287_13 rfl
theorem dd287_14 : decode cJ0_indexOf_7cf53 14 = .ok (.invokevirtual 505, 3) := by decide +kernel
theorem ww287_14 {d : Nat} {l0 l1 l2 : Option mw_V} {a : Nat} {st : List mw_V} {σ : mw_S} {Q : Option mw_V → mw_S → Prop} (hr : mw_rc a = 50) (h8 : (st.map mw_cat).sum ≤ 8) : mw_WP d 287 14 [l0, l1, l2] (jR a :: st) σ Q ↔ mw_Call d 284 [jR a] σ (fun r1 s1 => mw_WP d 287 17 [l0, l1, l2] (r1.toList ++ st) s1 Q) := WP_inv (as := []) mq287 dd287_14 (by decide) mq284 rfl hr h8
theorem dd287_17 : decode cJ0_indexOf_7cf53 17 = .ok (.invokestatic 637, 3) := by decide +kernel
theorem ww287_17 {d : Nat} {l0 l1 l2 : Option mw_V} {v0 v1 v2 v3 : mw_V} {st : List mw_V} {σ : mw_S} {Q : Option mw_V → mw_S → Prop} (h8 : (st.map mw_cat).sum ≤ 8) : mw_WP d 287 17 [l0, l1, l2] (v3 :: v2 :: v1 :: v0 :: st) σ Q ↔ mw_Call d 293 [v0, v1, v2, v3] σ (fun r1 s1 => mw_WP d 287 20 [l0, l1, l2] (r1.toList ++ st) s1 Q) := WP_invs (as := [v3, v2, v1, v0]) mq287 dd287_17 (by decide) mq293 rfl rfl h8
theorem dd287_20 : decode cJ0_indexOf_7cf53 20 = .ok (.goto 16, 3) := by decide +kernel
theorem ww287_20 {d : Nat} {l0 l1 l2 : Option mw_V} {st : List mw_V} {σ : mw_S} {Q : Option mw_V → mw_S → Prop} : mw_WP d 287 20 [l0, l1, l2] st σ Q ↔ mw_WP d 287 36 [l0, l1, l2] st σ Q := WP_goto mq287 dd287_20 (by decide)
theorem dd287_23 : decode cJ0_indexOf_7cf53 23 = .ok (.aload_n 0, 1) := by decide +kernel
theorem ww287_23 {d : Nat} {l1 l2 : Option mw_V} {x : Nat} {st : List mw_V} {σ : mw_S} {Q : Option mw_V → mw_S → Prop} : mw_WP d 287 23 [some (jR x), l1, l2] st σ Q ↔ mw_WP d 287 24 [some (jR x), l1, l2] (jR x :: st) σ Q := WP_aload_n mq287 dd287_23 rfl
theorem dd287_24 : decode cJ0_indexOf_7cf53 24 = .ok (.getfield 9, 3) := by decide +kernel
theorem ww287_24 {d : Nat} {l0 l1 l2 : Option mw_V} {a : Nat} {st : List mw_V} {σ : mw_S} {Q : Option mw_V → mw_S → Prop} (h : 1000 ≤ a ∧ a < 1028) : mw_WP d 287 24 [l0, l1, l2] (jR a :: st) σ Q ↔ mw_WP d 287 27 [l0, l1, l2] (jR (a + 1000) :: st) σ Q := WP_getV mq287 dd287_24 (by decide) (by decide) h
theorem dd287_27 : decode cJ0_indexOf_7cf53 27 = .ok (.iload_n 1, 1) := by decide +kernel
theorem ww287_27 {d : Nat} {l0 l2 : Option mw_V} {x : Int} {st : List mw_V} {σ : mw_S} {Q : Option mw_V → mw_S → Prop} : mw_WP d 287 27 [l0, some (jI x), l2] st σ Q ↔ mw_WP d 287 28 [l0, some (jI x), l2] (jI x :: st) σ Q := WP_iload_n mq287 dd287_27 rfl
theorem dd287_28 : decode cJ0_indexOf_7cf53 28 = .ok (.iload_n 2, 1) := by decide +kernel
theorem ww287_28 {d : Nat} {l0 l1 : Option mw_V} {x : Int} {st : List mw_V} {σ : mw_S} {Q : Option mw_V → mw_S → Prop} : mw_WP d 287 28 [l0, l1, some (jI x)] st σ Q ↔ mw_WP d 287 29 [l0, l1, some (jI x)] (jI x :: st) σ Q := WP_iload_n mq287 dd287_28 rfl
theorem dd287_29 : decode cJ0_indexOf_7cf53 29 = .ok (.aload_n 0, 1) := by decide +kernel
theorem ww287_29 {d : Nat} {l1 l2 : Option mw_V} {x : Nat} {st : List mw_V} {σ : mw_S} {Q : Option mw_V → mw_S → Prop} : mw_WP d 287 29 [some (jR x), l1, l2] st σ Q ↔ mw_WP d 287 30 [some (jR x), l1, l2] (jR x :: st) σ Q := WP_aload_n mq287 dd287_29 rfl
theorem dd287_30 : decode cJ0_indexOf_7cf53 30 = .ok (.invokevirtual 505, 3) := by decide +kernel
theorem ww287_30 {d : Nat} {l0 l1 l2 : Option mw_V} {a : Nat} {st : List mw_V} {σ : mw_S} {Q : Option mw_V → mw_S → Prop} (hr : mw_rc a = 50) (h8 : (st.map mw_cat).sum ≤ 8) : mw_WP d 287 30 [l0, l1, l2] (jR a :: st) σ Q ↔ mw_Call d 284 [jR a] σ (fun r1 s1 => mw_WP d 287 33 [l0, l1, l2] (r1.toList ++ st) s1 Q) := WP_inv (as := []) mq287 dd287_30 (by decide) mq284 rfl hr h8
theorem dd287_33 : decode cJ0_indexOf_7cf53 33 = .ok (.invokestatic 640, 3) := by decide +kernel
-- indexOf_7cf53 33: a call that is never made (640)
theorem dd287_36 : decode cJ0_indexOf_7cf53 36 = .ok (.ireturn, 1) := by decide +kernel
theorem ww287_36 {d : Nat} {l0 l1 l2 : Option mw_V} {z : Int} {σ : mw_S} {Q : Option mw_V → mw_S → Prop} : mw_WP d 287 36 [l0, l1, l2] [jI z] σ Q ↔ Q (some (jI z)) σ := WP_ireturn (ty := .int) mq287 dd287_36 rfl rfl
theorem ee288 {d : Nat} {a : Nat} {σ : mw_S} {Q : Option mw_V → mw_S → Prop} : mw_Call (d + 1) 288 [jR a] σ Q ↔ mw_WP d 288 0 [some (jR a)] [] σ Q := CL_u mq288 (Nat.le_of_ble_eq_true rfl) rfl
theorem dd288_0 : decode cJ0_coder_7d493 0 = .ok (.getstatic 38, 3) := by decide +kernel
theorem ww288_0 {d : Nat} {l0 : Option mw_V} {st : List mw_V} {σ : mw_S} {Q : Option mw_V → mw_S → Prop} : mw_WP d 288 0 [l0] st σ Q ↔ mw_WP d 288 3 [l0] (jI 1 :: st) σ Q := WP_gets1 mq288 dd288_0 (by decide)
theorem dd288_3 : decode cJ0_coder_7d493 3 = .ok (.ifCond .eq 10, 3) := by decide +kernel
theorem ww288_3 {d : Nat} {l0 : Option mw_V} {x : Int} {st : List mw_V} {σ : mw_S} {Q : Option mw_V → mw_S → Prop} : mw_WP d 288 3 [l0] (jI x :: st) σ Q ↔ (if x = 0 then mw_WP d 288 13 [l0] st σ Q else mw_WP d 288 6 [l0] st σ Q) := WP_if_eq mq288 dd288_3 (by decide)
theorem dd288_6 : decode cJ0_coder_7d493 6 = .ok (.aload_n 0, 1) := by decide +kernel
theorem ww288_6 {d : Nat} {x : Nat} {st : List mw_V} {σ : mw_S} {Q : Option mw_V → mw_S → Prop} : mw_WP d 288 6 [some (jR x)] st σ Q ↔ mw_WP d 288 7 [some (jR x)] (jR x :: st) σ Q := WP_aload_n mq288 dd288_6 rfl
theorem dd288_7 : decode cJ0_coder_7d493 7 = .ok (.getfield 15, 3) := by decide +kernel
theorem ww288_7 {d : Nat} {l0 : Option mw_V} {a : Nat} {st : List mw_V} {σ : mw_S} {Q : Option mw_V → mw_S → Prop} (h : 1000 ≤ a ∧ a < 1028) : mw_WP d 288 7 [l0] (jR a :: st) σ Q ↔ mw_WP d 288 10 [l0] (jI 0 :: st) σ Q := WP_getC mq288 dd288_7 (by decide) (by decide) h
theorem dd288_10 : decode cJ0_coder_7d493 10 = .ok (.goto 4, 3) := by decide +kernel
theorem ww288_10 {d : Nat} {l0 : Option mw_V} {st : List mw_V} {σ : mw_S} {Q : Option mw_V → mw_S → Prop} : mw_WP d 288 10 [l0] st σ Q ↔ mw_WP d 288 14 [l0] st σ Q := WP_goto mq288 dd288_10 (by decide)
theorem dd288_13 : decode cJ0_coder_7d493 13 = .ok (.iconst 1, 1) := by decide +kernel
theorem ww288_13 {d : Nat} {l0 : Option mw_V} {st : List mw_V} {σ : mw_S} {Q : Option mw_V → mw_S → Prop} : mw_WP d 288 13 [l0] st σ Q ↔ mw_WP d 288 14 [l0] (jI (1) :: st) σ Q := WP_iconst mq288 dd288_13 (by decide)
theorem dd288_14 : decode cJ0_coder_7d493 14 = .ok (.ireturn, 1) := by decide +kernel
theorem ww288_14 {d : Nat} {l0 : Option mw_V} {z : Int} {σ : mw_S} {Q : Option mw_V → mw_S → Prop} (h : narrow .byte (.int (i32 z)) = .int (i32 z)) : mw_WP d 288 14 [l0] [jI z] σ Q ↔ Q (some (jI z)) σ := WP_ireturn mq288 dd288_14 rfl h
theorem ee289 {d : Nat} {a : Nat} {σ : mw_S} {Q : Option mw_V → mw_S → Prop} : mw_Call (d + 1) 289 [jR a] σ Q ↔ mw_WP d 289 0 [some (jR a)] [] σ Q := CL_u mq289 (Nat.le_of_ble_eq_true rfl) rfl
theorem dd289_0 : decode cJ0_isLatin1_aae02 0 = .ok (.getstatic 38, 3) := by decide +kernel
theorem ww289_0 {d : Nat} {l0 : Option mw_V} {st : List mw_V} {σ : mw_S} {Q : Option mw_V → mw_S → Prop} : mw_WP d 289 0 [l0] st σ Q ↔ mw_WP d 289 3 [l0] (jI 1 :: st) σ Q := WP_gets1 mq289 dd289_0 (by decide)
theorem dd289_3 : decode cJ0_isLatin1_aae02 3 = .ok (.ifCond .eq 14, 3) := by decide +kernel
theorem ww289_3 {d : Nat} {l0 : Option mw_V} {x : Int} {st : List mw_V} {σ : mw_S} {Q : Option mw_V → mw_S → Prop} : mw_WP d 289 3 [l0] (jI x :: st) σ Q ↔ (if x = 0 then mw_WP d 289 17 [l0] st σ Q else mw_WP d 289 6 [l0] st σ Q) := WP_if_eq mq289 dd289_3 (by decide)
theorem dd289_6 : decode cJ0_isLatin1_aae02 6 = .ok (.aload_n 0, 1) := by decide +kernel
theorem ww289_6 {d : Nat} {x : Nat} {st : List mw_V} {σ : mw_S} {Q : Option mw_V → mw_S → Prop} : mw_WP d 289 6 [some (jR x)] st σ Q ↔ mw_WP d 289 7 [some (jR x)] (jR x :: st) σ Q := WP_aload_n mq289 dd289_6 rfl
theorem dd289_7 : decode cJ0_isLatin1_aae02 7 = .ok (.getfield 15, 3) := by decide +kernel
theorem ww289_7 {d : Nat} {l0 : Option mw_V} {a : Nat} {st : List mw_V} {σ : mw_S} {Q : Option mw_V → mw_S → Prop} (h : 1000 ≤ a ∧ a < 1028) : mw_WP d 289 7 [l0] (jR a :: st) σ Q ↔ mw_WP d 289 10 [l0] (jI 0 :: st) σ Q := WP_getC mq289 dd289_7 (by decide) (by decide) h
theorem dd289_10 : decode cJ0_isLatin1_aae02 10 = .ok (.ifCond .ne 7, 3) := by decide +kernel
theorem ww289_10 {d : Nat} {l0 : Option mw_V} {x : Int} {st : List mw_V} {σ : mw_S} {Q : Option mw_V → mw_S → Prop} : mw_WP d 289 10 [l0] (jI x :: st) σ Q ↔ (if ¬ x = 0 then mw_WP d 289 17 [l0] st σ Q else mw_WP d 289 13 [l0] st σ Q) := WP_if_ne mq289 dd289_10 (by decide)
theorem dd289_13 : decode cJ0_isLatin1_aae02 13 = .ok (.iconst 1, 1) := by decide +kernel
theorem ww289_13 {d : Nat} {l0 : Option mw_V} {st : List mw_V} {σ : mw_S} {Q : Option mw_V → mw_S → Prop} : mw_WP d 289 13 [l0] st σ Q ↔ mw_WP d 289 14 [l0] (jI (1) :: st) σ Q := WP_iconst mq289 dd289_13 (by decide)
theorem dd289_14 : decode cJ0_isLatin1_aae02 14 = .ok (.goto 4, 3) := by decide +kernel
theorem ww289_14 {d : Nat} {l0 : Option mw_V} {st : List mw_V} {σ : mw_S} {Q : Option mw_V → mw_S → Prop} : mw_WP d 289 14 [l0] st σ Q ↔ mw_WP d 289 18 [l0] st σ Q := WP_goto mq289 dd289_14 (by decide)
theorem dd289_17 : decode cJ0_isLatin1_aae02 17 = .ok (.iconst 0, 1) := by decide +kernel
theorem ww289_17 {d : Nat} {l0 : Option mw_V} {st : List mw_V} {σ : mw_S} {Q : Option mw_V → mw_S → Prop} : mw_WP d 289 17 [l0] st σ Q ↔ mw_WP d 289 18 [l0] (jI (0) :: st) σ Q := WP_iconst mq289 dd289_17 (by decide)
theorem dd289_18 : decode cJ0_isLatin1_aae02 18 = .ok (.ireturn, 1) := by decide +kernel
theorem ww289_18 {d : Nat} {l0 : Option mw_V} {z : Int} {σ : mw_S} {Q : Option mw_V → mw_S → Prop} (h : z = 0 ∨ z = 1) : mw_WP d 289 18 [l0] [jI z] σ Q ↔ Q (some (jI z)) σ := WP_ireturn (ty := .boolean) mq289 dd289_18 rfl (by rcases h with rfl | rfl <;> decide)
theorem ee290 {d : Nat} {z0 : Int} {z1 : Int} {σ : mw_S} {Q : Option mw_V → mw_S → Prop} : mw_Call (d + 1) 290 [jI z0, jI z1] σ Q ↔ mw_WP d 290 0 [some (jI z0), some (jI z1)] [] σ Q := CL_u mq290 (Nat.le_of_ble_eq_true rfl) rfl
theorem dd290_0 : decode cJ0_checkIndex_df160 0 = .ok (.iload_n 0, 1) := by decide +kernel
theorem ww290_0 {d : Nat} {l1 : Option mw_V} {x : Int} {st : List mw_V} {σ : mw_S} {Q : Option mw_V → mw_S → Prop} : mw_WP d 290 0 [some (jI x), l1] st σ Q ↔ mw_WP d 290 1 [some (jI x), l1] (jI x :: st) σ Q := WP_iload_n mq290 dd290_0 rfl
theorem dd290_1 : decode cJ0_checkIndex_df160 1 = .ok (.iload_n 1, 1) := by decide +kernel
theorem ww290_1 {d : Nat} {l0 : Option mw_V} {x : Int} {st : List mw_V} {σ : mw_S} {Q : Option mw_V → mw_S → Prop} : mw_WP d 290 1 [l0, some (jI x)] st σ Q ↔ mw_WP d 290 2 [l0, some (jI x)] (jI x :: st) σ Q := WP_iload_n mq290 dd290_1 rfl
theorem dd290_2 : decode cJ0_checkIndex_df160 2 = .ok (.getstatic 1053, 3) := by decide +kernel
theorem ww290_2 {d : Nat} {l0 l1 : Option mw_V} {st : List mw_V} {σ : mw_S} {Q : Option mw_V → mw_S → Prop} : mw_WP d 290 2 [l0, l1] st σ Q ↔ mw_WP d 290 5 [l0, l1] (jO :: st) σ Q := WP_gets2 mq290 dd290_2 (by decide)
theorem dd290_5 : decode cJ0_checkIndex_df160 5 = .ok (.invokestatic 1059, 3) := by decide +kernel
theorem ww290_5 {d : Nat} {l0 l1 : Option mw_V} {v0 v1 v2 : mw_V} {st : List mw_V} {σ : mw_S} {Q : Option mw_V → mw_S → Prop} (h8 : (st.map mw_cat).sum ≤ 8) : mw_WP d 290 5 [l0, l1] (v2 :: v1 :: v0 :: st) σ Q ↔ mw_Call d 295 [v0, v1, v2] σ (fun r1 s1 => mw_WP d 290 8 [l0, l1] (r1.toList ++ st) s1 Q) := WP_invs (as := [v2, v1, v0]) mq290 dd290_5 (by decide) mq295 rfl rfl h8
theorem dd290_8 : decode cJ0_checkIndex_df160 8 = .ok (.pop, 1) := by decide +kernel
theorem ww290_8 {d : Nat} {l0 l1 : Option mw_V} {v : mw_V} {st : List mw_V} {σ : mw_S} {Q : Option mw_V → mw_S → Prop} (h : mw_cat v = 1) : mw_WP d 290 8 [l0, l1] (v :: st) σ Q ↔ mw_WP d 290 9 [l0, l1] st σ Q := WP_pop mq290 dd290_8 h
theorem dd290_9 : decode cJ0_checkIndex_df160 9 = .ok (.return_, 1) := by decide +kernel
theorem ww290_9 {d : Nat} {l0 l1 : Option mw_V} {σ : mw_S} {Q : Option mw_V → mw_S → Prop} : mw_WP d 290 9 [l0, l1] [] σ Q ↔ Q none σ := WP_return mq290 dd290_9 rfl
theorem ee291 {d : Nat} {a0 : Nat} {z1 : Int} {σ : mw_S} {Q : Option mw_V → mw_S → Prop} : mw_Call (d + 1) 291 [jR a0, jI z1] σ Q ↔ mw_WP d 291 0 [some (jR a0), some (jI z1)] [] σ Q := CL_u mq291 (Nat.le_of_ble_eq_true rfl) rfl
theorem dd291_0 : decode cJ1_charAt_3b067 0 = .ok (.iload_n 1, 1) := by decide +kernel
theorem ww291_0 {d : Nat} {l0 : Option mw_V} {x : Int} {st : List mw_V} {σ : mw_S} {Q : Option mw_V → mw_S → Prop} : mw_WP d 291 0 [l0, some (jI x)] st σ Q ↔ mw_WP d 291 1 [l0, some (jI x)] (jI x :: st) σ Q := WP_iload_n mq291 dd291_0 rfl
theorem dd291_1 : decode cJ1_charAt_3b067 1 = .ok (.aload_n 0, 1) := by decide +kernel
theorem ww291_1 {d : Nat} {l1 : Option mw_V} {x : Nat} {st : List mw_V} {σ : mw_S} {Q : Option mw_V → mw_S → Prop} : mw_WP d 291 1 [some (jR x), l1] st σ Q ↔ mw_WP d 291 2 [some (jR x), l1] (jR x :: st) σ Q := WP_aload_n mq291 dd291_1 rfl
theorem dd291_2 : decode cJ1_charAt_3b067 2 = .ok (.arraylength, 1) := by decide +kernel
theorem ww291_2 {d : Nat} {l0 l1 : Option mw_V} {a n : Nat} {st : List mw_V} {σ : mw_S} {Q : Option mw_V → mw_S → Prop} (h : mw_isT a = true) (h2 : mw_lenB a = n) : mw_WP d 291 2 [l0, l1] (jR a :: st) σ Q ↔ mw_WP d 291 3 [l0, l1] (jI n :: st) σ Q := WP_alenT mq291 dd291_2 h h2
theorem dd291_3 : decode cJ1_charAt_3b067 3 = .ok (.invokestatic 9, 3) := by decide +kernel
theorem ww291_3 {d : Nat} {l0 l1 : Option mw_V} {v0 v1 : mw_V} {st : List mw_V} {σ : mw_S} {Q : Option mw_V → mw_S → Prop} (h8 : (st.map mw_cat).sum ≤ 8) : mw_WP d 291 3 [l0, l1] (v1 :: v0 :: st) σ Q ↔ mw_Call d 290 [v0, v1] σ (fun r1 s1 => mw_WP d 291 6 [l0, l1] (r1.toList ++ st) s1 Q) := WP_invs (as := [v1, v0]) mq291 dd291_3 (by decide) mq290 rfl rfl h8
theorem dd291_6 : decode cJ1_charAt_3b067 6 = .ok (.aload_n 0, 1) := by decide +kernel
theorem ww291_6 {d : Nat} {l1 : Option mw_V} {x : Nat} {st : List mw_V} {σ : mw_S} {Q : Option mw_V → mw_S → Prop} : mw_WP d 291 6 [some (jR x), l1] st σ Q ↔ mw_WP d 291 7 [some (jR x), l1] (jR x :: st) σ Q := WP_aload_n mq291 dd291_6 rfl
theorem dd291_7 : decode cJ1_charAt_3b067 7 = .ok (.iload_n 1, 1) := by decide +kernel
theorem ww291_7 {d : Nat} {l0 : Option mw_V} {x : Int} {st : List mw_V} {σ : mw_S} {Q : Option mw_V → mw_S → Prop} : mw_WP d 291 7 [l0, some (jI x)] st σ Q ↔ mw_WP d 291 8 [l0, some (jI x)] (jI x :: st) σ Q := WP_iload_n mq291 dd291_7 rfl
theorem dd291_8 : decode cJ1_charAt_3b067 8 = .ok (.baload, 1) := by decide +kernel
theorem ww291_8 {d : Nat} {l0 l1 : Option mw_V} {z : Int} {a : Nat} {st : List mw_V} {σ : mw_S} {Q : Option mw_V → mw_S → Prop} : mw_WP d 291 8 [l0, l1] (jI z :: jR a :: st) σ Q ↔ ((0 ≤ z ∧ z < mw_lenB a) ∧ mw_WP d 291 9 [l0, l1] (jI (mw_rdB σ a z.toNat) :: st) σ Q) := WP_baload mq291 dd291_8
theorem dd291_9 : decode cJ1_charAt_3b067 9 = .ok (.sipush 255, 3) := by decide +kernel
theorem ww291_9 {d : Nat} {l0 l1 : Option mw_V} {st : List mw_V} {σ : mw_S} {Q : Option mw_V → mw_S → Prop} : mw_WP d 291 9 [l0, l1] st σ Q ↔ mw_WP d 291 12 [l0, l1] (jI (255) :: st) σ Q := WP_sipush mq291 dd291_9 (by decide)
theorem dd291_12 : decode cJ1_charAt_3b067 12 = .ok (.iand, 1) := by decide +kernel
theorem ww291_12 {d : Nat} {l0 l1 : Option mw_V} {x y : Int} {st : List mw_V} {σ : mw_S} {Q : Option mw_V → mw_S → Prop} : mw_WP d 291 12 [l0, l1] (jI y :: jI x :: st) σ Q ↔ mw_WP d 291 13 [l0, l1] (jI (zAnd x y) :: st) σ Q := WP_iand mq291 dd291_12
theorem dd291_13 : decode cJ1_charAt_3b067 13 = .ok (.i2c, 1) := by decide +kernel
theorem ww291_13 {d : Nat} {l0 l1 : Option mw_V} {x : Int} {st : List mw_V} {σ : mw_S} {Q : Option mw_V → mw_S → Prop} : mw_WP d 291 13 [l0, l1] (jI x :: st) σ Q ↔ mw_WP d 291 14 [l0, l1] (jI (zC x) :: st) σ Q := WP_i2c mq291 dd291_13
theorem dd291_14 : decode cJ1_charAt_3b067 14 = .ok (.ireturn, 1) := by decide +kernel
theorem ww291_14 {d : Nat} {l0 l1 : Option mw_V} {z : Int} {σ : mw_S} {Q : Option mw_V → mw_S → Prop} (h : narrow .char (.int (i32 z)) = .int (i32 z)) : mw_WP d 291 14 [l0, l1] [jI z] σ Q ↔ Q (some (jI z)) σ := WP_ireturn mq291 dd291_14 rfl h
theorem ee292 {d : Nat} {z0 : Int} {σ : mw_S} {Q : Option mw_V → mw_S → Prop} : mw_Call (d + 1) 292 [jI z0] σ Q ↔ mw_WP d 292 0 [some (jI z0)] [] σ Q := CL_u mq292 (Nat.le_of_ble_eq_true rfl) rfl
theorem dd292_0 : decode cJ1_canEncode_9a6ad 0 = .ok (.iload_n 0, 1) := by decide +kernel
theorem ww292_0 {d : Nat} {x : Int} {st : List mw_V} {σ : mw_S} {Q : Option mw_V → mw_S → Prop} : mw_WP d 292 0 [some (jI x)] st σ Q ↔ mw_WP d 292 1 [some (jI x)] (jI x :: st) σ Q := WP_iload_n mq292 dd292_0 rfl
theorem dd292_1 : decode cJ1_canEncode_9a6ad 1 = .ok (.ifCond .lt 14, 3) := by decide +kernel
theorem ww292_1 {d : Nat} {l0 : Option mw_V} {x : Int} {st : List mw_V} {σ : mw_S} {Q : Option mw_V → mw_S → Prop} : mw_WP d 292 1 [l0] (jI x :: st) σ Q ↔ (if x < 0 then mw_WP d 292 15 [l0] st σ Q else mw_WP d 292 4 [l0] st σ Q) := WP_if_lt mq292 dd292_1 (by decide)
theorem dd292_4 : decode cJ1_canEncode_9a6ad 4 = .ok (.iload_n 0, 1) := by decide +kernel
theorem ww292_4 {d : Nat} {x : Int} {st : List mw_V} {σ : mw_S} {Q : Option mw_V → mw_S → Prop} : mw_WP d 292 4 [some (jI x)] st σ Q ↔ mw_WP d 292 5 [some (jI x)] (jI x :: st) σ Q := WP_iload_n mq292 dd292_4 rfl
theorem dd292_5 : decode cJ1_canEncode_9a6ad 5 = .ok (.sipush 255, 3) := by decide +kernel
theorem ww292_5 {d : Nat} {l0 : Option mw_V} {st : List mw_V} {σ : mw_S} {Q : Option mw_V → mw_S → Prop} : mw_WP d 292 5 [l0] st σ Q ↔ mw_WP d 292 8 [l0] (jI (255) :: st) σ Q := WP_sipush mq292 dd292_5 (by decide)
theorem dd292_8 : decode cJ1_canEncode_9a6ad 8 = .ok (.if_icmp .gt 7, 3) := by decide +kernel
theorem ww292_8 {d : Nat} {l0 : Option mw_V} {x y : Int} {st : List mw_V} {σ : mw_S} {Q : Option mw_V → mw_S → Prop} : mw_WP d 292 8 [l0] (jI y :: jI x :: st) σ Q ↔ (if y < x then mw_WP d 292 15 [l0] st σ Q else mw_WP d 292 11 [l0] st σ Q) := WP_icmp_gt mq292 dd292_8 (by decide)
theorem dd292_11 : decode cJ1_canEncode_9a6ad 11 = .ok (.iconst 1, 1) := by decide +kernel
theorem ww292_11 {d : Nat} {l0 : Option mw_V} {st : List mw_V} {σ : mw_S} {Q : Option mw_V → mw_S → Prop} : mw_WP d 292 11 [l0] st σ Q ↔ mw_WP d 292 12 [l0] (jI (1) :: st) σ Q := WP_iconst mq292 dd292_11 (by decide)
theorem dd292_12 : decode cJ1_canEncode_9a6ad 12 = .ok (.goto 4, 3) := by decide +kernel
theorem ww292_12 {d : Nat} {l0 : Option mw_V} {st : List mw_V} {σ : mw_S} {Q : Option mw_V → mw_S → Prop} : mw_WP d 292 12 [l0] st σ Q ↔ mw_WP d 292 16 [l0] st σ Q := WP_goto mq292 dd292_12 (by decide)
theorem dd292_15 : decode cJ1_canEncode_9a6ad 15 = .ok (.iconst 0, 1) := by decide +kernel
theorem ww292_15 {d : Nat} {l0 : Option mw_V} {st : List mw_V} {σ : mw_S} {Q : Option mw_V → mw_S → Prop} : mw_WP d 292 15 [l0] st σ Q ↔ mw_WP d 292 16 [l0] (jI (0) :: st) σ Q := WP_iconst mq292 dd292_15 (by decide)
theorem dd292_16 : decode cJ1_canEncode_9a6ad 16 = .ok (.ireturn, 1) := by decide +kernel
theorem ww292_16 {d : Nat} {l0 : Option mw_V} {z : Int} {σ : mw_S} {Q : Option mw_V → mw_S → Prop} (h : z = 0 ∨ z = 1) : mw_WP d 292 16 [l0] [jI z] σ Q ↔ Q (some (jI z)) σ := WP_ireturn (ty := .boolean) mq292 dd292_16 rfl (by rcases h with rfl | rfl <;> decide)
theorem ee293 {d : Nat} {a0 : Nat} {z1 : Int} {z2 : Int} {z3 : Int} {σ : mw_S} {Q : Option mw_V → mw_S → Prop} : mw_Call (d + 1) 293 [jR a0, jI z1, jI z2, jI z3] σ Q ↔ mw_WP d 293 0 [some (jR a0), some (jI z1), some (jI z2), some (jI z3)] [] σ Q := CL_u mq293 (Nat.le_of_ble_eq_true rfl) rfl
theorem dd293_0 : decode cJ1_indexOf_4cfef 0 = .ok (.iload_n 1, 1) := by decide +kernel
theorem ww293_0 {d : Nat} {l0 l2 l3 : Option mw_V} {x : Int} {st : List mw_V} {σ : mw_S} {Q : Option mw_V → mw_S → Prop} : mw_WP d 293 0 [l0, some (jI x), l2, l3] st σ Q ↔ mw_WP d 293 1 [l0, some (jI x), l2, l3] (jI x :: st) σ Q := WP_iload_n mq293 dd293_0 rfl
theorem dd293_1 : decode cJ1_indexOf_4cfef 1 = .ok (.invokestatic 88, 3) := by decide +kernel
theorem ww293_1 {d : Nat} {l0 l1 l2 l3 : Option mw_V} {v0 : mw_V} {st : List mw_V} {σ : mw_S} {Q : Option mw_V → mw_S → Prop} (h8 : (st.map mw_cat).sum ≤ 8) : mw_WP d 293 1 [l0, l1, l2, l3] (v0 :: st) σ Q ↔ mw_Call d 292 [v0] σ (fun r1 s1 => mw_WP d 293 4 [l0, l1, l2, l3] (r1.toList ++ st) s1 Q) := WP_invs (as := [v0]) mq293 dd293_1 (by decide) mq292 rfl rfl h8
theorem dd293_4 : decode cJ1_indexOf_4cfef 4 = .ok (.ifCond .ne 5, 3) := by decide +kernel
theorem ww293_4 {d : Nat} {l0 l1 l2 l3 : Option mw_V} {x : Int} {st : List mw_V} {σ : mw_S} {Q : Option mw_V → mw_S → Prop} : mw_WP d 293 4 [l0, l1, l2, l3] (jI x :: st) σ Q ↔ (if ¬ x = 0 then mw_WP d 293 9 [l0, l1, l2, l3] st σ Q else mw_WP d 293 7 [l0, l1, l2, l3] st σ Q) := WP_if_ne mq293 dd293_4 (by decide)
theorem dd293_7 : decode cJ1_indexOf_4cfef 7 = .ok (.iconst (-1), 1) := by decide +kernel
theorem ww293_7 {d : Nat} {l0 l1 l2 l3 : Option mw_V} {st : List mw_V} {σ : mw_S} {Q : Option mw_V → mw_S → Prop} : mw_WP d 293 7 [l0, l1, l2, l3] st σ Q ↔ mw_WP d 293 8 [l0, l1, l2, l3] (jI (-1) :: st) σ Q := WP_iconst mq293 dd293_7 (by decide)
theorem dd293_8 : decode cJ1_indexOf_4cfef 8 = .ok (.ireturn, 1) := by decide +kernel
theorem ww293_8 {d : Nat} {l0 l1 l2 l3 : Option mw_V} {z : Int} {σ : mw_S} {Q : Option mw_V → mw_S → Prop} : mw_WP d 293 8 [l0, l1, l2, l3] [jI z] σ Q ↔ Q (some (jI z)) σ := WP_ireturn (ty := .int) mq293 dd293_8 rfl rfl
theorem dd293_9 : decode cJ1_indexOf_4cfef 9 = .ok (.iload_n 2, 1) := by decide +kernel
theorem ww293_9 {d : Nat} {l0 l1 l3 : Option mw_V} {x : Int} {st : List mw_V} {σ : mw_S} {Q : Option mw_V → mw_S → Prop} : mw_WP d 293 9 [l0, l1, some (jI x), l3] st σ Q ↔ mw_WP d 293 10 [l0, l1, some (jI x), l3] (jI x :: st) σ Q := WP_iload_n mq293 dd293_9 rfl
theorem dd293_10 : decode cJ1_indexOf_4cfef 10 = .ok (.iconst 0, 1) := by decide +kernel
theorem ww293_10 {d : Nat} {l0 l1 l2 l3 : Option mw_V} {st : List mw_V} {σ : mw_S} {Q : Option mw_V → mw_S → Prop} : mw_WP d 293 10 [l0, l1, l2, l3] st σ Q ↔ mw_WP d 293 11 [l0, l1, l2, l3] (jI (0) :: st) σ Q := WP_iconst mq293 dd293_10 (by decide)
theorem dd293_11 : decode cJ1_indexOf_4cfef 11 = .ok (.invokestatic 92, 3) := by decide +kernel
theorem ww293_11 {d : Nat} {l0 l1 l2 l3 : Option mw_V} {v0 v1 : mw_V} {st : List mw_V} {σ : mw_S} {Q : Option mw_V → mw_S → Prop} (h8 : (st.map mw_cat).sum ≤ 8) : mw_WP d 293 11 [l0, l1, l2, l3] (v1 :: v0 :: st) σ Q ↔ mw_Call d 282 [v0, v1] σ (fun r1 s1 => mw_WP d 293 14 [l0, l1, l2, l3] (r1.toList ++ st) s1 Q) := WP_invs (as := [v1, v0]) mq293 dd293_11 (by decide) mq282 rfl rfl h8
theorem dd293_14 : decode cJ1_indexOf_4cfef 14 = .ok (.istore_n 2, 1) := by decide +kernel
theorem ww293_14 {d : Nat} {l0 l1 l2 l3 : Option mw_V} {x : Int} {st : List mw_V} {σ : mw_S} {Q : Option mw_V → mw_S → Prop} (h : mw_nlo l1 = true) : mw_WP d 293 14 [l0, l1, l2, l3] (jI x :: st) σ Q ↔ mw_WP d 293 15 [l0, l1, some (jI x), l3] st σ Q := WP_istore_n mq293 dd293_14 (Nat.le_of_ble_eq_true rfl) (mw_nl_of (i := 1) rfl h) rfl
theorem dd293_15 : decode cJ1_indexOf_4cfef 15 = .ok (.iload_n 3, 1) := by decide +kernel
theorem ww293_15 {d : Nat} {l0 l1 l2 : Option mw_V} {x : Int} {st : List mw_V} {σ : mw_S} {Q : Option mw_V → mw_S → Prop} : mw_WP d 293 15 [l0, l1, l2, some (jI x)] st σ Q ↔ mw_WP d 293 16 [l0, l1, l2, some (jI x)] (jI x :: st) σ Q := WP_iload_n mq293 dd293_15 rfl
theorem dd293_16 : decode cJ1_indexOf_4cfef 16 = .ok (.aload_n 0, 1) := by decide +kernel
theorem ww293_16 {d : Nat} {l1 l2 l3 : Option mw_V} {x : Nat} {st : List mw_V} {σ : mw_S} {Q : Option mw_V → mw_S → Prop} : mw_WP d 293 16 [some (jR x), l1, l2, l3] st σ Q ↔ mw_WP d 293 17 [some (jR x), l1, l2, l3] (jR x :: st) σ Q := WP_aload_n mq293 dd293_16 rfl
theorem dd293_17 : decode cJ1_indexOf_4cfef 17 = .ok (.arraylength, 1) := by decide +kernel
theorem ww293_17 {d : Nat} {l0 l1 l2 l3 : Option mw_V} {a n : Nat} {st : List mw_V} {σ : mw_S} {Q : Option mw_V → mw_S → Prop} (h : mw_isT a = true) (h2 : mw_lenB a = n) : mw_WP d 293 17 [l0, l1, l2, l3] (jR a :: st) σ Q ↔ mw_WP d 293 18 [l0, l1, l2, l3] (jI n :: st) σ Q := WP_alenT mq293 dd293_17 h h2
theorem dd293_18 : decode cJ1_indexOf_4cfef 18 = .ok (.invokestatic 38, 3) := by decide +kernel
theorem ww293_18 {d : Nat} {l0 l1 l2 l3 : Option mw_V} {v0 v1 : mw_V} {st : List mw_V} {σ : mw_S} {Q : Option mw_V → mw_S → Prop} (h8 : (st.map mw_cat).sum ≤ 8) : mw_WP d 293 18 [l0, l1, l2, l3] (v1 :: v0 :: st) σ Q ↔ mw_Call d 283 [v0, v1] σ (fun r1 s1 => mw_WP d 293 21 [l0, l1, l2, l3] (r1.toList ++ st) s1 Q) := WP_invs (as := [v1, v0]) mq293 dd293_18 (by decide) mq283 rfl rfl h8
theorem dd293_21 : decode cJ1_indexOf_4cfef 21 = .ok (.istore_n 3, 1) := by decide +kernel
theorem ww293_21 {d : Nat} {l0 l1 l2 l3 : Option mw_V} {x : Int} {st : List mw_V} {σ : mw_S} {Q : Option mw_V → mw_S → Prop} (h : mw_nlo l2 = true) : mw_WP d 293 21 [l0, l1, l2, l3] (jI x :: st) σ Q ↔ mw_WP d 293 22 [l0, l1, l2, some (jI x)] st σ Q := WP_istore_n mq293 dd293_21 (Nat.le_of_ble_eq_true rfl) (mw_nl_of (i := 2) rfl h) rfl
theorem dd293_22 : decode cJ1_indexOf_4cfef 22 = .ok (.iload_n 2, 1) := by decide +kernel
theorem ww293_22 {d : Nat} {l0 l1 l3 : Option mw_V} {x : Int} {st : List mw_V} {σ : mw_S} {Q : Option mw_V → mw_S → Prop} : mw_WP d 293 22 [l0, l1, some (jI x), l3] st σ Q ↔ mw_WP d 293 23 [l0, l1, some (jI x), l3] (jI x :: st) σ Q := WP_iload_n mq293 dd293_22 rfl
theorem dd293_23 : decode cJ1_indexOf_4cfef 23 = .ok (.iload_n 3, 1) := by decide +kernel
theorem ww293_23 {d : Nat} {l0 l1 l2 : Option mw_V} {x : Int} {st : List mw_V} {σ : mw_S} {Q : Option mw_V → mw_S → Prop} : mw_WP d 293 23 [l0, l1, l2, some (jI x)] st σ Q ↔ mw_WP d 293 24 [l0, l1, l2, some (jI x)] (jI x :: st) σ Q := WP_iload_n mq293 dd293_23 rfl
theorem dd293_24 : decode cJ1_indexOf_4cfef 24 = .ok (.if_icmp .lt 5, 3) := by decide +kernel
theorem ww293_24 {d : Nat} {l0 l1 l2 l3 : Option mw_V} {x y : Int} {st : List mw_V} {σ : mw_S} {Q : Option mw_V → mw_S → Prop} : mw_WP d 293 24 [l0, l1, l2, l3] (jI y :: jI x :: st) σ Q ↔ (if x < y then mw_WP d 293 29 [l0, l1, l2, l3] st σ Q else mw_WP d 293 27 [l0, l1, l2, l3] st σ Q) := WP_icmp_lt mq293 dd293_24 (by decide)
theorem dd293_27 : decode cJ1_indexOf_4cfef 27 = .ok (.iconst (-1), 1) := by decide +kernel
theorem ww293_27 {d : Nat} {l0 l1 l2 l3 : Option mw_V} {st : List mw_V} {σ : mw_S} {Q : Option mw_V → mw_S → Prop} : mw_WP d 293 27 [l0, l1, l2, l3] st σ Q ↔ mw_WP d 293 28 [l0, l1, l2, l3] (jI (-1) :: st) σ Q := WP_iconst mq293 dd293_27 (by decide)
theorem dd293_28 : decode cJ1_indexOf_4cfef 28 = .ok (.ireturn, 1) := by decide +kernel
theorem ww293_28 {d : Nat} {l0 l1 l2 l3 : Option mw_V} {z : Int} {σ : mw_S} {Q : Option mw_V → mw_S → Prop} : mw_WP d 293 28 [l0, l1, l2, l3] [jI z] σ Q ↔ Q (some (jI z)) σ := WP_ireturn (ty := .int) mq293 dd293_28 rfl rfl
theorem dd293_29 : decode cJ1_indexOf_4cfef 29 = .ok (.aload_n 0, 1) := by decide +kernel
theorem ww293_29 {d : Nat} {l1 l2 l3 : Option mw_V} {x : Nat} {st : List mw_V} {σ : mw_S} {Q : Option mw_V → mw_S → Prop} : mw_WP d 293 29 [some (jR x), l1, l2, l3] st σ Q ↔ mw_WP d 293 30 [some (jR x), l1, l2, l3] (jR x :: st) σ Q := WP_aload_n mq293 dd293_29 rfl
theorem dd293_30 : decode cJ1_indexOf_4cfef 30 = .ok (.iload_n 1, 1) := by decide +kernel
theorem ww293_30 {d : Nat} {l0 l2 l3 : Option mw_V} {x : Int} {st : List mw_V} {σ : mw_S} {Q : Option mw_V → mw_S → Prop} : mw_WP d 293 30 [l0, some (jI x), l2, l3] st σ Q ↔ mw_WP d 293 31 [l0, some (jI x), l2, l3] (jI x :: st) σ Q := WP_iload_n mq293 dd293_30 rfl
theorem dd293_31 : decode cJ1_indexOf_4cfef 31 = .ok (.iload_n 2, 1) := by decide +kernel
theorem ww293_31 {d : Nat} {l0 l1 l3 : Option mw_V} {x : Int} {st : List mw_V} {σ : mw_S} {Q : Option mw_V → mw_S → Prop} : mw_WP d 293 31 [l0, l1, some (jI x), l3] st σ Q ↔ mw_WP d 293 32 [l0, l1, some (jI x), l3] (jI x :: st) σ Q := WP_iload_n mq293 dd293_31 rfl
theorem dd293_32 : decode cJ1_indexOf_4cfef 32 = .ok (.iload_n 3, 1) := by decide +kernel
theorem ww293_32 {d : Nat} {l0 l1 l2 : Option mw_V} {x : Int} {st : List mw_V} {σ : mw_S} {Q : Option mw_V → mw_S → Prop} : mw_WP d 293 32 [l0, l1, l2, some (jI x)] st σ Q ↔ mw_WP d 293 33 [l0, l1, l2, some (jI x)] (jI x :: st) σ Q := WP_iload_n mq293 dd293_32 rfl
theorem dd293_33 : decode cJ1_indexOf_4cfef 33 = .ok (.invokestatic 95, 3) := by decide +kernel
theorem ww293_33 {d : Nat} {l0 l1 l2 l3 : Option mw_V} {v0 v1 v2 v3 : mw_V} {st : List mw_V} {σ : mw_S} {Q : Option mw_V → mw_S → Prop} (h8 : (st.map mw_cat).sum ≤ 8) : mw_WP d 293 33 [l0, l1, l2, l3] (v3 :: v2 :: v1 :: v0 :: st) σ Q ↔ mw_Call d 294 [v0, v1, v2, v3] σ (fun r1 s1 => mw_WP d 293 36 [l0, l1, l2, l3] (r1.toList ++ st) s1 Q) := WP_invs (as := [v3, v2, v1, v0]) mq293 dd293_33 (by decide) mq294 rfl rfl h8
theorem dd293_36 : decode cJ1_indexOf_4cfef 36 = .ok (.ireturn, 1) := by decide +kernel
theorem ww293_36 {d : Nat} {l0 l1 l2 l3 : Option mw_V} {z : Int} {σ : mw_S} {Q : Option mw_V → mw_S → Prop} : mw_WP d 293 36 [l0, l1, l2, l3] [jI z] σ Q ↔ Q (some (jI z)) σ := WP_ireturn (ty := .int) mq293 dd293_36 rfl rfl
theorem ee294 {d : Nat} {a0 : Nat} {z1 : Int} {z2 : Int} {z3 : Int} {σ : mw_S} {Q : Option mw_V → mw_S → Prop} : mw_Call (d + 1) 294 [jR a0, jI z1, jI z2, jI z3] σ Q ↔ mw_WP d 294 0 [some (jR a0), some (jI z1), some (jI z2), some (jI z3), none, none] [] σ Q := CL_u mq294 (Nat.le_of_ble_eq_true rfl) rfl
theorem dd294_0 : decode cJ1_indexOfChar_4cfef 0 = .ok (.iload_n 1, 1) := by decide +kernel
theorem ww294_0 {d : Nat} {l0 l2 l3 l4 l5 : Option mw_V} {x : Int} {st : List mw_V} {σ : mw_S} {Q : Option mw_V → mw_S → Prop} : mw_WP d 294 0 [l0, some (jI x), l2, l3, l4, l5] st σ Q ↔ mw_WP d 294 1 [l0, some (jI x), l2, l3, l4, l5] (jI x :: st) σ Q := WP_iload_n mq294 dd294_0 rfl
theorem dd294_1 : decode cJ1_indexOfChar_4cfef 1 = .ok (.i2b, 1) := by decide +kernel
theorem ww294_1 {d : Nat} {l0 l1 l2 l3 l4 l5 : Option mw_V} {x : Int} {st : List mw_V} {σ : mw_S} {Q : Option mw_V → mw_S → Prop} : mw_WP d 294 1 [l0, l1, l2, l3, l4, l5] (jI x :: st) σ Q ↔ mw_WP d 294 2 [l0, l1, l2, l3, l4, l5] (jI (zB x) :: st) σ Q := WP_i2b mq294 dd294_1
theorem dd294_2 : decode cJ1_indexOfChar_4cfef 2 = .ok (.istore 4, 2) := by decide +kernel
theorem ww294_2 {d : Nat} {l0 l1 l2 l3 l4 l5 : Option mw_V} {x : Int} {st : List mw_V} {σ : mw_S} {Q : Option mw_V → mw_S → Prop} (h : mw_nlo l3 = true) : mw_WP d 294 2 [l0, l1, l2, l3, l4, l5] (jI x :: st) σ Q ↔ mw_WP d 294 4 [l0, l1, l2, l3, some (jI x), l5] st σ Q := WP_istore mq294 dd294_2 (Nat.le_of_ble_eq_true rfl) (mw_nl_of (i := 3) rfl h) rfl
theorem dd294_4 : decode cJ1_indexOfChar_4cfef 4 = .ok (.iload_n 2, 1) := by decide +kernel
theorem ww294_4 {d : Nat} {l0 l1 l3 l4 l5 : Option mw_V} {x : Int} {st : List mw_V} {σ : mw_S} {Q : Option mw_V → mw_S → Prop} : mw_WP d 294 4 [l0, l1, some (jI x), l3, l4, l5] st σ Q ↔ mw_WP d 294 5 [l0, l1, some (jI x), l3, l4, l5] (jI x :: st) σ Q := WP_iload_n mq294 dd294_4 rfl
theorem dd294_5 : decode cJ1_indexOfChar_4cfef 5 = .ok (.istore 5, 2) := by decide +kernel
theorem ww294_5 {d : Nat} {l0 l1 l2 l3 l4 l5 : Option mw_V} {x : Int} {st : List mw_V} {σ : mw_S} {Q : Option mw_V → mw_S → Prop} (h : mw_nlo l4 = true) : mw_WP d 294 5 [l0, l1, l2, l3, l4, l5] (jI x :: st) σ Q ↔ mw_WP d 294 7 [l0, l1, l2, l3, l4, some (jI x)] st σ Q := WP_istore mq294 dd294_5 (Nat.le_of_ble_eq_true rfl) (mw_nl_of (i := 4) rfl h) rfl
theorem dd294_7 : decode cJ1_indexOfChar_4cfef 7 = .ok (.iload 5, 2) := by decide +kernel
theorem ww294_7 {d : Nat} {l0 l1 l2 l3 l4 : Option mw_V} {x : Int} {st : List mw_V} {σ : mw_S} {Q : Option mw_V → mw_S → Prop} : mw_WP d 294 7 [l0, l1, l2, l3, l4, some (jI x)] st σ Q ↔ mw_WP d 294 9 [l0, l1, l2, l3, l4, some (jI x)] (jI x :: st) σ Q := WP_iload mq294 dd294_7 rfl
theorem dd294_9 : decode cJ1_indexOfChar_4cfef 9 = .ok (.iload_n 3, 1) := by decide +kernel
theorem ww294_9 {d : Nat} {l0 l1 l2 l4 l5 : Option mw_V} {x : Int} {st : List mw_V} {σ : mw_S} {Q : Option mw_V → mw_S → Prop} : mw_WP d 294 9 [l0, l1, l2, some (jI x), l4, l5] st σ Q ↔ mw_WP d 294 10 [l0, l1, l2, some (jI x), l4, l5] (jI x :: st) σ Q := WP_iload_n mq294 dd294_9 rfl
theorem dd294_10 : decode cJ1_indexOfChar_4cfef 10 = .ok (.if_icmp .ge 21, 3) := by decide +kernel
theorem ww294_10 {d : Nat} {l0 l1 l2 l3 l4 l5 : Option mw_V} {x y : Int} {st : List mw_V} {σ : mw_S} {Q : Option mw_V → mw_S → Prop} : mw_WP d 294 10 [l0, l1, l2, l3, l4, l5] (jI y :: jI x :: st) σ Q ↔ (if y ≤ x then mw_WP d 294 31 [l0, l1, l2, l3, l4, l5] st σ Q else mw_WP d 294 13 [l0, l1, l2, l3, l4, l5] st σ Q) := WP_icmp_ge mq294 dd294_10 (by decide)
theorem dd294_13 : decode cJ1_indexOfChar_4cfef 13 = .ok (.aload_n 0, 1) := by decide +kernel
theorem ww294_13 {d : Nat} {l1 l2 l3 l4 l5 : Option mw_V} {x : Nat} {st : List mw_V} {σ : mw_S} {Q : Option mw_V → mw_S → Prop} : mw_WP d 294 13 [some (jR x), l1, l2, l3, l4, l5] st σ Q ↔ mw_WP d 294 14 [some (jR x), l1, l2, l3, l4, l5] (jR x :: st) σ Q := WP_aload_n mq294 dd294_13 rfl
theorem dd294_14 : decode cJ1_indexOfChar_4cfef 14 = .ok (.iload 5, 2) := by decide +kernel
theorem ww294_14 {d : Nat} {l0 l1 l2 l3 l4 : Option mw_V} {x : Int} {st : List mw_V} {σ : mw_S} {Q : Option mw_V → mw_S → Prop} : mw_WP d 294 14 [l0, l1, l2, l3, l4, some (jI x)] st σ Q ↔ mw_WP d 294 16 [l0, l1, l2, l3, l4, some (jI x)] (jI x :: st) σ Q := WP_iload mq294 dd294_14 rfl
theorem dd294_16 : decode cJ1_indexOfChar_4cfef 16 = .ok (.baload, 1) := by decide +kernel
theorem ww294_16 {d : Nat} {l0 l1 l2 l3 l4 l5 : Option mw_V} {z : Int} {a : Nat} {st : List mw_V} {σ : mw_S} {Q : Option mw_V → mw_S → Prop} : mw_WP d 294 16 [l0, l1, l2, l3, l4, l5] (jI z :: jR a :: st) σ Q ↔ ((0 ≤ z ∧ z < mw_lenB a) ∧ mw_WP d 294 17 [l0, l1, l2, l3, l4, l5] (jI (mw_rdB σ a z.toNat) :: st) σ Q) := WP_baload mq294 dd294_16
theorem dd294_17 : decode cJ1_indexOfChar_4cfef 17 = .ok (.iload 4, 2) := by decide +kernel
theorem ww294_17 {d : Nat} {l0 l1 l2 l3 l5 : Option mw_V} {x : Int} {st : List mw_V} {σ : mw_S} {Q : Option mw_V → mw_S → Prop} : mw_WP d 294 17 [l0, l1, l2, l3, some (jI x), l5] st σ Q ↔ mw_WP d 294 19 [l0, l1, l2, l3, some (jI x), l5] (jI x :: st) σ Q := WP_iload mq294 dd294_17 rfl
theorem dd294_19 : decode cJ1_indexOfChar_4cfef 19 = .ok (.if_icmp .ne 6, 3) := by decide +kernel
theorem ww294_19 {d : Nat} {l0 l1 l2 l3 l4 l5 : Option mw_V} {x y : Int} {st : List mw_V} {σ : mw_S} {Q : Option mw_V → mw_S → Prop} : mw_WP d 294 19 [l0, l1, l2, l3, l4, l5] (jI y :: jI x :: st) σ Q ↔ (if ¬ x = y then mw_WP d 294 25 [l0, l1, l2, l3, l4, l5] st σ Q else mw_WP d 294 22 [l0, l1, l2, l3, l4, l5] st σ Q) := WP_icmp_ne mq294 dd294_19 (by decide)
theorem dd294_22 : decode cJ1_indexOfChar_4cfef 22 = .ok (.iload 5, 2) := by decide +kernel
theorem ww294_22 {d : Nat} {l0 l1 l2 l3 l4 : Option mw_V} {x : Int} {st : List mw_V} {σ : mw_S} {Q : Option mw_V → mw_S → Prop} : mw_WP d 294 22 [l0, l1, l2, l3, l4, some (jI x)] st σ Q ↔ mw_WP d 294 24 [l0, l1, l2, l3, l4, some (jI x)] (jI x :: st) σ Q := WP_iload mq294 dd294_22 rfl
theorem dd294_24 : decode cJ1_indexOfChar_4cfef 24 = .ok (.ireturn, 1) := by decide +kernel
theorem ww294_24 {d : Nat} {l0 l1 l2 l3 l4 l5 : Option mw_V} {z : Int} {σ : mw_S} {Q : Option mw_V → mw_S → Prop} : mw_WP d 294 24 [l0, l1, l2, l3, l4, l5] [jI z] σ Q ↔ Q (some (jI z)) σ := WP_ireturn (ty := .int) mq294 dd294_24 rfl rfl
theorem dd294_25 : decode cJ1_indexOfChar_4cfef 25 = .ok (.iinc 5 1, 3) := by decide +kernel
theorem ww294_25 {d : Nat} {l0 l1 l2 l3 l4 : Option mw_V} {x : Int} {st : List mw_V} {σ : mw_S} {Q : Option mw_V → mw_S → Prop} (h : mw_nlo l4 = true) : mw_WP d 294 25 [l0, l1, l2, l3, l4, some (jI x)] st σ Q ↔ mw_WP d 294 28 [l0, l1, l2, l3, l4, some (jI (w32 (x + (1))))] st σ Q := WP_iinc mq294 dd294_25 rfl (Nat.le_of_ble_eq_true rfl) (mw_nl_of (i := 4) rfl h) rfl
theorem dd294_28 : decode cJ1_indexOfChar_4cfef 28 = .ok (.goto (-21), 3) := by decide +kernel
theorem ww294_28 {d : Nat} {l0 l1 l2 l3 l4 l5 : Option mw_V} {st : List mw_V} {σ : mw_S} {Q : Option mw_V → mw_S → Prop} : mw_WP d 294 28 [l0, l1, l2, l3, l4, l5] st σ Q ↔ mw_WP d 294 7 [l0, l1, l2, l3, l4, l5] st σ Q := WP_goto mq294 dd294_28 (by decide)
theorem dd294_31 : decode cJ1_indexOfChar_4cfef 31 = .ok (.iconst (-1), 1) := by decide +kernel
theorem ww294_31 {d : Nat} {l0 l1 l2 l3 l4 l5 : Option mw_V} {st : List mw_V} {σ : mw_S} {Q : Option mw_V → mw_S → Prop} : mw_WP d 294 31 [l0, l1, l2, l3, l4, l5] st σ Q ↔ mw_WP d 294 32 [l0, l1, l2, l3, l4, l5] (jI (-1) :: st) σ Q := WP_iconst mq294 dd294_31 (by decide)
theorem dd294_32 : decode cJ1_indexOfChar_4cfef 32 = .ok (.ireturn, 1) := by decide +kernel
theorem ww294_32 {d : Nat} {l0 l1 l2 l3 l4 l5 : Option mw_V} {z : Int} {σ : mw_S} {Q : Option mw_V → mw_S → Prop} : mw_WP d 294 32 [l0, l1, l2, l3, l4, l5] [jI z] σ Q ↔ Q (some (jI z)) σ := WP_ireturn (ty := .int) mq294 dd294_32 rfl rfl
theorem ee295 {d : Nat} {z0 : Int} {z1 : Int} {σ : mw_S} {Q : Option mw_V → mw_S → Prop} : mw_Call (d + 1) 295 [jI z0, jI z1, jO] σ Q ↔ mw_WP d 295 0 [some (jI z0), some (jI z1), some jO] [] σ Q := CL_u mq295 (Nat.le_of_ble_eq_true rfl) rfl
theorem dd295_0 : decode cJ3_checkIndex_8e157 0 = .ok (.iload_n 0, 1) := by decide +kernel
theorem ww295_0 {d : Nat} {l1 l2 : Option mw_V} {x : Int} {st : List mw_V} {σ : mw_S} {Q : Option mw_V → mw_S → Prop} : mw_WP d 295 0 [some (jI x), l1, l2] st σ Q ↔ mw_WP d 295 1 [some (jI x), l1, l2] (jI x :: st) σ Q := WP_iload_n mq295 dd295_0 rfl
theorem dd295_1 : decode cJ3_checkIndex_8e157 1 = .ok (.ifCond .lt 8, 3) := by decide +kernel
theorem ww295_1 {d : Nat} {l0 l1 l2 : Option mw_V} {x : Int} {st : List mw_V} {σ : mw_S} {Q : Option mw_V → mw_S → Prop} : mw_WP d 295 1 [l0, l1, l2] (jI x :: st) σ Q ↔ (if x < 0 then mw_WP d 295 9 [l0, l1, l2] st σ Q else mw_WP d 295 4 [l0, l1, l2] st σ Q) := WP_if_lt mq295 dd295_1 (by decide)
theorem dd295_4 : decode cJ3_checkIndex_8e157 4 = .ok (.iload_n 0, 1) := by decide +kernel
theorem ww295_4 {d : Nat} {l1 l2 : Option mw_V} {x : Int} {st : List mw_V} {σ : mw_S} {Q : Option mw_V → mw_S → Prop} : mw_WP d 295 4 [some (jI x), l1, l2] st σ Q ↔ mw_WP d 295 5 [some (jI x), l1, l2] (jI x :: st) σ Q := WP_iload_n mq295 dd295_4 rfl
theorem dd295_5 : decode cJ3_checkIndex_8e157 5 = .ok (.iload_n 1, 1) := by decide +kernel
theorem ww295_5 {d : Nat} {l0 l2 : Option mw_V} {x : Int} {st : List mw_V} {σ : mw_S} {Q : Option mw_V → mw_S → Prop} : mw_WP d 295 5 [l0, some (jI x), l2] st σ Q ↔ mw_WP d 295 6 [l0, some (jI x), l2] (jI x :: st) σ Q := WP_iload_n mq295 dd295_5 rfl
theorem dd295_6 : decode cJ3_checkIndex_8e157 6 = .ok (.if_icmp .lt 10, 3) := by decide +kernel
theorem ww295_6 {d : Nat} {l0 l1 l2 : Option mw_V} {x y : Int} {st : List mw_V} {σ : mw_S} {Q : Option mw_V → mw_S → Prop} : mw_WP d 295 6 [l0, l1, l2] (jI y :: jI x :: st) σ Q ↔ (if x < y then mw_WP d 295 16 [l0, l1, l2] st σ Q else mw_WP d 295 9 [l0, l1, l2] st σ Q) := WP_icmp_lt mq295 dd295_6 (by decide)
theorem dd295_9 : decode cJ3_checkIndex_8e157 9 = .ok (.aload_n 2, 1) := by decide +kernel
theorem ww295_9 {d : Nat} {l0 l1 : Option mw_V} {x : Nat} {st : List mw_V} {σ : mw_S} {Q : Option mw_V → mw_S → Prop} : mw_WP d 295 9 [l0, l1, some (jR x)] st σ Q ↔ mw_WP d 295 10 [l0, l1, some (jR x)] (jR x :: st) σ Q := WP_aload_n mq295 dd295_9 rfl
theorem dd295_10 : decode cJ3_checkIndex_8e157 10 = .ok (.iload_n 0, 1) := by decide +kernel
theorem ww295_10 {d : Nat} {l1 l2 : Option mw_V} {x : Int} {st : List mw_V} {σ : mw_S} {Q : Option mw_V → mw_S → Prop} : mw_WP d 295 10 [some (jI x), l1, l2] st σ Q ↔ mw_WP d 295 11 [some (jI x), l1, l2] (jI x :: st) σ Q := WP_iload_n mq295 dd295_10 rfl
theorem dd295_11 : decode cJ3_checkIndex_8e157 11 = .ok (.iload_n 1, 1) := by decide +kernel
theorem ww295_11 {d : Nat} {l0 l2 : Option mw_V} {x : Int} {st : List mw_V} {σ : mw_S} {Q : Option mw_V → mw_S → Prop} : mw_WP d 295 11 [l0, some (jI x), l2] st σ Q ↔ mw_WP d 295 12 [l0, some (jI x), l2] (jI x :: st) σ Q := WP_iload_n mq295 dd295_11 rfl
theorem dd295_12 : decode cJ3_checkIndex_8e157 12 = .ok (.invokestatic 95, 3) := by decide +kernel
-- checkIndex_8e157 12: a call that is never made (95)
theorem dd295_15 : decode cJ3_checkIndex_8e157 15 = .ok (.athrow, 1) := by decide +kernel
-- ? checkIndex_8e157 15 .athrow
theorem dd295_16 : decode cJ3_checkIndex_8e157 16 = .ok (.iload_n 0, 1) := by decide +kernel
theorem ww295_16 {d : Nat} {l1 l2 : Option mw_V} {x : Int} {st : List mw_V} {σ : mw_S} {Q : Option mw_V → mw_S → Prop} : mw_WP d 295 16 [some (jI x), l1, l2] st σ Q ↔ mw_WP d 295 17 [some (jI x), l1, l2] (jI x :: st) σ Q := WP_iload_n mq295 dd295_16 rfl
theorem dd295_17 : decode cJ3_checkIndex_8e157 17 = .ok (.ireturn, 1) := by decide +kernel
theorem ww295_17 {d : Nat} {l0 l1 l2 : Option mw_V} {z : Int} {σ : mw_S} {Q : Option mw_V → mw_S → Prop} : mw_WP d 295 17 [l0, l1, l2] [jI z] σ Q ↔ Q (some (jI z)) σ := WP_ireturn (ty := .int) mq295 dd295_17 rfl rfl
