/-! 13.d: rows that decode each instruction, and its rule -/
theorem ee87 {d : Nat} {a : Nat} {z0 : Int} {σ : mw_S} {Q : Option mw_V → mw_S → Prop} : mw_Call (d + 1) 87 [jR a, jL z0] σ Q ↔ mw_WP d 87 0 [some (jR a), some (jL z0), none] [] σ Q := CL_u mq87 (Nat.le_of_ble_eq_true rfl) rfl
theorem dd87_0 : decode cX9_areDoings 0 = .ok (.lload_n 1, 1) := by decide +kernel
theorem ww87_0 {d : Nat} {l0 l2 : Option mw_V} {x : Int} {st : List mw_V} {σ : mw_S} {Q : Option mw_V → mw_S → Prop} : mw_WP d 87 0 [l0, some (jL x), l2] st σ Q ↔ mw_WP d 87 1 [l0, some (jL x), l2] (jL x :: st) σ Q := WP_lload_n mq87 dd87_0 rfl
theorem dd87_1 : decode cX9_areDoings 1 = .ok (.lconst 0, 1) := by decide +kernel
theorem ww87_1 {d : Nat} {l0 l1 l2 : Option mw_V} {st : List mw_V} {σ : mw_S} {Q : Option mw_V → mw_S → Prop} : mw_WP d 87 1 [l0, l1, l2] st σ Q ↔ mw_WP d 87 2 [l0, l1, l2] (jL (0) :: st) σ Q := WP_lconst mq87 dd87_1 (by decide)
theorem dd87_2 : decode cX9_areDoings 2 = .ok (.lcmp, 1) := by decide +kernel
theorem ww87_2 {d : Nat} {l0 l1 l2 : Option mw_V} {x y : Int} {st : List mw_V} {σ : mw_S} {Q : Option mw_V → mw_S → Prop} : mw_WP d 87 2 [l0, l1, l2] (jL y :: jL x :: st) σ Q ↔ mw_WP d 87 3 [l0, l1, l2] (jI (yCmp x y) :: st) σ Q := WP_lcmp mq87 dd87_2
theorem dd87_3 : decode cX9_areDoings 3 = .ok (.ifCond .lt 24, 3) := by decide +kernel
theorem ww87_3 {d : Nat} {l0 l1 l2 : Option mw_V} {x : Int} {st : List mw_V} {σ : mw_S} {Q : Option mw_V → mw_S → Prop} : mw_WP d 87 3 [l0, l1, l2] (jI x :: st) σ Q ↔ (if x < 0 then mw_WP d 87 27 [l0, l1, l2] st σ Q else mw_WP d 87 6 [l0, l1, l2] st σ Q) := WP_if_lt mq87 dd87_3 (by decide)
theorem dd87_6 : decode cX9_areDoings 6 = .ok (.lload_n 1, 1) := by decide +kernel
theorem ww87_6 {d : Nat} {l0 l2 : Option mw_V} {x : Int} {st : List mw_V} {σ : mw_S} {Q : Option mw_V → mw_S → Prop} : mw_WP d 87 6 [l0, some (jL x), l2] st σ Q ↔ mw_WP d 87 7 [l0, some (jL x), l2] (jL x :: st) σ Q := WP_lload_n mq87 dd87_6 rfl
theorem dd87_7 : decode cX9_areDoings 7 = .ok (.getstatic 22, 3) := by decide +kernel
theorem ww87_7 {d : Nat} {l0 l1 l2 : Option mw_V} {st : List mw_V} {σ : mw_S} {Q : Option mw_V → mw_S → Prop} : mw_WP d 87 7 [l0, l1, l2] st σ Q ↔ mw_WP d 87 10 [l0, l1, l2] (jR 3000 :: st) σ Q := WP_gets0 mq87 dd87_7 (by decide)
theorem dd87_10 : decode cX9_areDoings 10 = .ok (.aload_n 0, 1) := by decide +kernel
theorem ww87_10 {d : Nat} {l1 l2 : Option mw_V} {x : Nat} {st : List mw_V} {σ : mw_S} {Q : Option mw_V → mw_S → Prop} : mw_WP d 87 10 [some (jR x), l1, l2] st σ Q ↔ mw_WP d 87 11 [some (jR x), l1, l2] (jR x :: st) σ Q := WP_aload_n mq87 dd87_10 rfl
theorem dd87_11 : decode cX9_areDoings 11 = .ok (.getfield 18, 3) := by decide +kernel
theorem ww87_11 {d : Nat} {l0 l1 l2 : Option mw_V} {st : List mw_V} {σ : mw_S} {Q : Option mw_V → mw_S → Prop} : mw_WP d 87 11 [l0, l1, l2] (jR 22 :: st) σ Q ↔ mw_WP d 87 14 [l0, l1, l2] (jR 13 :: st) σ Q := WP_getR (ci := 8) (k := 0) mq87 dd87_11 (by decide) rfl
theorem dd87_14 : decode cX9_areDoings 14 = .ok (.getfield 25, 3) := by decide +kernel
theorem ww87_14i3 {d : Nat} {l0 l1 l2 : Option mw_V} {st : List mw_V} {σ : mw_S} {Q : Option mw_V → mw_S → Prop} : mw_WP d 87 14 [l0, l1, l2] (jR 3 :: st) σ Q ↔ mw_WP d 87 17 [l0, l1, l2] (jI (σ 3 1) :: st) σ Q := WP_getI (ci := 0) (k := 1) mq87 dd87_14 (by decide) (Or.inl rfl)
theorem ww87_14i13 {d : Nat} {l0 l1 l2 : Option mw_V} {st : List mw_V} {σ : mw_S} {Q : Option mw_V → mw_S → Prop} : mw_WP d 87 14 [l0, l1, l2] (jR 13 :: st) σ Q ↔ mw_WP d 87 17 [l0, l1, l2] (jI (σ 13 1) :: st) σ Q := WP_getI (ci := 0) (k := 1) mq87 dd87_14 (by decide) (Or.inl rfl)
theorem ww87_14i77 {d : Nat} {l0 l1 l2 : Option mw_V} {st : List mw_V} {σ : mw_S} {Q : Option mw_V → mw_S → Prop} : mw_WP d 87 14 [l0, l1, l2] (jR 77 :: st) σ Q ↔ mw_WP d 87 17 [l0, l1, l2] (jI (σ 77 1) :: st) σ Q := WP_getI (ci := 0) (k := 1) mq87 dd87_14 (by decide) (Or.inl rfl)
theorem ww87_14i88 {d : Nat} {l0 l1 l2 : Option mw_V} {st : List mw_V} {σ : mw_S} {Q : Option mw_V → mw_S → Prop} : mw_WP d 87 14 [l0, l1, l2] (jR 88 :: st) σ Q ↔ mw_WP d 87 17 [l0, l1, l2] (jI (σ 88 1) :: st) σ Q := WP_getI (ci := 0) (k := 1) mq87 dd87_14 (by decide) (Or.inl rfl)
theorem dd87_17 : decode cX9_areDoings 17 = .ok (.iaload, 1) := by decide +kernel
theorem ww87_17 {d : Nat} {l0 l1 l2 : Option mw_V} {z : Int} {a : Nat} {st : List mw_V} {σ : mw_S} {Q : Option mw_V → mw_S → Prop} : mw_WP d 87 17 [l0, l1, l2] (jI z :: jR a :: st) σ Q ↔ ((0 ≤ z ∧ z < mw_lenI a) ∧ mw_WP d 87 18 [l0, l1, l2] (jI (mw_rdI σ a z.toNat) :: st) σ Q) := WP_iaload mq87 dd87_17
theorem dd87_18 : decode cX9_areDoings 18 = .ok (.i2l, 1) := by decide +kernel
theorem ww87_18 {d : Nat} {l0 l1 l2 : Option mw_V} {x : Int} {st : List mw_V} {σ : mw_S} {Q : Option mw_V → mw_S → Prop} : mw_WP d 87 18 [l0, l1, l2] (jI x :: st) σ Q ↔ mw_WP d 87 19 [l0, l1, l2] (jL (yL x) :: st) σ Q := WP_i2l mq87 dd87_18
theorem dd87_19 : decode cX9_areDoings 19 = .ok (.lcmp, 1) := by decide +kernel
theorem ww87_19 {d : Nat} {l0 l1 l2 : Option mw_V} {x y : Int} {st : List mw_V} {σ : mw_S} {Q : Option mw_V → mw_S → Prop} : mw_WP d 87 19 [l0, l1, l2] (jL y :: jL x :: st) σ Q ↔ mw_WP d 87 20 [l0, l1, l2] (jI (yCmp x y) :: st) σ Q := WP_lcmp mq87 dd87_19
theorem dd87_20 : decode cX9_areDoings 20 = .ok (.ifCond .ge 7, 3) := by decide +kernel
theorem ww87_20 {d : Nat} {l0 l1 l2 : Option mw_V} {x : Int} {st : List mw_V} {σ : mw_S} {Q : Option mw_V → mw_S → Prop} : mw_WP d 87 20 [l0, l1, l2] (jI x :: st) σ Q ↔ (if 0 ≤ x then mw_WP d 87 27 [l0, l1, l2] st σ Q else mw_WP d 87 23 [l0, l1, l2] st σ Q) := WP_if_ge mq87 dd87_20 (by decide)
theorem dd87_23 : decode cX9_areDoings 23 = .ok (.iconst 1, 1) := by decide +kernel
theorem ww87_23 {d : Nat} {l0 l1 l2 : Option mw_V} {st : List mw_V} {σ : mw_S} {Q : Option mw_V → mw_S → Prop} : mw_WP d 87 23 [l0, l1, l2] st σ Q ↔ mw_WP d 87 24 [l0, l1, l2] (jI (1) :: st) σ Q := WP_iconst mq87 dd87_23 (by decide)
theorem dd87_24 : decode cX9_areDoings 24 = .ok (.goto 4, 3) := by decide +kernel
theorem ww87_24 {d : Nat} {l0 l1 l2 : Option mw_V} {st : List mw_V} {σ : mw_S} {Q : Option mw_V → mw_S → Prop} : mw_WP d 87 24 [l0, l1, l2] st σ Q ↔ mw_WP d 87 28 [l0, l1, l2] st σ Q := WP_goto mq87 dd87_24 (by decide)
theorem dd87_27 : decode cX9_areDoings 27 = .ok (.iconst 0, 1) := by decide +kernel
theorem ww87_27 {d : Nat} {l0 l1 l2 : Option mw_V} {st : List mw_V} {σ : mw_S} {Q : Option mw_V → mw_S → Prop} : mw_WP d 87 27 [l0, l1, l2] st σ Q ↔ mw_WP d 87 28 [l0, l1, l2] (jI (0) :: st) σ Q := WP_iconst mq87 dd87_27 (by decide)
theorem dd87_28 : decode cX9_areDoings 28 = .ok (.ireturn, 1) := by decide +kernel
theorem ww87_28 {d : Nat} {l0 l1 l2 : Option mw_V} {z : Int} {σ : mw_S} {Q : Option mw_V → mw_S → Prop} (h : z = 0 ∨ z = 1) : mw_WP d 87 28 [l0, l1, l2] [jI z] σ Q ↔ Q (some (jI z)) σ := WP_ireturn (ty := .boolean) mq87 dd87_28 rfl (by rcases h with rfl | rfl <;> decide)
theorem ee88 {d : Nat} {a : Nat} {a0 : Nat} {z1 : Int} {σ : mw_S} {Q : Option mw_V → mw_S → Prop} : mw_Call (d + 1) 88 [jR a, jR a0, jI z1] σ Q ↔ mw_WP d 88 0 [some (jR a), some (jR a0), some (jI z1), none, none, none, none] [] σ Q := CL_u mq88 (Nat.le_of_ble_eq_true rfl) rfl
theorem dd88_0 : decode cX9_advance 0 = .ok (.iload_n 2, 1) := by decide +kernel
theorem ww88_0 {d : Nat} {l0 l1 l3 l4 l5 l6 : Option mw_V} {x : Int} {st : List mw_V} {σ : mw_S} {Q : Option mw_V → mw_S → Prop} : mw_WP d 88 0 [l0, l1, some (jI x), l3, l4, l5, l6] st σ Q ↔ mw_WP d 88 1 [l0, l1, some (jI x), l3, l4, l5, l6] (jI x :: st) σ Q := WP_iload_n mq88 dd88_0 rfl
theorem dd88_1 : decode cX9_advance 1 = .ok (.istore_n 3, 1) := by decide +kernel
theorem ww88_1 {d : Nat} {l0 l1 l2 l3 l4 l5 l6 : Option mw_V} {x : Int} {st : List mw_V} {σ : mw_S} {Q : Option mw_V → mw_S → Prop} (h : mw_nlo l2 = true) : mw_WP d 88 1 [l0, l1, l2, l3, l4, l5, l6] (jI x :: st) σ Q ↔ mw_WP d 88 2 [l0, l1, l2, some (jI x), l4, l5, l6] st σ Q := WP_istore_n mq88 dd88_1 (Nat.le_of_ble_eq_true rfl) (mw_nl_of (i := 2) rfl h) rfl
theorem dd88_2 : decode cX9_advance 2 = .ok (.iconst 0, 1) := by decide +kernel
theorem ww88_2 {d : Nat} {l0 l1 l2 l3 l4 l5 l6 : Option mw_V} {st : List mw_V} {σ : mw_S} {Q : Option mw_V → mw_S → Prop} : mw_WP d 88 2 [l0, l1, l2, l3, l4, l5, l6] st σ Q ↔ mw_WP d 88 3 [l0, l1, l2, l3, l4, l5, l6] (jI (0) :: st) σ Q := WP_iconst mq88 dd88_2 (by decide)
theorem dd88_3 : decode cX9_advance 3 = .ok (.istore 4, 2) := by decide +kernel
theorem ww88_3 {d : Nat} {l0 l1 l2 l3 l4 l5 l6 : Option mw_V} {x : Int} {st : List mw_V} {σ : mw_S} {Q : Option mw_V → mw_S → Prop} (h : mw_nlo l3 = true) : mw_WP d 88 3 [l0, l1, l2, l3, l4, l5, l6] (jI x :: st) σ Q ↔ mw_WP d 88 5 [l0, l1, l2, l3, some (jI x), l5, l6] st σ Q := WP_istore mq88 dd88_3 (Nat.le_of_ble_eq_true rfl) (mw_nl_of (i := 3) rfl h) rfl
theorem dd88_5 : decode cX9_advance 5 = .ok (.iload 4, 2) := by decide +kernel
theorem ww88_5 {d : Nat} {l0 l1 l2 l3 l5 l6 : Option mw_V} {x : Int} {st : List mw_V} {σ : mw_S} {Q : Option mw_V → mw_S → Prop} : mw_WP d 88 5 [l0, l1, l2, l3, some (jI x), l5, l6] st σ Q ↔ mw_WP d 88 7 [l0, l1, l2, l3, some (jI x), l5, l6] (jI x :: st) σ Q := WP_iload mq88 dd88_5 rfl
theorem dd88_7 : decode cX9_advance 7 = .ok (.aload_n 0, 1) := by decide +kernel
theorem ww88_7 {d : Nat} {l1 l2 l3 l4 l5 l6 : Option mw_V} {x : Nat} {st : List mw_V} {σ : mw_S} {Q : Option mw_V → mw_S → Prop} : mw_WP d 88 7 [some (jR x), l1, l2, l3, l4, l5, l6] st σ Q ↔ mw_WP d 88 8 [some (jR x), l1, l2, l3, l4, l5, l6] (jR x :: st) σ Q := WP_aload_n mq88 dd88_7 rfl
theorem dd88_8 : decode cX9_advance 8 = .ok (.getfield 18, 3) := by decide +kernel
theorem ww88_8 {d : Nat} {l0 l1 l2 l3 l4 l5 l6 : Option mw_V} {st : List mw_V} {σ : mw_S} {Q : Option mw_V → mw_S → Prop} : mw_WP d 88 8 [l0, l1, l2, l3, l4, l5, l6] (jR 22 :: st) σ Q ↔ mw_WP d 88 11 [l0, l1, l2, l3, l4, l5, l6] (jR 13 :: st) σ Q := WP_getR (ci := 8) (k := 0) mq88 dd88_8 (by decide) rfl
theorem dd88_11 : decode cX9_advance 11 = .ok (.getfield 25, 3) := by decide +kernel
theorem ww88_11i3 {d : Nat} {l0 l1 l2 l3 l4 l5 l6 : Option mw_V} {st : List mw_V} {σ : mw_S} {Q : Option mw_V → mw_S → Prop} : mw_WP d 88 11 [l0, l1, l2, l3, l4, l5, l6] (jR 3 :: st) σ Q ↔ mw_WP d 88 14 [l0, l1, l2, l3, l4, l5, l6] (jI (σ 3 1) :: st) σ Q := WP_getI (ci := 0) (k := 1) mq88 dd88_11 (by decide) (Or.inl rfl)
theorem ww88_11i13 {d : Nat} {l0 l1 l2 l3 l4 l5 l6 : Option mw_V} {st : List mw_V} {σ : mw_S} {Q : Option mw_V → mw_S → Prop} : mw_WP d 88 11 [l0, l1, l2, l3, l4, l5, l6] (jR 13 :: st) σ Q ↔ mw_WP d 88 14 [l0, l1, l2, l3, l4, l5, l6] (jI (σ 13 1) :: st) σ Q := WP_getI (ci := 0) (k := 1) mq88 dd88_11 (by decide) (Or.inl rfl)
theorem ww88_11i77 {d : Nat} {l0 l1 l2 l3 l4 l5 l6 : Option mw_V} {st : List mw_V} {σ : mw_S} {Q : Option mw_V → mw_S → Prop} : mw_WP d 88 11 [l0, l1, l2, l3, l4, l5, l6] (jR 77 :: st) σ Q ↔ mw_WP d 88 14 [l0, l1, l2, l3, l4, l5, l6] (jI (σ 77 1) :: st) σ Q := WP_getI (ci := 0) (k := 1) mq88 dd88_11 (by decide) (Or.inl rfl)
theorem ww88_11i88 {d : Nat} {l0 l1 l2 l3 l4 l5 l6 : Option mw_V} {st : List mw_V} {σ : mw_S} {Q : Option mw_V → mw_S → Prop} : mw_WP d 88 11 [l0, l1, l2, l3, l4, l5, l6] (jR 88 :: st) σ Q ↔ mw_WP d 88 14 [l0, l1, l2, l3, l4, l5, l6] (jI (σ 88 1) :: st) σ Q := WP_getI (ci := 0) (k := 1) mq88 dd88_11 (by decide) (Or.inl rfl)
theorem dd88_14 : decode cX9_advance 14 = .ok (.if_icmp .ge 55, 3) := by decide +kernel
theorem ww88_14 {d : Nat} {l0 l1 l2 l3 l4 l5 l6 : Option mw_V} {x y : Int} {st : List mw_V} {σ : mw_S} {Q : Option mw_V → mw_S → Prop} : mw_WP d 88 14 [l0, l1, l2, l3, l4, l5, l6] (jI y :: jI x :: st) σ Q ↔ (if y ≤ x then mw_WP d 88 69 [l0, l1, l2, l3, l4, l5, l6] st σ Q else mw_WP d 88 17 [l0, l1, l2, l3, l4, l5, l6] st σ Q) := WP_icmp_ge mq88 dd88_14 (by decide)
theorem dd88_17 : decode cX9_advance 17 = .ok (.iload_n 3, 1) := by decide +kernel
theorem ww88_17 {d : Nat} {l0 l1 l2 l4 l5 l6 : Option mw_V} {x : Int} {st : List mw_V} {σ : mw_S} {Q : Option mw_V → mw_S → Prop} : mw_WP d 88 17 [l0, l1, l2, some (jI x), l4, l5, l6] st σ Q ↔ mw_WP d 88 18 [l0, l1, l2, some (jI x), l4, l5, l6] (jI x :: st) σ Q := WP_iload_n mq88 dd88_17 rfl
theorem dd88_18 : decode cX9_advance 18 = .ok (.bipush 9, 2) := by decide +kernel
theorem ww88_18 {d : Nat} {l0 l1 l2 l3 l4 l5 l6 : Option mw_V} {st : List mw_V} {σ : mw_S} {Q : Option mw_V → mw_S → Prop} : mw_WP d 88 18 [l0, l1, l2, l3, l4, l5, l6] st σ Q ↔ mw_WP d 88 20 [l0, l1, l2, l3, l4, l5, l6] (jI (9) :: st) σ Q := WP_bipush mq88 dd88_18 (by decide)
theorem dd88_20 : decode cX9_advance 20 = .ok (.irem, 1) := by decide +kernel
theorem ww88_20 {d : Nat} {l0 l1 l2 l3 l4 l5 l6 : Option mw_V} {x y : Int} {st : List mw_V} {σ : mw_S} {Q : Option mw_V → mw_S → Prop} : mw_WP d 88 20 [l0, l1, l2, l3, l4, l5, l6] (jI y :: jI x :: st) σ Q ↔ (¬ i32 y = 0 ∧ mw_WP d 88 21 [l0, l1, l2, l3, l4, l5, l6] (jI (zRem x y) :: st) σ Q) := WP_irem mq88 dd88_20
theorem dd88_21 : decode cX9_advance 21 = .ok (.istore 5, 2) := by decide +kernel
theorem ww88_21 {d : Nat} {l0 l1 l2 l3 l4 l5 l6 : Option mw_V} {x : Int} {st : List mw_V} {σ : mw_S} {Q : Option mw_V → mw_S → Prop} (h : mw_nlo l4 = true) : mw_WP d 88 21 [l0, l1, l2, l3, l4, l5, l6] (jI x :: st) σ Q ↔ mw_WP d 88 23 [l0, l1, l2, l3, l4, some (jI x), l6] st σ Q := WP_istore mq88 dd88_21 (Nat.le_of_ble_eq_true rfl) (mw_nl_of (i := 4) rfl h) rfl
theorem dd88_23 : decode cX9_advance 23 = .ok (.iload_n 3, 1) := by decide +kernel
theorem ww88_23 {d : Nat} {l0 l1 l2 l4 l5 l6 : Option mw_V} {x : Int} {st : List mw_V} {σ : mw_S} {Q : Option mw_V → mw_S → Prop} : mw_WP d 88 23 [l0, l1, l2, some (jI x), l4, l5, l6] st σ Q ↔ mw_WP d 88 24 [l0, l1, l2, some (jI x), l4, l5, l6] (jI x :: st) σ Q := WP_iload_n mq88 dd88_23 rfl
theorem dd88_24 : decode cX9_advance 24 = .ok (.bipush 9, 2) := by decide +kernel
theorem ww88_24 {d : Nat} {l0 l1 l2 l3 l4 l5 l6 : Option mw_V} {st : List mw_V} {σ : mw_S} {Q : Option mw_V → mw_S → Prop} : mw_WP d 88 24 [l0, l1, l2, l3, l4, l5, l6] st σ Q ↔ mw_WP d 88 26 [l0, l1, l2, l3, l4, l5, l6] (jI (9) :: st) σ Q := WP_bipush mq88 dd88_24 (by decide)
theorem dd88_26 : decode cX9_advance 26 = .ok (.idiv, 1) := by decide +kernel
theorem ww88_26 {d : Nat} {l0 l1 l2 l3 l4 l5 l6 : Option mw_V} {x y : Int} {st : List mw_V} {σ : mw_S} {Q : Option mw_V → mw_S → Prop} : mw_WP d 88 26 [l0, l1, l2, l3, l4, l5, l6] (jI y :: jI x :: st) σ Q ↔ (¬ i32 y = 0 ∧ mw_WP d 88 27 [l0, l1, l2, l3, l4, l5, l6] (jI (zDiv x y) :: st) σ Q) := WP_idiv mq88 dd88_26
theorem dd88_27 : decode cX9_advance 27 = .ok (.istore_n 3, 1) := by decide +kernel
theorem ww88_27 {d : Nat} {l0 l1 l2 l3 l4 l5 l6 : Option mw_V} {x : Int} {st : List mw_V} {σ : mw_S} {Q : Option mw_V → mw_S → Prop} (h : mw_nlo l2 = true) : mw_WP d 88 27 [l0, l1, l2, l3, l4, l5, l6] (jI x :: st) σ Q ↔ mw_WP d 88 28 [l0, l1, l2, some (jI x), l4, l5, l6] st σ Q := WP_istore_n mq88 dd88_27 (Nat.le_of_ble_eq_true rfl) (mw_nl_of (i := 2) rfl h) rfl
theorem dd88_28 : decode cX9_advance 28 = .ok (.aload_n 1, 1) := by decide +kernel
theorem ww88_28 {d : Nat} {l0 l2 l3 l4 l5 l6 : Option mw_V} {x : Nat} {st : List mw_V} {σ : mw_S} {Q : Option mw_V → mw_S → Prop} : mw_WP d 88 28 [l0, some (jR x), l2, l3, l4, l5, l6] st σ Q ↔ mw_WP d 88 29 [l0, some (jR x), l2, l3, l4, l5, l6] (jR x :: st) σ Q := WP_aload_n mq88 dd88_28 rfl
theorem dd88_29 : decode cX9_advance 29 = .ok (.bipush 13, 2) := by decide +kernel
theorem ww88_29 {d : Nat} {l0 l1 l2 l3 l4 l5 l6 : Option mw_V} {st : List mw_V} {σ : mw_S} {Q : Option mw_V → mw_S → Prop} : mw_WP d 88 29 [l0, l1, l2, l3, l4, l5, l6] st σ Q ↔ mw_WP d 88 31 [l0, l1, l2, l3, l4, l5, l6] (jI (13) :: st) σ Q := WP_bipush mq88 dd88_29 (by decide)
theorem dd88_31 : decode cX9_advance 31 = .ok (.iload 4, 2) := by decide +kernel
theorem ww88_31 {d : Nat} {l0 l1 l2 l3 l5 l6 : Option mw_V} {x : Int} {st : List mw_V} {σ : mw_S} {Q : Option mw_V → mw_S → Prop} : mw_WP d 88 31 [l0, l1, l2, l3, some (jI x), l5, l6] st σ Q ↔ mw_WP d 88 33 [l0, l1, l2, l3, some (jI x), l5, l6] (jI x :: st) σ Q := WP_iload mq88 dd88_31 rfl
theorem dd88_33 : decode cX9_advance 33 = .ok (.iadd, 1) := by decide +kernel
theorem ww88_33 {d : Nat} {l0 l1 l2 l3 l4 l5 l6 : Option mw_V} {x y : Int} {st : List mw_V} {σ : mw_S} {Q : Option mw_V → mw_S → Prop} : mw_WP d 88 33 [l0, l1, l2, l3, l4, l5, l6] (jI y :: jI x :: st) σ Q ↔ mw_WP d 88 34 [l0, l1, l2, l3, l4, l5, l6] (jI (w32 (x + y)) :: st) σ Q := WP_iadd mq88 dd88_33
theorem dd88_34 : decode cX9_advance 34 = .ok (.aload_n 1, 1) := by decide +kernel
theorem ww88_34 {d : Nat} {l0 l2 l3 l4 l5 l6 : Option mw_V} {x : Nat} {st : List mw_V} {σ : mw_S} {Q : Option mw_V → mw_S → Prop} : mw_WP d 88 34 [l0, some (jR x), l2, l3, l4, l5, l6] st σ Q ↔ mw_WP d 88 35 [l0, some (jR x), l2, l3, l4, l5, l6] (jR x :: st) σ Q := WP_aload_n mq88 dd88_34 rfl
theorem dd88_35 : decode cX9_advance 35 = .ok (.bipush 13, 2) := by decide +kernel
theorem ww88_35 {d : Nat} {l0 l1 l2 l3 l4 l5 l6 : Option mw_V} {st : List mw_V} {σ : mw_S} {Q : Option mw_V → mw_S → Prop} : mw_WP d 88 35 [l0, l1, l2, l3, l4, l5, l6] st σ Q ↔ mw_WP d 88 37 [l0, l1, l2, l3, l4, l5, l6] (jI (13) :: st) σ Q := WP_bipush mq88 dd88_35 (by decide)
theorem dd88_37 : decode cX9_advance 37 = .ok (.iload 4, 2) := by decide +kernel
theorem ww88_37 {d : Nat} {l0 l1 l2 l3 l5 l6 : Option mw_V} {x : Int} {st : List mw_V} {σ : mw_S} {Q : Option mw_V → mw_S → Prop} : mw_WP d 88 37 [l0, l1, l2, l3, some (jI x), l5, l6] st σ Q ↔ mw_WP d 88 39 [l0, l1, l2, l3, some (jI x), l5, l6] (jI x :: st) σ Q := WP_iload mq88 dd88_37 rfl
theorem dd88_39 : decode cX9_advance 39 = .ok (.iadd, 1) := by decide +kernel
theorem ww88_39 {d : Nat} {l0 l1 l2 l3 l4 l5 l6 : Option mw_V} {x y : Int} {st : List mw_V} {σ : mw_S} {Q : Option mw_V → mw_S → Prop} : mw_WP d 88 39 [l0, l1, l2, l3, l4, l5, l6] (jI y :: jI x :: st) σ Q ↔ mw_WP d 88 40 [l0, l1, l2, l3, l4, l5, l6] (jI (w32 (x + y)) :: st) σ Q := WP_iadd mq88 dd88_39
theorem dd88_40 : decode cX9_advance 40 = .ok (.iaload, 1) := by decide +kernel
theorem ww88_40 {d : Nat} {l0 l1 l2 l3 l4 l5 l6 : Option mw_V} {z : Int} {a : Nat} {st : List mw_V} {σ : mw_S} {Q : Option mw_V → mw_S → Prop} : mw_WP d 88 40 [l0, l1, l2, l3, l4, l5, l6] (jI z :: jR a :: st) σ Q ↔ ((0 ≤ z ∧ z < mw_lenI a) ∧ mw_WP d 88 41 [l0, l1, l2, l3, l4, l5, l6] (jI (mw_rdI σ a z.toNat) :: st) σ Q) := WP_iaload mq88 dd88_40
theorem dd88_41 : decode cX9_advance 41 = .ok (.iload 5, 2) := by decide +kernel
theorem ww88_41 {d : Nat} {l0 l1 l2 l3 l4 l6 : Option mw_V} {x : Int} {st : List mw_V} {σ : mw_S} {Q : Option mw_V → mw_S → Prop} : mw_WP d 88 41 [l0, l1, l2, l3, l4, some (jI x), l6] st σ Q ↔ mw_WP d 88 43 [l0, l1, l2, l3, l4, some (jI x), l6] (jI x :: st) σ Q := WP_iload mq88 dd88_41 rfl
theorem dd88_43 : decode cX9_advance 43 = .ok (.invokestatic 31, 3) := by decide +kernel
theorem ww88_43 {d : Nat} {l0 l1 l2 l3 l4 l5 l6 : Option mw_V} {v0 v1 : mw_V} {st : List mw_V} {σ : mw_S} {Q : Option mw_V → mw_S → Prop} (h8 : (st.map mw_cat).sum ≤ 8) : mw_WP d 88 43 [l0, l1, l2, l3, l4, l5, l6] (v1 :: v0 :: st) σ Q ↔ mw_Call d 93 [v0, v1] σ (fun r1 s1 => mw_WP d 88 46 [l0, l1, l2, l3, l4, l5, l6] (r1.toList ++ st) s1 Q) := WP_invs (as := [v1, v0]) mq88 dd88_43 (by decide) mq93 rfl rfl h8
theorem dd88_46 : decode cX9_advance 46 = .ok (.iastore, 1) := by decide +kernel
theorem ww88_46 {d : Nat} {l0 l1 l2 l3 l4 l5 l6 : Option mw_V} {x z : Int} {a : Nat} {st : List mw_V} {σ : mw_S} {Q : Option mw_V → mw_S → Prop} : mw_WP d 88 46 [l0, l1, l2, l3, l4, l5, l6] (jI x :: jI z :: jR a :: st) σ Q ↔ ((0 ≤ z ∧ z < mw_lenW 0 a) ∧ mw_WP d 88 47 [l0, l1, l2, l3, l4, l5, l6] st (upS σ a z.toNat x) Q) := WP_iastore mq88 dd88_46
theorem dd88_47 : decode cX9_advance 47 = .ok (.aload_n 1, 1) := by decide +kernel
theorem ww88_47 {d : Nat} {l0 l2 l3 l4 l5 l6 : Option mw_V} {x : Nat} {st : List mw_V} {σ : mw_S} {Q : Option mw_V → mw_S → Prop} : mw_WP d 88 47 [l0, some (jR x), l2, l3, l4, l5, l6] st σ Q ↔ mw_WP d 88 48 [l0, some (jR x), l2, l3, l4, l5, l6] (jR x :: st) σ Q := WP_aload_n mq88 dd88_47 rfl
theorem dd88_48 : decode cX9_advance 48 = .ok (.bipush 19, 2) := by decide +kernel
theorem ww88_48 {d : Nat} {l0 l1 l2 l3 l4 l5 l6 : Option mw_V} {st : List mw_V} {σ : mw_S} {Q : Option mw_V → mw_S → Prop} : mw_WP d 88 48 [l0, l1, l2, l3, l4, l5, l6] st σ Q ↔ mw_WP d 88 50 [l0, l1, l2, l3, l4, l5, l6] (jI (19) :: st) σ Q := WP_bipush mq88 dd88_48 (by decide)
theorem dd88_50 : decode cX9_advance 50 = .ok (.iload 4, 2) := by decide +kernel
theorem ww88_50 {d : Nat} {l0 l1 l2 l3 l5 l6 : Option mw_V} {x : Int} {st : List mw_V} {σ : mw_S} {Q : Option mw_V → mw_S → Prop} : mw_WP d 88 50 [l0, l1, l2, l3, some (jI x), l5, l6] st σ Q ↔ mw_WP d 88 52 [l0, l1, l2, l3, some (jI x), l5, l6] (jI x :: st) σ Q := WP_iload mq88 dd88_50 rfl
theorem dd88_52 : decode cX9_advance 52 = .ok (.iadd, 1) := by decide +kernel
theorem ww88_52 {d : Nat} {l0 l1 l2 l3 l4 l5 l6 : Option mw_V} {x y : Int} {st : List mw_V} {σ : mw_S} {Q : Option mw_V → mw_S → Prop} : mw_WP d 88 52 [l0, l1, l2, l3, l4, l5, l6] (jI y :: jI x :: st) σ Q ↔ mw_WP d 88 53 [l0, l1, l2, l3, l4, l5, l6] (jI (w32 (x + y)) :: st) σ Q := WP_iadd mq88 dd88_52
theorem dd88_53 : decode cX9_advance 53 = .ok (.aload_n 0, 1) := by decide +kernel
theorem ww88_53 {d : Nat} {l1 l2 l3 l4 l5 l6 : Option mw_V} {x : Nat} {st : List mw_V} {σ : mw_S} {Q : Option mw_V → mw_S → Prop} : mw_WP d 88 53 [some (jR x), l1, l2, l3, l4, l5, l6] st σ Q ↔ mw_WP d 88 54 [some (jR x), l1, l2, l3, l4, l5, l6] (jR x :: st) σ Q := WP_aload_n mq88 dd88_53 rfl
theorem dd88_54 : decode cX9_advance 54 = .ok (.aload_n 1, 1) := by decide +kernel
theorem ww88_54 {d : Nat} {l0 l2 l3 l4 l5 l6 : Option mw_V} {x : Nat} {st : List mw_V} {σ : mw_S} {Q : Option mw_V → mw_S → Prop} : mw_WP d 88 54 [l0, some (jR x), l2, l3, l4, l5, l6] st σ Q ↔ mw_WP d 88 55 [l0, some (jR x), l2, l3, l4, l5, l6] (jR x :: st) σ Q := WP_aload_n mq88 dd88_54 rfl
theorem dd88_55 : decode cX9_advance 55 = .ok (.iload 4, 2) := by decide +kernel
theorem ww88_55 {d : Nat} {l0 l1 l2 l3 l5 l6 : Option mw_V} {x : Int} {st : List mw_V} {σ : mw_S} {Q : Option mw_V → mw_S → Prop} : mw_WP d 88 55 [l0, l1, l2, l3, some (jI x), l5, l6] st σ Q ↔ mw_WP d 88 57 [l0, l1, l2, l3, some (jI x), l5, l6] (jI x :: st) σ Q := WP_iload mq88 dd88_55 rfl
theorem dd88_57 : decode cX9_advance 57 = .ok (.iload 5, 2) := by decide +kernel
theorem ww88_57 {d : Nat} {l0 l1 l2 l3 l4 l6 : Option mw_V} {x : Int} {st : List mw_V} {σ : mw_S} {Q : Option mw_V → mw_S → Prop} : mw_WP d 88 57 [l0, l1, l2, l3, l4, some (jI x), l6] st σ Q ↔ mw_WP d 88 59 [l0, l1, l2, l3, l4, some (jI x), l6] (jI x :: st) σ Q := WP_iload mq88 dd88_57 rfl
theorem dd88_59 : decode cX9_advance 59 = .ok (.invokevirtual 35, 3) := by decide +kernel
theorem ww88_59 {d : Nat} {l0 l1 l2 l3 l4 l5 l6 : Option mw_V} {v0 v1 v2 : mw_V} {a : Nat} {st : List mw_V} {σ : mw_S} {Q : Option mw_V → mw_S → Prop} (hr : mw_rc a = 9) (h8 : (st.map mw_cat).sum ≤ 8) : mw_WP d 88 59 [l0, l1, l2, l3, l4, l5, l6] (v2 :: v1 :: v0 :: jR a :: st) σ Q ↔ mw_Call d 100 [jR a, v0, v1, v2] σ (fun r1 s1 => mw_WP d 88 62 [l0, l1, l2, l3, l4, l5, l6] (r1.toList ++ st) s1 Q) := WP_inv (as := [v2, v1, v0]) mq88 dd88_59 (by decide) mq100 rfl hr h8
theorem dd88_62 : decode cX9_advance 62 = .ok (.iastore, 1) := by decide +kernel
theorem ww88_62 {d : Nat} {l0 l1 l2 l3 l4 l5 l6 : Option mw_V} {x z : Int} {a : Nat} {st : List mw_V} {σ : mw_S} {Q : Option mw_V → mw_S → Prop} : mw_WP d 88 62 [l0, l1, l2, l3, l4, l5, l6] (jI x :: jI z :: jR a :: st) σ Q ↔ ((0 ≤ z ∧ z < mw_lenW 0 a) ∧ mw_WP d 88 63 [l0, l1, l2, l3, l4, l5, l6] st (upS σ a z.toNat x) Q) := WP_iastore mq88 dd88_62
theorem dd88_63 : decode cX9_advance 63 = .ok (.iinc 4 1, 3) := by decide +kernel
theorem ww88_63 {d : Nat} {l0 l1 l2 l3 l5 l6 : Option mw_V} {x : Int} {st : List mw_V} {σ : mw_S} {Q : Option mw_V → mw_S → Prop} (h : mw_nlo l3 = true) : mw_WP d 88 63 [l0, l1, l2, l3, some (jI x), l5, l6] st σ Q ↔ mw_WP d 88 66 [l0, l1, l2, l3, some (jI (w32 (x + (1)))), l5, l6] st σ Q := WP_iinc mq88 dd88_63 rfl (Nat.le_of_ble_eq_true rfl) (mw_nl_of (i := 3) rfl h) rfl
theorem dd88_66 : decode cX9_advance 66 = .ok (.goto (-61), 3) := by decide +kernel
theorem ww88_66 {d : Nat} {l0 l1 l2 l3 l4 l5 l6 : Option mw_V} {st : List mw_V} {σ : mw_S} {Q : Option mw_V → mw_S → Prop} : mw_WP d 88 66 [l0, l1, l2, l3, l4, l5, l6] st σ Q ↔ mw_WP d 88 5 [l0, l1, l2, l3, l4, l5, l6] st σ Q := WP_goto mq88 dd88_66 (by decide)
theorem dd88_69 : decode cX9_advance 69 = .ok (.iconst 0, 1) := by decide +kernel
theorem ww88_69 {d : Nat} {l0 l1 l2 l3 l4 l5 l6 : Option mw_V} {st : List mw_V} {σ : mw_S} {Q : Option mw_V → mw_S → Prop} : mw_WP d 88 69 [l0, l1, l2, l3, l4, l5, l6] st σ Q ↔ mw_WP d 88 70 [l0, l1, l2, l3, l4, l5, l6] (jI (0) :: st) σ Q := WP_iconst mq88 dd88_69 (by decide)
theorem dd88_70 : decode cX9_advance 70 = .ok (.istore 4, 2) := by decide +kernel
theorem ww88_70 {d : Nat} {l0 l1 l2 l3 l4 l5 l6 : Option mw_V} {x : Int} {st : List mw_V} {σ : mw_S} {Q : Option mw_V → mw_S → Prop} (h : mw_nlo l3 = true) : mw_WP d 88 70 [l0, l1, l2, l3, l4, l5, l6] (jI x :: st) σ Q ↔ mw_WP d 88 72 [l0, l1, l2, l3, some (jI x), l5, l6] st σ Q := WP_istore mq88 dd88_70 (Nat.le_of_ble_eq_true rfl) (mw_nl_of (i := 3) rfl h) rfl
theorem dd88_72 : decode cX9_advance 72 = .ok (.iload 4, 2) := by decide +kernel
theorem ww88_72 {d : Nat} {l0 l1 l2 l3 l5 l6 : Option mw_V} {x : Int} {st : List mw_V} {σ : mw_S} {Q : Option mw_V → mw_S → Prop} : mw_WP d 88 72 [l0, l1, l2, l3, some (jI x), l5, l6] st σ Q ↔ mw_WP d 88 74 [l0, l1, l2, l3, some (jI x), l5, l6] (jI x :: st) σ Q := WP_iload mq88 dd88_72 rfl
theorem dd88_74 : decode cX9_advance 74 = .ok (.aload_n 0, 1) := by decide +kernel
theorem ww88_74 {d : Nat} {l1 l2 l3 l4 l5 l6 : Option mw_V} {x : Nat} {st : List mw_V} {σ : mw_S} {Q : Option mw_V → mw_S → Prop} : mw_WP d 88 74 [some (jR x), l1, l2, l3, l4, l5, l6] st σ Q ↔ mw_WP d 88 75 [some (jR x), l1, l2, l3, l4, l5, l6] (jR x :: st) σ Q := WP_aload_n mq88 dd88_74 rfl
theorem dd88_75 : decode cX9_advance 75 = .ok (.getfield 18, 3) := by decide +kernel
theorem ww88_75 {d : Nat} {l0 l1 l2 l3 l4 l5 l6 : Option mw_V} {st : List mw_V} {σ : mw_S} {Q : Option mw_V → mw_S → Prop} : mw_WP d 88 75 [l0, l1, l2, l3, l4, l5, l6] (jR 22 :: st) σ Q ↔ mw_WP d 88 78 [l0, l1, l2, l3, l4, l5, l6] (jR 13 :: st) σ Q := WP_getR (ci := 8) (k := 0) mq88 dd88_75 (by decide) rfl
theorem dd88_78 : decode cX9_advance 78 = .ok (.getfield 25, 3) := by decide +kernel
theorem ww88_78i3 {d : Nat} {l0 l1 l2 l3 l4 l5 l6 : Option mw_V} {st : List mw_V} {σ : mw_S} {Q : Option mw_V → mw_S → Prop} : mw_WP d 88 78 [l0, l1, l2, l3, l4, l5, l6] (jR 3 :: st) σ Q ↔ mw_WP d 88 81 [l0, l1, l2, l3, l4, l5, l6] (jI (σ 3 1) :: st) σ Q := WP_getI (ci := 0) (k := 1) mq88 dd88_78 (by decide) (Or.inl rfl)
theorem ww88_78i13 {d : Nat} {l0 l1 l2 l3 l4 l5 l6 : Option mw_V} {st : List mw_V} {σ : mw_S} {Q : Option mw_V → mw_S → Prop} : mw_WP d 88 78 [l0, l1, l2, l3, l4, l5, l6] (jR 13 :: st) σ Q ↔ mw_WP d 88 81 [l0, l1, l2, l3, l4, l5, l6] (jI (σ 13 1) :: st) σ Q := WP_getI (ci := 0) (k := 1) mq88 dd88_78 (by decide) (Or.inl rfl)
theorem ww88_78i77 {d : Nat} {l0 l1 l2 l3 l4 l5 l6 : Option mw_V} {st : List mw_V} {σ : mw_S} {Q : Option mw_V → mw_S → Prop} : mw_WP d 88 78 [l0, l1, l2, l3, l4, l5, l6] (jR 77 :: st) σ Q ↔ mw_WP d 88 81 [l0, l1, l2, l3, l4, l5, l6] (jI (σ 77 1) :: st) σ Q := WP_getI (ci := 0) (k := 1) mq88 dd88_78 (by decide) (Or.inl rfl)
theorem ww88_78i88 {d : Nat} {l0 l1 l2 l3 l4 l5 l6 : Option mw_V} {st : List mw_V} {σ : mw_S} {Q : Option mw_V → mw_S → Prop} : mw_WP d 88 78 [l0, l1, l2, l3, l4, l5, l6] (jR 88 :: st) σ Q ↔ mw_WP d 88 81 [l0, l1, l2, l3, l4, l5, l6] (jI (σ 88 1) :: st) σ Q := WP_getI (ci := 0) (k := 1) mq88 dd88_78 (by decide) (Or.inl rfl)
theorem dd88_81 : decode cX9_advance 81 = .ok (.if_icmp .ge 90, 3) := by decide +kernel
theorem ww88_81 {d : Nat} {l0 l1 l2 l3 l4 l5 l6 : Option mw_V} {x y : Int} {st : List mw_V} {σ : mw_S} {Q : Option mw_V → mw_S → Prop} : mw_WP d 88 81 [l0, l1, l2, l3, l4, l5, l6] (jI y :: jI x :: st) σ Q ↔ (if y ≤ x then mw_WP d 88 171 [l0, l1, l2, l3, l4, l5, l6] st σ Q else mw_WP d 88 84 [l0, l1, l2, l3, l4, l5, l6] st σ Q) := WP_icmp_ge mq88 dd88_81 (by decide)
theorem dd88_84 : decode cX9_advance 84 = .ok (.aload_n 0, 1) := by decide +kernel
theorem ww88_84 {d : Nat} {l1 l2 l3 l4 l5 l6 : Option mw_V} {x : Nat} {st : List mw_V} {σ : mw_S} {Q : Option mw_V → mw_S → Prop} : mw_WP d 88 84 [some (jR x), l1, l2, l3, l4, l5, l6] st σ Q ↔ mw_WP d 88 85 [some (jR x), l1, l2, l3, l4, l5, l6] (jR x :: st) σ Q := WP_aload_n mq88 dd88_84 rfl
theorem dd88_85 : decode cX9_advance 85 = .ok (.aload_n 1, 1) := by decide +kernel
theorem ww88_85 {d : Nat} {l0 l2 l3 l4 l5 l6 : Option mw_V} {x : Nat} {st : List mw_V} {σ : mw_S} {Q : Option mw_V → mw_S → Prop} : mw_WP d 88 85 [l0, some (jR x), l2, l3, l4, l5, l6] st σ Q ↔ mw_WP d 88 86 [l0, some (jR x), l2, l3, l4, l5, l6] (jR x :: st) σ Q := WP_aload_n mq88 dd88_85 rfl
theorem dd88_86 : decode cX9_advance 86 = .ok (.bipush 13, 2) := by decide +kernel
theorem ww88_86 {d : Nat} {l0 l1 l2 l3 l4 l5 l6 : Option mw_V} {st : List mw_V} {σ : mw_S} {Q : Option mw_V → mw_S → Prop} : mw_WP d 88 86 [l0, l1, l2, l3, l4, l5, l6] st σ Q ↔ mw_WP d 88 88 [l0, l1, l2, l3, l4, l5, l6] (jI (13) :: st) σ Q := WP_bipush mq88 dd88_86 (by decide)
theorem dd88_88 : decode cX9_advance 88 = .ok (.iload 4, 2) := by decide +kernel
theorem ww88_88 {d : Nat} {l0 l1 l2 l3 l5 l6 : Option mw_V} {x : Int} {st : List mw_V} {σ : mw_S} {Q : Option mw_V → mw_S → Prop} : mw_WP d 88 88 [l0, l1, l2, l3, some (jI x), l5, l6] st σ Q ↔ mw_WP d 88 90 [l0, l1, l2, l3, some (jI x), l5, l6] (jI x :: st) σ Q := WP_iload mq88 dd88_88 rfl
theorem dd88_90 : decode cX9_advance 90 = .ok (.iadd, 1) := by decide +kernel
theorem ww88_90 {d : Nat} {l0 l1 l2 l3 l4 l5 l6 : Option mw_V} {x y : Int} {st : List mw_V} {σ : mw_S} {Q : Option mw_V → mw_S → Prop} : mw_WP d 88 90 [l0, l1, l2, l3, l4, l5, l6] (jI y :: jI x :: st) σ Q ↔ mw_WP d 88 91 [l0, l1, l2, l3, l4, l5, l6] (jI (w32 (x + y)) :: st) σ Q := WP_iadd mq88 dd88_90
theorem dd88_91 : decode cX9_advance 91 = .ok (.iaload, 1) := by decide +kernel
theorem ww88_91 {d : Nat} {l0 l1 l2 l3 l4 l5 l6 : Option mw_V} {z : Int} {a : Nat} {st : List mw_V} {σ : mw_S} {Q : Option mw_V → mw_S → Prop} : mw_WP d 88 91 [l0, l1, l2, l3, l4, l5, l6] (jI z :: jR a :: st) σ Q ↔ ((0 ≤ z ∧ z < mw_lenI a) ∧ mw_WP d 88 92 [l0, l1, l2, l3, l4, l5, l6] (jI (mw_rdI σ a z.toNat) :: st) σ Q) := WP_iaload mq88 dd88_91
theorem dd88_92 : decode cX9_advance 92 = .ok (.iload 4, 2) := by decide +kernel
theorem ww88_92 {d : Nat} {l0 l1 l2 l3 l5 l6 : Option mw_V} {x : Int} {st : List mw_V} {σ : mw_S} {Q : Option mw_V → mw_S → Prop} : mw_WP d 88 92 [l0, l1, l2, l3, some (jI x), l5, l6] st σ Q ↔ mw_WP d 88 94 [l0, l1, l2, l3, some (jI x), l5, l6] (jI x :: st) σ Q := WP_iload mq88 dd88_92 rfl
theorem dd88_94 : decode cX9_advance 94 = .ok (.invokevirtual 39, 3) := by decide +kernel
theorem ww88_94 {d : Nat} {l0 l1 l2 l3 l4 l5 l6 : Option mw_V} {v0 v1 : mw_V} {a : Nat} {st : List mw_V} {σ : mw_S} {Q : Option mw_V → mw_S → Prop} (hr : mw_rc a = 9) (h8 : (st.map mw_cat).sum ≤ 8) : mw_WP d 88 94 [l0, l1, l2, l3, l4, l5, l6] (v1 :: v0 :: jR a :: st) σ Q ↔ mw_Call d 92 [jR a, v0, v1] σ (fun r1 s1 => mw_WP d 88 97 [l0, l1, l2, l3, l4, l5, l6] (r1.toList ++ st) s1 Q) := WP_inv (as := [v1, v0]) mq88 dd88_94 (by decide) mq92 rfl hr h8
theorem dd88_97 : decode cX9_advance 97 = .ok (.istore 5, 2) := by decide +kernel
theorem ww88_97 {d : Nat} {l0 l1 l2 l3 l4 l5 l6 : Option mw_V} {x : Int} {st : List mw_V} {σ : mw_S} {Q : Option mw_V → mw_S → Prop} (h : mw_nlo l4 = true) : mw_WP d 88 97 [l0, l1, l2, l3, l4, l5, l6] (jI x :: st) σ Q ↔ mw_WP d 88 99 [l0, l1, l2, l3, l4, some (jI x), l6] st σ Q := WP_istore mq88 dd88_97 (Nat.le_of_ble_eq_true rfl) (mw_nl_of (i := 4) rfl h) rfl
theorem dd88_99 : decode cX9_advance 99 = .ok (.aload_n 1, 1) := by decide +kernel
theorem ww88_99 {d : Nat} {l0 l2 l3 l4 l5 l6 : Option mw_V} {x : Nat} {st : List mw_V} {σ : mw_S} {Q : Option mw_V → mw_S → Prop} : mw_WP d 88 99 [l0, some (jR x), l2, l3, l4, l5, l6] st σ Q ↔ mw_WP d 88 100 [l0, some (jR x), l2, l3, l4, l5, l6] (jR x :: st) σ Q := WP_aload_n mq88 dd88_99 rfl
theorem dd88_100 : decode cX9_advance 100 = .ok (.bipush 10, 2) := by decide +kernel
theorem ww88_100 {d : Nat} {l0 l1 l2 l3 l4 l5 l6 : Option mw_V} {st : List mw_V} {σ : mw_S} {Q : Option mw_V → mw_S → Prop} : mw_WP d 88 100 [l0, l1, l2, l3, l4, l5, l6] st σ Q ↔ mw_WP d 88 102 [l0, l1, l2, l3, l4, l5, l6] (jI (10) :: st) σ Q := WP_bipush mq88 dd88_100 (by decide)
theorem dd88_102 : decode cX9_advance 102 = .ok (.iload 4, 2) := by decide +kernel
theorem ww88_102 {d : Nat} {l0 l1 l2 l3 l5 l6 : Option mw_V} {x : Int} {st : List mw_V} {σ : mw_S} {Q : Option mw_V → mw_S → Prop} : mw_WP d 88 102 [l0, l1, l2, l3, some (jI x), l5, l6] st σ Q ↔ mw_WP d 88 104 [l0, l1, l2, l3, some (jI x), l5, l6] (jI x :: st) σ Q := WP_iload mq88 dd88_102 rfl
theorem dd88_104 : decode cX9_advance 104 = .ok (.iadd, 1) := by decide +kernel
theorem ww88_104 {d : Nat} {l0 l1 l2 l3 l4 l5 l6 : Option mw_V} {x y : Int} {st : List mw_V} {σ : mw_S} {Q : Option mw_V → mw_S → Prop} : mw_WP d 88 104 [l0, l1, l2, l3, l4, l5, l6] (jI y :: jI x :: st) σ Q ↔ mw_WP d 88 105 [l0, l1, l2, l3, l4, l5, l6] (jI (w32 (x + y)) :: st) σ Q := WP_iadd mq88 dd88_104
theorem dd88_105 : decode cX9_advance 105 = .ok (.aload_n 1, 1) := by decide +kernel
theorem ww88_105 {d : Nat} {l0 l2 l3 l4 l5 l6 : Option mw_V} {x : Nat} {st : List mw_V} {σ : mw_S} {Q : Option mw_V → mw_S → Prop} : mw_WP d 88 105 [l0, some (jR x), l2, l3, l4, l5, l6] st σ Q ↔ mw_WP d 88 106 [l0, some (jR x), l2, l3, l4, l5, l6] (jR x :: st) σ Q := WP_aload_n mq88 dd88_105 rfl
theorem dd88_106 : decode cX9_advance 106 = .ok (.iload 4, 2) := by decide +kernel
theorem ww88_106 {d : Nat} {l0 l1 l2 l3 l5 l6 : Option mw_V} {x : Int} {st : List mw_V} {σ : mw_S} {Q : Option mw_V → mw_S → Prop} : mw_WP d 88 106 [l0, l1, l2, l3, some (jI x), l5, l6] st σ Q ↔ mw_WP d 88 108 [l0, l1, l2, l3, some (jI x), l5, l6] (jI x :: st) σ Q := WP_iload mq88 dd88_106 rfl
theorem dd88_108 : decode cX9_advance 108 = .ok (.iload 5, 2) := by decide +kernel
theorem ww88_108 {d : Nat} {l0 l1 l2 l3 l4 l6 : Option mw_V} {x : Int} {st : List mw_V} {σ : mw_S} {Q : Option mw_V → mw_S → Prop} : mw_WP d 88 108 [l0, l1, l2, l3, l4, some (jI x), l6] st σ Q ↔ mw_WP d 88 110 [l0, l1, l2, l3, l4, some (jI x), l6] (jI x :: st) σ Q := WP_iload mq88 dd88_108 rfl
theorem dd88_110 : decode cX9_advance 110 = .ok (.invokestatic 42, 3) := by decide +kernel
theorem ww88_110 {d : Nat} {l0 l1 l2 l3 l4 l5 l6 : Option mw_V} {v0 v1 v2 : mw_V} {st : List mw_V} {σ : mw_S} {Q : Option mw_V → mw_S → Prop} (h8 : (st.map mw_cat).sum ≤ 8) : mw_WP d 88 110 [l0, l1, l2, l3, l4, l5, l6] (v2 :: v1 :: v0 :: st) σ Q ↔ mw_Call d 95 [v0, v1, v2] σ (fun r1 s1 => mw_WP d 88 113 [l0, l1, l2, l3, l4, l5, l6] (r1.toList ++ st) s1 Q) := WP_invs (as := [v2, v1, v0]) mq88 dd88_110 (by decide) mq95 rfl rfl h8
theorem dd88_113 : decode cX9_advance 113 = .ok (.iastore, 1) := by decide +kernel
theorem ww88_113 {d : Nat} {l0 l1 l2 l3 l4 l5 l6 : Option mw_V} {x z : Int} {a : Nat} {st : List mw_V} {σ : mw_S} {Q : Option mw_V → mw_S → Prop} : mw_WP d 88 113 [l0, l1, l2, l3, l4, l5, l6] (jI x :: jI z :: jR a :: st) σ Q ↔ ((0 ≤ z ∧ z < mw_lenW 0 a) ∧ mw_WP d 88 114 [l0, l1, l2, l3, l4, l5, l6] st (upS σ a z.toNat x) Q) := WP_iastore mq88 dd88_113
theorem dd88_114 : decode cX9_advance 114 = .ok (.aload_n 0, 1) := by decide +kernel
theorem ww88_114 {d : Nat} {l1 l2 l3 l4 l5 l6 : Option mw_V} {x : Nat} {st : List mw_V} {σ : mw_S} {Q : Option mw_V → mw_S → Prop} : mw_WP d 88 114 [some (jR x), l1, l2, l3, l4, l5, l6] st σ Q ↔ mw_WP d 88 115 [some (jR x), l1, l2, l3, l4, l5, l6] (jR x :: st) σ Q := WP_aload_n mq88 dd88_114 rfl
theorem dd88_115 : decode cX9_advance 115 = .ok (.aload_n 1, 1) := by decide +kernel
theorem ww88_115 {d : Nat} {l0 l2 l3 l4 l5 l6 : Option mw_V} {x : Nat} {st : List mw_V} {σ : mw_S} {Q : Option mw_V → mw_S → Prop} : mw_WP d 88 115 [l0, some (jR x), l2, l3, l4, l5, l6] st σ Q ↔ mw_WP d 88 116 [l0, some (jR x), l2, l3, l4, l5, l6] (jR x :: st) σ Q := WP_aload_n mq88 dd88_115 rfl
theorem dd88_116 : decode cX9_advance 116 = .ok (.iload 4, 2) := by decide +kernel
theorem ww88_116 {d : Nat} {l0 l1 l2 l3 l5 l6 : Option mw_V} {x : Int} {st : List mw_V} {σ : mw_S} {Q : Option mw_V → mw_S → Prop} : mw_WP d 88 116 [l0, l1, l2, l3, some (jI x), l5, l6] st σ Q ↔ mw_WP d 88 118 [l0, l1, l2, l3, some (jI x), l5, l6] (jI x :: st) σ Q := WP_iload mq88 dd88_116 rfl
theorem dd88_118 : decode cX9_advance 118 = .ok (.iload 5, 2) := by decide +kernel
theorem ww88_118 {d : Nat} {l0 l1 l2 l3 l4 l6 : Option mw_V} {x : Int} {st : List mw_V} {σ : mw_S} {Q : Option mw_V → mw_S → Prop} : mw_WP d 88 118 [l0, l1, l2, l3, l4, some (jI x), l6] st σ Q ↔ mw_WP d 88 120 [l0, l1, l2, l3, l4, some (jI x), l6] (jI x :: st) σ Q := WP_iload mq88 dd88_118 rfl
theorem dd88_120 : decode cX9_advance 120 = .ok (.aload_n 1, 1) := by decide +kernel
theorem ww88_120 {d : Nat} {l0 l2 l3 l4 l5 l6 : Option mw_V} {x : Nat} {st : List mw_V} {σ : mw_S} {Q : Option mw_V → mw_S → Prop} : mw_WP d 88 120 [l0, some (jR x), l2, l3, l4, l5, l6] st σ Q ↔ mw_WP d 88 121 [l0, some (jR x), l2, l3, l4, l5, l6] (jR x :: st) σ Q := WP_aload_n mq88 dd88_120 rfl
theorem dd88_121 : decode cX9_advance 121 = .ok (.iconst 0, 1) := by decide +kernel
theorem ww88_121 {d : Nat} {l0 l1 l2 l3 l4 l5 l6 : Option mw_V} {st : List mw_V} {σ : mw_S} {Q : Option mw_V → mw_S → Prop} : mw_WP d 88 121 [l0, l1, l2, l3, l4, l5, l6] st σ Q ↔ mw_WP d 88 122 [l0, l1, l2, l3, l4, l5, l6] (jI (0) :: st) σ Q := WP_iconst mq88 dd88_121 (by decide)
theorem dd88_122 : decode cX9_advance 122 = .ok (.iload 4, 2) := by decide +kernel
theorem ww88_122 {d : Nat} {l0 l1 l2 l3 l5 l6 : Option mw_V} {x : Int} {st : List mw_V} {σ : mw_S} {Q : Option mw_V → mw_S → Prop} : mw_WP d 88 122 [l0, l1, l2, l3, some (jI x), l5, l6] st σ Q ↔ mw_WP d 88 124 [l0, l1, l2, l3, some (jI x), l5, l6] (jI x :: st) σ Q := WP_iload mq88 dd88_122 rfl
theorem dd88_124 : decode cX9_advance 124 = .ok (.iadd, 1) := by decide +kernel
theorem ww88_124 {d : Nat} {l0 l1 l2 l3 l4 l5 l6 : Option mw_V} {x y : Int} {st : List mw_V} {σ : mw_S} {Q : Option mw_V → mw_S → Prop} : mw_WP d 88 124 [l0, l1, l2, l3, l4, l5, l6] (jI y :: jI x :: st) σ Q ↔ mw_WP d 88 125 [l0, l1, l2, l3, l4, l5, l6] (jI (w32 (x + y)) :: st) σ Q := WP_iadd mq88 dd88_124
theorem dd88_125 : decode cX9_advance 125 = .ok (.iaload, 1) := by decide +kernel
theorem ww88_125 {d : Nat} {l0 l1 l2 l3 l4 l5 l6 : Option mw_V} {z : Int} {a : Nat} {st : List mw_V} {σ : mw_S} {Q : Option mw_V → mw_S → Prop} : mw_WP d 88 125 [l0, l1, l2, l3, l4, l5, l6] (jI z :: jR a :: st) σ Q ↔ ((0 ≤ z ∧ z < mw_lenI a) ∧ mw_WP d 88 126 [l0, l1, l2, l3, l4, l5, l6] (jI (mw_rdI σ a z.toNat) :: st) σ Q) := WP_iaload mq88 dd88_125
theorem dd88_126 : decode cX9_advance 126 = .ok (.aload_n 1, 1) := by decide +kernel
theorem ww88_126 {d : Nat} {l0 l2 l3 l4 l5 l6 : Option mw_V} {x : Nat} {st : List mw_V} {σ : mw_S} {Q : Option mw_V → mw_S → Prop} : mw_WP d 88 126 [l0, some (jR x), l2, l3, l4, l5, l6] st σ Q ↔ mw_WP d 88 127 [l0, some (jR x), l2, l3, l4, l5, l6] (jR x :: st) σ Q := WP_aload_n mq88 dd88_126 rfl
theorem dd88_127 : decode cX9_advance 127 = .ok (.bipush 10, 2) := by decide +kernel
theorem ww88_127 {d : Nat} {l0 l1 l2 l3 l4 l5 l6 : Option mw_V} {st : List mw_V} {σ : mw_S} {Q : Option mw_V → mw_S → Prop} : mw_WP d 88 127 [l0, l1, l2, l3, l4, l5, l6] st σ Q ↔ mw_WP d 88 129 [l0, l1, l2, l3, l4, l5, l6] (jI (10) :: st) σ Q := WP_bipush mq88 dd88_127 (by decide)
theorem dd88_129 : decode cX9_advance 129 = .ok (.iload 4, 2) := by decide +kernel
theorem ww88_129 {d : Nat} {l0 l1 l2 l3 l5 l6 : Option mw_V} {x : Int} {st : List mw_V} {σ : mw_S} {Q : Option mw_V → mw_S → Prop} : mw_WP d 88 129 [l0, l1, l2, l3, some (jI x), l5, l6] st σ Q ↔ mw_WP d 88 131 [l0, l1, l2, l3, some (jI x), l5, l6] (jI x :: st) σ Q := WP_iload mq88 dd88_129 rfl
theorem dd88_131 : decode cX9_advance 131 = .ok (.iadd, 1) := by decide +kernel
theorem ww88_131 {d : Nat} {l0 l1 l2 l3 l4 l5 l6 : Option mw_V} {x y : Int} {st : List mw_V} {σ : mw_S} {Q : Option mw_V → mw_S → Prop} : mw_WP d 88 131 [l0, l1, l2, l3, l4, l5, l6] (jI y :: jI x :: st) σ Q ↔ mw_WP d 88 132 [l0, l1, l2, l3, l4, l5, l6] (jI (w32 (x + y)) :: st) σ Q := WP_iadd mq88 dd88_131
theorem dd88_132 : decode cX9_advance 132 = .ok (.iaload, 1) := by decide +kernel
theorem ww88_132 {d : Nat} {l0 l1 l2 l3 l4 l5 l6 : Option mw_V} {z : Int} {a : Nat} {st : List mw_V} {σ : mw_S} {Q : Option mw_V → mw_S → Prop} : mw_WP d 88 132 [l0, l1, l2, l3, l4, l5, l6] (jI z :: jR a :: st) σ Q ↔ ((0 ≤ z ∧ z < mw_lenI a) ∧ mw_WP d 88 133 [l0, l1, l2, l3, l4, l5, l6] (jI (mw_rdI σ a z.toNat) :: st) σ Q) := WP_iaload mq88 dd88_132
theorem dd88_133 : decode cX9_advance 133 = .ok (.invokevirtual 45, 3) := by decide +kernel
theorem ww88_133 {d : Nat} {l0 l1 l2 l3 l4 l5 l6 : Option mw_V} {v0 v1 v2 v3 v4 : mw_V} {a : Nat} {st : List mw_V} {σ : mw_S} {Q : Option mw_V → mw_S → Prop} (hr : mw_rc a = 9) (h8 : (st.map mw_cat).sum ≤ 8) : mw_WP d 88 133 [l0, l1, l2, l3, l4, l5, l6] (v4 :: v3 :: v2 :: v1 :: v0 :: jR a :: st) σ Q ↔ mw_Call d 104 [jR a, v0, v1, v2, v3, v4] σ (fun r1 s1 => mw_WP d 88 136 [l0, l1, l2, l3, l4, l5, l6] (r1.toList ++ st) s1 Q) := WP_inv (as := [v4, v3, v2, v1, v0]) mq88 dd88_133 (by decide) mq104 rfl hr h8
theorem dd88_136 : decode cX9_advance 136 = .ok (.istore 6, 2) := by decide +kernel
theorem ww88_136 {d : Nat} {l0 l1 l2 l3 l4 l5 l6 : Option mw_V} {x : Int} {st : List mw_V} {σ : mw_S} {Q : Option mw_V → mw_S → Prop} (h : mw_nlo l5 = true) : mw_WP d 88 136 [l0, l1, l2, l3, l4, l5, l6] (jI x :: st) σ Q ↔ mw_WP d 88 138 [l0, l1, l2, l3, l4, l5, some (jI x)] st σ Q := WP_istore mq88 dd88_136 (Nat.le_of_ble_eq_true rfl) (mw_nl_of (i := 5) rfl h) rfl
theorem dd88_138 : decode cX9_advance 138 = .ok (.aload_n 1, 1) := by decide +kernel
theorem ww88_138 {d : Nat} {l0 l2 l3 l4 l5 l6 : Option mw_V} {x : Nat} {st : List mw_V} {σ : mw_S} {Q : Option mw_V → mw_S → Prop} : mw_WP d 88 138 [l0, some (jR x), l2, l3, l4, l5, l6] st σ Q ↔ mw_WP d 88 139 [l0, some (jR x), l2, l3, l4, l5, l6] (jR x :: st) σ Q := WP_aload_n mq88 dd88_138 rfl
theorem dd88_139 : decode cX9_advance 139 = .ok (.bipush 16, 2) := by decide +kernel
theorem ww88_139 {d : Nat} {l0 l1 l2 l3 l4 l5 l6 : Option mw_V} {st : List mw_V} {σ : mw_S} {Q : Option mw_V → mw_S → Prop} : mw_WP d 88 139 [l0, l1, l2, l3, l4, l5, l6] st σ Q ↔ mw_WP d 88 141 [l0, l1, l2, l3, l4, l5, l6] (jI (16) :: st) σ Q := WP_bipush mq88 dd88_139 (by decide)
theorem dd88_141 : decode cX9_advance 141 = .ok (.iload 4, 2) := by decide +kernel
theorem ww88_141 {d : Nat} {l0 l1 l2 l3 l5 l6 : Option mw_V} {x : Int} {st : List mw_V} {σ : mw_S} {Q : Option mw_V → mw_S → Prop} : mw_WP d 88 141 [l0, l1, l2, l3, some (jI x), l5, l6] st σ Q ↔ mw_WP d 88 143 [l0, l1, l2, l3, some (jI x), l5, l6] (jI x :: st) σ Q := WP_iload mq88 dd88_141 rfl
theorem dd88_143 : decode cX9_advance 143 = .ok (.iadd, 1) := by decide +kernel
theorem ww88_143 {d : Nat} {l0 l1 l2 l3 l4 l5 l6 : Option mw_V} {x y : Int} {st : List mw_V} {σ : mw_S} {Q : Option mw_V → mw_S → Prop} : mw_WP d 88 143 [l0, l1, l2, l3, l4, l5, l6] (jI y :: jI x :: st) σ Q ↔ mw_WP d 88 144 [l0, l1, l2, l3, l4, l5, l6] (jI (w32 (x + y)) :: st) σ Q := WP_iadd mq88 dd88_143
theorem dd88_144 : decode cX9_advance 144 = .ok (.iload 6, 2) := by decide +kernel
theorem ww88_144 {d : Nat} {l0 l1 l2 l3 l4 l5 : Option mw_V} {x : Int} {st : List mw_V} {σ : mw_S} {Q : Option mw_V → mw_S → Prop} : mw_WP d 88 144 [l0, l1, l2, l3, l4, l5, some (jI x)] st σ Q ↔ mw_WP d 88 146 [l0, l1, l2, l3, l4, l5, some (jI x)] (jI x :: st) σ Q := WP_iload mq88 dd88_144 rfl
theorem dd88_146 : decode cX9_advance 146 = .ok (.iastore, 1) := by decide +kernel
theorem ww88_146 {d : Nat} {l0 l1 l2 l3 l4 l5 l6 : Option mw_V} {x z : Int} {a : Nat} {st : List mw_V} {σ : mw_S} {Q : Option mw_V → mw_S → Prop} : mw_WP d 88 146 [l0, l1, l2, l3, l4, l5, l6] (jI x :: jI z :: jR a :: st) σ Q ↔ ((0 ≤ z ∧ z < mw_lenW 0 a) ∧ mw_WP d 88 147 [l0, l1, l2, l3, l4, l5, l6] st (upS σ a z.toNat x) Q) := WP_iastore mq88 dd88_146
theorem dd88_147 : decode cX9_advance 147 = .ok (.aload_n 1, 1) := by decide +kernel
theorem ww88_147 {d : Nat} {l0 l2 l3 l4 l5 l6 : Option mw_V} {x : Nat} {st : List mw_V} {σ : mw_S} {Q : Option mw_V → mw_S → Prop} : mw_WP d 88 147 [l0, some (jR x), l2, l3, l4, l5, l6] st σ Q ↔ mw_WP d 88 148 [l0, some (jR x), l2, l3, l4, l5, l6] (jR x :: st) σ Q := WP_aload_n mq88 dd88_147 rfl
theorem dd88_148 : decode cX9_advance 148 = .ok (.bipush 22, 2) := by decide +kernel
theorem ww88_148 {d : Nat} {l0 l1 l2 l3 l4 l5 l6 : Option mw_V} {st : List mw_V} {σ : mw_S} {Q : Option mw_V → mw_S → Prop} : mw_WP d 88 148 [l0, l1, l2, l3, l4, l5, l6] st σ Q ↔ mw_WP d 88 150 [l0, l1, l2, l3, l4, l5, l6] (jI (22) :: st) σ Q := WP_bipush mq88 dd88_148 (by decide)
theorem dd88_150 : decode cX9_advance 150 = .ok (.iload 4, 2) := by decide +kernel
theorem ww88_150 {d : Nat} {l0 l1 l2 l3 l5 l6 : Option mw_V} {x : Int} {st : List mw_V} {σ : mw_S} {Q : Option mw_V → mw_S → Prop} : mw_WP d 88 150 [l0, l1, l2, l3, some (jI x), l5, l6] st σ Q ↔ mw_WP d 88 152 [l0, l1, l2, l3, some (jI x), l5, l6] (jI x :: st) σ Q := WP_iload mq88 dd88_150 rfl
theorem dd88_152 : decode cX9_advance 152 = .ok (.iadd, 1) := by decide +kernel
theorem ww88_152 {d : Nat} {l0 l1 l2 l3 l4 l5 l6 : Option mw_V} {x y : Int} {st : List mw_V} {σ : mw_S} {Q : Option mw_V → mw_S → Prop} : mw_WP d 88 152 [l0, l1, l2, l3, l4, l5, l6] (jI y :: jI x :: st) σ Q ↔ mw_WP d 88 153 [l0, l1, l2, l3, l4, l5, l6] (jI (w32 (x + y)) :: st) σ Q := WP_iadd mq88 dd88_152
theorem dd88_153 : decode cX9_advance 153 = .ok (.aload_n 0, 1) := by decide +kernel
theorem ww88_153 {d : Nat} {l1 l2 l3 l4 l5 l6 : Option mw_V} {x : Nat} {st : List mw_V} {σ : mw_S} {Q : Option mw_V → mw_S → Prop} : mw_WP d 88 153 [some (jR x), l1, l2, l3, l4, l5, l6] st σ Q ↔ mw_WP d 88 154 [some (jR x), l1, l2, l3, l4, l5, l6] (jR x :: st) σ Q := WP_aload_n mq88 dd88_153 rfl
theorem dd88_154 : decode cX9_advance 154 = .ok (.aload_n 1, 1) := by decide +kernel
theorem ww88_154 {d : Nat} {l0 l2 l3 l4 l5 l6 : Option mw_V} {x : Nat} {st : List mw_V} {σ : mw_S} {Q : Option mw_V → mw_S → Prop} : mw_WP d 88 154 [l0, some (jR x), l2, l3, l4, l5, l6] st σ Q ↔ mw_WP d 88 155 [l0, some (jR x), l2, l3, l4, l5, l6] (jR x :: st) σ Q := WP_aload_n mq88 dd88_154 rfl
theorem dd88_155 : decode cX9_advance 155 = .ok (.iconst 3, 1) := by decide +kernel
theorem ww88_155 {d : Nat} {l0 l1 l2 l3 l4 l5 l6 : Option mw_V} {st : List mw_V} {σ : mw_S} {Q : Option mw_V → mw_S → Prop} : mw_WP d 88 155 [l0, l1, l2, l3, l4, l5, l6] st σ Q ↔ mw_WP d 88 156 [l0, l1, l2, l3, l4, l5, l6] (jI (3) :: st) σ Q := WP_iconst mq88 dd88_155 (by decide)
theorem dd88_156 : decode cX9_advance 156 = .ok (.iload 4, 2) := by decide +kernel
theorem ww88_156 {d : Nat} {l0 l1 l2 l3 l5 l6 : Option mw_V} {x : Int} {st : List mw_V} {σ : mw_S} {Q : Option mw_V → mw_S → Prop} : mw_WP d 88 156 [l0, l1, l2, l3, some (jI x), l5, l6] st σ Q ↔ mw_WP d 88 158 [l0, l1, l2, l3, some (jI x), l5, l6] (jI x :: st) σ Q := WP_iload mq88 dd88_156 rfl
theorem dd88_158 : decode cX9_advance 158 = .ok (.iadd, 1) := by decide +kernel
theorem ww88_158 {d : Nat} {l0 l1 l2 l3 l4 l5 l6 : Option mw_V} {x y : Int} {st : List mw_V} {σ : mw_S} {Q : Option mw_V → mw_S → Prop} : mw_WP d 88 158 [l0, l1, l2, l3, l4, l5, l6] (jI y :: jI x :: st) σ Q ↔ mw_WP d 88 159 [l0, l1, l2, l3, l4, l5, l6] (jI (w32 (x + y)) :: st) σ Q := WP_iadd mq88 dd88_158
theorem dd88_159 : decode cX9_advance 159 = .ok (.iload 6, 2) := by decide +kernel
theorem ww88_159 {d : Nat} {l0 l1 l2 l3 l4 l5 : Option mw_V} {x : Int} {st : List mw_V} {σ : mw_S} {Q : Option mw_V → mw_S → Prop} : mw_WP d 88 159 [l0, l1, l2, l3, l4, l5, some (jI x)] st σ Q ↔ mw_WP d 88 161 [l0, l1, l2, l3, l4, l5, some (jI x)] (jI x :: st) σ Q := WP_iload mq88 dd88_159 rfl
theorem dd88_161 : decode cX9_advance 161 = .ok (.invokevirtual 35, 3) := by decide +kernel
theorem ww88_161 {d : Nat} {l0 l1 l2 l3 l4 l5 l6 : Option mw_V} {v0 v1 v2 : mw_V} {a : Nat} {st : List mw_V} {σ : mw_S} {Q : Option mw_V → mw_S → Prop} (hr : mw_rc a = 9) (h8 : (st.map mw_cat).sum ≤ 8) : mw_WP d 88 161 [l0, l1, l2, l3, l4, l5, l6] (v2 :: v1 :: v0 :: jR a :: st) σ Q ↔ mw_Call d 100 [jR a, v0, v1, v2] σ (fun r1 s1 => mw_WP d 88 164 [l0, l1, l2, l3, l4, l5, l6] (r1.toList ++ st) s1 Q) := WP_inv (as := [v2, v1, v0]) mq88 dd88_161 (by decide) mq100 rfl hr h8
theorem dd88_164 : decode cX9_advance 164 = .ok (.iastore, 1) := by decide +kernel
theorem ww88_164 {d : Nat} {l0 l1 l2 l3 l4 l5 l6 : Option mw_V} {x z : Int} {a : Nat} {st : List mw_V} {σ : mw_S} {Q : Option mw_V → mw_S → Prop} : mw_WP d 88 164 [l0, l1, l2, l3, l4, l5, l6] (jI x :: jI z :: jR a :: st) σ Q ↔ ((0 ≤ z ∧ z < mw_lenW 0 a) ∧ mw_WP d 88 165 [l0, l1, l2, l3, l4, l5, l6] st (upS σ a z.toNat x) Q) := WP_iastore mq88 dd88_164
theorem dd88_165 : decode cX9_advance 165 = .ok (.iinc 4 1, 3) := by decide +kernel
theorem ww88_165 {d : Nat} {l0 l1 l2 l3 l5 l6 : Option mw_V} {x : Int} {st : List mw_V} {σ : mw_S} {Q : Option mw_V → mw_S → Prop} (h : mw_nlo l3 = true) : mw_WP d 88 165 [l0, l1, l2, l3, some (jI x), l5, l6] st σ Q ↔ mw_WP d 88 168 [l0, l1, l2, l3, some (jI (w32 (x + (1)))), l5, l6] st σ Q := WP_iinc mq88 dd88_165 rfl (Nat.le_of_ble_eq_true rfl) (mw_nl_of (i := 3) rfl h) rfl
theorem dd88_168 : decode cX9_advance 168 = .ok (.goto (-96), 3) := by decide +kernel
theorem ww88_168 {d : Nat} {l0 l1 l2 l3 l4 l5 l6 : Option mw_V} {st : List mw_V} {σ : mw_S} {Q : Option mw_V → mw_S → Prop} : mw_WP d 88 168 [l0, l1, l2, l3, l4, l5, l6] st σ Q ↔ mw_WP d 88 72 [l0, l1, l2, l3, l4, l5, l6] st σ Q := WP_goto mq88 dd88_168 (by decide)
theorem dd88_171 : decode cX9_advance 171 = .ok (.aload_n 1, 1) := by decide +kernel
theorem ww88_171 {d : Nat} {l0 l2 l3 l4 l5 l6 : Option mw_V} {x : Nat} {st : List mw_V} {σ : mw_S} {Q : Option mw_V → mw_S → Prop} : mw_WP d 88 171 [l0, some (jR x), l2, l3, l4, l5, l6] st σ Q ↔ mw_WP d 88 172 [l0, some (jR x), l2, l3, l4, l5, l6] (jR x :: st) σ Q := WP_aload_n mq88 dd88_171 rfl
theorem dd88_172 : decode cX9_advance 172 = .ok (.bipush 34, 2) := by decide +kernel
theorem ww88_172 {d : Nat} {l0 l1 l2 l3 l4 l5 l6 : Option mw_V} {st : List mw_V} {σ : mw_S} {Q : Option mw_V → mw_S → Prop} : mw_WP d 88 172 [l0, l1, l2, l3, l4, l5, l6] st σ Q ↔ mw_WP d 88 174 [l0, l1, l2, l3, l4, l5, l6] (jI (34) :: st) σ Q := WP_bipush mq88 dd88_172 (by decide)
theorem dd88_174 : decode cX9_advance 174 = .ok (.dup2, 1) := by decide +kernel
theorem ww88_174 {d : Nat} {l0 l1 l2 l3 l4 l5 l6 : Option mw_V} {v w : mw_V} {st : List mw_V} {σ : mw_S} {Q : Option mw_V → mw_S → Prop} (h : mw_cat v = 1) (h2 : mw_cat w = 1) : mw_WP d 88 174 [l0, l1, l2, l3, l4, l5, l6] (v :: w :: st) σ Q ↔ mw_WP d 88 175 [l0, l1, l2, l3, l4, l5, l6] (v :: w :: v :: w :: st) σ Q := WP_dup2 mq88 dd88_174 h h2
theorem dd88_175 : decode cX9_advance 175 = .ok (.iaload, 1) := by decide +kernel
theorem ww88_175 {d : Nat} {l0 l1 l2 l3 l4 l5 l6 : Option mw_V} {z : Int} {a : Nat} {st : List mw_V} {σ : mw_S} {Q : Option mw_V → mw_S → Prop} : mw_WP d 88 175 [l0, l1, l2, l3, l4, l5, l6] (jI z :: jR a :: st) σ Q ↔ ((0 ≤ z ∧ z < mw_lenI a) ∧ mw_WP d 88 176 [l0, l1, l2, l3, l4, l5, l6] (jI (mw_rdI σ a z.toNat) :: st) σ Q) := WP_iaload mq88 dd88_175
theorem dd88_176 : decode cX9_advance 176 = .ok (.iconst 1, 1) := by decide +kernel
theorem ww88_176 {d : Nat} {l0 l1 l2 l3 l4 l5 l6 : Option mw_V} {st : List mw_V} {σ : mw_S} {Q : Option mw_V → mw_S → Prop} : mw_WP d 88 176 [l0, l1, l2, l3, l4, l5, l6] st σ Q ↔ mw_WP d 88 177 [l0, l1, l2, l3, l4, l5, l6] (jI (1) :: st) σ Q := WP_iconst mq88 dd88_176 (by decide)
theorem dd88_177 : decode cX9_advance 177 = .ok (.iadd, 1) := by decide +kernel
theorem ww88_177 {d : Nat} {l0 l1 l2 l3 l4 l5 l6 : Option mw_V} {x y : Int} {st : List mw_V} {σ : mw_S} {Q : Option mw_V → mw_S → Prop} : mw_WP d 88 177 [l0, l1, l2, l3, l4, l5, l6] (jI y :: jI x :: st) σ Q ↔ mw_WP d 88 178 [l0, l1, l2, l3, l4, l5, l6] (jI (w32 (x + y)) :: st) σ Q := WP_iadd mq88 dd88_177
theorem dd88_178 : decode cX9_advance 178 = .ok (.iastore, 1) := by decide +kernel
theorem ww88_178 {d : Nat} {l0 l1 l2 l3 l4 l5 l6 : Option mw_V} {x z : Int} {a : Nat} {st : List mw_V} {σ : mw_S} {Q : Option mw_V → mw_S → Prop} : mw_WP d 88 178 [l0, l1, l2, l3, l4, l5, l6] (jI x :: jI z :: jR a :: st) σ Q ↔ ((0 ≤ z ∧ z < mw_lenW 0 a) ∧ mw_WP d 88 179 [l0, l1, l2, l3, l4, l5, l6] st (upS σ a z.toNat x) Q) := WP_iastore mq88 dd88_178
theorem dd88_179 : decode cX9_advance 179 = .ok (.aload_n 0, 1) := by decide +kernel
theorem ww88_179 {d : Nat} {l1 l2 l3 l4 l5 l6 : Option mw_V} {x : Nat} {st : List mw_V} {σ : mw_S} {Q : Option mw_V → mw_S → Prop} : mw_WP d 88 179 [some (jR x), l1, l2, l3, l4, l5, l6] st σ Q ↔ mw_WP d 88 180 [some (jR x), l1, l2, l3, l4, l5, l6] (jR x :: st) σ Q := WP_aload_n mq88 dd88_179 rfl
theorem dd88_180 : decode cX9_advance 180 = .ok (.aload_n 1, 1) := by decide +kernel
theorem ww88_180 {d : Nat} {l0 l2 l3 l4 l5 l6 : Option mw_V} {x : Nat} {st : List mw_V} {σ : mw_S} {Q : Option mw_V → mw_S → Prop} : mw_WP d 88 180 [l0, some (jR x), l2, l3, l4, l5, l6] st σ Q ↔ mw_WP d 88 181 [l0, some (jR x), l2, l3, l4, l5, l6] (jR x :: st) σ Q := WP_aload_n mq88 dd88_180 rfl
theorem dd88_181 : decode cX9_advance 181 = .ok (.invokevirtual 49, 3) := by decide +kernel
theorem ww88_181 {d : Nat} {l0 l1 l2 l3 l4 l5 l6 : Option mw_V} {v0 : mw_V} {a : Nat} {st : List mw_V} {σ : mw_S} {Q : Option mw_V → mw_S → Prop} (hr : mw_rc a = 9) (h8 : (st.map mw_cat).sum ≤ 8) : mw_WP d 88 181 [l0, l1, l2, l3, l4, l5, l6] (v0 :: jR a :: st) σ Q ↔ mw_Call d 102 [jR a, v0] σ (fun r1 s1 => mw_WP d 88 184 [l0, l1, l2, l3, l4, l5, l6] (r1.toList ++ st) s1 Q) := WP_inv (as := [v0]) mq88 dd88_181 (by decide) mq102 rfl hr h8
theorem dd88_184 : decode cX9_advance 184 = .ok (.ireturn, 1) := by decide +kernel
theorem ww88_184 {d : Nat} {l0 l1 l2 l3 l4 l5 l6 : Option mw_V} {z : Int} {σ : mw_S} {Q : Option mw_V → mw_S → Prop} : mw_WP d 88 184 [l0, l1, l2, l3, l4, l5, l6] [jI z] σ Q ↔ Q (some (jI z)) σ := WP_ireturn (ty := .int) mq88 dd88_184 rfl rfl
theorem ee89 {d : Nat} {a : Nat} {a0 : Nat} {z1 : Int} {z2 : Int} {σ : mw_S} {Q : Option mw_V → mw_S → Prop} : mw_Call (d + 1) 89 [jR a, jR a0, jI z1, jI z2] σ Q ↔ mw_WP d 89 0 [some (jR a), some (jR a0), some (jI z1), some (jI z2), none] [] σ Q := CL_u mq89 (Nat.le_of_ble_eq_true rfl) rfl
theorem dd89_0 : decode cX9_copyDoing 0 = .ok (.aload_n 0, 1) := by decide +kernel
theorem ww89_0 {d : Nat} {l1 l2 l3 l4 : Option mw_V} {x : Nat} {st : List mw_V} {σ : mw_S} {Q : Option mw_V → mw_S → Prop} : mw_WP d 89 0 [some (jR x), l1, l2, l3, l4] st σ Q ↔ mw_WP d 89 1 [some (jR x), l1, l2, l3, l4] (jR x :: st) σ Q := WP_aload_n mq89 dd89_0 rfl
theorem dd89_1 : decode cX9_copyDoing 1 = .ok (.aload_n 1, 1) := by decide +kernel
theorem ww89_1 {d : Nat} {l0 l2 l3 l4 : Option mw_V} {x : Nat} {st : List mw_V} {σ : mw_S} {Q : Option mw_V → mw_S → Prop} : mw_WP d 89 1 [l0, some (jR x), l2, l3, l4] st σ Q ↔ mw_WP d 89 2 [l0, some (jR x), l2, l3, l4] (jR x :: st) σ Q := WP_aload_n mq89 dd89_1 rfl
theorem dd89_2 : decode cX9_copyDoing 2 = .ok (.bipush 13, 2) := by decide +kernel
theorem ww89_2 {d : Nat} {l0 l1 l2 l3 l4 : Option mw_V} {st : List mw_V} {σ : mw_S} {Q : Option mw_V → mw_S → Prop} : mw_WP d 89 2 [l0, l1, l2, l3, l4] st σ Q ↔ mw_WP d 89 4 [l0, l1, l2, l3, l4] (jI (13) :: st) σ Q := WP_bipush mq89 dd89_2 (by decide)
theorem dd89_4 : decode cX9_copyDoing 4 = .ok (.iload_n 2, 1) := by decide +kernel
theorem ww89_4 {d : Nat} {l0 l1 l3 l4 : Option mw_V} {x : Int} {st : List mw_V} {σ : mw_S} {Q : Option mw_V → mw_S → Prop} : mw_WP d 89 4 [l0, l1, some (jI x), l3, l4] st σ Q ↔ mw_WP d 89 5 [l0, l1, some (jI x), l3, l4] (jI x :: st) σ Q := WP_iload_n mq89 dd89_4 rfl
theorem dd89_5 : decode cX9_copyDoing 5 = .ok (.iadd, 1) := by decide +kernel
theorem ww89_5 {d : Nat} {l0 l1 l2 l3 l4 : Option mw_V} {x y : Int} {st : List mw_V} {σ : mw_S} {Q : Option mw_V → mw_S → Prop} : mw_WP d 89 5 [l0, l1, l2, l3, l4] (jI y :: jI x :: st) σ Q ↔ mw_WP d 89 6 [l0, l1, l2, l3, l4] (jI (w32 (x + y)) :: st) σ Q := WP_iadd mq89 dd89_5
theorem dd89_6 : decode cX9_copyDoing 6 = .ok (.iaload, 1) := by decide +kernel
theorem ww89_6 {d : Nat} {l0 l1 l2 l3 l4 : Option mw_V} {z : Int} {a : Nat} {st : List mw_V} {σ : mw_S} {Q : Option mw_V → mw_S → Prop} : mw_WP d 89 6 [l0, l1, l2, l3, l4] (jI z :: jR a :: st) σ Q ↔ ((0 ≤ z ∧ z < mw_lenI a) ∧ mw_WP d 89 7 [l0, l1, l2, l3, l4] (jI (mw_rdI σ a z.toNat) :: st) σ Q) := WP_iaload mq89 dd89_6
theorem dd89_7 : decode cX9_copyDoing 7 = .ok (.iload_n 3, 1) := by decide +kernel
theorem ww89_7 {d : Nat} {l0 l1 l2 l4 : Option mw_V} {x : Int} {st : List mw_V} {σ : mw_S} {Q : Option mw_V → mw_S → Prop} : mw_WP d 89 7 [l0, l1, l2, some (jI x), l4] st σ Q ↔ mw_WP d 89 8 [l0, l1, l2, some (jI x), l4] (jI x :: st) σ Q := WP_iload_n mq89 dd89_7 rfl
theorem dd89_8 : decode cX9_copyDoing 8 = .ok (.invokestatic 31, 3) := by decide +kernel
theorem ww89_8 {d : Nat} {l0 l1 l2 l3 l4 : Option mw_V} {v0 v1 : mw_V} {st : List mw_V} {σ : mw_S} {Q : Option mw_V → mw_S → Prop} (h8 : (st.map mw_cat).sum ≤ 8) : mw_WP d 89 8 [l0, l1, l2, l3, l4] (v1 :: v0 :: st) σ Q ↔ mw_Call d 93 [v0, v1] σ (fun r1 s1 => mw_WP d 89 11 [l0, l1, l2, l3, l4] (r1.toList ++ st) s1 Q) := WP_invs (as := [v1, v0]) mq89 dd89_8 (by decide) mq93 rfl rfl h8
theorem dd89_11 : decode cX9_copyDoing 11 = .ok (.iload_n 2, 1) := by decide +kernel
theorem ww89_11 {d : Nat} {l0 l1 l3 l4 : Option mw_V} {x : Int} {st : List mw_V} {σ : mw_S} {Q : Option mw_V → mw_S → Prop} : mw_WP d 89 11 [l0, l1, some (jI x), l3, l4] st σ Q ↔ mw_WP d 89 12 [l0, l1, some (jI x), l3, l4] (jI x :: st) σ Q := WP_iload_n mq89 dd89_11 rfl
theorem dd89_12 : decode cX9_copyDoing 12 = .ok (.invokevirtual 39, 3) := by decide +kernel
theorem ww89_12 {d : Nat} {l0 l1 l2 l3 l4 : Option mw_V} {v0 v1 : mw_V} {a : Nat} {st : List mw_V} {σ : mw_S} {Q : Option mw_V → mw_S → Prop} (hr : mw_rc a = 9) (h8 : (st.map mw_cat).sum ≤ 8) : mw_WP d 89 12 [l0, l1, l2, l3, l4] (v1 :: v0 :: jR a :: st) σ Q ↔ mw_Call d 92 [jR a, v0, v1] σ (fun r1 s1 => mw_WP d 89 15 [l0, l1, l2, l3, l4] (r1.toList ++ st) s1 Q) := WP_inv (as := [v1, v0]) mq89 dd89_12 (by decide) mq92 rfl hr h8
theorem dd89_15 : decode cX9_copyDoing 15 = .ok (.istore 4, 2) := by decide +kernel
theorem ww89_15 {d : Nat} {l0 l1 l2 l3 l4 : Option mw_V} {x : Int} {st : List mw_V} {σ : mw_S} {Q : Option mw_V → mw_S → Prop} (h : mw_nlo l3 = true) : mw_WP d 89 15 [l0, l1, l2, l3, l4] (jI x :: st) σ Q ↔ mw_WP d 89 17 [l0, l1, l2, l3, some (jI x)] st σ Q := WP_istore mq89 dd89_15 (Nat.le_of_ble_eq_true rfl) (mw_nl_of (i := 3) rfl h) rfl
theorem dd89_17 : decode cX9_copyDoing 17 = .ok (.aload_n 0, 1) := by decide +kernel
theorem ww89_17 {d : Nat} {l1 l2 l3 l4 : Option mw_V} {x : Nat} {st : List mw_V} {σ : mw_S} {Q : Option mw_V → mw_S → Prop} : mw_WP d 89 17 [some (jR x), l1, l2, l3, l4] st σ Q ↔ mw_WP d 89 18 [some (jR x), l1, l2, l3, l4] (jR x :: st) σ Q := WP_aload_n mq89 dd89_17 rfl
theorem dd89_18 : decode cX9_copyDoing 18 = .ok (.aload_n 1, 1) := by decide +kernel
theorem ww89_18 {d : Nat} {l0 l2 l3 l4 : Option mw_V} {x : Nat} {st : List mw_V} {σ : mw_S} {Q : Option mw_V → mw_S → Prop} : mw_WP d 89 18 [l0, some (jR x), l2, l3, l4] st σ Q ↔ mw_WP d 89 19 [l0, some (jR x), l2, l3, l4] (jR x :: st) σ Q := WP_aload_n mq89 dd89_18 rfl
theorem dd89_19 : decode cX9_copyDoing 19 = .ok (.iload_n 2, 1) := by decide +kernel
theorem ww89_19 {d : Nat} {l0 l1 l3 l4 : Option mw_V} {x : Int} {st : List mw_V} {σ : mw_S} {Q : Option mw_V → mw_S → Prop} : mw_WP d 89 19 [l0, l1, some (jI x), l3, l4] st σ Q ↔ mw_WP d 89 20 [l0, l1, some (jI x), l3, l4] (jI x :: st) σ Q := WP_iload_n mq89 dd89_19 rfl
theorem dd89_20 : decode cX9_copyDoing 20 = .ok (.iload 4, 2) := by decide +kernel
theorem ww89_20 {d : Nat} {l0 l1 l2 l3 : Option mw_V} {x : Int} {st : List mw_V} {σ : mw_S} {Q : Option mw_V → mw_S → Prop} : mw_WP d 89 20 [l0, l1, l2, l3, some (jI x)] st σ Q ↔ mw_WP d 89 22 [l0, l1, l2, l3, some (jI x)] (jI x :: st) σ Q := WP_iload mq89 dd89_20 rfl
theorem dd89_22 : decode cX9_copyDoing 22 = .ok (.aload_n 0, 1) := by decide +kernel
theorem ww89_22 {d : Nat} {l1 l2 l3 l4 : Option mw_V} {x : Nat} {st : List mw_V} {σ : mw_S} {Q : Option mw_V → mw_S → Prop} : mw_WP d 89 22 [some (jR x), l1, l2, l3, l4] st σ Q ↔ mw_WP d 89 23 [some (jR x), l1, l2, l3, l4] (jR x :: st) σ Q := WP_aload_n mq89 dd89_22 rfl
theorem dd89_23 : decode cX9_copyDoing 23 = .ok (.aload_n 1, 1) := by decide +kernel
theorem ww89_23 {d : Nat} {l0 l2 l3 l4 : Option mw_V} {x : Nat} {st : List mw_V} {σ : mw_S} {Q : Option mw_V → mw_S → Prop} : mw_WP d 89 23 [l0, some (jR x), l2, l3, l4] st σ Q ↔ mw_WP d 89 24 [l0, some (jR x), l2, l3, l4] (jR x :: st) σ Q := WP_aload_n mq89 dd89_23 rfl
theorem dd89_24 : decode cX9_copyDoing 24 = .ok (.iconst 0, 1) := by decide +kernel
theorem ww89_24 {d : Nat} {l0 l1 l2 l3 l4 : Option mw_V} {st : List mw_V} {σ : mw_S} {Q : Option mw_V → mw_S → Prop} : mw_WP d 89 24 [l0, l1, l2, l3, l4] st σ Q ↔ mw_WP d 89 25 [l0, l1, l2, l3, l4] (jI (0) :: st) σ Q := WP_iconst mq89 dd89_24 (by decide)
theorem dd89_25 : decode cX9_copyDoing 25 = .ok (.iload_n 2, 1) := by decide +kernel
theorem ww89_25 {d : Nat} {l0 l1 l3 l4 : Option mw_V} {x : Int} {st : List mw_V} {σ : mw_S} {Q : Option mw_V → mw_S → Prop} : mw_WP d 89 25 [l0, l1, some (jI x), l3, l4] st σ Q ↔ mw_WP d 89 26 [l0, l1, some (jI x), l3, l4] (jI x :: st) σ Q := WP_iload_n mq89 dd89_25 rfl
theorem dd89_26 : decode cX9_copyDoing 26 = .ok (.iadd, 1) := by decide +kernel
theorem ww89_26 {d : Nat} {l0 l1 l2 l3 l4 : Option mw_V} {x y : Int} {st : List mw_V} {σ : mw_S} {Q : Option mw_V → mw_S → Prop} : mw_WP d 89 26 [l0, l1, l2, l3, l4] (jI y :: jI x :: st) σ Q ↔ mw_WP d 89 27 [l0, l1, l2, l3, l4] (jI (w32 (x + y)) :: st) σ Q := WP_iadd mq89 dd89_26
theorem dd89_27 : decode cX9_copyDoing 27 = .ok (.iaload, 1) := by decide +kernel
theorem ww89_27 {d : Nat} {l0 l1 l2 l3 l4 : Option mw_V} {z : Int} {a : Nat} {st : List mw_V} {σ : mw_S} {Q : Option mw_V → mw_S → Prop} : mw_WP d 89 27 [l0, l1, l2, l3, l4] (jI z :: jR a :: st) σ Q ↔ ((0 ≤ z ∧ z < mw_lenI a) ∧ mw_WP d 89 28 [l0, l1, l2, l3, l4] (jI (mw_rdI σ a z.toNat) :: st) σ Q) := WP_iaload mq89 dd89_27
theorem dd89_28 : decode cX9_copyDoing 28 = .ok (.iload_n 3, 1) := by decide +kernel
theorem ww89_28 {d : Nat} {l0 l1 l2 l4 : Option mw_V} {x : Int} {st : List mw_V} {σ : mw_S} {Q : Option mw_V → mw_S → Prop} : mw_WP d 89 28 [l0, l1, l2, some (jI x), l4] st σ Q ↔ mw_WP d 89 29 [l0, l1, l2, some (jI x), l4] (jI x :: st) σ Q := WP_iload_n mq89 dd89_28 rfl
theorem dd89_29 : decode cX9_copyDoing 29 = .ok (.invokevirtual 53, 3) := by decide +kernel
theorem ww89_29 {d : Nat} {l0 l1 l2 l3 l4 : Option mw_V} {v0 v1 : mw_V} {a : Nat} {st : List mw_V} {σ : mw_S} {Q : Option mw_V → mw_S → Prop} (hr : mw_rc a = 9) (h8 : (st.map mw_cat).sum ≤ 8) : mw_WP d 89 29 [l0, l1, l2, l3, l4] (v1 :: v0 :: jR a :: st) σ Q ↔ mw_Call d 91 [jR a, v0, v1] σ (fun r1 s1 => mw_WP d 89 32 [l0, l1, l2, l3, l4] (r1.toList ++ st) s1 Q) := WP_inv (as := [v1, v0]) mq89 dd89_29 (by decide) mq91 rfl hr h8
theorem dd89_32 : decode cX9_copyDoing 32 = .ok (.aload_n 1, 1) := by decide +kernel
theorem ww89_32 {d : Nat} {l0 l2 l3 l4 : Option mw_V} {x : Nat} {st : List mw_V} {σ : mw_S} {Q : Option mw_V → mw_S → Prop} : mw_WP d 89 32 [l0, some (jR x), l2, l3, l4] st σ Q ↔ mw_WP d 89 33 [l0, some (jR x), l2, l3, l4] (jR x :: st) σ Q := WP_aload_n mq89 dd89_32 rfl
theorem dd89_33 : decode cX9_copyDoing 33 = .ok (.iload_n 2, 1) := by decide +kernel
theorem ww89_33 {d : Nat} {l0 l1 l3 l4 : Option mw_V} {x : Int} {st : List mw_V} {σ : mw_S} {Q : Option mw_V → mw_S → Prop} : mw_WP d 89 33 [l0, l1, some (jI x), l3, l4] st σ Q ↔ mw_WP d 89 34 [l0, l1, some (jI x), l3, l4] (jI x :: st) σ Q := WP_iload_n mq89 dd89_33 rfl
theorem dd89_34 : decode cX9_copyDoing 34 = .ok (.iload 4, 2) := by decide +kernel
theorem ww89_34 {d : Nat} {l0 l1 l2 l3 : Option mw_V} {x : Int} {st : List mw_V} {σ : mw_S} {Q : Option mw_V → mw_S → Prop} : mw_WP d 89 34 [l0, l1, l2, l3, some (jI x)] st σ Q ↔ mw_WP d 89 36 [l0, l1, l2, l3, some (jI x)] (jI x :: st) σ Q := WP_iload mq89 dd89_34 rfl
theorem dd89_36 : decode cX9_copyDoing 36 = .ok (.invokestatic 42, 3) := by decide +kernel
theorem ww89_36 {d : Nat} {l0 l1 l2 l3 l4 : Option mw_V} {v0 v1 v2 : mw_V} {st : List mw_V} {σ : mw_S} {Q : Option mw_V → mw_S → Prop} (h8 : (st.map mw_cat).sum ≤ 8) : mw_WP d 89 36 [l0, l1, l2, l3, l4] (v2 :: v1 :: v0 :: st) σ Q ↔ mw_Call d 95 [v0, v1, v2] σ (fun r1 s1 => mw_WP d 89 39 [l0, l1, l2, l3, l4] (r1.toList ++ st) s1 Q) := WP_invs (as := [v2, v1, v0]) mq89 dd89_36 (by decide) mq95 rfl rfl h8
theorem dd89_39 : decode cX9_copyDoing 39 = .ok (.invokevirtual 45, 3) := by decide +kernel
theorem ww89_39 {d : Nat} {l0 l1 l2 l3 l4 : Option mw_V} {v0 v1 v2 v3 v4 : mw_V} {a : Nat} {st : List mw_V} {σ : mw_S} {Q : Option mw_V → mw_S → Prop} (hr : mw_rc a = 9) (h8 : (st.map mw_cat).sum ≤ 8) : mw_WP d 89 39 [l0, l1, l2, l3, l4] (v4 :: v3 :: v2 :: v1 :: v0 :: jR a :: st) σ Q ↔ mw_Call d 104 [jR a, v0, v1, v2, v3, v4] σ (fun r1 s1 => mw_WP d 89 42 [l0, l1, l2, l3, l4] (r1.toList ++ st) s1 Q) := WP_inv (as := [v4, v3, v2, v1, v0]) mq89 dd89_39 (by decide) mq104 rfl hr h8
theorem dd89_42 : decode cX9_copyDoing 42 = .ok (.ireturn, 1) := by decide +kernel
theorem ww89_42 {d : Nat} {l0 l1 l2 l3 l4 : Option mw_V} {z : Int} {σ : mw_S} {Q : Option mw_V → mw_S → Prop} : mw_WP d 89 42 [l0, l1, l2, l3, l4] [jI z] σ Q ↔ Q (some (jI z)) σ := WP_ireturn (ty := .int) mq89 dd89_42 rfl rfl
theorem ee90 {d : Nat} {a : Nat} {z0 : Int} {z1 : Int} {σ : mw_S} {Q : Option mw_V → mw_S → Prop} : mw_Call (d + 1) 90 [jR a, jI z0, jI z1] σ Q ↔ mw_WP d 90 0 [some (jR a), some (jI z0), some (jI z1)] [] σ Q := CL_u mq90 (Nat.le_of_ble_eq_true rfl) rfl
theorem dd90_0 : decode cX9_isStayForNow 0 = .ok (.iload_n 2, 1) := by decide +kernel
theorem ww90_0 {d : Nat} {l0 l1 : Option mw_V} {x : Int} {st : List mw_V} {σ : mw_S} {Q : Option mw_V → mw_S → Prop} : mw_WP d 90 0 [l0, l1, some (jI x)] st σ Q ↔ mw_WP d 90 1 [l0, l1, some (jI x)] (jI x :: st) σ Q := WP_iload_n mq90 dd90_0 rfl
theorem dd90_1 : decode cX9_isStayForNow 1 = .ok (.iconst 3, 1) := by decide +kernel
theorem ww90_1 {d : Nat} {l0 l1 l2 : Option mw_V} {st : List mw_V} {σ : mw_S} {Q : Option mw_V → mw_S → Prop} : mw_WP d 90 1 [l0, l1, l2] st σ Q ↔ mw_WP d 90 2 [l0, l1, l2] (jI (3) :: st) σ Q := WP_iconst mq90 dd90_1 (by decide)
theorem dd90_2 : decode cX9_isStayForNow 2 = .ok (.if_icmp .lt 19, 3) := by decide +kernel
theorem ww90_2 {d : Nat} {l0 l1 l2 : Option mw_V} {x y : Int} {st : List mw_V} {σ : mw_S} {Q : Option mw_V → mw_S → Prop} : mw_WP d 90 2 [l0, l1, l2] (jI y :: jI x :: st) σ Q ↔ (if x < y then mw_WP d 90 21 [l0, l1, l2] st σ Q else mw_WP d 90 5 [l0, l1, l2] st σ Q) := WP_icmp_lt mq90 dd90_2 (by decide)
theorem dd90_5 : decode cX9_isStayForNow 5 = .ok (.aload_n 0, 1) := by decide +kernel
theorem ww90_5 {d : Nat} {l1 l2 : Option mw_V} {x : Nat} {st : List mw_V} {σ : mw_S} {Q : Option mw_V → mw_S → Prop} : mw_WP d 90 5 [some (jR x), l1, l2] st σ Q ↔ mw_WP d 90 6 [some (jR x), l1, l2] (jR x :: st) σ Q := WP_aload_n mq90 dd90_5 rfl
theorem dd90_6 : decode cX9_isStayForNow 6 = .ok (.getfield 18, 3) := by decide +kernel
theorem ww90_6 {d : Nat} {l0 l1 l2 : Option mw_V} {st : List mw_V} {σ : mw_S} {Q : Option mw_V → mw_S → Prop} : mw_WP d 90 6 [l0, l1, l2] (jR 22 :: st) σ Q ↔ mw_WP d 90 9 [l0, l1, l2] (jR 13 :: st) σ Q := WP_getR (ci := 8) (k := 0) mq90 dd90_6 (by decide) rfl
theorem dd90_9 : decode cX9_isStayForNow 9 = .ok (.getfield 56, 3) := by decide +kernel
theorem ww90_9i3 {d : Nat} {l0 l1 l2 : Option mw_V} {st : List mw_V} {σ : mw_S} {Q : Option mw_V → mw_S → Prop} : mw_WP d 90 9 [l0, l1, l2] (jR 3 :: st) σ Q ↔ mw_WP d 90 12 [l0, l1, l2] (jR 5 :: st) σ Q := WP_getR (ci := 0) (k := 8) mq90 dd90_9 (by decide) rfl
theorem ww90_9i13 {d : Nat} {l0 l1 l2 : Option mw_V} {st : List mw_V} {σ : mw_S} {Q : Option mw_V → mw_S → Prop} : mw_WP d 90 9 [l0, l1, l2] (jR 13 :: st) σ Q ↔ mw_WP d 90 12 [l0, l1, l2] (jR 15 :: st) σ Q := WP_getR (ci := 0) (k := 8) mq90 dd90_9 (by decide) rfl
theorem ww90_9i77 {d : Nat} {l0 l1 l2 : Option mw_V} {st : List mw_V} {σ : mw_S} {Q : Option mw_V → mw_S → Prop} : mw_WP d 90 9 [l0, l1, l2] (jR 77 :: st) σ Q ↔ mw_WP d 90 12 [l0, l1, l2] (jR 79 :: st) σ Q := WP_getR (ci := 0) (k := 8) mq90 dd90_9 (by decide) rfl
theorem ww90_9i88 {d : Nat} {l0 l1 l2 : Option mw_V} {st : List mw_V} {σ : mw_S} {Q : Option mw_V → mw_S → Prop} : mw_WP d 90 9 [l0, l1, l2] (jR 88 :: st) σ Q ↔ mw_WP d 90 12 [l0, l1, l2] (jR 90 :: st) σ Q := WP_getR (ci := 0) (k := 8) mq90 dd90_9 (by decide) rfl
theorem dd90_12 : decode cX9_isStayForNow 12 = .ok (.iload_n 1, 1) := by decide +kernel
theorem ww90_12 {d : Nat} {l0 l2 : Option mw_V} {x : Int} {st : List mw_V} {σ : mw_S} {Q : Option mw_V → mw_S → Prop} : mw_WP d 90 12 [l0, some (jI x), l2] st σ Q ↔ mw_WP d 90 13 [l0, some (jI x), l2] (jI x :: st) σ Q := WP_iload_n mq90 dd90_12 rfl
theorem dd90_13 : decode cX9_isStayForNow 13 = .ok (.iaload, 1) := by decide +kernel
theorem ww90_13 {d : Nat} {l0 l1 l2 : Option mw_V} {z : Int} {a : Nat} {st : List mw_V} {σ : mw_S} {Q : Option mw_V → mw_S → Prop} : mw_WP d 90 13 [l0, l1, l2] (jI z :: jR a :: st) σ Q ↔ ((0 ≤ z ∧ z < mw_lenI a) ∧ mw_WP d 90 14 [l0, l1, l2] (jI (mw_rdI σ a z.toNat) :: st) σ Q) := WP_iaload mq90 dd90_13
theorem dd90_14 : decode cX9_isStayForNow 14 = .ok (.ifCond .le 7, 3) := by decide +kernel
theorem ww90_14 {d : Nat} {l0 l1 l2 : Option mw_V} {x : Int} {st : List mw_V} {σ : mw_S} {Q : Option mw_V → mw_S → Prop} : mw_WP d 90 14 [l0, l1, l2] (jI x :: st) σ Q ↔ (if x ≤ 0 then mw_WP d 90 21 [l0, l1, l2] st σ Q else mw_WP d 90 17 [l0, l1, l2] st σ Q) := WP_if_le mq90 dd90_14 (by decide)
theorem dd90_17 : decode cX9_isStayForNow 17 = .ok (.iconst 1, 1) := by decide +kernel
theorem ww90_17 {d : Nat} {l0 l1 l2 : Option mw_V} {st : List mw_V} {σ : mw_S} {Q : Option mw_V → mw_S → Prop} : mw_WP d 90 17 [l0, l1, l2] st σ Q ↔ mw_WP d 90 18 [l0, l1, l2] (jI (1) :: st) σ Q := WP_iconst mq90 dd90_17 (by decide)
theorem dd90_18 : decode cX9_isStayForNow 18 = .ok (.goto 4, 3) := by decide +kernel
theorem ww90_18 {d : Nat} {l0 l1 l2 : Option mw_V} {st : List mw_V} {σ : mw_S} {Q : Option mw_V → mw_S → Prop} : mw_WP d 90 18 [l0, l1, l2] st σ Q ↔ mw_WP d 90 22 [l0, l1, l2] st σ Q := WP_goto mq90 dd90_18 (by decide)
theorem dd90_21 : decode cX9_isStayForNow 21 = .ok (.iconst 0, 1) := by decide +kernel
theorem ww90_21 {d : Nat} {l0 l1 l2 : Option mw_V} {st : List mw_V} {σ : mw_S} {Q : Option mw_V → mw_S → Prop} : mw_WP d 90 21 [l0, l1, l2] st σ Q ↔ mw_WP d 90 22 [l0, l1, l2] (jI (0) :: st) σ Q := WP_iconst mq90 dd90_21 (by decide)
theorem dd90_22 : decode cX9_isStayForNow 22 = .ok (.ireturn, 1) := by decide +kernel
theorem ww90_22 {d : Nat} {l0 l1 l2 : Option mw_V} {z : Int} {σ : mw_S} {Q : Option mw_V → mw_S → Prop} (h : z = 0 ∨ z = 1) : mw_WP d 90 22 [l0, l1, l2] [jI z] σ Q ↔ Q (some (jI z)) σ := WP_ireturn (ty := .boolean) mq90 dd90_22 rfl (by rcases h with rfl | rfl <;> decide)
theorem ee91 {d : Nat} {a : Nat} {z0 : Int} {z1 : Int} {σ : mw_S} {Q : Option mw_V → mw_S → Prop} : mw_Call (d + 1) 91 [jR a, jI z0, jI z1] σ Q ↔ mw_WP d 91 0 [some (jR a), some (jI z0), some (jI z1)] [] σ Q := CL_u mq91 (Nat.le_of_ble_eq_true rfl) rfl
theorem dd91_0 : decode cX9_moved 0 = .ok (.iload_n 2, 1) := by decide +kernel
theorem ww91_0 {d : Nat} {l0 l1 : Option mw_V} {x : Int} {st : List mw_V} {σ : mw_S} {Q : Option mw_V → mw_S → Prop} : mw_WP d 91 0 [l0, l1, some (jI x)] st σ Q ↔ mw_WP d 91 1 [l0, l1, some (jI x)] (jI x :: st) σ Q := WP_iload_n mq91 dd91_0 rfl
theorem dd91_1 : decode cX9_moved 1 = .ok (.iconst 1, 1) := by decide +kernel
theorem ww91_1 {d : Nat} {l0 l1 l2 : Option mw_V} {st : List mw_V} {σ : mw_S} {Q : Option mw_V → mw_S → Prop} : mw_WP d 91 1 [l0, l1, l2] st σ Q ↔ mw_WP d 91 2 [l0, l1, l2] (jI (1) :: st) σ Q := WP_iconst mq91 dd91_1 (by decide)
theorem dd91_2 : decode cX9_moved 2 = .ok (.if_icmp .ne 11, 3) := by decide +kernel
theorem ww91_2 {d : Nat} {l0 l1 l2 : Option mw_V} {x y : Int} {st : List mw_V} {σ : mw_S} {Q : Option mw_V → mw_S → Prop} : mw_WP d 91 2 [l0, l1, l2] (jI y :: jI x :: st) σ Q ↔ (if ¬ x = y then mw_WP d 91 13 [l0, l1, l2] st σ Q else mw_WP d 91 5 [l0, l1, l2] st σ Q) := WP_icmp_ne mq91 dd91_2 (by decide)
theorem dd91_5 : decode cX9_moved 5 = .ok (.iload_n 1, 1) := by decide +kernel
theorem ww91_5 {d : Nat} {l0 l2 : Option mw_V} {x : Int} {st : List mw_V} {σ : mw_S} {Q : Option mw_V → mw_S → Prop} : mw_WP d 91 5 [l0, some (jI x), l2] st σ Q ↔ mw_WP d 91 6 [l0, some (jI x), l2] (jI x :: st) σ Q := WP_iload_n mq91 dd91_5 rfl
theorem dd91_6 : decode cX9_moved 6 = .ok (.ifCond .le 7, 3) := by decide +kernel
theorem ww91_6 {d : Nat} {l0 l1 l2 : Option mw_V} {x : Int} {st : List mw_V} {σ : mw_S} {Q : Option mw_V → mw_S → Prop} : mw_WP d 91 6 [l0, l1, l2] (jI x :: st) σ Q ↔ (if x ≤ 0 then mw_WP d 91 13 [l0, l1, l2] st σ Q else mw_WP d 91 9 [l0, l1, l2] st σ Q) := WP_if_le mq91 dd91_6 (by decide)
theorem dd91_9 : decode cX9_moved 9 = .ok (.iload_n 1, 1) := by decide +kernel
theorem ww91_9 {d : Nat} {l0 l2 : Option mw_V} {x : Int} {st : List mw_V} {σ : mw_S} {Q : Option mw_V → mw_S → Prop} : mw_WP d 91 9 [l0, some (jI x), l2] st σ Q ↔ mw_WP d 91 10 [l0, some (jI x), l2] (jI x :: st) σ Q := WP_iload_n mq91 dd91_9 rfl
theorem dd91_10 : decode cX9_moved 10 = .ok (.iconst 1, 1) := by decide +kernel
theorem ww91_10 {d : Nat} {l0 l1 l2 : Option mw_V} {st : List mw_V} {σ : mw_S} {Q : Option mw_V → mw_S → Prop} : mw_WP d 91 10 [l0, l1, l2] st σ Q ↔ mw_WP d 91 11 [l0, l1, l2] (jI (1) :: st) σ Q := WP_iconst mq91 dd91_10 (by decide)
theorem dd91_11 : decode cX9_moved 11 = .ok (.isub, 1) := by decide +kernel
theorem ww91_11 {d : Nat} {l0 l1 l2 : Option mw_V} {x y : Int} {st : List mw_V} {σ : mw_S} {Q : Option mw_V → mw_S → Prop} : mw_WP d 91 11 [l0, l1, l2] (jI y :: jI x :: st) σ Q ↔ mw_WP d 91 12 [l0, l1, l2] (jI (w32 (x - y)) :: st) σ Q := WP_isub mq91 dd91_11
theorem dd91_12 : decode cX9_moved 12 = .ok (.ireturn, 1) := by decide +kernel
theorem ww91_12 {d : Nat} {l0 l1 l2 : Option mw_V} {z : Int} {σ : mw_S} {Q : Option mw_V → mw_S → Prop} : mw_WP d 91 12 [l0, l1, l2] [jI z] σ Q ↔ Q (some (jI z)) σ := WP_ireturn (ty := .int) mq91 dd91_12 rfl rfl
theorem dd91_13 : decode cX9_moved 13 = .ok (.iload_n 2, 1) := by decide +kernel
theorem ww91_13 {d : Nat} {l0 l1 : Option mw_V} {x : Int} {st : List mw_V} {σ : mw_S} {Q : Option mw_V → mw_S → Prop} : mw_WP d 91 13 [l0, l1, some (jI x)] st σ Q ↔ mw_WP d 91 14 [l0, l1, some (jI x)] (jI x :: st) σ Q := WP_iload_n mq91 dd91_13 rfl
theorem dd91_14 : decode cX9_moved 14 = .ok (.iconst 2, 1) := by decide +kernel
theorem ww91_14 {d : Nat} {l0 l1 l2 : Option mw_V} {st : List mw_V} {σ : mw_S} {Q : Option mw_V → mw_S → Prop} : mw_WP d 91 14 [l0, l1, l2] st σ Q ↔ mw_WP d 91 15 [l0, l1, l2] (jI (2) :: st) σ Q := WP_iconst mq91 dd91_14 (by decide)
theorem dd91_15 : decode cX9_moved 15 = .ok (.if_icmp .ne 20, 3) := by decide +kernel
theorem ww91_15 {d : Nat} {l0 l1 l2 : Option mw_V} {x y : Int} {st : List mw_V} {σ : mw_S} {Q : Option mw_V → mw_S → Prop} : mw_WP d 91 15 [l0, l1, l2] (jI y :: jI x :: st) σ Q ↔ (if ¬ x = y then mw_WP d 91 35 [l0, l1, l2] st σ Q else mw_WP d 91 18 [l0, l1, l2] st σ Q) := WP_icmp_ne mq91 dd91_15 (by decide)
theorem dd91_18 : decode cX9_moved 18 = .ok (.iload_n 1, 1) := by decide +kernel
theorem ww91_18 {d : Nat} {l0 l2 : Option mw_V} {x : Int} {st : List mw_V} {σ : mw_S} {Q : Option mw_V → mw_S → Prop} : mw_WP d 91 18 [l0, some (jI x), l2] st σ Q ↔ mw_WP d 91 19 [l0, some (jI x), l2] (jI x :: st) σ Q := WP_iload_n mq91 dd91_18 rfl
theorem dd91_19 : decode cX9_moved 19 = .ok (.aload_n 0, 1) := by decide +kernel
theorem ww91_19 {d : Nat} {l1 l2 : Option mw_V} {x : Nat} {st : List mw_V} {σ : mw_S} {Q : Option mw_V → mw_S → Prop} : mw_WP d 91 19 [some (jR x), l1, l2] st σ Q ↔ mw_WP d 91 20 [some (jR x), l1, l2] (jR x :: st) σ Q := WP_aload_n mq91 dd91_19 rfl
theorem dd91_20 : decode cX9_moved 20 = .ok (.getfield 18, 3) := by decide +kernel
theorem ww91_20 {d : Nat} {l0 l1 l2 : Option mw_V} {st : List mw_V} {σ : mw_S} {Q : Option mw_V → mw_S → Prop} : mw_WP d 91 20 [l0, l1, l2] (jR 22 :: st) σ Q ↔ mw_WP d 91 23 [l0, l1, l2] (jR 13 :: st) σ Q := WP_getR (ci := 8) (k := 0) mq91 dd91_20 (by decide) rfl
theorem dd91_23 : decode cX9_moved 23 = .ok (.getfield 59, 3) := by decide +kernel
theorem ww91_23i3 {d : Nat} {l0 l1 l2 : Option mw_V} {st : List mw_V} {σ : mw_S} {Q : Option mw_V → mw_S → Prop} : mw_WP d 91 23 [l0, l1, l2] (jR 3 :: st) σ Q ↔ mw_WP d 91 26 [l0, l1, l2] (jI (σ 3 0) :: st) σ Q := WP_getI (ci := 0) (k := 0) mq91 dd91_23 (by decide) (Or.inl rfl)
theorem ww91_23i13 {d : Nat} {l0 l1 l2 : Option mw_V} {st : List mw_V} {σ : mw_S} {Q : Option mw_V → mw_S → Prop} : mw_WP d 91 23 [l0, l1, l2] (jR 13 :: st) σ Q ↔ mw_WP d 91 26 [l0, l1, l2] (jI (σ 13 0) :: st) σ Q := WP_getI (ci := 0) (k := 0) mq91 dd91_23 (by decide) (Or.inl rfl)
theorem ww91_23i77 {d : Nat} {l0 l1 l2 : Option mw_V} {st : List mw_V} {σ : mw_S} {Q : Option mw_V → mw_S → Prop} : mw_WP d 91 23 [l0, l1, l2] (jR 77 :: st) σ Q ↔ mw_WP d 91 26 [l0, l1, l2] (jI (σ 77 0) :: st) σ Q := WP_getI (ci := 0) (k := 0) mq91 dd91_23 (by decide) (Or.inl rfl)
theorem ww91_23i88 {d : Nat} {l0 l1 l2 : Option mw_V} {st : List mw_V} {σ : mw_S} {Q : Option mw_V → mw_S → Prop} : mw_WP d 91 23 [l0, l1, l2] (jR 88 :: st) σ Q ↔ mw_WP d 91 26 [l0, l1, l2] (jI (σ 88 0) :: st) σ Q := WP_getI (ci := 0) (k := 0) mq91 dd91_23 (by decide) (Or.inl rfl)
theorem dd91_26 : decode cX9_moved 26 = .ok (.iconst 1, 1) := by decide +kernel
theorem ww91_26 {d : Nat} {l0 l1 l2 : Option mw_V} {st : List mw_V} {σ : mw_S} {Q : Option mw_V → mw_S → Prop} : mw_WP d 91 26 [l0, l1, l2] st σ Q ↔ mw_WP d 91 27 [l0, l1, l2] (jI (1) :: st) σ Q := WP_iconst mq91 dd91_26 (by decide)
theorem dd91_27 : decode cX9_moved 27 = .ok (.isub, 1) := by decide +kernel
theorem ww91_27 {d : Nat} {l0 l1 l2 : Option mw_V} {x y : Int} {st : List mw_V} {σ : mw_S} {Q : Option mw_V → mw_S → Prop} : mw_WP d 91 27 [l0, l1, l2] (jI y :: jI x :: st) σ Q ↔ mw_WP d 91 28 [l0, l1, l2] (jI (w32 (x - y)) :: st) σ Q := WP_isub mq91 dd91_27
theorem dd91_28 : decode cX9_moved 28 = .ok (.if_icmp .ge 7, 3) := by decide +kernel
theorem ww91_28 {d : Nat} {l0 l1 l2 : Option mw_V} {x y : Int} {st : List mw_V} {σ : mw_S} {Q : Option mw_V → mw_S → Prop} : mw_WP d 91 28 [l0, l1, l2] (jI y :: jI x :: st) σ Q ↔ (if y ≤ x then mw_WP d 91 35 [l0, l1, l2] st σ Q else mw_WP d 91 31 [l0, l1, l2] st σ Q) := WP_icmp_ge mq91 dd91_28 (by decide)
theorem dd91_31 : decode cX9_moved 31 = .ok (.iload_n 1, 1) := by decide +kernel
theorem ww91_31 {d : Nat} {l0 l2 : Option mw_V} {x : Int} {st : List mw_V} {σ : mw_S} {Q : Option mw_V → mw_S → Prop} : mw_WP d 91 31 [l0, some (jI x), l2] st σ Q ↔ mw_WP d 91 32 [l0, some (jI x), l2] (jI x :: st) σ Q := WP_iload_n mq91 dd91_31 rfl
theorem dd91_32 : decode cX9_moved 32 = .ok (.iconst 1, 1) := by decide +kernel
theorem ww91_32 {d : Nat} {l0 l1 l2 : Option mw_V} {st : List mw_V} {σ : mw_S} {Q : Option mw_V → mw_S → Prop} : mw_WP d 91 32 [l0, l1, l2] st σ Q ↔ mw_WP d 91 33 [l0, l1, l2] (jI (1) :: st) σ Q := WP_iconst mq91 dd91_32 (by decide)
theorem dd91_33 : decode cX9_moved 33 = .ok (.iadd, 1) := by decide +kernel
theorem ww91_33 {d : Nat} {l0 l1 l2 : Option mw_V} {x y : Int} {st : List mw_V} {σ : mw_S} {Q : Option mw_V → mw_S → Prop} : mw_WP d 91 33 [l0, l1, l2] (jI y :: jI x :: st) σ Q ↔ mw_WP d 91 34 [l0, l1, l2] (jI (w32 (x + y)) :: st) σ Q := WP_iadd mq91 dd91_33
theorem dd91_34 : decode cX9_moved 34 = .ok (.ireturn, 1) := by decide +kernel
theorem ww91_34 {d : Nat} {l0 l1 l2 : Option mw_V} {z : Int} {σ : mw_S} {Q : Option mw_V → mw_S → Prop} : mw_WP d 91 34 [l0, l1, l2] [jI z] σ Q ↔ Q (some (jI z)) σ := WP_ireturn (ty := .int) mq91 dd91_34 rfl rfl
theorem dd91_35 : decode cX9_moved 35 = .ok (.iload_n 1, 1) := by decide +kernel
theorem ww91_35 {d : Nat} {l0 l2 : Option mw_V} {x : Int} {st : List mw_V} {σ : mw_S} {Q : Option mw_V → mw_S → Prop} : mw_WP d 91 35 [l0, some (jI x), l2] st σ Q ↔ mw_WP d 91 36 [l0, some (jI x), l2] (jI x :: st) σ Q := WP_iload_n mq91 dd91_35 rfl
theorem dd91_36 : decode cX9_moved 36 = .ok (.ireturn, 1) := by decide +kernel
theorem ww91_36 {d : Nat} {l0 l1 l2 : Option mw_V} {z : Int} {σ : mw_S} {Q : Option mw_V → mw_S → Prop} : mw_WP d 91 36 [l0, l1, l2] [jI z] σ Q ↔ Q (some (jI z)) σ := WP_ireturn (ty := .int) mq91 dd91_36 rfl rfl
theorem ee92 {d : Nat} {a : Nat} {z0 : Int} {z1 : Int} {σ : mw_S} {Q : Option mw_V → mw_S → Prop} : mw_Call (d + 1) 92 [jR a, jI z0, jI z1] σ Q ↔ mw_WP d 92 0 [some (jR a), some (jI z0), some (jI z1)] [] σ Q := CL_u mq92 (Nat.le_of_ble_eq_true rfl) rfl
theorem dd92_0 : decode cX9_lateDoing 0 = .ok (.iload_n 1, 1) := by decide +kernel
theorem ww92_0 {d : Nat} {l0 l2 : Option mw_V} {x : Int} {st : List mw_V} {σ : mw_S} {Q : Option mw_V → mw_S → Prop} : mw_WP d 92 0 [l0, some (jI x), l2] st σ Q ↔ mw_WP d 92 1 [l0, some (jI x), l2] (jI x :: st) σ Q := WP_iload_n mq92 dd92_0 rfl
theorem dd92_1 : decode cX9_lateDoing 1 = .ok (.iconst 4, 1) := by decide +kernel
theorem ww92_1 {d : Nat} {l0 l1 l2 : Option mw_V} {st : List mw_V} {σ : mw_S} {Q : Option mw_V → mw_S → Prop} : mw_WP d 92 1 [l0, l1, l2] st σ Q ↔ mw_WP d 92 2 [l0, l1, l2] (jI (4) :: st) σ Q := WP_iconst mq92 dd92_1 (by decide)
theorem dd92_2 : decode cX9_lateDoing 2 = .ok (.aload_n 0, 1) := by decide +kernel
theorem ww92_2 {d : Nat} {l1 l2 : Option mw_V} {x : Nat} {st : List mw_V} {σ : mw_S} {Q : Option mw_V → mw_S → Prop} : mw_WP d 92 2 [some (jR x), l1, l2] st σ Q ↔ mw_WP d 92 3 [some (jR x), l1, l2] (jR x :: st) σ Q := WP_aload_n mq92 dd92_2 rfl
theorem dd92_3 : decode cX9_lateDoing 3 = .ok (.getfield 18, 3) := by decide +kernel
theorem ww92_3 {d : Nat} {l0 l1 l2 : Option mw_V} {st : List mw_V} {σ : mw_S} {Q : Option mw_V → mw_S → Prop} : mw_WP d 92 3 [l0, l1, l2] (jR 22 :: st) σ Q ↔ mw_WP d 92 6 [l0, l1, l2] (jR 13 :: st) σ Q := WP_getR (ci := 8) (k := 0) mq92 dd92_3 (by decide) rfl
theorem dd92_6 : decode cX9_lateDoing 6 = .ok (.getfield 56, 3) := by decide +kernel
theorem ww92_6i3 {d : Nat} {l0 l1 l2 : Option mw_V} {st : List mw_V} {σ : mw_S} {Q : Option mw_V → mw_S → Prop} : mw_WP d 92 6 [l0, l1, l2] (jR 3 :: st) σ Q ↔ mw_WP d 92 9 [l0, l1, l2] (jR 5 :: st) σ Q := WP_getR (ci := 0) (k := 8) mq92 dd92_6 (by decide) rfl
theorem ww92_6i13 {d : Nat} {l0 l1 l2 : Option mw_V} {st : List mw_V} {σ : mw_S} {Q : Option mw_V → mw_S → Prop} : mw_WP d 92 6 [l0, l1, l2] (jR 13 :: st) σ Q ↔ mw_WP d 92 9 [l0, l1, l2] (jR 15 :: st) σ Q := WP_getR (ci := 0) (k := 8) mq92 dd92_6 (by decide) rfl
theorem ww92_6i77 {d : Nat} {l0 l1 l2 : Option mw_V} {st : List mw_V} {σ : mw_S} {Q : Option mw_V → mw_S → Prop} : mw_WP d 92 6 [l0, l1, l2] (jR 77 :: st) σ Q ↔ mw_WP d 92 9 [l0, l1, l2] (jR 79 :: st) σ Q := WP_getR (ci := 0) (k := 8) mq92 dd92_6 (by decide) rfl
theorem ww92_6i88 {d : Nat} {l0 l1 l2 : Option mw_V} {st : List mw_V} {σ : mw_S} {Q : Option mw_V → mw_S → Prop} : mw_WP d 92 6 [l0, l1, l2] (jR 88 :: st) σ Q ↔ mw_WP d 92 9 [l0, l1, l2] (jR 90 :: st) σ Q := WP_getR (ci := 0) (k := 8) mq92 dd92_6 (by decide) rfl
theorem dd92_9 : decode cX9_lateDoing 9 = .ok (.iload_n 2, 1) := by decide +kernel
theorem ww92_9 {d : Nat} {l0 l1 : Option mw_V} {x : Int} {st : List mw_V} {σ : mw_S} {Q : Option mw_V → mw_S → Prop} : mw_WP d 92 9 [l0, l1, some (jI x)] st σ Q ↔ mw_WP d 92 10 [l0, l1, some (jI x)] (jI x :: st) σ Q := WP_iload_n mq92 dd92_9 rfl
theorem dd92_10 : decode cX9_lateDoing 10 = .ok (.iaload, 1) := by decide +kernel
theorem ww92_10 {d : Nat} {l0 l1 l2 : Option mw_V} {z : Int} {a : Nat} {st : List mw_V} {σ : mw_S} {Q : Option mw_V → mw_S → Prop} : mw_WP d 92 10 [l0, l1, l2] (jI z :: jR a :: st) σ Q ↔ ((0 ≤ z ∧ z < mw_lenI a) ∧ mw_WP d 92 11 [l0, l1, l2] (jI (mw_rdI σ a z.toNat) :: st) σ Q) := WP_iaload mq92 dd92_10
theorem dd92_11 : decode cX9_lateDoing 11 = .ok (.imul, 1) := by decide +kernel
theorem ww92_11 {d : Nat} {l0 l1 l2 : Option mw_V} {x y : Int} {st : List mw_V} {σ : mw_S} {Q : Option mw_V → mw_S → Prop} : mw_WP d 92 11 [l0, l1, l2] (jI y :: jI x :: st) σ Q ↔ mw_WP d 92 12 [l0, l1, l2] (jI (w32 (x * y)) :: st) σ Q := WP_imul mq92 dd92_11
theorem dd92_12 : decode cX9_lateDoing 12 = .ok (.iushr, 1) := by decide +kernel
theorem ww92_12 {d : Nat} {l0 l1 l2 : Option mw_V} {x y : Int} {st : List mw_V} {σ : mw_S} {Q : Option mw_V → mw_S → Prop} : mw_WP d 92 12 [l0, l1, l2] (jI y :: jI x :: st) σ Q ↔ mw_WP d 92 13 [l0, l1, l2] (jI (zUshr x y) :: st) σ Q := WP_iushr mq92 dd92_12
theorem dd92_13 : decode cX9_lateDoing 13 = .ok (.bipush 15, 2) := by decide +kernel
theorem ww92_13 {d : Nat} {l0 l1 l2 : Option mw_V} {st : List mw_V} {σ : mw_S} {Q : Option mw_V → mw_S → Prop} : mw_WP d 92 13 [l0, l1, l2] st σ Q ↔ mw_WP d 92 15 [l0, l1, l2] (jI (15) :: st) σ Q := WP_bipush mq92 dd92_13 (by decide)
theorem dd92_15 : decode cX9_lateDoing 15 = .ok (.iand, 1) := by decide +kernel
theorem ww92_15 {d : Nat} {l0 l1 l2 : Option mw_V} {x y : Int} {st : List mw_V} {σ : mw_S} {Q : Option mw_V → mw_S → Prop} : mw_WP d 92 15 [l0, l1, l2] (jI y :: jI x :: st) σ Q ↔ mw_WP d 92 16 [l0, l1, l2] (jI (zAnd x y) :: st) σ Q := WP_iand mq92 dd92_15
theorem dd92_16 : decode cX9_lateDoing 16 = .ok (.invokestatic 62, 3) := by decide +kernel
theorem ww92_16 {d : Nat} {l0 l1 l2 : Option mw_V} {v0 : mw_V} {st : List mw_V} {σ : mw_S} {Q : Option mw_V → mw_S → Prop} (h8 : (st.map mw_cat).sum ≤ 8) : mw_WP d 92 16 [l0, l1, l2] (v0 :: st) σ Q ↔ mw_Call d 94 [v0] σ (fun r1 s1 => mw_WP d 92 19 [l0, l1, l2] (r1.toList ++ st) s1 Q) := WP_invs (as := [v0]) mq92 dd92_16 (by decide) mq94 rfl rfl h8
theorem dd92_19 : decode cX9_lateDoing 19 = .ok (.ireturn, 1) := by decide +kernel
theorem ww92_19 {d : Nat} {l0 l1 l2 : Option mw_V} {z : Int} {σ : mw_S} {Q : Option mw_V → mw_S → Prop} : mw_WP d 92 19 [l0, l1, l2] [jI z] σ Q ↔ Q (some (jI z)) σ := WP_ireturn (ty := .int) mq92 dd92_19 rfl rfl
theorem ee93 {d : Nat} {z0 : Int} {z1 : Int} {σ : mw_S} {Q : Option mw_V → mw_S → Prop} : mw_Call (d + 1) 93 [jI z0, jI z1] σ Q ↔ mw_WP d 93 0 [some (jI z0), some (jI z1)] [] σ Q := CL_u mq93 (Nat.le_of_ble_eq_true rfl) rfl
theorem dd93_0 : decode cX9_toldBehind 0 = .ok (.iload_n 0, 1) := by decide +kernel
theorem ww93_0 {d : Nat} {l1 : Option mw_V} {x : Int} {st : List mw_V} {σ : mw_S} {Q : Option mw_V → mw_S → Prop} : mw_WP d 93 0 [some (jI x), l1] st σ Q ↔ mw_WP d 93 1 [some (jI x), l1] (jI x :: st) σ Q := WP_iload_n mq93 dd93_0 rfl
theorem dd93_1 : decode cX9_toldBehind 1 = .ok (.iconst 4, 1) := by decide +kernel
theorem ww93_1 {d : Nat} {l0 l1 : Option mw_V} {st : List mw_V} {σ : mw_S} {Q : Option mw_V → mw_S → Prop} : mw_WP d 93 1 [l0, l1] st σ Q ↔ mw_WP d 93 2 [l0, l1] (jI (4) :: st) σ Q := WP_iconst mq93 dd93_1 (by decide)
theorem dd93_2 : decode cX9_toldBehind 2 = .ok (.ishl, 1) := by decide +kernel
theorem ww93_2 {d : Nat} {l0 l1 : Option mw_V} {x y : Int} {st : List mw_V} {σ : mw_S} {Q : Option mw_V → mw_S → Prop} : mw_WP d 93 2 [l0, l1] (jI y :: jI x :: st) σ Q ↔ mw_WP d 93 3 [l0, l1] (jI (zShl x y) :: st) σ Q := WP_ishl mq93 dd93_2
theorem dd93_3 : decode cX9_toldBehind 3 = .ok (.iload_n 1, 1) := by decide +kernel
theorem ww93_3 {d : Nat} {l0 : Option mw_V} {x : Int} {st : List mw_V} {σ : mw_S} {Q : Option mw_V → mw_S → Prop} : mw_WP d 93 3 [l0, some (jI x)] st σ Q ↔ mw_WP d 93 4 [l0, some (jI x)] (jI x :: st) σ Q := WP_iload_n mq93 dd93_3 rfl
theorem dd93_4 : decode cX9_toldBehind 4 = .ok (.ior, 1) := by decide +kernel
theorem ww93_4 {d : Nat} {l0 l1 : Option mw_V} {x y : Int} {st : List mw_V} {σ : mw_S} {Q : Option mw_V → mw_S → Prop} : mw_WP d 93 4 [l0, l1] (jI y :: jI x :: st) σ Q ↔ mw_WP d 93 5 [l0, l1] (jI (zOr x y) :: st) σ Q := WP_ior mq93 dd93_4
theorem dd93_5 : decode cX9_toldBehind 5 = .ok (.ldc 66, 2) := by decide +kernel
theorem ww93_5 {d : Nat} {l0 l1 : Option mw_V} {st : List mw_V} {σ : mw_S} {Q : Option mw_V → mw_S → Prop} : mw_WP d 93 5 [l0, l1] st σ Q ↔ mw_WP d 93 7 [l0, l1] (jI (1048575) :: st) σ Q := WP_ldc (v := 1048575) mq93 dd93_5 (by decide) (by decide)
theorem dd93_7 : decode cX9_toldBehind 7 = .ok (.iand, 1) := by decide +kernel
theorem ww93_7 {d : Nat} {l0 l1 : Option mw_V} {x y : Int} {st : List mw_V} {σ : mw_S} {Q : Option mw_V → mw_S → Prop} : mw_WP d 93 7 [l0, l1] (jI y :: jI x :: st) σ Q ↔ mw_WP d 93 8 [l0, l1] (jI (zAnd x y) :: st) σ Q := WP_iand mq93 dd93_7
theorem dd93_8 : decode cX9_toldBehind 8 = .ok (.ireturn, 1) := by decide +kernel
theorem ww93_8 {d : Nat} {l0 l1 : Option mw_V} {z : Int} {σ : mw_S} {Q : Option mw_V → mw_S → Prop} : mw_WP d 93 8 [l0, l1] [jI z] σ Q ↔ Q (some (jI z)) σ := WP_ireturn (ty := .int) mq93 dd93_8 rfl rfl
theorem ee94 {d : Nat} {z0 : Int} {σ : mw_S} {Q : Option mw_V → mw_S → Prop} : mw_Call (d + 1) 94 [jI z0] σ Q ↔ mw_WP d 94 0 [some (jI z0)] [] σ Q := CL_u mq94 (Nat.le_of_ble_eq_true rfl) rfl
theorem dd94_0 : decode cX9_mirrored 0 = .ok (.iload_n 0, 1) := by decide +kernel
theorem ww94_0 {d : Nat} {x : Int} {st : List mw_V} {σ : mw_S} {Q : Option mw_V → mw_S → Prop} : mw_WP d 94 0 [some (jI x)] st σ Q ↔ mw_WP d 94 1 [some (jI x)] (jI x :: st) σ Q := WP_iload_n mq94 dd94_0 rfl
theorem dd94_1 : decode cX9_mirrored 1 = .ok (.iconst 3, 1) := by decide +kernel
theorem ww94_1 {d : Nat} {l0 : Option mw_V} {st : List mw_V} {σ : mw_S} {Q : Option mw_V → mw_S → Prop} : mw_WP d 94 1 [l0] st σ Q ↔ mw_WP d 94 2 [l0] (jI (3) :: st) σ Q := WP_iconst mq94 dd94_1 (by decide)
theorem dd94_2 : decode cX9_mirrored 2 = .ok (.if_icmp .ge 7, 3) := by decide +kernel
theorem ww94_2 {d : Nat} {l0 : Option mw_V} {x y : Int} {st : List mw_V} {σ : mw_S} {Q : Option mw_V → mw_S → Prop} : mw_WP d 94 2 [l0] (jI y :: jI x :: st) σ Q ↔ (if y ≤ x then mw_WP d 94 9 [l0] st σ Q else mw_WP d 94 5 [l0] st σ Q) := WP_icmp_ge mq94 dd94_2 (by decide)
theorem dd94_5 : decode cX9_mirrored 5 = .ok (.iload_n 0, 1) := by decide +kernel
theorem ww94_5 {d : Nat} {x : Int} {st : List mw_V} {σ : mw_S} {Q : Option mw_V → mw_S → Prop} : mw_WP d 94 5 [some (jI x)] st σ Q ↔ mw_WP d 94 6 [some (jI x)] (jI x :: st) σ Q := WP_iload_n mq94 dd94_5 rfl
theorem dd94_6 : decode cX9_mirrored 6 = .ok (.goto 10, 3) := by decide +kernel
theorem ww94_6 {d : Nat} {l0 : Option mw_V} {st : List mw_V} {σ : mw_S} {Q : Option mw_V → mw_S → Prop} : mw_WP d 94 6 [l0] st σ Q ↔ mw_WP d 94 16 [l0] st σ Q := WP_goto mq94 dd94_6 (by decide)
theorem dd94_9 : decode cX9_mirrored 9 = .ok (.iload_n 0, 1) := by decide +kernel
theorem ww94_9 {d : Nat} {x : Int} {st : List mw_V} {σ : mw_S} {Q : Option mw_V → mw_S → Prop} : mw_WP d 94 9 [some (jI x)] st σ Q ↔ mw_WP d 94 10 [some (jI x)] (jI x :: st) σ Q := WP_iload_n mq94 dd94_9 rfl
theorem dd94_10 : decode cX9_mirrored 10 = .ok (.iconst 3, 1) := by decide +kernel
theorem ww94_10 {d : Nat} {l0 : Option mw_V} {st : List mw_V} {σ : mw_S} {Q : Option mw_V → mw_S → Prop} : mw_WP d 94 10 [l0] st σ Q ↔ mw_WP d 94 11 [l0] (jI (3) :: st) σ Q := WP_iconst mq94 dd94_10 (by decide)
theorem dd94_11 : decode cX9_mirrored 11 = .ok (.isub, 1) := by decide +kernel
theorem ww94_11 {d : Nat} {l0 : Option mw_V} {x y : Int} {st : List mw_V} {σ : mw_S} {Q : Option mw_V → mw_S → Prop} : mw_WP d 94 11 [l0] (jI y :: jI x :: st) σ Q ↔ mw_WP d 94 12 [l0] (jI (w32 (x - y)) :: st) σ Q := WP_isub mq94 dd94_11
theorem dd94_12 : decode cX9_mirrored 12 = .ok (.iconst 1, 1) := by decide +kernel
theorem ww94_12 {d : Nat} {l0 : Option mw_V} {st : List mw_V} {σ : mw_S} {Q : Option mw_V → mw_S → Prop} : mw_WP d 94 12 [l0] st σ Q ↔ mw_WP d 94 13 [l0] (jI (1) :: st) σ Q := WP_iconst mq94 dd94_12 (by decide)
theorem dd94_13 : decode cX9_mirrored 13 = .ok (.ixor, 1) := by decide +kernel
theorem ww94_13 {d : Nat} {l0 : Option mw_V} {x y : Int} {st : List mw_V} {σ : mw_S} {Q : Option mw_V → mw_S → Prop} : mw_WP d 94 13 [l0] (jI y :: jI x :: st) σ Q ↔ mw_WP d 94 14 [l0] (jI (zXor x y) :: st) σ Q := WP_ixor mq94 dd94_13
theorem dd94_14 : decode cX9_mirrored 14 = .ok (.iconst 3, 1) := by decide +kernel
theorem ww94_14 {d : Nat} {l0 : Option mw_V} {st : List mw_V} {σ : mw_S} {Q : Option mw_V → mw_S → Prop} : mw_WP d 94 14 [l0] st σ Q ↔ mw_WP d 94 15 [l0] (jI (3) :: st) σ Q := WP_iconst mq94 dd94_14 (by decide)
theorem dd94_15 : decode cX9_mirrored 15 = .ok (.iadd, 1) := by decide +kernel
theorem ww94_15 {d : Nat} {l0 : Option mw_V} {x y : Int} {st : List mw_V} {σ : mw_S} {Q : Option mw_V → mw_S → Prop} : mw_WP d 94 15 [l0] (jI y :: jI x :: st) σ Q ↔ mw_WP d 94 16 [l0] (jI (w32 (x + y)) :: st) σ Q := WP_iadd mq94 dd94_15
theorem dd94_16 : decode cX9_mirrored 16 = .ok (.ireturn, 1) := by decide +kernel
theorem ww94_16 {d : Nat} {l0 : Option mw_V} {z : Int} {σ : mw_S} {Q : Option mw_V → mw_S → Prop} : mw_WP d 94 16 [l0] [jI z] σ Q ↔ Q (some (jI z)) σ := WP_ireturn (ty := .int) mq94 dd94_16 rfl rfl
theorem ee95 {d : Nat} {a0 : Nat} {z1 : Int} {z2 : Int} {σ : mw_S} {Q : Option mw_V → mw_S → Prop} : mw_Call (d + 1) 95 [jR a0, jI z1, jI z2] σ Q ↔ mw_WP d 95 0 [some (jR a0), some (jI z1), some (jI z2)] [] σ Q := CL_u mq95 (Nat.le_of_ble_eq_true rfl) rfl
theorem dd95_0 : decode cX9_boredThen 0 = .ok (.iload_n 2, 1) := by decide +kernel
theorem ww95_0 {d : Nat} {l0 l1 : Option mw_V} {x : Int} {st : List mw_V} {σ : mw_S} {Q : Option mw_V → mw_S → Prop} : mw_WP d 95 0 [l0, l1, some (jI x)] st σ Q ↔ mw_WP d 95 1 [l0, l1, some (jI x)] (jI x :: st) σ Q := WP_iload_n mq95 dd95_0 rfl
theorem dd95_1 : decode cX9_boredThen 1 = .ok (.ifCond .ne 19, 3) := by decide +kernel
theorem ww95_1 {d : Nat} {l0 l1 l2 : Option mw_V} {x : Int} {st : List mw_V} {σ : mw_S} {Q : Option mw_V → mw_S → Prop} : mw_WP d 95 1 [l0, l1, l2] (jI x :: st) σ Q ↔ (if ¬ x = 0 then mw_WP d 95 20 [l0, l1, l2] st σ Q else mw_WP d 95 4 [l0, l1, l2] st σ Q) := WP_if_ne mq95 dd95_1 (by decide)
theorem dd95_4 : decode cX9_boredThen 4 = .ok (.bipush 9, 2) := by decide +kernel
theorem ww95_4 {d : Nat} {l0 l1 l2 : Option mw_V} {st : List mw_V} {σ : mw_S} {Q : Option mw_V → mw_S → Prop} : mw_WP d 95 4 [l0, l1, l2] st σ Q ↔ mw_WP d 95 6 [l0, l1, l2] (jI (9) :: st) σ Q := WP_bipush mq95 dd95_4 (by decide)
theorem dd95_6 : decode cX9_boredThen 6 = .ok (.aload_n 0, 1) := by decide +kernel
theorem ww95_6 {d : Nat} {l1 l2 : Option mw_V} {x : Nat} {st : List mw_V} {σ : mw_S} {Q : Option mw_V → mw_S → Prop} : mw_WP d 95 6 [some (jR x), l1, l2] st σ Q ↔ mw_WP d 95 7 [some (jR x), l1, l2] (jR x :: st) σ Q := WP_aload_n mq95 dd95_6 rfl
theorem dd95_7 : decode cX9_boredThen 7 = .ok (.bipush 10, 2) := by decide +kernel
theorem ww95_7 {d : Nat} {l0 l1 l2 : Option mw_V} {st : List mw_V} {σ : mw_S} {Q : Option mw_V → mw_S → Prop} : mw_WP d 95 7 [l0, l1, l2] st σ Q ↔ mw_WP d 95 9 [l0, l1, l2] (jI (10) :: st) σ Q := WP_bipush mq95 dd95_7 (by decide)
theorem dd95_9 : decode cX9_boredThen 9 = .ok (.iload_n 1, 1) := by decide +kernel
theorem ww95_9 {d : Nat} {l0 l2 : Option mw_V} {x : Int} {st : List mw_V} {σ : mw_S} {Q : Option mw_V → mw_S → Prop} : mw_WP d 95 9 [l0, some (jI x), l2] st σ Q ↔ mw_WP d 95 10 [l0, some (jI x), l2] (jI x :: st) σ Q := WP_iload_n mq95 dd95_9 rfl
theorem dd95_10 : decode cX9_boredThen 10 = .ok (.iadd, 1) := by decide +kernel
theorem ww95_10 {d : Nat} {l0 l1 l2 : Option mw_V} {x y : Int} {st : List mw_V} {σ : mw_S} {Q : Option mw_V → mw_S → Prop} : mw_WP d 95 10 [l0, l1, l2] (jI y :: jI x :: st) σ Q ↔ mw_WP d 95 11 [l0, l1, l2] (jI (w32 (x + y)) :: st) σ Q := WP_iadd mq95 dd95_10
theorem dd95_11 : decode cX9_boredThen 11 = .ok (.iaload, 1) := by decide +kernel
theorem ww95_11 {d : Nat} {l0 l1 l2 : Option mw_V} {z : Int} {a : Nat} {st : List mw_V} {σ : mw_S} {Q : Option mw_V → mw_S → Prop} : mw_WP d 95 11 [l0, l1, l2] (jI z :: jR a :: st) σ Q ↔ ((0 ≤ z ∧ z < mw_lenI a) ∧ mw_WP d 95 12 [l0, l1, l2] (jI (mw_rdI σ a z.toNat) :: st) σ Q) := WP_iaload mq95 dd95_11
theorem dd95_12 : decode cX9_boredThen 12 = .ok (.iconst 1, 1) := by decide +kernel
theorem ww95_12 {d : Nat} {l0 l1 l2 : Option mw_V} {st : List mw_V} {σ : mw_S} {Q : Option mw_V → mw_S → Prop} : mw_WP d 95 12 [l0, l1, l2] st σ Q ↔ mw_WP d 95 13 [l0, l1, l2] (jI (1) :: st) σ Q := WP_iconst mq95 dd95_12 (by decide)
theorem dd95_13 : decode cX9_boredThen 13 = .ok (.iadd, 1) := by decide +kernel
theorem ww95_13 {d : Nat} {l0 l1 l2 : Option mw_V} {x y : Int} {st : List mw_V} {σ : mw_S} {Q : Option mw_V → mw_S → Prop} : mw_WP d 95 13 [l0, l1, l2] (jI y :: jI x :: st) σ Q ↔ mw_WP d 95 14 [l0, l1, l2] (jI (w32 (x + y)) :: st) σ Q := WP_iadd mq95 dd95_13
theorem dd95_14 : decode cX9_boredThen 14 = .ok (.invokestatic 67, 3) := by decide +kernel
theorem ww95_14 {d : Nat} {l0 l1 l2 : Option mw_V} {v0 v1 : mw_V} {st : List mw_V} {σ : mw_S} {Q : Option mw_V → mw_S → Prop} (h8 : (st.map mw_cat).sum ≤ 8) : mw_WP d 95 14 [l0, l1, l2] (v1 :: v0 :: st) σ Q ↔ mw_Call d 283 [v0, v1] σ (fun r1 s1 => mw_WP d 95 17 [l0, l1, l2] (r1.toList ++ st) s1 Q) := WP_invs (as := [v1, v0]) mq95 dd95_14 (by decide) mq283 rfl rfl h8
theorem dd95_17 : decode cX9_boredThen 17 = .ok (.goto 4, 3) := by decide +kernel
theorem ww95_17 {d : Nat} {l0 l1 l2 : Option mw_V} {st : List mw_V} {σ : mw_S} {Q : Option mw_V → mw_S → Prop} : mw_WP d 95 17 [l0, l1, l2] st σ Q ↔ mw_WP d 95 21 [l0, l1, l2] st σ Q := WP_goto mq95 dd95_17 (by decide)
theorem dd95_20 : decode cX9_boredThen 20 = .ok (.iconst 0, 1) := by decide +kernel
theorem ww95_20 {d : Nat} {l0 l1 l2 : Option mw_V} {st : List mw_V} {σ : mw_S} {Q : Option mw_V → mw_S → Prop} : mw_WP d 95 20 [l0, l1, l2] st σ Q ↔ mw_WP d 95 21 [l0, l1, l2] (jI (0) :: st) σ Q := WP_iconst mq95 dd95_20 (by decide)
theorem dd95_21 : decode cX9_boredThen 21 = .ok (.ireturn, 1) := by decide +kernel
theorem ww95_21 {d : Nat} {l0 l1 l2 : Option mw_V} {z : Int} {σ : mw_S} {Q : Option mw_V → mw_S → Prop} : mw_WP d 95 21 [l0, l1, l2] [jI z] σ Q ↔ Q (some (jI z)) σ := WP_ireturn (ty := .int) mq95 dd95_21 rfl rfl
theorem ee96 {d : Nat} {a : Nat} {z0 : Int} {z1 : Int} {σ : mw_S} {Q : Option mw_V → mw_S → Prop} : mw_Call (d + 1) 96 [jR a, jI z0, jI z1] σ Q ↔ mw_WP d 96 0 [some (jR a), some (jI z0), some (jI z1)] [] σ Q := CL_u mq96 (Nat.le_of_ble_eq_true rfl) rfl
theorem dd96_0 : decode cX9_handPlace 0 = .ok (.iload_n 1, 1) := by decide +kernel
theorem ww96_0 {d : Nat} {l0 l2 : Option mw_V} {x : Int} {st : List mw_V} {σ : mw_S} {Q : Option mw_V → mw_S → Prop} : mw_WP d 96 0 [l0, some (jI x), l2] st σ Q ↔ mw_WP d 96 1 [l0, some (jI x), l2] (jI x :: st) σ Q := WP_iload_n mq96 dd96_0 rfl
theorem dd96_1 : decode cX9_handPlace 1 = .ok (.iconst 3, 1) := by decide +kernel
theorem ww96_1 {d : Nat} {l0 l1 l2 : Option mw_V} {st : List mw_V} {σ : mw_S} {Q : Option mw_V → mw_S → Prop} : mw_WP d 96 1 [l0, l1, l2] st σ Q ↔ mw_WP d 96 2 [l0, l1, l2] (jI (3) :: st) σ Q := WP_iconst mq96 dd96_1 (by decide)
theorem dd96_2 : decode cX9_handPlace 2 = .ok (.if_icmp .ge 14, 3) := by decide +kernel
theorem ww96_2 {d : Nat} {l0 l1 l2 : Option mw_V} {x y : Int} {st : List mw_V} {σ : mw_S} {Q : Option mw_V → mw_S → Prop} : mw_WP d 96 2 [l0, l1, l2] (jI y :: jI x :: st) σ Q ↔ (if y ≤ x then mw_WP d 96 16 [l0, l1, l2] st σ Q else mw_WP d 96 5 [l0, l1, l2] st σ Q) := WP_icmp_ge mq96 dd96_2 (by decide)
theorem dd96_5 : decode cX9_handPlace 5 = .ok (.bipush 20, 2) := by decide +kernel
theorem ww96_5 {d : Nat} {l0 l1 l2 : Option mw_V} {st : List mw_V} {σ : mw_S} {Q : Option mw_V → mw_S → Prop} : mw_WP d 96 5 [l0, l1, l2] st σ Q ↔ mw_WP d 96 7 [l0, l1, l2] (jI (20) :: st) σ Q := WP_bipush mq96 dd96_5 (by decide)
theorem dd96_7 : decode cX9_handPlace 7 = .ok (.iconst 2, 1) := by decide +kernel
theorem ww96_7 {d : Nat} {l0 l1 l2 : Option mw_V} {st : List mw_V} {σ : mw_S} {Q : Option mw_V → mw_S → Prop} : mw_WP d 96 7 [l0, l1, l2] st σ Q ↔ mw_WP d 96 8 [l0, l1, l2] (jI (2) :: st) σ Q := WP_iconst mq96 dd96_7 (by decide)
theorem dd96_8 : decode cX9_handPlace 8 = .ok (.iload_n 1, 1) := by decide +kernel
theorem ww96_8 {d : Nat} {l0 l2 : Option mw_V} {x : Int} {st : List mw_V} {σ : mw_S} {Q : Option mw_V → mw_S → Prop} : mw_WP d 96 8 [l0, some (jI x), l2] st σ Q ↔ mw_WP d 96 9 [l0, some (jI x), l2] (jI x :: st) σ Q := WP_iload_n mq96 dd96_8 rfl
theorem dd96_9 : decode cX9_handPlace 9 = .ok (.imul, 1) := by decide +kernel
theorem ww96_9 {d : Nat} {l0 l1 l2 : Option mw_V} {x y : Int} {st : List mw_V} {σ : mw_S} {Q : Option mw_V → mw_S → Prop} : mw_WP d 96 9 [l0, l1, l2] (jI y :: jI x :: st) σ Q ↔ mw_WP d 96 10 [l0, l1, l2] (jI (w32 (x * y)) :: st) σ Q := WP_imul mq96 dd96_9
theorem dd96_10 : decode cX9_handPlace 10 = .ok (.iadd, 1) := by decide +kernel
theorem ww96_10 {d : Nat} {l0 l1 l2 : Option mw_V} {x y : Int} {st : List mw_V} {σ : mw_S} {Q : Option mw_V → mw_S → Prop} : mw_WP d 96 10 [l0, l1, l2] (jI y :: jI x :: st) σ Q ↔ mw_WP d 96 11 [l0, l1, l2] (jI (w32 (x + y)) :: st) σ Q := WP_iadd mq96 dd96_10
theorem dd96_11 : decode cX9_handPlace 11 = .ok (.iload_n 2, 1) := by decide +kernel
theorem ww96_11 {d : Nat} {l0 l1 : Option mw_V} {x : Int} {st : List mw_V} {σ : mw_S} {Q : Option mw_V → mw_S → Prop} : mw_WP d 96 11 [l0, l1, some (jI x)] st σ Q ↔ mw_WP d 96 12 [l0, l1, some (jI x)] (jI x :: st) σ Q := WP_iload_n mq96 dd96_11 rfl
theorem dd96_12 : decode cX9_handPlace 12 = .ok (.iadd, 1) := by decide +kernel
theorem ww96_12 {d : Nat} {l0 l1 l2 : Option mw_V} {x y : Int} {st : List mw_V} {σ : mw_S} {Q : Option mw_V → mw_S → Prop} : mw_WP d 96 12 [l0, l1, l2] (jI y :: jI x :: st) σ Q ↔ mw_WP d 96 13 [l0, l1, l2] (jI (w32 (x + y)) :: st) σ Q := WP_iadd mq96 dd96_12
theorem dd96_13 : decode cX9_handPlace 13 = .ok (.goto 13, 3) := by decide +kernel
theorem ww96_13 {d : Nat} {l0 l1 l2 : Option mw_V} {st : List mw_V} {σ : mw_S} {Q : Option mw_V → mw_S → Prop} : mw_WP d 96 13 [l0, l1, l2] st σ Q ↔ mw_WP d 96 26 [l0, l1, l2] st σ Q := WP_goto mq96 dd96_13 (by decide)
theorem dd96_16 : decode cX9_handPlace 16 = .ok (.bipush 30, 2) := by decide +kernel
theorem ww96_16 {d : Nat} {l0 l1 l2 : Option mw_V} {st : List mw_V} {σ : mw_S} {Q : Option mw_V → mw_S → Prop} : mw_WP d 96 16 [l0, l1, l2] st σ Q ↔ mw_WP d 96 18 [l0, l1, l2] (jI (30) :: st) σ Q := WP_bipush mq96 dd96_16 (by decide)
theorem dd96_18 : decode cX9_handPlace 18 = .ok (.iconst 2, 1) := by decide +kernel
theorem ww96_18 {d : Nat} {l0 l1 l2 : Option mw_V} {st : List mw_V} {σ : mw_S} {Q : Option mw_V → mw_S → Prop} : mw_WP d 96 18 [l0, l1, l2] st σ Q ↔ mw_WP d 96 19 [l0, l1, l2] (jI (2) :: st) σ Q := WP_iconst mq96 dd96_18 (by decide)
theorem dd96_19 : decode cX9_handPlace 19 = .ok (.iload_n 1, 1) := by decide +kernel
theorem ww96_19 {d : Nat} {l0 l2 : Option mw_V} {x : Int} {st : List mw_V} {σ : mw_S} {Q : Option mw_V → mw_S → Prop} : mw_WP d 96 19 [l0, some (jI x), l2] st σ Q ↔ mw_WP d 96 20 [l0, some (jI x), l2] (jI x :: st) σ Q := WP_iload_n mq96 dd96_19 rfl
theorem dd96_20 : decode cX9_handPlace 20 = .ok (.iconst 3, 1) := by decide +kernel
theorem ww96_20 {d : Nat} {l0 l1 l2 : Option mw_V} {st : List mw_V} {σ : mw_S} {Q : Option mw_V → mw_S → Prop} : mw_WP d 96 20 [l0, l1, l2] st σ Q ↔ mw_WP d 96 21 [l0, l1, l2] (jI (3) :: st) σ Q := WP_iconst mq96 dd96_20 (by decide)
theorem dd96_21 : decode cX9_handPlace 21 = .ok (.isub, 1) := by decide +kernel
theorem ww96_21 {d : Nat} {l0 l1 l2 : Option mw_V} {x y : Int} {st : List mw_V} {σ : mw_S} {Q : Option mw_V → mw_S → Prop} : mw_WP d 96 21 [l0, l1, l2] (jI y :: jI x :: st) σ Q ↔ mw_WP d 96 22 [l0, l1, l2] (jI (w32 (x - y)) :: st) σ Q := WP_isub mq96 dd96_21
theorem dd96_22 : decode cX9_handPlace 22 = .ok (.imul, 1) := by decide +kernel
theorem ww96_22 {d : Nat} {l0 l1 l2 : Option mw_V} {x y : Int} {st : List mw_V} {σ : mw_S} {Q : Option mw_V → mw_S → Prop} : mw_WP d 96 22 [l0, l1, l2] (jI y :: jI x :: st) σ Q ↔ mw_WP d 96 23 [l0, l1, l2] (jI (w32 (x * y)) :: st) σ Q := WP_imul mq96 dd96_22
theorem dd96_23 : decode cX9_handPlace 23 = .ok (.iadd, 1) := by decide +kernel
theorem ww96_23 {d : Nat} {l0 l1 l2 : Option mw_V} {x y : Int} {st : List mw_V} {σ : mw_S} {Q : Option mw_V → mw_S → Prop} : mw_WP d 96 23 [l0, l1, l2] (jI y :: jI x :: st) σ Q ↔ mw_WP d 96 24 [l0, l1, l2] (jI (w32 (x + y)) :: st) σ Q := WP_iadd mq96 dd96_23
theorem dd96_24 : decode cX9_handPlace 24 = .ok (.iload_n 2, 1) := by decide +kernel
theorem ww96_24 {d : Nat} {l0 l1 : Option mw_V} {x : Int} {st : List mw_V} {σ : mw_S} {Q : Option mw_V → mw_S → Prop} : mw_WP d 96 24 [l0, l1, some (jI x)] st σ Q ↔ mw_WP d 96 25 [l0, l1, some (jI x)] (jI x :: st) σ Q := WP_iload_n mq96 dd96_24 rfl
theorem dd96_25 : decode cX9_handPlace 25 = .ok (.iadd, 1) := by decide +kernel
theorem ww96_25 {d : Nat} {l0 l1 l2 : Option mw_V} {x y : Int} {st : List mw_V} {σ : mw_S} {Q : Option mw_V → mw_S → Prop} : mw_WP d 96 25 [l0, l1, l2] (jI y :: jI x :: st) σ Q ↔ mw_WP d 96 26 [l0, l1, l2] (jI (w32 (x + y)) :: st) σ Q := WP_iadd mq96 dd96_25
theorem dd96_26 : decode cX9_handPlace 26 = .ok (.ireturn, 1) := by decide +kernel
theorem ww96_26 {d : Nat} {l0 l1 l2 : Option mw_V} {z : Int} {σ : mw_S} {Q : Option mw_V → mw_S → Prop} : mw_WP d 96 26 [l0, l1, l2] [jI z] σ Q ↔ Q (some (jI z)) σ := WP_ireturn (ty := .int) mq96 dd96_26 rfl rfl
theorem ee97 {d : Nat} {a : Nat} {a0 : Nat} {z1 : Int} {σ : mw_S} {Q : Option mw_V → mw_S → Prop} : mw_Call (d + 1) 97 [jR a, jR a0, jI z1] σ Q ↔ mw_WP d 97 0 [some (jR a), some (jR a0), some (jI z1), none] [] σ Q := CL_u mq97 (Nat.le_of_ble_eq_true rfl) rfl
theorem dd97_0 : decode cX9_thingAt 0 = .ok (.iconst 0, 1) := by decide +kernel
theorem ww97_0 {d : Nat} {l0 l1 l2 l3 : Option mw_V} {st : List mw_V} {σ : mw_S} {Q : Option mw_V → mw_S → Prop} : mw_WP d 97 0 [l0, l1, l2, l3] st σ Q ↔ mw_WP d 97 1 [l0, l1, l2, l3] (jI (0) :: st) σ Q := WP_iconst mq97 dd97_0 (by decide)
theorem dd97_1 : decode cX9_thingAt 1 = .ok (.istore_n 3, 1) := by decide +kernel
theorem ww97_1 {d : Nat} {l0 l1 l2 l3 : Option mw_V} {x : Int} {st : List mw_V} {σ : mw_S} {Q : Option mw_V → mw_S → Prop} (h : mw_nlo l2 = true) : mw_WP d 97 1 [l0, l1, l2, l3] (jI x :: st) σ Q ↔ mw_WP d 97 2 [l0, l1, l2, some (jI x)] st σ Q := WP_istore_n mq97 dd97_1 (Nat.le_of_ble_eq_true rfl) (mw_nl_of (i := 2) rfl h) rfl
theorem dd97_2 : decode cX9_thingAt 2 = .ok (.iload_n 3, 1) := by decide +kernel
theorem ww97_2 {d : Nat} {l0 l1 l2 : Option mw_V} {x : Int} {st : List mw_V} {σ : mw_S} {Q : Option mw_V → mw_S → Prop} : mw_WP d 97 2 [l0, l1, l2, some (jI x)] st σ Q ↔ mw_WP d 97 3 [l0, l1, l2, some (jI x)] (jI x :: st) σ Q := WP_iload_n mq97 dd97_2 rfl
theorem dd97_3 : decode cX9_thingAt 3 = .ok (.aload_n 0, 1) := by decide +kernel
theorem ww97_3 {d : Nat} {l1 l2 l3 : Option mw_V} {x : Nat} {st : List mw_V} {σ : mw_S} {Q : Option mw_V → mw_S → Prop} : mw_WP d 97 3 [some (jR x), l1, l2, l3] st σ Q ↔ mw_WP d 97 4 [some (jR x), l1, l2, l3] (jR x :: st) σ Q := WP_aload_n mq97 dd97_3 rfl
theorem dd97_4 : decode cX9_thingAt 4 = .ok (.getfield 18, 3) := by decide +kernel
theorem ww97_4 {d : Nat} {l0 l1 l2 l3 : Option mw_V} {st : List mw_V} {σ : mw_S} {Q : Option mw_V → mw_S → Prop} : mw_WP d 97 4 [l0, l1, l2, l3] (jR 22 :: st) σ Q ↔ mw_WP d 97 7 [l0, l1, l2, l3] (jR 13 :: st) σ Q := WP_getR (ci := 8) (k := 0) mq97 dd97_4 (by decide) rfl
theorem dd97_7 : decode cX9_thingAt 7 = .ok (.getfield 72, 3) := by decide +kernel
theorem ww97_7i3 {d : Nat} {l0 l1 l2 l3 : Option mw_V} {st : List mw_V} {σ : mw_S} {Q : Option mw_V → mw_S → Prop} : mw_WP d 97 7 [l0, l1, l2, l3] (jR 3 :: st) σ Q ↔ mw_WP d 97 10 [l0, l1, l2, l3] (jI (σ 3 2) :: st) σ Q := WP_getI (ci := 0) (k := 2) mq97 dd97_7 (by decide) (Or.inl rfl)
theorem ww97_7i13 {d : Nat} {l0 l1 l2 l3 : Option mw_V} {st : List mw_V} {σ : mw_S} {Q : Option mw_V → mw_S → Prop} : mw_WP d 97 7 [l0, l1, l2, l3] (jR 13 :: st) σ Q ↔ mw_WP d 97 10 [l0, l1, l2, l3] (jI (σ 13 2) :: st) σ Q := WP_getI (ci := 0) (k := 2) mq97 dd97_7 (by decide) (Or.inl rfl)
theorem ww97_7i77 {d : Nat} {l0 l1 l2 l3 : Option mw_V} {st : List mw_V} {σ : mw_S} {Q : Option mw_V → mw_S → Prop} : mw_WP d 97 7 [l0, l1, l2, l3] (jR 77 :: st) σ Q ↔ mw_WP d 97 10 [l0, l1, l2, l3] (jI (σ 77 2) :: st) σ Q := WP_getI (ci := 0) (k := 2) mq97 dd97_7 (by decide) (Or.inl rfl)
theorem ww97_7i88 {d : Nat} {l0 l1 l2 l3 : Option mw_V} {st : List mw_V} {σ : mw_S} {Q : Option mw_V → mw_S → Prop} : mw_WP d 97 7 [l0, l1, l2, l3] (jR 88 :: st) σ Q ↔ mw_WP d 97 10 [l0, l1, l2, l3] (jI (σ 88 2) :: st) σ Q := WP_getI (ci := 0) (k := 2) mq97 dd97_7 (by decide) (Or.inl rfl)
theorem dd97_10 : decode cX9_thingAt 10 = .ok (.if_icmp .ge 21, 3) := by decide +kernel
theorem ww97_10 {d : Nat} {l0 l1 l2 l3 : Option mw_V} {x y : Int} {st : List mw_V} {σ : mw_S} {Q : Option mw_V → mw_S → Prop} : mw_WP d 97 10 [l0, l1, l2, l3] (jI y :: jI x :: st) σ Q ↔ (if y ≤ x then mw_WP d 97 31 [l0, l1, l2, l3] st σ Q else mw_WP d 97 13 [l0, l1, l2, l3] st σ Q) := WP_icmp_ge mq97 dd97_10 (by decide)
theorem dd97_13 : decode cX9_thingAt 13 = .ok (.aload_n 1, 1) := by decide +kernel
theorem ww97_13 {d : Nat} {l0 l2 l3 : Option mw_V} {x : Nat} {st : List mw_V} {σ : mw_S} {Q : Option mw_V → mw_S → Prop} : mw_WP d 97 13 [l0, some (jR x), l2, l3] st σ Q ↔ mw_WP d 97 14 [l0, some (jR x), l2, l3] (jR x :: st) σ Q := WP_aload_n mq97 dd97_13 rfl
theorem dd97_14 : decode cX9_thingAt 14 = .ok (.bipush 6, 2) := by decide +kernel
theorem ww97_14 {d : Nat} {l0 l1 l2 l3 : Option mw_V} {st : List mw_V} {σ : mw_S} {Q : Option mw_V → mw_S → Prop} : mw_WP d 97 14 [l0, l1, l2, l3] st σ Q ↔ mw_WP d 97 16 [l0, l1, l2, l3] (jI (6) :: st) σ Q := WP_bipush mq97 dd97_14 (by decide)
theorem dd97_16 : decode cX9_thingAt 16 = .ok (.iload_n 3, 1) := by decide +kernel
theorem ww97_16 {d : Nat} {l0 l1 l2 : Option mw_V} {x : Int} {st : List mw_V} {σ : mw_S} {Q : Option mw_V → mw_S → Prop} : mw_WP d 97 16 [l0, l1, l2, some (jI x)] st σ Q ↔ mw_WP d 97 17 [l0, l1, l2, some (jI x)] (jI x :: st) σ Q := WP_iload_n mq97 dd97_16 rfl
theorem dd97_17 : decode cX9_thingAt 17 = .ok (.iadd, 1) := by decide +kernel
theorem ww97_17 {d : Nat} {l0 l1 l2 l3 : Option mw_V} {x y : Int} {st : List mw_V} {σ : mw_S} {Q : Option mw_V → mw_S → Prop} : mw_WP d 97 17 [l0, l1, l2, l3] (jI y :: jI x :: st) σ Q ↔ mw_WP d 97 18 [l0, l1, l2, l3] (jI (w32 (x + y)) :: st) σ Q := WP_iadd mq97 dd97_17
theorem dd97_18 : decode cX9_thingAt 18 = .ok (.iaload, 1) := by decide +kernel
theorem ww97_18 {d : Nat} {l0 l1 l2 l3 : Option mw_V} {z : Int} {a : Nat} {st : List mw_V} {σ : mw_S} {Q : Option mw_V → mw_S → Prop} : mw_WP d 97 18 [l0, l1, l2, l3] (jI z :: jR a :: st) σ Q ↔ ((0 ≤ z ∧ z < mw_lenI a) ∧ mw_WP d 97 19 [l0, l1, l2, l3] (jI (mw_rdI σ a z.toNat) :: st) σ Q) := WP_iaload mq97 dd97_18
theorem dd97_19 : decode cX9_thingAt 19 = .ok (.iload_n 2, 1) := by decide +kernel
theorem ww97_19 {d : Nat} {l0 l1 l3 : Option mw_V} {x : Int} {st : List mw_V} {σ : mw_S} {Q : Option mw_V → mw_S → Prop} : mw_WP d 97 19 [l0, l1, some (jI x), l3] st σ Q ↔ mw_WP d 97 20 [l0, l1, some (jI x), l3] (jI x :: st) σ Q := WP_iload_n mq97 dd97_19 rfl
theorem dd97_20 : decode cX9_thingAt 20 = .ok (.if_icmp .ne 5, 3) := by decide +kernel
theorem ww97_20 {d : Nat} {l0 l1 l2 l3 : Option mw_V} {x y : Int} {st : List mw_V} {σ : mw_S} {Q : Option mw_V → mw_S → Prop} : mw_WP d 97 20 [l0, l1, l2, l3] (jI y :: jI x :: st) σ Q ↔ (if ¬ x = y then mw_WP d 97 25 [l0, l1, l2, l3] st σ Q else mw_WP d 97 23 [l0, l1, l2, l3] st σ Q) := WP_icmp_ne mq97 dd97_20 (by decide)
theorem dd97_23 : decode cX9_thingAt 23 = .ok (.iload_n 3, 1) := by decide +kernel
theorem ww97_23 {d : Nat} {l0 l1 l2 : Option mw_V} {x : Int} {st : List mw_V} {σ : mw_S} {Q : Option mw_V → mw_S → Prop} : mw_WP d 97 23 [l0, l1, l2, some (jI x)] st σ Q ↔ mw_WP d 97 24 [l0, l1, l2, some (jI x)] (jI x :: st) σ Q := WP_iload_n mq97 dd97_23 rfl
theorem dd97_24 : decode cX9_thingAt 24 = .ok (.ireturn, 1) := by decide +kernel
theorem ww97_24 {d : Nat} {l0 l1 l2 l3 : Option mw_V} {z : Int} {σ : mw_S} {Q : Option mw_V → mw_S → Prop} : mw_WP d 97 24 [l0, l1, l2, l3] [jI z] σ Q ↔ Q (some (jI z)) σ := WP_ireturn (ty := .int) mq97 dd97_24 rfl rfl
theorem dd97_25 : decode cX9_thingAt 25 = .ok (.iinc 3 1, 3) := by decide +kernel
theorem ww97_25 {d : Nat} {l0 l1 l2 : Option mw_V} {x : Int} {st : List mw_V} {σ : mw_S} {Q : Option mw_V → mw_S → Prop} (h : mw_nlo l2 = true) : mw_WP d 97 25 [l0, l1, l2, some (jI x)] st σ Q ↔ mw_WP d 97 28 [l0, l1, l2, some (jI (w32 (x + (1))))] st σ Q := WP_iinc mq97 dd97_25 rfl (Nat.le_of_ble_eq_true rfl) (mw_nl_of (i := 2) rfl h) rfl
theorem dd97_28 : decode cX9_thingAt 28 = .ok (.goto (-26), 3) := by decide +kernel
theorem ww97_28 {d : Nat} {l0 l1 l2 l3 : Option mw_V} {st : List mw_V} {σ : mw_S} {Q : Option mw_V → mw_S → Prop} : mw_WP d 97 28 [l0, l1, l2, l3] st σ Q ↔ mw_WP d 97 2 [l0, l1, l2, l3] st σ Q := WP_goto mq97 dd97_28 (by decide)
theorem dd97_31 : decode cX9_thingAt 31 = .ok (.iconst (-1), 1) := by decide +kernel
theorem ww97_31 {d : Nat} {l0 l1 l2 l3 : Option mw_V} {st : List mw_V} {σ : mw_S} {Q : Option mw_V → mw_S → Prop} : mw_WP d 97 31 [l0, l1, l2, l3] st σ Q ↔ mw_WP d 97 32 [l0, l1, l2, l3] (jI (-1) :: st) σ Q := WP_iconst mq97 dd97_31 (by decide)
theorem dd97_32 : decode cX9_thingAt 32 = .ok (.ireturn, 1) := by decide +kernel
theorem ww97_32 {d : Nat} {l0 l1 l2 l3 : Option mw_V} {z : Int} {σ : mw_S} {Q : Option mw_V → mw_S → Prop} : mw_WP d 97 32 [l0, l1, l2, l3] [jI z] σ Q ↔ Q (some (jI z)) σ := WP_ireturn (ty := .int) mq97 dd97_32 rfl rfl
theorem ee98 {d : Nat} {a0 : Nat} {z1 : Int} {σ : mw_S} {Q : Option mw_V → mw_S → Prop} : mw_Call (d + 1) 98 [jR a0, jI z1] σ Q ↔ mw_WP d 98 0 [some (jR a0), some (jI z1)] [] σ Q := CL_u mq98 (Nat.le_of_ble_eq_true rfl) rfl
theorem dd98_0 : decode cX9_ground 0 = .ok (.iload_n 1, 1) := by decide +kernel
theorem ww98_0 {d : Nat} {l0 : Option mw_V} {x : Int} {st : List mw_V} {σ : mw_S} {Q : Option mw_V → mw_S → Prop} : mw_WP d 98 0 [l0, some (jI x)] st σ Q ↔ mw_WP d 98 1 [l0, some (jI x)] (jI x :: st) σ Q := WP_iload_n mq98 dd98_0 rfl
theorem dd98_1 : decode cX9_ground 1 = .ok (.iconst 3, 1) := by decide +kernel
theorem ww98_1 {d : Nat} {l0 l1 : Option mw_V} {st : List mw_V} {σ : mw_S} {Q : Option mw_V → mw_S → Prop} : mw_WP d 98 1 [l0, l1] st σ Q ↔ mw_WP d 98 2 [l0, l1] (jI (3) :: st) σ Q := WP_iconst mq98 dd98_1 (by decide)
theorem dd98_2 : decode cX9_ground 2 = .ok (.if_icmp .ge 11, 3) := by decide +kernel
theorem ww98_2 {d : Nat} {l0 l1 : Option mw_V} {x y : Int} {st : List mw_V} {σ : mw_S} {Q : Option mw_V → mw_S → Prop} : mw_WP d 98 2 [l0, l1] (jI y :: jI x :: st) σ Q ↔ (if y ≤ x then mw_WP d 98 13 [l0, l1] st σ Q else mw_WP d 98 5 [l0, l1] st σ Q) := WP_icmp_ge mq98 dd98_2 (by decide)
theorem dd98_5 : decode cX9_ground 5 = .ok (.aload_n 0, 1) := by decide +kernel
theorem ww98_5 {d : Nat} {l1 : Option mw_V} {x : Nat} {st : List mw_V} {σ : mw_S} {Q : Option mw_V → mw_S → Prop} : mw_WP d 98 5 [some (jR x), l1] st σ Q ↔ mw_WP d 98 6 [some (jR x), l1] (jR x :: st) σ Q := WP_aload_n mq98 dd98_5 rfl
theorem dd98_6 : decode cX9_ground 6 = .ok (.iconst 0, 1) := by decide +kernel
theorem ww98_6 {d : Nat} {l0 l1 : Option mw_V} {st : List mw_V} {σ : mw_S} {Q : Option mw_V → mw_S → Prop} : mw_WP d 98 6 [l0, l1] st σ Q ↔ mw_WP d 98 7 [l0, l1] (jI (0) :: st) σ Q := WP_iconst mq98 dd98_6 (by decide)
theorem dd98_7 : decode cX9_ground 7 = .ok (.iload_n 1, 1) := by decide +kernel
theorem ww98_7 {d : Nat} {l0 : Option mw_V} {x : Int} {st : List mw_V} {σ : mw_S} {Q : Option mw_V → mw_S → Prop} : mw_WP d 98 7 [l0, some (jI x)] st σ Q ↔ mw_WP d 98 8 [l0, some (jI x)] (jI x :: st) σ Q := WP_iload_n mq98 dd98_7 rfl
theorem dd98_8 : decode cX9_ground 8 = .ok (.iadd, 1) := by decide +kernel
theorem ww98_8 {d : Nat} {l0 l1 : Option mw_V} {x y : Int} {st : List mw_V} {σ : mw_S} {Q : Option mw_V → mw_S → Prop} : mw_WP d 98 8 [l0, l1] (jI y :: jI x :: st) σ Q ↔ mw_WP d 98 9 [l0, l1] (jI (w32 (x + y)) :: st) σ Q := WP_iadd mq98 dd98_8
theorem dd98_9 : decode cX9_ground 9 = .ok (.iaload, 1) := by decide +kernel
theorem ww98_9 {d : Nat} {l0 l1 : Option mw_V} {z : Int} {a : Nat} {st : List mw_V} {σ : mw_S} {Q : Option mw_V → mw_S → Prop} : mw_WP d 98 9 [l0, l1] (jI z :: jR a :: st) σ Q ↔ ((0 ≤ z ∧ z < mw_lenI a) ∧ mw_WP d 98 10 [l0, l1] (jI (mw_rdI σ a z.toNat) :: st) σ Q) := WP_iaload mq98 dd98_9
theorem dd98_10 : decode cX9_ground 10 = .ok (.goto 11, 3) := by decide +kernel
theorem ww98_10 {d : Nat} {l0 l1 : Option mw_V} {st : List mw_V} {σ : mw_S} {Q : Option mw_V → mw_S → Prop} : mw_WP d 98 10 [l0, l1] st σ Q ↔ mw_WP d 98 21 [l0, l1] st σ Q := WP_goto mq98 dd98_10 (by decide)
theorem dd98_13 : decode cX9_ground 13 = .ok (.bipush 10, 2) := by decide +kernel
theorem ww98_13 {d : Nat} {l0 l1 : Option mw_V} {st : List mw_V} {σ : mw_S} {Q : Option mw_V → mw_S → Prop} : mw_WP d 98 13 [l0, l1] st σ Q ↔ mw_WP d 98 15 [l0, l1] (jI (10) :: st) σ Q := WP_bipush mq98 dd98_13 (by decide)
theorem dd98_15 : decode cX9_ground 15 = .ok (.aload_n 0, 1) := by decide +kernel
theorem ww98_15 {d : Nat} {l1 : Option mw_V} {x : Nat} {st : List mw_V} {σ : mw_S} {Q : Option mw_V → mw_S → Prop} : mw_WP d 98 15 [some (jR x), l1] st σ Q ↔ mw_WP d 98 16 [some (jR x), l1] (jR x :: st) σ Q := WP_aload_n mq98 dd98_15 rfl
theorem dd98_16 : decode cX9_ground 16 = .ok (.iconst 0, 1) := by decide +kernel
theorem ww98_16 {d : Nat} {l0 l1 : Option mw_V} {st : List mw_V} {σ : mw_S} {Q : Option mw_V → mw_S → Prop} : mw_WP d 98 16 [l0, l1] st σ Q ↔ mw_WP d 98 17 [l0, l1] (jI (0) :: st) σ Q := WP_iconst mq98 dd98_16 (by decide)
theorem dd98_17 : decode cX9_ground 17 = .ok (.iload_n 1, 1) := by decide +kernel
theorem ww98_17 {d : Nat} {l0 : Option mw_V} {x : Int} {st : List mw_V} {σ : mw_S} {Q : Option mw_V → mw_S → Prop} : mw_WP d 98 17 [l0, some (jI x)] st σ Q ↔ mw_WP d 98 18 [l0, some (jI x)] (jI x :: st) σ Q := WP_iload_n mq98 dd98_17 rfl
theorem dd98_18 : decode cX9_ground 18 = .ok (.iadd, 1) := by decide +kernel
theorem ww98_18 {d : Nat} {l0 l1 : Option mw_V} {x y : Int} {st : List mw_V} {σ : mw_S} {Q : Option mw_V → mw_S → Prop} : mw_WP d 98 18 [l0, l1] (jI y :: jI x :: st) σ Q ↔ mw_WP d 98 19 [l0, l1] (jI (w32 (x + y)) :: st) σ Q := WP_iadd mq98 dd98_18
theorem dd98_19 : decode cX9_ground 19 = .ok (.iaload, 1) := by decide +kernel
theorem ww98_19 {d : Nat} {l0 l1 : Option mw_V} {z : Int} {a : Nat} {st : List mw_V} {σ : mw_S} {Q : Option mw_V → mw_S → Prop} : mw_WP d 98 19 [l0, l1] (jI z :: jR a :: st) σ Q ↔ ((0 ≤ z ∧ z < mw_lenI a) ∧ mw_WP d 98 20 [l0, l1] (jI (mw_rdI σ a z.toNat) :: st) σ Q) := WP_iaload mq98 dd98_19
theorem dd98_20 : decode cX9_ground 20 = .ok (.iadd, 1) := by decide +kernel
theorem ww98_20 {d : Nat} {l0 l1 : Option mw_V} {x y : Int} {st : List mw_V} {σ : mw_S} {Q : Option mw_V → mw_S → Prop} : mw_WP d 98 20 [l0, l1] (jI y :: jI x :: st) σ Q ↔ mw_WP d 98 21 [l0, l1] (jI (w32 (x + y)) :: st) σ Q := WP_iadd mq98 dd98_20
theorem dd98_21 : decode cX9_ground 21 = .ok (.ireturn, 1) := by decide +kernel
theorem ww98_21 {d : Nat} {l0 l1 : Option mw_V} {z : Int} {σ : mw_S} {Q : Option mw_V → mw_S → Prop} : mw_WP d 98 21 [l0, l1] [jI z] σ Q ↔ Q (some (jI z)) σ := WP_ireturn (ty := .int) mq98 dd98_21 rfl rfl
theorem ee99 {d : Nat} {a : Nat} {a0 : Nat} {z1 : Int} {z2 : Int} {σ : mw_S} {Q : Option mw_V → mw_S → Prop} : mw_Call (d + 1) 99 [jR a, jR a0, jI z1, jI z2] σ Q ↔ mw_WP d 99 0 [some (jR a), some (jR a0), some (jI z1), some (jI z2), none] [] σ Q := CL_u mq99 (Nat.le_of_ble_eq_true rfl) rfl
theorem dd99_0 : decode cX9_isAble 0 = .ok (.aload_n 1, 1) := by decide +kernel
theorem ww99_0 {d : Nat} {l0 l2 l3 l4 : Option mw_V} {x : Nat} {st : List mw_V} {σ : mw_S} {Q : Option mw_V → mw_S → Prop} : mw_WP d 99 0 [l0, some (jR x), l2, l3, l4] st σ Q ↔ mw_WP d 99 1 [l0, some (jR x), l2, l3, l4] (jR x :: st) σ Q := WP_aload_n mq99 dd99_0 rfl
theorem dd99_1 : decode cX9_isAble 1 = .ok (.iconst 0, 1) := by decide +kernel
theorem ww99_1 {d : Nat} {l0 l1 l2 l3 l4 : Option mw_V} {st : List mw_V} {σ : mw_S} {Q : Option mw_V → mw_S → Prop} : mw_WP d 99 1 [l0, l1, l2, l3, l4] st σ Q ↔ mw_WP d 99 2 [l0, l1, l2, l3, l4] (jI (0) :: st) σ Q := WP_iconst mq99 dd99_1 (by decide)
theorem dd99_2 : decode cX9_isAble 2 = .ok (.iload_n 2, 1) := by decide +kernel
theorem ww99_2 {d : Nat} {l0 l1 l3 l4 : Option mw_V} {x : Int} {st : List mw_V} {σ : mw_S} {Q : Option mw_V → mw_S → Prop} : mw_WP d 99 2 [l0, l1, some (jI x), l3, l4] st σ Q ↔ mw_WP d 99 3 [l0, l1, some (jI x), l3, l4] (jI x :: st) σ Q := WP_iload_n mq99 dd99_2 rfl
theorem dd99_3 : decode cX9_isAble 3 = .ok (.iadd, 1) := by decide +kernel
theorem ww99_3 {d : Nat} {l0 l1 l2 l3 l4 : Option mw_V} {x y : Int} {st : List mw_V} {σ : mw_S} {Q : Option mw_V → mw_S → Prop} : mw_WP d 99 3 [l0, l1, l2, l3, l4] (jI y :: jI x :: st) σ Q ↔ mw_WP d 99 4 [l0, l1, l2, l3, l4] (jI (w32 (x + y)) :: st) σ Q := WP_iadd mq99 dd99_3
theorem dd99_4 : decode cX9_isAble 4 = .ok (.iaload, 1) := by decide +kernel
theorem ww99_4 {d : Nat} {l0 l1 l2 l3 l4 : Option mw_V} {z : Int} {a : Nat} {st : List mw_V} {σ : mw_S} {Q : Option mw_V → mw_S → Prop} : mw_WP d 99 4 [l0, l1, l2, l3, l4] (jI z :: jR a :: st) σ Q ↔ ((0 ≤ z ∧ z < mw_lenI a) ∧ mw_WP d 99 5 [l0, l1, l2, l3, l4] (jI (mw_rdI σ a z.toNat) :: st) σ Q) := WP_iaload mq99 dd99_4
theorem dd99_5 : decode cX9_isAble 5 = .ok (.istore 4, 2) := by decide +kernel
theorem ww99_5 {d : Nat} {l0 l1 l2 l3 l4 : Option mw_V} {x : Int} {st : List mw_V} {σ : mw_S} {Q : Option mw_V → mw_S → Prop} (h : mw_nlo l3 = true) : mw_WP d 99 5 [l0, l1, l2, l3, l4] (jI x :: st) σ Q ↔ mw_WP d 99 7 [l0, l1, l2, l3, some (jI x)] st σ Q := WP_istore mq99 dd99_5 (Nat.le_of_ble_eq_true rfl) (mw_nl_of (i := 3) rfl h) rfl
theorem dd99_7 : decode cX9_isAble 7 = .ok (.iload_n 3, 1) := by decide +kernel
theorem ww99_7 {d : Nat} {l0 l1 l2 l4 : Option mw_V} {x : Int} {st : List mw_V} {σ : mw_S} {Q : Option mw_V → mw_S → Prop} : mw_WP d 99 7 [l0, l1, l2, some (jI x), l4] st σ Q ↔ mw_WP d 99 8 [l0, l1, l2, some (jI x), l4] (jI x :: st) σ Q := WP_iload_n mq99 dd99_7 rfl
theorem dd99_8 : decode cX9_isAble 8 = .ok (.tableswitch 124 0 6 #[44, 46, 46, 64, 64, 101, 101], 44) := by decide +kernel
theorem ww99_8k0 {d : Nat} {l0 l1 l2 l3 l4 : Option mw_V} {st : List mw_V} {σ : mw_S} {Q : Option mw_V → mw_S → Prop} : mw_WP d 99 8 [l0, l1, l2, l3, l4] (jI (0) :: st) σ Q ↔ mw_WP d 99 52 [l0, l1, l2, l3, l4] st σ Q := WP_k mq99 dd99_8 rfl (fun _ _ => by simp [mw_stp, mw_b1, mw_go])
theorem ww99_8k1 {d : Nat} {l0 l1 l2 l3 l4 : Option mw_V} {st : List mw_V} {σ : mw_S} {Q : Option mw_V → mw_S → Prop} : mw_WP d 99 8 [l0, l1, l2, l3, l4] (jI (1) :: st) σ Q ↔ mw_WP d 99 54 [l0, l1, l2, l3, l4] st σ Q := WP_k mq99 dd99_8 rfl (fun _ _ => by simp [mw_stp, mw_b1, mw_go])
theorem ww99_8k2 {d : Nat} {l0 l1 l2 l3 l4 : Option mw_V} {st : List mw_V} {σ : mw_S} {Q : Option mw_V → mw_S → Prop} : mw_WP d 99 8 [l0, l1, l2, l3, l4] (jI (2) :: st) σ Q ↔ mw_WP d 99 54 [l0, l1, l2, l3, l4] st σ Q := WP_k mq99 dd99_8 rfl (fun _ _ => by simp [mw_stp, mw_b1, mw_go])
theorem ww99_8k3 {d : Nat} {l0 l1 l2 l3 l4 : Option mw_V} {st : List mw_V} {σ : mw_S} {Q : Option mw_V → mw_S → Prop} : mw_WP d 99 8 [l0, l1, l2, l3, l4] (jI (3) :: st) σ Q ↔ mw_WP d 99 72 [l0, l1, l2, l3, l4] st σ Q := WP_k mq99 dd99_8 rfl (fun _ _ => by simp [mw_stp, mw_b1, mw_go])
theorem ww99_8k4 {d : Nat} {l0 l1 l2 l3 l4 : Option mw_V} {st : List mw_V} {σ : mw_S} {Q : Option mw_V → mw_S → Prop} : mw_WP d 99 8 [l0, l1, l2, l3, l4] (jI (4) :: st) σ Q ↔ mw_WP d 99 72 [l0, l1, l2, l3, l4] st σ Q := WP_k mq99 dd99_8 rfl (fun _ _ => by simp [mw_stp, mw_b1, mw_go])
theorem ww99_8k5 {d : Nat} {l0 l1 l2 l3 l4 : Option mw_V} {st : List mw_V} {σ : mw_S} {Q : Option mw_V → mw_S → Prop} : mw_WP d 99 8 [l0, l1, l2, l3, l4] (jI (5) :: st) σ Q ↔ mw_WP d 99 109 [l0, l1, l2, l3, l4] st σ Q := WP_k mq99 dd99_8 rfl (fun _ _ => by simp [mw_stp, mw_b1, mw_go])
theorem ww99_8k6 {d : Nat} {l0 l1 l2 l3 l4 : Option mw_V} {st : List mw_V} {σ : mw_S} {Q : Option mw_V → mw_S → Prop} : mw_WP d 99 8 [l0, l1, l2, l3, l4] (jI (6) :: st) σ Q ↔ mw_WP d 99 109 [l0, l1, l2, l3, l4] st σ Q := WP_k mq99 dd99_8 rfl (fun _ _ => by simp [mw_stp, mw_b1, mw_go])
theorem ww99_8kd {d : Nat} {l0 l1 l2 l3 l4 : Option mw_V} {x : Int} {st : List mw_V} {σ : mw_S} {Q : Option mw_V → mw_S → Prop} (h : x < 0 ∨ 6 < x) : mw_WP d 99 8 [l0, l1, l2, l3, l4] (jI x :: st) σ Q ↔ mw_WP d 99 132 [l0, l1, l2, l3, l4] st σ Q := WP_k mq99 dd99_8 rfl (fun _ _ => by simp [mw_stp, mw_b1, mw_go, h])
theorem dd99_52 : decode cX9_isAble 52 = .ok (.iconst 1, 1) := by decide +kernel
theorem ww99_52 {d : Nat} {l0 l1 l2 l3 l4 : Option mw_V} {st : List mw_V} {σ : mw_S} {Q : Option mw_V → mw_S → Prop} : mw_WP d 99 52 [l0, l1, l2, l3, l4] st σ Q ↔ mw_WP d 99 53 [l0, l1, l2, l3, l4] (jI (1) :: st) σ Q := WP_iconst mq99 dd99_52 (by decide)
theorem dd99_53 : decode cX9_isAble 53 = .ok (.ireturn, 1) := by decide +kernel
theorem ww99_53 {d : Nat} {l0 l1 l2 l3 l4 : Option mw_V} {z : Int} {σ : mw_S} {Q : Option mw_V → mw_S → Prop} (h : z = 0 ∨ z = 1) : mw_WP d 99 53 [l0, l1, l2, l3, l4] [jI z] σ Q ↔ Q (some (jI z)) σ := WP_ireturn (ty := .boolean) mq99 dd99_53 rfl (by rcases h with rfl | rfl <;> decide)
theorem dd99_54 : decode cX9_isAble 54 = .ok (.aload_n 0, 1) := by decide +kernel
theorem ww99_54 {d : Nat} {l1 l2 l3 l4 : Option mw_V} {x : Nat} {st : List mw_V} {σ : mw_S} {Q : Option mw_V → mw_S → Prop} : mw_WP d 99 54 [some (jR x), l1, l2, l3, l4] st σ Q ↔ mw_WP d 99 55 [some (jR x), l1, l2, l3, l4] (jR x :: st) σ Q := WP_aload_n mq99 dd99_54 rfl
theorem dd99_55 : decode cX9_isAble 55 = .ok (.iload 4, 2) := by decide +kernel
theorem ww99_55 {d : Nat} {l0 l1 l2 l3 : Option mw_V} {x : Int} {st : List mw_V} {σ : mw_S} {Q : Option mw_V → mw_S → Prop} : mw_WP d 99 55 [l0, l1, l2, l3, some (jI x)] st σ Q ↔ mw_WP d 99 57 [l0, l1, l2, l3, some (jI x)] (jI x :: st) σ Q := WP_iload mq99 dd99_55 rfl
theorem dd99_57 : decode cX9_isAble 57 = .ok (.iload_n 3, 1) := by decide +kernel
theorem ww99_57 {d : Nat} {l0 l1 l2 l4 : Option mw_V} {x : Int} {st : List mw_V} {σ : mw_S} {Q : Option mw_V → mw_S → Prop} : mw_WP d 99 57 [l0, l1, l2, some (jI x), l4] st σ Q ↔ mw_WP d 99 58 [l0, l1, l2, some (jI x), l4] (jI x :: st) σ Q := WP_iload_n mq99 dd99_57 rfl
theorem dd99_58 : decode cX9_isAble 58 = .ok (.invokevirtual 53, 3) := by decide +kernel
theorem ww99_58 {d : Nat} {l0 l1 l2 l3 l4 : Option mw_V} {v0 v1 : mw_V} {a : Nat} {st : List mw_V} {σ : mw_S} {Q : Option mw_V → mw_S → Prop} (hr : mw_rc a = 9) (h8 : (st.map mw_cat).sum ≤ 8) : mw_WP d 99 58 [l0, l1, l2, l3, l4] (v1 :: v0 :: jR a :: st) σ Q ↔ mw_Call d 91 [jR a, v0, v1] σ (fun r1 s1 => mw_WP d 99 61 [l0, l1, l2, l3, l4] (r1.toList ++ st) s1 Q) := WP_inv (as := [v1, v0]) mq99 dd99_58 (by decide) mq91 rfl hr h8
theorem dd99_61 : decode cX9_isAble 61 = .ok (.iload 4, 2) := by decide +kernel
theorem ww99_61 {d : Nat} {l0 l1 l2 l3 : Option mw_V} {x : Int} {st : List mw_V} {σ : mw_S} {Q : Option mw_V → mw_S → Prop} : mw_WP d 99 61 [l0, l1, l2, l3, some (jI x)] st σ Q ↔ mw_WP d 99 63 [l0, l1, l2, l3, some (jI x)] (jI x :: st) σ Q := WP_iload mq99 dd99_61 rfl
theorem dd99_63 : decode cX9_isAble 63 = .ok (.if_icmp .eq 7, 3) := by decide +kernel
theorem ww99_63 {d : Nat} {l0 l1 l2 l3 l4 : Option mw_V} {x y : Int} {st : List mw_V} {σ : mw_S} {Q : Option mw_V → mw_S → Prop} : mw_WP d 99 63 [l0, l1, l2, l3, l4] (jI y :: jI x :: st) σ Q ↔ (if x = y then mw_WP d 99 70 [l0, l1, l2, l3, l4] st σ Q else mw_WP d 99 66 [l0, l1, l2, l3, l4] st σ Q) := WP_icmp_eq mq99 dd99_63 (by decide)
theorem dd99_66 : decode cX9_isAble 66 = .ok (.iconst 1, 1) := by decide +kernel
theorem ww99_66 {d : Nat} {l0 l1 l2 l3 l4 : Option mw_V} {st : List mw_V} {σ : mw_S} {Q : Option mw_V → mw_S → Prop} : mw_WP d 99 66 [l0, l1, l2, l3, l4] st σ Q ↔ mw_WP d 99 67 [l0, l1, l2, l3, l4] (jI (1) :: st) σ Q := WP_iconst mq99 dd99_66 (by decide)
theorem dd99_67 : decode cX9_isAble 67 = .ok (.goto 4, 3) := by decide +kernel
theorem ww99_67 {d : Nat} {l0 l1 l2 l3 l4 : Option mw_V} {st : List mw_V} {σ : mw_S} {Q : Option mw_V → mw_S → Prop} : mw_WP d 99 67 [l0, l1, l2, l3, l4] st σ Q ↔ mw_WP d 99 71 [l0, l1, l2, l3, l4] st σ Q := WP_goto mq99 dd99_67 (by decide)
theorem dd99_70 : decode cX9_isAble 70 = .ok (.iconst 0, 1) := by decide +kernel
theorem ww99_70 {d : Nat} {l0 l1 l2 l3 l4 : Option mw_V} {st : List mw_V} {σ : mw_S} {Q : Option mw_V → mw_S → Prop} : mw_WP d 99 70 [l0, l1, l2, l3, l4] st σ Q ↔ mw_WP d 99 71 [l0, l1, l2, l3, l4] (jI (0) :: st) σ Q := WP_iconst mq99 dd99_70 (by decide)
theorem dd99_71 : decode cX9_isAble 71 = .ok (.ireturn, 1) := by decide +kernel
theorem ww99_71 {d : Nat} {l0 l1 l2 l3 l4 : Option mw_V} {z : Int} {σ : mw_S} {Q : Option mw_V → mw_S → Prop} (h : z = 0 ∨ z = 1) : mw_WP d 99 71 [l0, l1, l2, l3, l4] [jI z] σ Q ↔ Q (some (jI z)) σ := WP_ireturn (ty := .boolean) mq99 dd99_71 rfl (by rcases h with rfl | rfl <;> decide)
theorem dd99_72 : decode cX9_isAble 72 = .ok (.aload_n 0, 1) := by decide +kernel
theorem ww99_72 {d : Nat} {l1 l2 l3 l4 : Option mw_V} {x : Nat} {st : List mw_V} {σ : mw_S} {Q : Option mw_V → mw_S → Prop} : mw_WP d 99 72 [some (jR x), l1, l2, l3, l4] st σ Q ↔ mw_WP d 99 73 [some (jR x), l1, l2, l3, l4] (jR x :: st) σ Q := WP_aload_n mq99 dd99_72 rfl
theorem dd99_73 : decode cX9_isAble 73 = .ok (.aload_n 1, 1) := by decide +kernel
theorem ww99_73 {d : Nat} {l0 l2 l3 l4 : Option mw_V} {x : Nat} {st : List mw_V} {σ : mw_S} {Q : Option mw_V → mw_S → Prop} : mw_WP d 99 73 [l0, some (jR x), l2, l3, l4] st σ Q ↔ mw_WP d 99 74 [l0, some (jR x), l2, l3, l4] (jR x :: st) σ Q := WP_aload_n mq99 dd99_73 rfl
theorem dd99_74 : decode cX9_isAble 74 = .ok (.aload_n 0, 1) := by decide +kernel
theorem ww99_74 {d : Nat} {l1 l2 l3 l4 : Option mw_V} {x : Nat} {st : List mw_V} {σ : mw_S} {Q : Option mw_V → mw_S → Prop} : mw_WP d 99 74 [some (jR x), l1, l2, l3, l4] st σ Q ↔ mw_WP d 99 75 [some (jR x), l1, l2, l3, l4] (jR x :: st) σ Q := WP_aload_n mq99 dd99_74 rfl
theorem dd99_75 : decode cX9_isAble 75 = .ok (.iload_n 2, 1) := by decide +kernel
theorem ww99_75 {d : Nat} {l0 l1 l3 l4 : Option mw_V} {x : Int} {st : List mw_V} {σ : mw_S} {Q : Option mw_V → mw_S → Prop} : mw_WP d 99 75 [l0, l1, some (jI x), l3, l4] st σ Q ↔ mw_WP d 99 76 [l0, l1, some (jI x), l3, l4] (jI x :: st) σ Q := WP_iload_n mq99 dd99_75 rfl
theorem dd99_76 : decode cX9_isAble 76 = .ok (.iload_n 3, 1) := by decide +kernel
theorem ww99_76 {d : Nat} {l0 l1 l2 l4 : Option mw_V} {x : Int} {st : List mw_V} {σ : mw_S} {Q : Option mw_V → mw_S → Prop} : mw_WP d 99 76 [l0, l1, l2, some (jI x), l4] st σ Q ↔ mw_WP d 99 77 [l0, l1, l2, some (jI x), l4] (jI x :: st) σ Q := WP_iload_n mq99 dd99_76 rfl
theorem dd99_77 : decode cX9_isAble 77 = .ok (.iconst 3, 1) := by decide +kernel
theorem ww99_77 {d : Nat} {l0 l1 l2 l3 l4 : Option mw_V} {st : List mw_V} {σ : mw_S} {Q : Option mw_V → mw_S → Prop} : mw_WP d 99 77 [l0, l1, l2, l3, l4] st σ Q ↔ mw_WP d 99 78 [l0, l1, l2, l3, l4] (jI (3) :: st) σ Q := WP_iconst mq99 dd99_77 (by decide)
theorem dd99_78 : decode cX9_isAble 78 = .ok (.isub, 1) := by decide +kernel
theorem ww99_78 {d : Nat} {l0 l1 l2 l3 l4 : Option mw_V} {x y : Int} {st : List mw_V} {σ : mw_S} {Q : Option mw_V → mw_S → Prop} : mw_WP d 99 78 [l0, l1, l2, l3, l4] (jI y :: jI x :: st) σ Q ↔ mw_WP d 99 79 [l0, l1, l2, l3, l4] (jI (w32 (x - y)) :: st) σ Q := WP_isub mq99 dd99_78
theorem dd99_79 : decode cX9_isAble 79 = .ok (.invokevirtual 75, 3) := by decide +kernel
theorem ww99_79 {d : Nat} {l0 l1 l2 l3 l4 : Option mw_V} {v0 v1 : mw_V} {a : Nat} {st : List mw_V} {σ : mw_S} {Q : Option mw_V → mw_S → Prop} (hr : mw_rc a = 9) (h8 : (st.map mw_cat).sum ≤ 8) : mw_WP d 99 79 [l0, l1, l2, l3, l4] (v1 :: v0 :: jR a :: st) σ Q ↔ mw_Call d 96 [jR a, v0, v1] σ (fun r1 s1 => mw_WP d 99 82 [l0, l1, l2, l3, l4] (r1.toList ++ st) s1 Q) := WP_inv (as := [v1, v0]) mq99 dd99_79 (by decide) mq96 rfl hr h8
theorem dd99_82 : decode cX9_isAble 82 = .ok (.invokevirtual 78, 3) := by decide +kernel
theorem ww99_82 {d : Nat} {l0 l1 l2 l3 l4 : Option mw_V} {v0 v1 : mw_V} {a : Nat} {st : List mw_V} {σ : mw_S} {Q : Option mw_V → mw_S → Prop} (hr : mw_rc a = 9) (h8 : (st.map mw_cat).sum ≤ 8) : mw_WP d 99 82 [l0, l1, l2, l3, l4] (v1 :: v0 :: jR a :: st) σ Q ↔ mw_Call d 97 [jR a, v0, v1] σ (fun r1 s1 => mw_WP d 99 85 [l0, l1, l2, l3, l4] (r1.toList ++ st) s1 Q) := WP_inv (as := [v1, v0]) mq99 dd99_82 (by decide) mq97 rfl hr h8
theorem dd99_85 : decode cX9_isAble 85 = .ok (.iconst (-1), 1) := by decide +kernel
theorem ww99_85 {d : Nat} {l0 l1 l2 l3 l4 : Option mw_V} {st : List mw_V} {σ : mw_S} {Q : Option mw_V → mw_S → Prop} : mw_WP d 99 85 [l0, l1, l2, l3, l4] st σ Q ↔ mw_WP d 99 86 [l0, l1, l2, l3, l4] (jI (-1) :: st) σ Q := WP_iconst mq99 dd99_85 (by decide)
theorem dd99_86 : decode cX9_isAble 86 = .ok (.if_icmp .ne 21, 3) := by decide +kernel
theorem ww99_86 {d : Nat} {l0 l1 l2 l3 l4 : Option mw_V} {x y : Int} {st : List mw_V} {σ : mw_S} {Q : Option mw_V → mw_S → Prop} : mw_WP d 99 86 [l0, l1, l2, l3, l4] (jI y :: jI x :: st) σ Q ↔ (if ¬ x = y then mw_WP d 99 107 [l0, l1, l2, l3, l4] st σ Q else mw_WP d 99 89 [l0, l1, l2, l3, l4] st σ Q) := WP_icmp_ne mq99 dd99_86 (by decide)
theorem dd99_89 : decode cX9_isAble 89 = .ok (.aload_n 0, 1) := by decide +kernel
theorem ww99_89 {d : Nat} {l1 l2 l3 l4 : Option mw_V} {x : Nat} {st : List mw_V} {σ : mw_S} {Q : Option mw_V → mw_S → Prop} : mw_WP d 99 89 [some (jR x), l1, l2, l3, l4] st σ Q ↔ mw_WP d 99 90 [some (jR x), l1, l2, l3, l4] (jR x :: st) σ Q := WP_aload_n mq99 dd99_89 rfl
theorem dd99_90 : decode cX9_isAble 90 = .ok (.aload_n 1, 1) := by decide +kernel
theorem ww99_90 {d : Nat} {l0 l2 l3 l4 : Option mw_V} {x : Nat} {st : List mw_V} {σ : mw_S} {Q : Option mw_V → mw_S → Prop} : mw_WP d 99 90 [l0, some (jR x), l2, l3, l4] st σ Q ↔ mw_WP d 99 91 [l0, some (jR x), l2, l3, l4] (jR x :: st) σ Q := WP_aload_n mq99 dd99_90 rfl
theorem dd99_91 : decode cX9_isAble 91 = .ok (.aload_n 1, 1) := by decide +kernel
theorem ww99_91 {d : Nat} {l0 l2 l3 l4 : Option mw_V} {x : Nat} {st : List mw_V} {σ : mw_S} {Q : Option mw_V → mw_S → Prop} : mw_WP d 99 91 [l0, some (jR x), l2, l3, l4] st σ Q ↔ mw_WP d 99 92 [l0, some (jR x), l2, l3, l4] (jR x :: st) σ Q := WP_aload_n mq99 dd99_91 rfl
theorem dd99_92 : decode cX9_isAble 92 = .ok (.iload_n 2, 1) := by decide +kernel
theorem ww99_92 {d : Nat} {l0 l1 l3 l4 : Option mw_V} {x : Int} {st : List mw_V} {σ : mw_S} {Q : Option mw_V → mw_S → Prop} : mw_WP d 99 92 [l0, l1, some (jI x), l3, l4] st σ Q ↔ mw_WP d 99 93 [l0, l1, some (jI x), l3, l4] (jI x :: st) σ Q := WP_iload_n mq99 dd99_92 rfl
theorem dd99_93 : decode cX9_isAble 93 = .ok (.invokestatic 82, 3) := by decide +kernel
theorem ww99_93 {d : Nat} {l0 l1 l2 l3 l4 : Option mw_V} {v0 v1 : mw_V} {st : List mw_V} {σ : mw_S} {Q : Option mw_V → mw_S → Prop} (h8 : (st.map mw_cat).sum ≤ 8) : mw_WP d 99 93 [l0, l1, l2, l3, l4] (v1 :: v0 :: st) σ Q ↔ mw_Call d 98 [v0, v1] σ (fun r1 s1 => mw_WP d 99 96 [l0, l1, l2, l3, l4] (r1.toList ++ st) s1 Q) := WP_invs (as := [v1, v0]) mq99 dd99_93 (by decide) mq98 rfl rfl h8
theorem dd99_96 : decode cX9_isAble 96 = .ok (.invokevirtual 78, 3) := by decide +kernel
theorem ww99_96 {d : Nat} {l0 l1 l2 l3 l4 : Option mw_V} {v0 v1 : mw_V} {a : Nat} {st : List mw_V} {σ : mw_S} {Q : Option mw_V → mw_S → Prop} (hr : mw_rc a = 9) (h8 : (st.map mw_cat).sum ≤ 8) : mw_WP d 99 96 [l0, l1, l2, l3, l4] (v1 :: v0 :: jR a :: st) σ Q ↔ mw_Call d 97 [jR a, v0, v1] σ (fun r1 s1 => mw_WP d 99 99 [l0, l1, l2, l3, l4] (r1.toList ++ st) s1 Q) := WP_inv (as := [v1, v0]) mq99 dd99_96 (by decide) mq97 rfl hr h8
theorem dd99_99 : decode cX9_isAble 99 = .ok (.iconst (-1), 1) := by decide +kernel
theorem ww99_99 {d : Nat} {l0 l1 l2 l3 l4 : Option mw_V} {st : List mw_V} {σ : mw_S} {Q : Option mw_V → mw_S → Prop} : mw_WP d 99 99 [l0, l1, l2, l3, l4] st σ Q ↔ mw_WP d 99 100 [l0, l1, l2, l3, l4] (jI (-1) :: st) σ Q := WP_iconst mq99 dd99_99 (by decide)
theorem dd99_100 : decode cX9_isAble 100 = .ok (.if_icmp .eq 7, 3) := by decide +kernel
theorem ww99_100 {d : Nat} {l0 l1 l2 l3 l4 : Option mw_V} {x y : Int} {st : List mw_V} {σ : mw_S} {Q : Option mw_V → mw_S → Prop} : mw_WP d 99 100 [l0, l1, l2, l3, l4] (jI y :: jI x :: st) σ Q ↔ (if x = y then mw_WP d 99 107 [l0, l1, l2, l3, l4] st σ Q else mw_WP d 99 103 [l0, l1, l2, l3, l4] st σ Q) := WP_icmp_eq mq99 dd99_100 (by decide)
theorem dd99_103 : decode cX9_isAble 103 = .ok (.iconst 1, 1) := by decide +kernel
theorem ww99_103 {d : Nat} {l0 l1 l2 l3 l4 : Option mw_V} {st : List mw_V} {σ : mw_S} {Q : Option mw_V → mw_S → Prop} : mw_WP d 99 103 [l0, l1, l2, l3, l4] st σ Q ↔ mw_WP d 99 104 [l0, l1, l2, l3, l4] (jI (1) :: st) σ Q := WP_iconst mq99 dd99_103 (by decide)
theorem dd99_104 : decode cX9_isAble 104 = .ok (.goto 4, 3) := by decide +kernel
theorem ww99_104 {d : Nat} {l0 l1 l2 l3 l4 : Option mw_V} {st : List mw_V} {σ : mw_S} {Q : Option mw_V → mw_S → Prop} : mw_WP d 99 104 [l0, l1, l2, l3, l4] st σ Q ↔ mw_WP d 99 108 [l0, l1, l2, l3, l4] st σ Q := WP_goto mq99 dd99_104 (by decide)
theorem dd99_107 : decode cX9_isAble 107 = .ok (.iconst 0, 1) := by decide +kernel
theorem ww99_107 {d : Nat} {l0 l1 l2 l3 l4 : Option mw_V} {st : List mw_V} {σ : mw_S} {Q : Option mw_V → mw_S → Prop} : mw_WP d 99 107 [l0, l1, l2, l3, l4] st σ Q ↔ mw_WP d 99 108 [l0, l1, l2, l3, l4] (jI (0) :: st) σ Q := WP_iconst mq99 dd99_107 (by decide)
theorem dd99_108 : decode cX9_isAble 108 = .ok (.ireturn, 1) := by decide +kernel
theorem ww99_108 {d : Nat} {l0 l1 l2 l3 l4 : Option mw_V} {z : Int} {σ : mw_S} {Q : Option mw_V → mw_S → Prop} (h : z = 0 ∨ z = 1) : mw_WP d 99 108 [l0, l1, l2, l3, l4] [jI z] σ Q ↔ Q (some (jI z)) σ := WP_ireturn (ty := .boolean) mq99 dd99_108 rfl (by rcases h with rfl | rfl <;> decide)
theorem dd99_109 : decode cX9_isAble 109 = .ok (.aload_n 0, 1) := by decide +kernel
theorem ww99_109 {d : Nat} {l1 l2 l3 l4 : Option mw_V} {x : Nat} {st : List mw_V} {σ : mw_S} {Q : Option mw_V → mw_S → Prop} : mw_WP d 99 109 [some (jR x), l1, l2, l3, l4] st σ Q ↔ mw_WP d 99 110 [some (jR x), l1, l2, l3, l4] (jR x :: st) σ Q := WP_aload_n mq99 dd99_109 rfl
theorem dd99_110 : decode cX9_isAble 110 = .ok (.aload_n 1, 1) := by decide +kernel
theorem ww99_110 {d : Nat} {l0 l2 l3 l4 : Option mw_V} {x : Nat} {st : List mw_V} {σ : mw_S} {Q : Option mw_V → mw_S → Prop} : mw_WP d 99 110 [l0, some (jR x), l2, l3, l4] st σ Q ↔ mw_WP d 99 111 [l0, some (jR x), l2, l3, l4] (jR x :: st) σ Q := WP_aload_n mq99 dd99_110 rfl
theorem dd99_111 : decode cX9_isAble 111 = .ok (.aload_n 0, 1) := by decide +kernel
theorem ww99_111 {d : Nat} {l1 l2 l3 l4 : Option mw_V} {x : Nat} {st : List mw_V} {σ : mw_S} {Q : Option mw_V → mw_S → Prop} : mw_WP d 99 111 [some (jR x), l1, l2, l3, l4] st σ Q ↔ mw_WP d 99 112 [some (jR x), l1, l2, l3, l4] (jR x :: st) σ Q := WP_aload_n mq99 dd99_111 rfl
theorem dd99_112 : decode cX9_isAble 112 = .ok (.iload_n 2, 1) := by decide +kernel
theorem ww99_112 {d : Nat} {l0 l1 l3 l4 : Option mw_V} {x : Int} {st : List mw_V} {σ : mw_S} {Q : Option mw_V → mw_S → Prop} : mw_WP d 99 112 [l0, l1, some (jI x), l3, l4] st σ Q ↔ mw_WP d 99 113 [l0, l1, some (jI x), l3, l4] (jI x :: st) σ Q := WP_iload_n mq99 dd99_112 rfl
theorem dd99_113 : decode cX9_isAble 113 = .ok (.iload_n 3, 1) := by decide +kernel
theorem ww99_113 {d : Nat} {l0 l1 l2 l4 : Option mw_V} {x : Int} {st : List mw_V} {σ : mw_S} {Q : Option mw_V → mw_S → Prop} : mw_WP d 99 113 [l0, l1, l2, some (jI x), l4] st σ Q ↔ mw_WP d 99 114 [l0, l1, l2, some (jI x), l4] (jI x :: st) σ Q := WP_iload_n mq99 dd99_113 rfl
theorem dd99_114 : decode cX9_isAble 114 = .ok (.iconst 5, 1) := by decide +kernel
theorem ww99_114 {d : Nat} {l0 l1 l2 l3 l4 : Option mw_V} {st : List mw_V} {σ : mw_S} {Q : Option mw_V → mw_S → Prop} : mw_WP d 99 114 [l0, l1, l2, l3, l4] st σ Q ↔ mw_WP d 99 115 [l0, l1, l2, l3, l4] (jI (5) :: st) σ Q := WP_iconst mq99 dd99_114 (by decide)
theorem dd99_115 : decode cX9_isAble 115 = .ok (.isub, 1) := by decide +kernel
theorem ww99_115 {d : Nat} {l0 l1 l2 l3 l4 : Option mw_V} {x y : Int} {st : List mw_V} {σ : mw_S} {Q : Option mw_V → mw_S → Prop} : mw_WP d 99 115 [l0, l1, l2, l3, l4] (jI y :: jI x :: st) σ Q ↔ mw_WP d 99 116 [l0, l1, l2, l3, l4] (jI (w32 (x - y)) :: st) σ Q := WP_isub mq99 dd99_115
theorem dd99_116 : decode cX9_isAble 116 = .ok (.invokevirtual 75, 3) := by decide +kernel
theorem ww99_116 {d : Nat} {l0 l1 l2 l3 l4 : Option mw_V} {v0 v1 : mw_V} {a : Nat} {st : List mw_V} {σ : mw_S} {Q : Option mw_V → mw_S → Prop} (hr : mw_rc a = 9) (h8 : (st.map mw_cat).sum ≤ 8) : mw_WP d 99 116 [l0, l1, l2, l3, l4] (v1 :: v0 :: jR a :: st) σ Q ↔ mw_Call d 96 [jR a, v0, v1] σ (fun r1 s1 => mw_WP d 99 119 [l0, l1, l2, l3, l4] (r1.toList ++ st) s1 Q) := WP_inv (as := [v1, v0]) mq99 dd99_116 (by decide) mq96 rfl hr h8
theorem dd99_119 : decode cX9_isAble 119 = .ok (.invokevirtual 78, 3) := by decide +kernel
theorem ww99_119 {d : Nat} {l0 l1 l2 l3 l4 : Option mw_V} {v0 v1 : mw_V} {a : Nat} {st : List mw_V} {σ : mw_S} {Q : Option mw_V → mw_S → Prop} (hr : mw_rc a = 9) (h8 : (st.map mw_cat).sum ≤ 8) : mw_WP d 99 119 [l0, l1, l2, l3, l4] (v1 :: v0 :: jR a :: st) σ Q ↔ mw_Call d 97 [jR a, v0, v1] σ (fun r1 s1 => mw_WP d 99 122 [l0, l1, l2, l3, l4] (r1.toList ++ st) s1 Q) := WP_inv (as := [v1, v0]) mq99 dd99_119 (by decide) mq97 rfl hr h8
theorem dd99_122 : decode cX9_isAble 122 = .ok (.iconst (-1), 1) := by decide +kernel
theorem ww99_122 {d : Nat} {l0 l1 l2 l3 l4 : Option mw_V} {st : List mw_V} {σ : mw_S} {Q : Option mw_V → mw_S → Prop} : mw_WP d 99 122 [l0, l1, l2, l3, l4] st σ Q ↔ mw_WP d 99 123 [l0, l1, l2, l3, l4] (jI (-1) :: st) σ Q := WP_iconst mq99 dd99_122 (by decide)
theorem dd99_123 : decode cX9_isAble 123 = .ok (.if_icmp .eq 7, 3) := by decide +kernel
theorem ww99_123 {d : Nat} {l0 l1 l2 l3 l4 : Option mw_V} {x y : Int} {st : List mw_V} {σ : mw_S} {Q : Option mw_V → mw_S → Prop} : mw_WP d 99 123 [l0, l1, l2, l3, l4] (jI y :: jI x :: st) σ Q ↔ (if x = y then mw_WP d 99 130 [l0, l1, l2, l3, l4] st σ Q else mw_WP d 99 126 [l0, l1, l2, l3, l4] st σ Q) := WP_icmp_eq mq99 dd99_123 (by decide)
theorem dd99_126 : decode cX9_isAble 126 = .ok (.iconst 1, 1) := by decide +kernel
theorem ww99_126 {d : Nat} {l0 l1 l2 l3 l4 : Option mw_V} {st : List mw_V} {σ : mw_S} {Q : Option mw_V → mw_S → Prop} : mw_WP d 99 126 [l0, l1, l2, l3, l4] st σ Q ↔ mw_WP d 99 127 [l0, l1, l2, l3, l4] (jI (1) :: st) σ Q := WP_iconst mq99 dd99_126 (by decide)
theorem dd99_127 : decode cX9_isAble 127 = .ok (.goto 4, 3) := by decide +kernel
theorem ww99_127 {d : Nat} {l0 l1 l2 l3 l4 : Option mw_V} {st : List mw_V} {σ : mw_S} {Q : Option mw_V → mw_S → Prop} : mw_WP d 99 127 [l0, l1, l2, l3, l4] st σ Q ↔ mw_WP d 99 131 [l0, l1, l2, l3, l4] st σ Q := WP_goto mq99 dd99_127 (by decide)
theorem dd99_130 : decode cX9_isAble 130 = .ok (.iconst 0, 1) := by decide +kernel
theorem ww99_130 {d : Nat} {l0 l1 l2 l3 l4 : Option mw_V} {st : List mw_V} {σ : mw_S} {Q : Option mw_V → mw_S → Prop} : mw_WP d 99 130 [l0, l1, l2, l3, l4] st σ Q ↔ mw_WP d 99 131 [l0, l1, l2, l3, l4] (jI (0) :: st) σ Q := WP_iconst mq99 dd99_130 (by decide)
theorem dd99_131 : decode cX9_isAble 131 = .ok (.ireturn, 1) := by decide +kernel
theorem ww99_131 {d : Nat} {l0 l1 l2 l3 l4 : Option mw_V} {z : Int} {σ : mw_S} {Q : Option mw_V → mw_S → Prop} (h : z = 0 ∨ z = 1) : mw_WP d 99 131 [l0, l1, l2, l3, l4] [jI z] σ Q ↔ Q (some (jI z)) σ := WP_ireturn (ty := .boolean) mq99 dd99_131 rfl (by rcases h with rfl | rfl <;> decide)
theorem dd99_132 : decode cX9_isAble 132 = .ok (.iload 4, 2) := by decide +kernel
theorem ww99_132 {d : Nat} {l0 l1 l2 l3 : Option mw_V} {x : Int} {st : List mw_V} {σ : mw_S} {Q : Option mw_V → mw_S → Prop} : mw_WP d 99 132 [l0, l1, l2, l3, some (jI x)] st σ Q ↔ mw_WP d 99 134 [l0, l1, l2, l3, some (jI x)] (jI x :: st) σ Q := WP_iload mq99 dd99_132 rfl
theorem dd99_134 : decode cX9_isAble 134 = .ok (.ifCond .ne 7, 3) := by decide +kernel
theorem ww99_134 {d : Nat} {l0 l1 l2 l3 l4 : Option mw_V} {x : Int} {st : List mw_V} {σ : mw_S} {Q : Option mw_V → mw_S → Prop} : mw_WP d 99 134 [l0, l1, l2, l3, l4] (jI x :: st) σ Q ↔ (if ¬ x = 0 then mw_WP d 99 141 [l0, l1, l2, l3, l4] st σ Q else mw_WP d 99 137 [l0, l1, l2, l3, l4] st σ Q) := WP_if_ne mq99 dd99_134 (by decide)
theorem dd99_137 : decode cX9_isAble 137 = .ok (.iconst 1, 1) := by decide +kernel
theorem ww99_137 {d : Nat} {l0 l1 l2 l3 l4 : Option mw_V} {st : List mw_V} {σ : mw_S} {Q : Option mw_V → mw_S → Prop} : mw_WP d 99 137 [l0, l1, l2, l3, l4] st σ Q ↔ mw_WP d 99 138 [l0, l1, l2, l3, l4] (jI (1) :: st) σ Q := WP_iconst mq99 dd99_137 (by decide)
theorem dd99_138 : decode cX9_isAble 138 = .ok (.goto 4, 3) := by decide +kernel
theorem ww99_138 {d : Nat} {l0 l1 l2 l3 l4 : Option mw_V} {st : List mw_V} {σ : mw_S} {Q : Option mw_V → mw_S → Prop} : mw_WP d 99 138 [l0, l1, l2, l3, l4] st σ Q ↔ mw_WP d 99 142 [l0, l1, l2, l3, l4] st σ Q := WP_goto mq99 dd99_138 (by decide)
theorem dd99_141 : decode cX9_isAble 141 = .ok (.iconst 0, 1) := by decide +kernel
theorem ww99_141 {d : Nat} {l0 l1 l2 l3 l4 : Option mw_V} {st : List mw_V} {σ : mw_S} {Q : Option mw_V → mw_S → Prop} : mw_WP d 99 141 [l0, l1, l2, l3, l4] st σ Q ↔ mw_WP d 99 142 [l0, l1, l2, l3, l4] (jI (0) :: st) σ Q := WP_iconst mq99 dd99_141 (by decide)
theorem dd99_142 : decode cX9_isAble 142 = .ok (.ireturn, 1) := by decide +kernel
theorem ww99_142 {d : Nat} {l0 l1 l2 l3 l4 : Option mw_V} {z : Int} {σ : mw_S} {Q : Option mw_V → mw_S → Prop} (h : z = 0 ∨ z = 1) : mw_WP d 99 142 [l0, l1, l2, l3, l4] [jI z] σ Q ↔ Q (some (jI z)) σ := WP_ireturn (ty := .boolean) mq99 dd99_142 rfl (by rcases h with rfl | rfl <;> decide)
theorem ee100 {d : Nat} {a : Nat} {a0 : Nat} {z1 : Int} {z2 : Int} {σ : mw_S} {Q : Option mw_V → mw_S → Prop} : mw_Call (d + 1) 100 [jR a, jR a0, jI z1, jI z2] σ Q ↔ mw_WP d 100 0 [some (jR a), some (jR a0), some (jI z1), some (jI z2)] [] σ Q := CL_u mq100 (Nat.le_of_ble_eq_true rfl) rfl
theorem dd100_0 : decode cX9_act 0 = .ok (.aload_n 0, 1) := by decide +kernel
theorem ww100_0 {d : Nat} {l1 l2 l3 : Option mw_V} {x : Nat} {st : List mw_V} {σ : mw_S} {Q : Option mw_V → mw_S → Prop} : mw_WP d 100 0 [some (jR x), l1, l2, l3] st σ Q ↔ mw_WP d 100 1 [some (jR x), l1, l2, l3] (jR x :: st) σ Q := WP_aload_n mq100 dd100_0 rfl
theorem dd100_1 : decode cX9_act 1 = .ok (.aload_n 1, 1) := by decide +kernel
theorem ww100_1 {d : Nat} {l0 l2 l3 : Option mw_V} {x : Nat} {st : List mw_V} {σ : mw_S} {Q : Option mw_V → mw_S → Prop} : mw_WP d 100 1 [l0, some (jR x), l2, l3] st σ Q ↔ mw_WP d 100 2 [l0, some (jR x), l2, l3] (jR x :: st) σ Q := WP_aload_n mq100 dd100_1 rfl
theorem dd100_2 : decode cX9_act 2 = .ok (.iload_n 2, 1) := by decide +kernel
theorem ww100_2 {d : Nat} {l0 l1 l3 : Option mw_V} {x : Int} {st : List mw_V} {σ : mw_S} {Q : Option mw_V → mw_S → Prop} : mw_WP d 100 2 [l0, l1, some (jI x), l3] st σ Q ↔ mw_WP d 100 3 [l0, l1, some (jI x), l3] (jI x :: st) σ Q := WP_iload_n mq100 dd100_2 rfl
theorem dd100_3 : decode cX9_act 3 = .ok (.iload_n 3, 1) := by decide +kernel
theorem ww100_3 {d : Nat} {l0 l1 l2 : Option mw_V} {x : Int} {st : List mw_V} {σ : mw_S} {Q : Option mw_V → mw_S → Prop} : mw_WP d 100 3 [l0, l1, l2, some (jI x)] st σ Q ↔ mw_WP d 100 4 [l0, l1, l2, some (jI x)] (jI x :: st) σ Q := WP_iload_n mq100 dd100_3 rfl
theorem dd100_4 : decode cX9_act 4 = .ok (.invokevirtual 85, 3) := by decide +kernel
theorem ww100_4 {d : Nat} {l0 l1 l2 l3 : Option mw_V} {v0 v1 v2 : mw_V} {a : Nat} {st : List mw_V} {σ : mw_S} {Q : Option mw_V → mw_S → Prop} (hr : mw_rc a = 9) (h8 : (st.map mw_cat).sum ≤ 8) : mw_WP d 100 4 [l0, l1, l2, l3] (v2 :: v1 :: v0 :: jR a :: st) σ Q ↔ mw_Call d 99 [jR a, v0, v1, v2] σ (fun r1 s1 => mw_WP d 100 7 [l0, l1, l2, l3] (r1.toList ++ st) s1 Q) := WP_inv (as := [v2, v1, v0]) mq100 dd100_4 (by decide) mq99 rfl hr h8
theorem dd100_7 : decode cX9_act 7 = .ok (.ifCond .ne 5, 3) := by decide +kernel
theorem ww100_7 {d : Nat} {l0 l1 l2 l3 : Option mw_V} {x : Int} {st : List mw_V} {σ : mw_S} {Q : Option mw_V → mw_S → Prop} : mw_WP d 100 7 [l0, l1, l2, l3] (jI x :: st) σ Q ↔ (if ¬ x = 0 then mw_WP d 100 12 [l0, l1, l2, l3] st σ Q else mw_WP d 100 10 [l0, l1, l2, l3] st σ Q) := WP_if_ne mq100 dd100_7 (by decide)
theorem dd100_10 : decode cX9_act 10 = .ok (.iconst 0, 1) := by decide +kernel
theorem ww100_10 {d : Nat} {l0 l1 l2 l3 : Option mw_V} {st : List mw_V} {σ : mw_S} {Q : Option mw_V → mw_S → Prop} : mw_WP d 100 10 [l0, l1, l2, l3] st σ Q ↔ mw_WP d 100 11 [l0, l1, l2, l3] (jI (0) :: st) σ Q := WP_iconst mq100 dd100_10 (by decide)
theorem dd100_11 : decode cX9_act 11 = .ok (.ireturn, 1) := by decide +kernel
theorem ww100_11 {d : Nat} {l0 l1 l2 l3 : Option mw_V} {z : Int} {σ : mw_S} {Q : Option mw_V → mw_S → Prop} : mw_WP d 100 11 [l0, l1, l2, l3] [jI z] σ Q ↔ Q (some (jI z)) σ := WP_ireturn (ty := .int) mq100 dd100_11 rfl rfl
theorem dd100_12 : decode cX9_act 12 = .ok (.iload_n 3, 1) := by decide +kernel
theorem ww100_12 {d : Nat} {l0 l1 l2 : Option mw_V} {x : Int} {st : List mw_V} {σ : mw_S} {Q : Option mw_V → mw_S → Prop} : mw_WP d 100 12 [l0, l1, l2, some (jI x)] st σ Q ↔ mw_WP d 100 13 [l0, l1, l2, some (jI x)] (jI x :: st) σ Q := WP_iload_n mq100 dd100_12 rfl
theorem dd100_13 : decode cX9_act 13 = .ok (.iconst 1, 1) := by decide +kernel
theorem ww100_13 {d : Nat} {l0 l1 l2 l3 : Option mw_V} {st : List mw_V} {σ : mw_S} {Q : Option mw_V → mw_S → Prop} : mw_WP d 100 13 [l0, l1, l2, l3] st σ Q ↔ mw_WP d 100 14 [l0, l1, l2, l3] (jI (1) :: st) σ Q := WP_iconst mq100 dd100_13 (by decide)
theorem dd100_14 : decode cX9_act 14 = .ok (.if_icmp .eq 8, 3) := by decide +kernel
theorem ww100_14 {d : Nat} {l0 l1 l2 l3 : Option mw_V} {x y : Int} {st : List mw_V} {σ : mw_S} {Q : Option mw_V → mw_S → Prop} : mw_WP d 100 14 [l0, l1, l2, l3] (jI y :: jI x :: st) σ Q ↔ (if x = y then mw_WP d 100 22 [l0, l1, l2, l3] st σ Q else mw_WP d 100 17 [l0, l1, l2, l3] st σ Q) := WP_icmp_eq mq100 dd100_14 (by decide)
theorem dd100_17 : decode cX9_act 17 = .ok (.iload_n 3, 1) := by decide +kernel
theorem ww100_17 {d : Nat} {l0 l1 l2 : Option mw_V} {x : Int} {st : List mw_V} {σ : mw_S} {Q : Option mw_V → mw_S → Prop} : mw_WP d 100 17 [l0, l1, l2, some (jI x)] st σ Q ↔ mw_WP d 100 18 [l0, l1, l2, some (jI x)] (jI x :: st) σ Q := WP_iload_n mq100 dd100_17 rfl
theorem dd100_18 : decode cX9_act 18 = .ok (.iconst 2, 1) := by decide +kernel
theorem ww100_18 {d : Nat} {l0 l1 l2 l3 : Option mw_V} {st : List mw_V} {σ : mw_S} {Q : Option mw_V → mw_S → Prop} : mw_WP d 100 18 [l0, l1, l2, l3] st σ Q ↔ mw_WP d 100 19 [l0, l1, l2, l3] (jI (2) :: st) σ Q := WP_iconst mq100 dd100_18 (by decide)
theorem dd100_19 : decode cX9_act 19 = .ok (.if_icmp .ne 21, 3) := by decide +kernel
theorem ww100_19 {d : Nat} {l0 l1 l2 l3 : Option mw_V} {x y : Int} {st : List mw_V} {σ : mw_S} {Q : Option mw_V → mw_S → Prop} : mw_WP d 100 19 [l0, l1, l2, l3] (jI y :: jI x :: st) σ Q ↔ (if ¬ x = y then mw_WP d 100 40 [l0, l1, l2, l3] st σ Q else mw_WP d 100 22 [l0, l1, l2, l3] st σ Q) := WP_icmp_ne mq100 dd100_19 (by decide)
theorem dd100_22 : decode cX9_act 22 = .ok (.aload_n 1, 1) := by decide +kernel
theorem ww100_22 {d : Nat} {l0 l2 l3 : Option mw_V} {x : Nat} {st : List mw_V} {σ : mw_S} {Q : Option mw_V → mw_S → Prop} : mw_WP d 100 22 [l0, some (jR x), l2, l3] st σ Q ↔ mw_WP d 100 23 [l0, some (jR x), l2, l3] (jR x :: st) σ Q := WP_aload_n mq100 dd100_22 rfl
theorem dd100_23 : decode cX9_act 23 = .ok (.iconst 0, 1) := by decide +kernel
theorem ww100_23 {d : Nat} {l0 l1 l2 l3 : Option mw_V} {st : List mw_V} {σ : mw_S} {Q : Option mw_V → mw_S → Prop} : mw_WP d 100 23 [l0, l1, l2, l3] st σ Q ↔ mw_WP d 100 24 [l0, l1, l2, l3] (jI (0) :: st) σ Q := WP_iconst mq100 dd100_23 (by decide)
theorem dd100_24 : decode cX9_act 24 = .ok (.iload_n 2, 1) := by decide +kernel
theorem ww100_24 {d : Nat} {l0 l1 l3 : Option mw_V} {x : Int} {st : List mw_V} {σ : mw_S} {Q : Option mw_V → mw_S → Prop} : mw_WP d 100 24 [l0, l1, some (jI x), l3] st σ Q ↔ mw_WP d 100 25 [l0, l1, some (jI x), l3] (jI x :: st) σ Q := WP_iload_n mq100 dd100_24 rfl
theorem dd100_25 : decode cX9_act 25 = .ok (.iadd, 1) := by decide +kernel
theorem ww100_25 {d : Nat} {l0 l1 l2 l3 : Option mw_V} {x y : Int} {st : List mw_V} {σ : mw_S} {Q : Option mw_V → mw_S → Prop} : mw_WP d 100 25 [l0, l1, l2, l3] (jI y :: jI x :: st) σ Q ↔ mw_WP d 100 26 [l0, l1, l2, l3] (jI (w32 (x + y)) :: st) σ Q := WP_iadd mq100 dd100_25
theorem dd100_26 : decode cX9_act 26 = .ok (.aload_n 0, 1) := by decide +kernel
theorem ww100_26 {d : Nat} {l1 l2 l3 : Option mw_V} {x : Nat} {st : List mw_V} {σ : mw_S} {Q : Option mw_V → mw_S → Prop} : mw_WP d 100 26 [some (jR x), l1, l2, l3] st σ Q ↔ mw_WP d 100 27 [some (jR x), l1, l2, l3] (jR x :: st) σ Q := WP_aload_n mq100 dd100_26 rfl
theorem dd100_27 : decode cX9_act 27 = .ok (.aload_n 1, 1) := by decide +kernel
theorem ww100_27 {d : Nat} {l0 l2 l3 : Option mw_V} {x : Nat} {st : List mw_V} {σ : mw_S} {Q : Option mw_V → mw_S → Prop} : mw_WP d 100 27 [l0, some (jR x), l2, l3] st σ Q ↔ mw_WP d 100 28 [l0, some (jR x), l2, l3] (jR x :: st) σ Q := WP_aload_n mq100 dd100_27 rfl
theorem dd100_28 : decode cX9_act 28 = .ok (.iconst 0, 1) := by decide +kernel
theorem ww100_28 {d : Nat} {l0 l1 l2 l3 : Option mw_V} {st : List mw_V} {σ : mw_S} {Q : Option mw_V → mw_S → Prop} : mw_WP d 100 28 [l0, l1, l2, l3] st σ Q ↔ mw_WP d 100 29 [l0, l1, l2, l3] (jI (0) :: st) σ Q := WP_iconst mq100 dd100_28 (by decide)
theorem dd100_29 : decode cX9_act 29 = .ok (.iload_n 2, 1) := by decide +kernel
theorem ww100_29 {d : Nat} {l0 l1 l3 : Option mw_V} {x : Int} {st : List mw_V} {σ : mw_S} {Q : Option mw_V → mw_S → Prop} : mw_WP d 100 29 [l0, l1, some (jI x), l3] st σ Q ↔ mw_WP d 100 30 [l0, l1, some (jI x), l3] (jI x :: st) σ Q := WP_iload_n mq100 dd100_29 rfl
theorem dd100_30 : decode cX9_act 30 = .ok (.iadd, 1) := by decide +kernel
theorem ww100_30 {d : Nat} {l0 l1 l2 l3 : Option mw_V} {x y : Int} {st : List mw_V} {σ : mw_S} {Q : Option mw_V → mw_S → Prop} : mw_WP d 100 30 [l0, l1, l2, l3] (jI y :: jI x :: st) σ Q ↔ mw_WP d 100 31 [l0, l1, l2, l3] (jI (w32 (x + y)) :: st) σ Q := WP_iadd mq100 dd100_30
theorem dd100_31 : decode cX9_act 31 = .ok (.iaload, 1) := by decide +kernel
theorem ww100_31 {d : Nat} {l0 l1 l2 l3 : Option mw_V} {z : Int} {a : Nat} {st : List mw_V} {σ : mw_S} {Q : Option mw_V → mw_S → Prop} : mw_WP d 100 31 [l0, l1, l2, l3] (jI z :: jR a :: st) σ Q ↔ ((0 ≤ z ∧ z < mw_lenI a) ∧ mw_WP d 100 32 [l0, l1, l2, l3] (jI (mw_rdI σ a z.toNat) :: st) σ Q) := WP_iaload mq100 dd100_31
theorem dd100_32 : decode cX9_act 32 = .ok (.iload_n 3, 1) := by decide +kernel
theorem ww100_32 {d : Nat} {l0 l1 l2 : Option mw_V} {x : Int} {st : List mw_V} {σ : mw_S} {Q : Option mw_V → mw_S → Prop} : mw_WP d 100 32 [l0, l1, l2, some (jI x)] st σ Q ↔ mw_WP d 100 33 [l0, l1, l2, some (jI x)] (jI x :: st) σ Q := WP_iload_n mq100 dd100_32 rfl
theorem dd100_33 : decode cX9_act 33 = .ok (.invokevirtual 53, 3) := by decide +kernel
theorem ww100_33 {d : Nat} {l0 l1 l2 l3 : Option mw_V} {v0 v1 : mw_V} {a : Nat} {st : List mw_V} {σ : mw_S} {Q : Option mw_V → mw_S → Prop} (hr : mw_rc a = 9) (h8 : (st.map mw_cat).sum ≤ 8) : mw_WP d 100 33 [l0, l1, l2, l3] (v1 :: v0 :: jR a :: st) σ Q ↔ mw_Call d 91 [jR a, v0, v1] σ (fun r1 s1 => mw_WP d 100 36 [l0, l1, l2, l3] (r1.toList ++ st) s1 Q) := WP_inv (as := [v1, v0]) mq100 dd100_33 (by decide) mq91 rfl hr h8
theorem dd100_36 : decode cX9_act 36 = .ok (.iastore, 1) := by decide +kernel
theorem ww100_36 {d : Nat} {l0 l1 l2 l3 : Option mw_V} {x z : Int} {a : Nat} {st : List mw_V} {σ : mw_S} {Q : Option mw_V → mw_S → Prop} : mw_WP d 100 36 [l0, l1, l2, l3] (jI x :: jI z :: jR a :: st) σ Q ↔ ((0 ≤ z ∧ z < mw_lenW 0 a) ∧ mw_WP d 100 37 [l0, l1, l2, l3] st (upS σ a z.toNat x) Q) := WP_iastore mq100 dd100_36
theorem dd100_37 : decode cX9_act 37 = .ok (.goto 63, 3) := by decide +kernel
theorem ww100_37 {d : Nat} {l0 l1 l2 l3 : Option mw_V} {st : List mw_V} {σ : mw_S} {Q : Option mw_V → mw_S → Prop} : mw_WP d 100 37 [l0, l1, l2, l3] st σ Q ↔ mw_WP d 100 100 [l0, l1, l2, l3] st σ Q := WP_goto mq100 dd100_37 (by decide)
theorem dd100_40 : decode cX9_act 40 = .ok (.iload_n 3, 1) := by decide +kernel
theorem ww100_40 {d : Nat} {l0 l1 l2 : Option mw_V} {x : Int} {st : List mw_V} {σ : mw_S} {Q : Option mw_V → mw_S → Prop} : mw_WP d 100 40 [l0, l1, l2, some (jI x)] st σ Q ↔ mw_WP d 100 41 [l0, l1, l2, some (jI x)] (jI x :: st) σ Q := WP_iload_n mq100 dd100_40 rfl
theorem dd100_41 : decode cX9_act 41 = .ok (.iconst 3, 1) := by decide +kernel
theorem ww100_41 {d : Nat} {l0 l1 l2 l3 : Option mw_V} {st : List mw_V} {σ : mw_S} {Q : Option mw_V → mw_S → Prop} : mw_WP d 100 41 [l0, l1, l2, l3] st σ Q ↔ mw_WP d 100 42 [l0, l1, l2, l3] (jI (3) :: st) σ Q := WP_iconst mq100 dd100_41 (by decide)
theorem dd100_42 : decode cX9_act 42 = .ok (.if_icmp .eq 8, 3) := by decide +kernel
theorem ww100_42 {d : Nat} {l0 l1 l2 l3 : Option mw_V} {x y : Int} {st : List mw_V} {σ : mw_S} {Q : Option mw_V → mw_S → Prop} : mw_WP d 100 42 [l0, l1, l2, l3] (jI y :: jI x :: st) σ Q ↔ (if x = y then mw_WP d 100 50 [l0, l1, l2, l3] st σ Q else mw_WP d 100 45 [l0, l1, l2, l3] st σ Q) := WP_icmp_eq mq100 dd100_42 (by decide)
theorem dd100_45 : decode cX9_act 45 = .ok (.iload_n 3, 1) := by decide +kernel
theorem ww100_45 {d : Nat} {l0 l1 l2 : Option mw_V} {x : Int} {st : List mw_V} {σ : mw_S} {Q : Option mw_V → mw_S → Prop} : mw_WP d 100 45 [l0, l1, l2, some (jI x)] st σ Q ↔ mw_WP d 100 46 [l0, l1, l2, some (jI x)] (jI x :: st) σ Q := WP_iload_n mq100 dd100_45 rfl
theorem dd100_46 : decode cX9_act 46 = .ok (.iconst 4, 1) := by decide +kernel
theorem ww100_46 {d : Nat} {l0 l1 l2 l3 : Option mw_V} {st : List mw_V} {σ : mw_S} {Q : Option mw_V → mw_S → Prop} : mw_WP d 100 46 [l0, l1, l2, l3] st σ Q ↔ mw_WP d 100 47 [l0, l1, l2, l3] (jI (4) :: st) σ Q := WP_iconst mq100 dd100_46 (by decide)
theorem dd100_47 : decode cX9_act 47 = .ok (.if_icmp .ne 24, 3) := by decide +kernel
theorem ww100_47 {d : Nat} {l0 l1 l2 l3 : Option mw_V} {x y : Int} {st : List mw_V} {σ : mw_S} {Q : Option mw_V → mw_S → Prop} : mw_WP d 100 47 [l0, l1, l2, l3] (jI y :: jI x :: st) σ Q ↔ (if ¬ x = y then mw_WP d 100 71 [l0, l1, l2, l3] st σ Q else mw_WP d 100 50 [l0, l1, l2, l3] st σ Q) := WP_icmp_ne mq100 dd100_47 (by decide)
theorem dd100_50 : decode cX9_act 50 = .ok (.aload_n 0, 1) := by decide +kernel
theorem ww100_50 {d : Nat} {l1 l2 l3 : Option mw_V} {x : Nat} {st : List mw_V} {σ : mw_S} {Q : Option mw_V → mw_S → Prop} : mw_WP d 100 50 [some (jR x), l1, l2, l3] st σ Q ↔ mw_WP d 100 51 [some (jR x), l1, l2, l3] (jR x :: st) σ Q := WP_aload_n mq100 dd100_50 rfl
theorem dd100_51 : decode cX9_act 51 = .ok (.aload_n 1, 1) := by decide +kernel
theorem ww100_51 {d : Nat} {l0 l2 l3 : Option mw_V} {x : Nat} {st : List mw_V} {σ : mw_S} {Q : Option mw_V → mw_S → Prop} : mw_WP d 100 51 [l0, some (jR x), l2, l3] st σ Q ↔ mw_WP d 100 52 [l0, some (jR x), l2, l3] (jR x :: st) σ Q := WP_aload_n mq100 dd100_51 rfl
theorem dd100_52 : decode cX9_act 52 = .ok (.aload_n 1, 1) := by decide +kernel
theorem ww100_52 {d : Nat} {l0 l2 l3 : Option mw_V} {x : Nat} {st : List mw_V} {σ : mw_S} {Q : Option mw_V → mw_S → Prop} : mw_WP d 100 52 [l0, some (jR x), l2, l3] st σ Q ↔ mw_WP d 100 53 [l0, some (jR x), l2, l3] (jR x :: st) σ Q := WP_aload_n mq100 dd100_52 rfl
theorem dd100_53 : decode cX9_act 53 = .ok (.iload_n 2, 1) := by decide +kernel
theorem ww100_53 {d : Nat} {l0 l1 l3 : Option mw_V} {x : Int} {st : List mw_V} {σ : mw_S} {Q : Option mw_V → mw_S → Prop} : mw_WP d 100 53 [l0, l1, some (jI x), l3] st σ Q ↔ mw_WP d 100 54 [l0, l1, some (jI x), l3] (jI x :: st) σ Q := WP_iload_n mq100 dd100_53 rfl
theorem dd100_54 : decode cX9_act 54 = .ok (.invokestatic 82, 3) := by decide +kernel
theorem ww100_54 {d : Nat} {l0 l1 l2 l3 : Option mw_V} {v0 v1 : mw_V} {st : List mw_V} {σ : mw_S} {Q : Option mw_V → mw_S → Prop} (h8 : (st.map mw_cat).sum ≤ 8) : mw_WP d 100 54 [l0, l1, l2, l3] (v1 :: v0 :: st) σ Q ↔ mw_Call d 98 [v0, v1] σ (fun r1 s1 => mw_WP d 100 57 [l0, l1, l2, l3] (r1.toList ++ st) s1 Q) := WP_invs (as := [v1, v0]) mq100 dd100_54 (by decide) mq98 rfl rfl h8
theorem dd100_57 : decode cX9_act 57 = .ok (.aload_n 0, 1) := by decide +kernel
theorem ww100_57 {d : Nat} {l1 l2 l3 : Option mw_V} {x : Nat} {st : List mw_V} {σ : mw_S} {Q : Option mw_V → mw_S → Prop} : mw_WP d 100 57 [some (jR x), l1, l2, l3] st σ Q ↔ mw_WP d 100 58 [some (jR x), l1, l2, l3] (jR x :: st) σ Q := WP_aload_n mq100 dd100_57 rfl
theorem dd100_58 : decode cX9_act 58 = .ok (.iload_n 2, 1) := by decide +kernel
theorem ww100_58 {d : Nat} {l0 l1 l3 : Option mw_V} {x : Int} {st : List mw_V} {σ : mw_S} {Q : Option mw_V → mw_S → Prop} : mw_WP d 100 58 [l0, l1, some (jI x), l3] st σ Q ↔ mw_WP d 100 59 [l0, l1, some (jI x), l3] (jI x :: st) σ Q := WP_iload_n mq100 dd100_58 rfl
theorem dd100_59 : decode cX9_act 59 = .ok (.iload_n 3, 1) := by decide +kernel
theorem ww100_59 {d : Nat} {l0 l1 l2 : Option mw_V} {x : Int} {st : List mw_V} {σ : mw_S} {Q : Option mw_V → mw_S → Prop} : mw_WP d 100 59 [l0, l1, l2, some (jI x)] st σ Q ↔ mw_WP d 100 60 [l0, l1, l2, some (jI x)] (jI x :: st) σ Q := WP_iload_n mq100 dd100_59 rfl
theorem dd100_60 : decode cX9_act 60 = .ok (.iconst 3, 1) := by decide +kernel
theorem ww100_60 {d : Nat} {l0 l1 l2 l3 : Option mw_V} {st : List mw_V} {σ : mw_S} {Q : Option mw_V → mw_S → Prop} : mw_WP d 100 60 [l0, l1, l2, l3] st σ Q ↔ mw_WP d 100 61 [l0, l1, l2, l3] (jI (3) :: st) σ Q := WP_iconst mq100 dd100_60 (by decide)
theorem dd100_61 : decode cX9_act 61 = .ok (.isub, 1) := by decide +kernel
theorem ww100_61 {d : Nat} {l0 l1 l2 l3 : Option mw_V} {x y : Int} {st : List mw_V} {σ : mw_S} {Q : Option mw_V → mw_S → Prop} : mw_WP d 100 61 [l0, l1, l2, l3] (jI y :: jI x :: st) σ Q ↔ mw_WP d 100 62 [l0, l1, l2, l3] (jI (w32 (x - y)) :: st) σ Q := WP_isub mq100 dd100_61
theorem dd100_62 : decode cX9_act 62 = .ok (.invokevirtual 75, 3) := by decide +kernel
theorem ww100_62 {d : Nat} {l0 l1 l2 l3 : Option mw_V} {v0 v1 : mw_V} {a : Nat} {st : List mw_V} {σ : mw_S} {Q : Option mw_V → mw_S → Prop} (hr : mw_rc a = 9) (h8 : (st.map mw_cat).sum ≤ 8) : mw_WP d 100 62 [l0, l1, l2, l3] (v1 :: v0 :: jR a :: st) σ Q ↔ mw_Call d 96 [jR a, v0, v1] σ (fun r1 s1 => mw_WP d 100 65 [l0, l1, l2, l3] (r1.toList ++ st) s1 Q) := WP_inv (as := [v1, v0]) mq100 dd100_62 (by decide) mq96 rfl hr h8
theorem dd100_65 : decode cX9_act 65 = .ok (.invokevirtual 89, 3) := by decide +kernel
theorem ww100_65 {d : Nat} {l0 l1 l2 l3 : Option mw_V} {v0 v1 v2 : mw_V} {a : Nat} {st : List mw_V} {σ : mw_S} {Q : Option mw_V → mw_S → Prop} (hr : mw_rc a = 9) (h8 : (st.map mw_cat).sum ≤ 8) : mw_WP d 100 65 [l0, l1, l2, l3] (v2 :: v1 :: v0 :: jR a :: st) σ Q ↔ mw_Call d 101 [jR a, v0, v1, v2] σ (fun r1 s1 => mw_WP d 100 68 [l0, l1, l2, l3] (r1.toList ++ st) s1 Q) := WP_inv (as := [v2, v1, v0]) mq100 dd100_65 (by decide) mq101 rfl hr h8
theorem dd100_68 : decode cX9_act 68 = .ok (.goto 32, 3) := by decide +kernel
theorem ww100_68 {d : Nat} {l0 l1 l2 l3 : Option mw_V} {st : List mw_V} {σ : mw_S} {Q : Option mw_V → mw_S → Prop} : mw_WP d 100 68 [l0, l1, l2, l3] st σ Q ↔ mw_WP d 100 100 [l0, l1, l2, l3] st σ Q := WP_goto mq100 dd100_68 (by decide)
theorem dd100_71 : decode cX9_act 71 = .ok (.iload_n 3, 1) := by decide +kernel
theorem ww100_71 {d : Nat} {l0 l1 l2 : Option mw_V} {x : Int} {st : List mw_V} {σ : mw_S} {Q : Option mw_V → mw_S → Prop} : mw_WP d 100 71 [l0, l1, l2, some (jI x)] st σ Q ↔ mw_WP d 100 72 [l0, l1, l2, some (jI x)] (jI x :: st) σ Q := WP_iload_n mq100 dd100_71 rfl
theorem dd100_72 : decode cX9_act 72 = .ok (.iconst 5, 1) := by decide +kernel
theorem ww100_72 {d : Nat} {l0 l1 l2 l3 : Option mw_V} {st : List mw_V} {σ : mw_S} {Q : Option mw_V → mw_S → Prop} : mw_WP d 100 72 [l0, l1, l2, l3] st σ Q ↔ mw_WP d 100 73 [l0, l1, l2, l3] (jI (5) :: st) σ Q := WP_iconst mq100 dd100_72 (by decide)
theorem dd100_73 : decode cX9_act 73 = .ok (.if_icmp .eq 9, 3) := by decide +kernel
theorem ww100_73 {d : Nat} {l0 l1 l2 l3 : Option mw_V} {x y : Int} {st : List mw_V} {σ : mw_S} {Q : Option mw_V → mw_S → Prop} : mw_WP d 100 73 [l0, l1, l2, l3] (jI y :: jI x :: st) σ Q ↔ (if x = y then mw_WP d 100 82 [l0, l1, l2, l3] st σ Q else mw_WP d 100 76 [l0, l1, l2, l3] st σ Q) := WP_icmp_eq mq100 dd100_73 (by decide)
theorem dd100_76 : decode cX9_act 76 = .ok (.iload_n 3, 1) := by decide +kernel
theorem ww100_76 {d : Nat} {l0 l1 l2 : Option mw_V} {x : Int} {st : List mw_V} {σ : mw_S} {Q : Option mw_V → mw_S → Prop} : mw_WP d 100 76 [l0, l1, l2, some (jI x)] st σ Q ↔ mw_WP d 100 77 [l0, l1, l2, some (jI x)] (jI x :: st) σ Q := WP_iload_n mq100 dd100_76 rfl
theorem dd100_77 : decode cX9_act 77 = .ok (.bipush 6, 2) := by decide +kernel
theorem ww100_77 {d : Nat} {l0 l1 l2 l3 : Option mw_V} {st : List mw_V} {σ : mw_S} {Q : Option mw_V → mw_S → Prop} : mw_WP d 100 77 [l0, l1, l2, l3] st σ Q ↔ mw_WP d 100 79 [l0, l1, l2, l3] (jI (6) :: st) σ Q := WP_bipush mq100 dd100_77 (by decide)
theorem dd100_79 : decode cX9_act 79 = .ok (.if_icmp .ne 21, 3) := by decide +kernel
theorem ww100_79 {d : Nat} {l0 l1 l2 l3 : Option mw_V} {x y : Int} {st : List mw_V} {σ : mw_S} {Q : Option mw_V → mw_S → Prop} : mw_WP d 100 79 [l0, l1, l2, l3] (jI y :: jI x :: st) σ Q ↔ (if ¬ x = y then mw_WP d 100 100 [l0, l1, l2, l3] st σ Q else mw_WP d 100 82 [l0, l1, l2, l3] st σ Q) := WP_icmp_ne mq100 dd100_79 (by decide)
theorem dd100_82 : decode cX9_act 82 = .ok (.aload_n 0, 1) := by decide +kernel
theorem ww100_82 {d : Nat} {l1 l2 l3 : Option mw_V} {x : Nat} {st : List mw_V} {σ : mw_S} {Q : Option mw_V → mw_S → Prop} : mw_WP d 100 82 [some (jR x), l1, l2, l3] st σ Q ↔ mw_WP d 100 83 [some (jR x), l1, l2, l3] (jR x :: st) σ Q := WP_aload_n mq100 dd100_82 rfl
theorem dd100_83 : decode cX9_act 83 = .ok (.aload_n 1, 1) := by decide +kernel
theorem ww100_83 {d : Nat} {l0 l2 l3 : Option mw_V} {x : Nat} {st : List mw_V} {σ : mw_S} {Q : Option mw_V → mw_S → Prop} : mw_WP d 100 83 [l0, some (jR x), l2, l3] st σ Q ↔ mw_WP d 100 84 [l0, some (jR x), l2, l3] (jR x :: st) σ Q := WP_aload_n mq100 dd100_83 rfl
theorem dd100_84 : decode cX9_act 84 = .ok (.aload_n 0, 1) := by decide +kernel
theorem ww100_84 {d : Nat} {l1 l2 l3 : Option mw_V} {x : Nat} {st : List mw_V} {σ : mw_S} {Q : Option mw_V → mw_S → Prop} : mw_WP d 100 84 [some (jR x), l1, l2, l3] st σ Q ↔ mw_WP d 100 85 [some (jR x), l1, l2, l3] (jR x :: st) σ Q := WP_aload_n mq100 dd100_84 rfl
theorem dd100_85 : decode cX9_act 85 = .ok (.iload_n 2, 1) := by decide +kernel
theorem ww100_85 {d : Nat} {l0 l1 l3 : Option mw_V} {x : Int} {st : List mw_V} {σ : mw_S} {Q : Option mw_V → mw_S → Prop} : mw_WP d 100 85 [l0, l1, some (jI x), l3] st σ Q ↔ mw_WP d 100 86 [l0, l1, some (jI x), l3] (jI x :: st) σ Q := WP_iload_n mq100 dd100_85 rfl
theorem dd100_86 : decode cX9_act 86 = .ok (.iload_n 3, 1) := by decide +kernel
theorem ww100_86 {d : Nat} {l0 l1 l2 : Option mw_V} {x : Int} {st : List mw_V} {σ : mw_S} {Q : Option mw_V → mw_S → Prop} : mw_WP d 100 86 [l0, l1, l2, some (jI x)] st σ Q ↔ mw_WP d 100 87 [l0, l1, l2, some (jI x)] (jI x :: st) σ Q := WP_iload_n mq100 dd100_86 rfl
theorem dd100_87 : decode cX9_act 87 = .ok (.iconst 5, 1) := by decide +kernel
theorem ww100_87 {d : Nat} {l0 l1 l2 l3 : Option mw_V} {st : List mw_V} {σ : mw_S} {Q : Option mw_V → mw_S → Prop} : mw_WP d 100 87 [l0, l1, l2, l3] st σ Q ↔ mw_WP d 100 88 [l0, l1, l2, l3] (jI (5) :: st) σ Q := WP_iconst mq100 dd100_87 (by decide)
theorem dd100_88 : decode cX9_act 88 = .ok (.isub, 1) := by decide +kernel
theorem ww100_88 {d : Nat} {l0 l1 l2 l3 : Option mw_V} {x y : Int} {st : List mw_V} {σ : mw_S} {Q : Option mw_V → mw_S → Prop} : mw_WP d 100 88 [l0, l1, l2, l3] (jI y :: jI x :: st) σ Q ↔ mw_WP d 100 89 [l0, l1, l2, l3] (jI (w32 (x - y)) :: st) σ Q := WP_isub mq100 dd100_88
theorem dd100_89 : decode cX9_act 89 = .ok (.invokevirtual 75, 3) := by decide +kernel
theorem ww100_89 {d : Nat} {l0 l1 l2 l3 : Option mw_V} {v0 v1 : mw_V} {a : Nat} {st : List mw_V} {σ : mw_S} {Q : Option mw_V → mw_S → Prop} (hr : mw_rc a = 9) (h8 : (st.map mw_cat).sum ≤ 8) : mw_WP d 100 89 [l0, l1, l2, l3] (v1 :: v0 :: jR a :: st) σ Q ↔ mw_Call d 96 [jR a, v0, v1] σ (fun r1 s1 => mw_WP d 100 92 [l0, l1, l2, l3] (r1.toList ++ st) s1 Q) := WP_inv (as := [v1, v0]) mq100 dd100_89 (by decide) mq96 rfl hr h8
theorem dd100_92 : decode cX9_act 92 = .ok (.aload_n 1, 1) := by decide +kernel
theorem ww100_92 {d : Nat} {l0 l2 l3 : Option mw_V} {x : Nat} {st : List mw_V} {σ : mw_S} {Q : Option mw_V → mw_S → Prop} : mw_WP d 100 92 [l0, some (jR x), l2, l3] st σ Q ↔ mw_WP d 100 93 [l0, some (jR x), l2, l3] (jR x :: st) σ Q := WP_aload_n mq100 dd100_92 rfl
theorem dd100_93 : decode cX9_act 93 = .ok (.iload_n 2, 1) := by decide +kernel
theorem ww100_93 {d : Nat} {l0 l1 l3 : Option mw_V} {x : Int} {st : List mw_V} {σ : mw_S} {Q : Option mw_V → mw_S → Prop} : mw_WP d 100 93 [l0, l1, some (jI x), l3] st σ Q ↔ mw_WP d 100 94 [l0, l1, some (jI x), l3] (jI x :: st) σ Q := WP_iload_n mq100 dd100_93 rfl
theorem dd100_94 : decode cX9_act 94 = .ok (.invokestatic 82, 3) := by decide +kernel
theorem ww100_94 {d : Nat} {l0 l1 l2 l3 : Option mw_V} {v0 v1 : mw_V} {st : List mw_V} {σ : mw_S} {Q : Option mw_V → mw_S → Prop} (h8 : (st.map mw_cat).sum ≤ 8) : mw_WP d 100 94 [l0, l1, l2, l3] (v1 :: v0 :: st) σ Q ↔ mw_Call d 98 [v0, v1] σ (fun r1 s1 => mw_WP d 100 97 [l0, l1, l2, l3] (r1.toList ++ st) s1 Q) := WP_invs (as := [v1, v0]) mq100 dd100_94 (by decide) mq98 rfl rfl h8
theorem dd100_97 : decode cX9_act 97 = .ok (.invokevirtual 89, 3) := by decide +kernel
theorem ww100_97 {d : Nat} {l0 l1 l2 l3 : Option mw_V} {v0 v1 v2 : mw_V} {a : Nat} {st : List mw_V} {σ : mw_S} {Q : Option mw_V → mw_S → Prop} (hr : mw_rc a = 9) (h8 : (st.map mw_cat).sum ≤ 8) : mw_WP d 100 97 [l0, l1, l2, l3] (v2 :: v1 :: v0 :: jR a :: st) σ Q ↔ mw_Call d 101 [jR a, v0, v1, v2] σ (fun r1 s1 => mw_WP d 100 100 [l0, l1, l2, l3] (r1.toList ++ st) s1 Q) := WP_inv (as := [v2, v1, v0]) mq100 dd100_97 (by decide) mq101 rfl hr h8
theorem dd100_100 : decode cX9_act 100 = .ok (.iconst 1, 1) := by decide +kernel
theorem ww100_100 {d : Nat} {l0 l1 l2 l3 : Option mw_V} {st : List mw_V} {σ : mw_S} {Q : Option mw_V → mw_S → Prop} : mw_WP d 100 100 [l0, l1, l2, l3] st σ Q ↔ mw_WP d 100 101 [l0, l1, l2, l3] (jI (1) :: st) σ Q := WP_iconst mq100 dd100_100 (by decide)
theorem dd100_101 : decode cX9_act 101 = .ok (.ireturn, 1) := by decide +kernel
theorem ww100_101 {d : Nat} {l0 l1 l2 l3 : Option mw_V} {z : Int} {σ : mw_S} {Q : Option mw_V → mw_S → Prop} : mw_WP d 100 101 [l0, l1, l2, l3] [jI z] σ Q ↔ Q (some (jI z)) σ := WP_ireturn (ty := .int) mq100 dd100_101 rfl rfl
theorem ee101 {d : Nat} {a : Nat} {a0 : Nat} {z1 : Int} {z2 : Int} {σ : mw_S} {Q : Option mw_V → mw_S → Prop} : mw_Call (d + 1) 101 [jR a, jR a0, jI z1, jI z2] σ Q ↔ mw_WP d 101 0 [some (jR a), some (jR a0), some (jI z1), some (jI z2), none] [] σ Q := CL_u mq101 (Nat.le_of_ble_eq_true rfl) rfl
theorem dd101_0 : decode cX9_carry 0 = .ok (.aload_n 0, 1) := by decide +kernel
theorem ww101_0 {d : Nat} {l1 l2 l3 l4 : Option mw_V} {x : Nat} {st : List mw_V} {σ : mw_S} {Q : Option mw_V → mw_S → Prop} : mw_WP d 101 0 [some (jR x), l1, l2, l3, l4] st σ Q ↔ mw_WP d 101 1 [some (jR x), l1, l2, l3, l4] (jR x :: st) σ Q := WP_aload_n mq101 dd101_0 rfl
theorem dd101_1 : decode cX9_carry 1 = .ok (.aload_n 1, 1) := by decide +kernel
theorem ww101_1 {d : Nat} {l0 l2 l3 l4 : Option mw_V} {x : Nat} {st : List mw_V} {σ : mw_S} {Q : Option mw_V → mw_S → Prop} : mw_WP d 101 1 [l0, some (jR x), l2, l3, l4] st σ Q ↔ mw_WP d 101 2 [l0, some (jR x), l2, l3, l4] (jR x :: st) σ Q := WP_aload_n mq101 dd101_1 rfl
theorem dd101_2 : decode cX9_carry 2 = .ok (.iload_n 2, 1) := by decide +kernel
theorem ww101_2 {d : Nat} {l0 l1 l3 l4 : Option mw_V} {x : Int} {st : List mw_V} {σ : mw_S} {Q : Option mw_V → mw_S → Prop} : mw_WP d 101 2 [l0, l1, some (jI x), l3, l4] st σ Q ↔ mw_WP d 101 3 [l0, l1, some (jI x), l3, l4] (jI x :: st) σ Q := WP_iload_n mq101 dd101_2 rfl
theorem dd101_3 : decode cX9_carry 3 = .ok (.invokevirtual 78, 3) := by decide +kernel
theorem ww101_3 {d : Nat} {l0 l1 l2 l3 l4 : Option mw_V} {v0 v1 : mw_V} {a : Nat} {st : List mw_V} {σ : mw_S} {Q : Option mw_V → mw_S → Prop} (hr : mw_rc a = 9) (h8 : (st.map mw_cat).sum ≤ 8) : mw_WP d 101 3 [l0, l1, l2, l3, l4] (v1 :: v0 :: jR a :: st) σ Q ↔ mw_Call d 97 [jR a, v0, v1] σ (fun r1 s1 => mw_WP d 101 6 [l0, l1, l2, l3, l4] (r1.toList ++ st) s1 Q) := WP_inv (as := [v1, v0]) mq101 dd101_3 (by decide) mq97 rfl hr h8
theorem dd101_6 : decode cX9_carry 6 = .ok (.istore 4, 2) := by decide +kernel
theorem ww101_6 {d : Nat} {l0 l1 l2 l3 l4 : Option mw_V} {x : Int} {st : List mw_V} {σ : mw_S} {Q : Option mw_V → mw_S → Prop} (h : mw_nlo l3 = true) : mw_WP d 101 6 [l0, l1, l2, l3, l4] (jI x :: st) σ Q ↔ mw_WP d 101 8 [l0, l1, l2, l3, some (jI x)] st σ Q := WP_istore mq101 dd101_6 (Nat.le_of_ble_eq_true rfl) (mw_nl_of (i := 3) rfl h) rfl
theorem dd101_8 : decode cX9_carry 8 = .ok (.iload 4, 2) := by decide +kernel
theorem ww101_8 {d : Nat} {l0 l1 l2 l3 : Option mw_V} {x : Int} {st : List mw_V} {σ : mw_S} {Q : Option mw_V → mw_S → Prop} : mw_WP d 101 8 [l0, l1, l2, l3, some (jI x)] st σ Q ↔ mw_WP d 101 10 [l0, l1, l2, l3, some (jI x)] (jI x :: st) σ Q := WP_iload mq101 dd101_8 rfl
theorem dd101_10 : decode cX9_carry 10 = .ok (.iconst (-1), 1) := by decide +kernel
theorem ww101_10 {d : Nat} {l0 l1 l2 l3 l4 : Option mw_V} {st : List mw_V} {σ : mw_S} {Q : Option mw_V → mw_S → Prop} : mw_WP d 101 10 [l0, l1, l2, l3, l4] st σ Q ↔ mw_WP d 101 11 [l0, l1, l2, l3, l4] (jI (-1) :: st) σ Q := WP_iconst mq101 dd101_10 (by decide)
theorem dd101_11 : decode cX9_carry 11 = .ok (.if_icmp .eq 11, 3) := by decide +kernel
theorem ww101_11 {d : Nat} {l0 l1 l2 l3 l4 : Option mw_V} {x y : Int} {st : List mw_V} {σ : mw_S} {Q : Option mw_V → mw_S → Prop} : mw_WP d 101 11 [l0, l1, l2, l3, l4] (jI y :: jI x :: st) σ Q ↔ (if x = y then mw_WP d 101 22 [l0, l1, l2, l3, l4] st σ Q else mw_WP d 101 14 [l0, l1, l2, l3, l4] st σ Q) := WP_icmp_eq mq101 dd101_11 (by decide)
theorem dd101_14 : decode cX9_carry 14 = .ok (.aload_n 1, 1) := by decide +kernel
theorem ww101_14 {d : Nat} {l0 l2 l3 l4 : Option mw_V} {x : Nat} {st : List mw_V} {σ : mw_S} {Q : Option mw_V → mw_S → Prop} : mw_WP d 101 14 [l0, some (jR x), l2, l3, l4] st σ Q ↔ mw_WP d 101 15 [l0, some (jR x), l2, l3, l4] (jR x :: st) σ Q := WP_aload_n mq101 dd101_14 rfl
theorem dd101_15 : decode cX9_carry 15 = .ok (.bipush 6, 2) := by decide +kernel
theorem ww101_15 {d : Nat} {l0 l1 l2 l3 l4 : Option mw_V} {st : List mw_V} {σ : mw_S} {Q : Option mw_V → mw_S → Prop} : mw_WP d 101 15 [l0, l1, l2, l3, l4] st σ Q ↔ mw_WP d 101 17 [l0, l1, l2, l3, l4] (jI (6) :: st) σ Q := WP_bipush mq101 dd101_15 (by decide)
theorem dd101_17 : decode cX9_carry 17 = .ok (.iload 4, 2) := by decide +kernel
theorem ww101_17 {d : Nat} {l0 l1 l2 l3 : Option mw_V} {x : Int} {st : List mw_V} {σ : mw_S} {Q : Option mw_V → mw_S → Prop} : mw_WP d 101 17 [l0, l1, l2, l3, some (jI x)] st σ Q ↔ mw_WP d 101 19 [l0, l1, l2, l3, some (jI x)] (jI x :: st) σ Q := WP_iload mq101 dd101_17 rfl
theorem dd101_19 : decode cX9_carry 19 = .ok (.iadd, 1) := by decide +kernel
theorem ww101_19 {d : Nat} {l0 l1 l2 l3 l4 : Option mw_V} {x y : Int} {st : List mw_V} {σ : mw_S} {Q : Option mw_V → mw_S → Prop} : mw_WP d 101 19 [l0, l1, l2, l3, l4] (jI y :: jI x :: st) σ Q ↔ mw_WP d 101 20 [l0, l1, l2, l3, l4] (jI (w32 (x + y)) :: st) σ Q := WP_iadd mq101 dd101_19
theorem dd101_20 : decode cX9_carry 20 = .ok (.iload_n 3, 1) := by decide +kernel
theorem ww101_20 {d : Nat} {l0 l1 l2 l4 : Option mw_V} {x : Int} {st : List mw_V} {σ : mw_S} {Q : Option mw_V → mw_S → Prop} : mw_WP d 101 20 [l0, l1, l2, some (jI x), l4] st σ Q ↔ mw_WP d 101 21 [l0, l1, l2, some (jI x), l4] (jI x :: st) σ Q := WP_iload_n mq101 dd101_20 rfl
theorem dd101_21 : decode cX9_carry 21 = .ok (.iastore, 1) := by decide +kernel
theorem ww101_21 {d : Nat} {l0 l1 l2 l3 l4 : Option mw_V} {x z : Int} {a : Nat} {st : List mw_V} {σ : mw_S} {Q : Option mw_V → mw_S → Prop} : mw_WP d 101 21 [l0, l1, l2, l3, l4] (jI x :: jI z :: jR a :: st) σ Q ↔ ((0 ≤ z ∧ z < mw_lenW 0 a) ∧ mw_WP d 101 22 [l0, l1, l2, l3, l4] st (upS σ a z.toNat x) Q) := WP_iastore mq101 dd101_21
theorem dd101_22 : decode cX9_carry 22 = .ok (.return_, 1) := by decide +kernel
theorem ww101_22 {d : Nat} {l0 l1 l2 l3 l4 : Option mw_V} {σ : mw_S} {Q : Option mw_V → mw_S → Prop} : mw_WP d 101 22 [l0, l1, l2, l3, l4] [] σ Q ↔ Q none σ := WP_return mq101 dd101_22 rfl
theorem ee102 {d : Nat} {a : Nat} {a0 : Nat} {σ : mw_S} {Q : Option mw_V → mw_S → Prop} : mw_Call (d + 1) 102 [jR a, jR a0] σ Q ↔ mw_WP d 102 0 [some (jR a), some (jR a0), none, none, none, none, none] [] σ Q := CL_u mq102 (Nat.le_of_ble_eq_true rfl) rfl
theorem dd102_0 : decode cX9_passThings 0 = .ok (.iconst 0, 1) := by decide +kernel
theorem ww102_0 {d : Nat} {l0 l1 l2 l3 l4 l5 l6 : Option mw_V} {st : List mw_V} {σ : mw_S} {Q : Option mw_V → mw_S → Prop} : mw_WP d 102 0 [l0, l1, l2, l3, l4, l5, l6] st σ Q ↔ mw_WP d 102 1 [l0, l1, l2, l3, l4, l5, l6] (jI (0) :: st) σ Q := WP_iconst mq102 dd102_0 (by decide)
theorem dd102_1 : decode cX9_passThings 1 = .ok (.istore_n 2, 1) := by decide +kernel
theorem ww102_1 {d : Nat} {l0 l1 l2 l3 l4 l5 l6 : Option mw_V} {x : Int} {st : List mw_V} {σ : mw_S} {Q : Option mw_V → mw_S → Prop} (h : mw_nlo l1 = true) : mw_WP d 102 1 [l0, l1, l2, l3, l4, l5, l6] (jI x :: st) σ Q ↔ mw_WP d 102 2 [l0, l1, some (jI x), l3, l4, l5, l6] st σ Q := WP_istore_n mq102 dd102_1 (Nat.le_of_ble_eq_true rfl) (mw_nl_of (i := 1) rfl h) rfl
theorem dd102_2 : decode cX9_passThings 2 = .ok (.iconst 0, 1) := by decide +kernel
theorem ww102_2 {d : Nat} {l0 l1 l2 l3 l4 l5 l6 : Option mw_V} {st : List mw_V} {σ : mw_S} {Q : Option mw_V → mw_S → Prop} : mw_WP d 102 2 [l0, l1, l2, l3, l4, l5, l6] st σ Q ↔ mw_WP d 102 3 [l0, l1, l2, l3, l4, l5, l6] (jI (0) :: st) σ Q := WP_iconst mq102 dd102_2 (by decide)
theorem dd102_3 : decode cX9_passThings 3 = .ok (.istore_n 3, 1) := by decide +kernel
theorem ww102_3 {d : Nat} {l0 l1 l2 l3 l4 l5 l6 : Option mw_V} {x : Int} {st : List mw_V} {σ : mw_S} {Q : Option mw_V → mw_S → Prop} (h : mw_nlo l2 = true) : mw_WP d 102 3 [l0, l1, l2, l3, l4, l5, l6] (jI x :: st) σ Q ↔ mw_WP d 102 4 [l0, l1, l2, some (jI x), l4, l5, l6] st σ Q := WP_istore_n mq102 dd102_3 (Nat.le_of_ble_eq_true rfl) (mw_nl_of (i := 2) rfl h) rfl
theorem dd102_4 : decode cX9_passThings 4 = .ok (.iconst 0, 1) := by decide +kernel
theorem ww102_4 {d : Nat} {l0 l1 l2 l3 l4 l5 l6 : Option mw_V} {st : List mw_V} {σ : mw_S} {Q : Option mw_V → mw_S → Prop} : mw_WP d 102 4 [l0, l1, l2, l3, l4, l5, l6] st σ Q ↔ mw_WP d 102 5 [l0, l1, l2, l3, l4, l5, l6] (jI (0) :: st) σ Q := WP_iconst mq102 dd102_4 (by decide)
theorem dd102_5 : decode cX9_passThings 5 = .ok (.istore 4, 2) := by decide +kernel
theorem ww102_5 {d : Nat} {l0 l1 l2 l3 l4 l5 l6 : Option mw_V} {x : Int} {st : List mw_V} {σ : mw_S} {Q : Option mw_V → mw_S → Prop} (h : mw_nlo l3 = true) : mw_WP d 102 5 [l0, l1, l2, l3, l4, l5, l6] (jI x :: st) σ Q ↔ mw_WP d 102 7 [l0, l1, l2, l3, some (jI x), l5, l6] st σ Q := WP_istore mq102 dd102_5 (Nat.le_of_ble_eq_true rfl) (mw_nl_of (i := 3) rfl h) rfl
theorem dd102_7 : decode cX9_passThings 7 = .ok (.iload 4, 2) := by decide +kernel
theorem ww102_7 {d : Nat} {l0 l1 l2 l3 l5 l6 : Option mw_V} {x : Int} {st : List mw_V} {σ : mw_S} {Q : Option mw_V → mw_S → Prop} : mw_WP d 102 7 [l0, l1, l2, l3, some (jI x), l5, l6] st σ Q ↔ mw_WP d 102 9 [l0, l1, l2, l3, some (jI x), l5, l6] (jI x :: st) σ Q := WP_iload mq102 dd102_7 rfl
theorem dd102_9 : decode cX9_passThings 9 = .ok (.aload_n 0, 1) := by decide +kernel
theorem ww102_9 {d : Nat} {l1 l2 l3 l4 l5 l6 : Option mw_V} {x : Nat} {st : List mw_V} {σ : mw_S} {Q : Option mw_V → mw_S → Prop} : mw_WP d 102 9 [some (jR x), l1, l2, l3, l4, l5, l6] st σ Q ↔ mw_WP d 102 10 [some (jR x), l1, l2, l3, l4, l5, l6] (jR x :: st) σ Q := WP_aload_n mq102 dd102_9 rfl
theorem dd102_10 : decode cX9_passThings 10 = .ok (.getfield 18, 3) := by decide +kernel
theorem ww102_10 {d : Nat} {l0 l1 l2 l3 l4 l5 l6 : Option mw_V} {st : List mw_V} {σ : mw_S} {Q : Option mw_V → mw_S → Prop} : mw_WP d 102 10 [l0, l1, l2, l3, l4, l5, l6] (jR 22 :: st) σ Q ↔ mw_WP d 102 13 [l0, l1, l2, l3, l4, l5, l6] (jR 13 :: st) σ Q := WP_getR (ci := 8) (k := 0) mq102 dd102_10 (by decide) rfl
theorem dd102_13 : decode cX9_passThings 13 = .ok (.getfield 25, 3) := by decide +kernel
theorem ww102_13i3 {d : Nat} {l0 l1 l2 l3 l4 l5 l6 : Option mw_V} {st : List mw_V} {σ : mw_S} {Q : Option mw_V → mw_S → Prop} : mw_WP d 102 13 [l0, l1, l2, l3, l4, l5, l6] (jR 3 :: st) σ Q ↔ mw_WP d 102 16 [l0, l1, l2, l3, l4, l5, l6] (jI (σ 3 1) :: st) σ Q := WP_getI (ci := 0) (k := 1) mq102 dd102_13 (by decide) (Or.inl rfl)
theorem ww102_13i13 {d : Nat} {l0 l1 l2 l3 l4 l5 l6 : Option mw_V} {st : List mw_V} {σ : mw_S} {Q : Option mw_V → mw_S → Prop} : mw_WP d 102 13 [l0, l1, l2, l3, l4, l5, l6] (jR 13 :: st) σ Q ↔ mw_WP d 102 16 [l0, l1, l2, l3, l4, l5, l6] (jI (σ 13 1) :: st) σ Q := WP_getI (ci := 0) (k := 1) mq102 dd102_13 (by decide) (Or.inl rfl)
theorem ww102_13i77 {d : Nat} {l0 l1 l2 l3 l4 l5 l6 : Option mw_V} {st : List mw_V} {σ : mw_S} {Q : Option mw_V → mw_S → Prop} : mw_WP d 102 13 [l0, l1, l2, l3, l4, l5, l6] (jR 77 :: st) σ Q ↔ mw_WP d 102 16 [l0, l1, l2, l3, l4, l5, l6] (jI (σ 77 1) :: st) σ Q := WP_getI (ci := 0) (k := 1) mq102 dd102_13 (by decide) (Or.inl rfl)
theorem ww102_13i88 {d : Nat} {l0 l1 l2 l3 l4 l5 l6 : Option mw_V} {st : List mw_V} {σ : mw_S} {Q : Option mw_V → mw_S → Prop} : mw_WP d 102 13 [l0, l1, l2, l3, l4, l5, l6] (jR 88 :: st) σ Q ↔ mw_WP d 102 16 [l0, l1, l2, l3, l4, l5, l6] (jI (σ 88 1) :: st) σ Q := WP_getI (ci := 0) (k := 1) mq102 dd102_13 (by decide) (Or.inl rfl)
theorem dd102_16 : decode cX9_passThings 16 = .ok (.if_icmp .ge 67, 3) := by decide +kernel
theorem ww102_16 {d : Nat} {l0 l1 l2 l3 l4 l5 l6 : Option mw_V} {x y : Int} {st : List mw_V} {σ : mw_S} {Q : Option mw_V → mw_S → Prop} : mw_WP d 102 16 [l0, l1, l2, l3, l4, l5, l6] (jI y :: jI x :: st) σ Q ↔ (if y ≤ x then mw_WP d 102 83 [l0, l1, l2, l3, l4, l5, l6] st σ Q else mw_WP d 102 19 [l0, l1, l2, l3, l4, l5, l6] st σ Q) := WP_icmp_ge mq102 dd102_16 (by decide)
theorem dd102_19 : decode cX9_passThings 19 = .ok (.aload_n 1, 1) := by decide +kernel
theorem ww102_19 {d : Nat} {l0 l2 l3 l4 l5 l6 : Option mw_V} {x : Nat} {st : List mw_V} {σ : mw_S} {Q : Option mw_V → mw_S → Prop} : mw_WP d 102 19 [l0, some (jR x), l2, l3, l4, l5, l6] st σ Q ↔ mw_WP d 102 20 [l0, some (jR x), l2, l3, l4, l5, l6] (jR x :: st) σ Q := WP_aload_n mq102 dd102_19 rfl
theorem dd102_20 : decode cX9_passThings 20 = .ok (.bipush 13, 2) := by decide +kernel
theorem ww102_20 {d : Nat} {l0 l1 l2 l3 l4 l5 l6 : Option mw_V} {st : List mw_V} {σ : mw_S} {Q : Option mw_V → mw_S → Prop} : mw_WP d 102 20 [l0, l1, l2, l3, l4, l5, l6] st σ Q ↔ mw_WP d 102 22 [l0, l1, l2, l3, l4, l5, l6] (jI (13) :: st) σ Q := WP_bipush mq102 dd102_20 (by decide)
theorem dd102_22 : decode cX9_passThings 22 = .ok (.iload 4, 2) := by decide +kernel
theorem ww102_22 {d : Nat} {l0 l1 l2 l3 l5 l6 : Option mw_V} {x : Int} {st : List mw_V} {σ : mw_S} {Q : Option mw_V → mw_S → Prop} : mw_WP d 102 22 [l0, l1, l2, l3, some (jI x), l5, l6] st σ Q ↔ mw_WP d 102 24 [l0, l1, l2, l3, some (jI x), l5, l6] (jI x :: st) σ Q := WP_iload mq102 dd102_22 rfl
theorem dd102_24 : decode cX9_passThings 24 = .ok (.iadd, 1) := by decide +kernel
theorem ww102_24 {d : Nat} {l0 l1 l2 l3 l4 l5 l6 : Option mw_V} {x y : Int} {st : List mw_V} {σ : mw_S} {Q : Option mw_V → mw_S → Prop} : mw_WP d 102 24 [l0, l1, l2, l3, l4, l5, l6] (jI y :: jI x :: st) σ Q ↔ mw_WP d 102 25 [l0, l1, l2, l3, l4, l5, l6] (jI (w32 (x + y)) :: st) σ Q := WP_iadd mq102 dd102_24
theorem dd102_25 : decode cX9_passThings 25 = .ok (.iaload, 1) := by decide +kernel
theorem ww102_25 {d : Nat} {l0 l1 l2 l3 l4 l5 l6 : Option mw_V} {z : Int} {a : Nat} {st : List mw_V} {σ : mw_S} {Q : Option mw_V → mw_S → Prop} : mw_WP d 102 25 [l0, l1, l2, l3, l4, l5, l6] (jI z :: jR a :: st) σ Q ↔ ((0 ≤ z ∧ z < mw_lenI a) ∧ mw_WP d 102 26 [l0, l1, l2, l3, l4, l5, l6] (jI (mw_rdI σ a z.toNat) :: st) σ Q) := WP_iaload mq102 dd102_25
theorem dd102_26 : decode cX9_passThings 26 = .ok (.bipush 15, 2) := by decide +kernel
theorem ww102_26 {d : Nat} {l0 l1 l2 l3 l4 l5 l6 : Option mw_V} {st : List mw_V} {σ : mw_S} {Q : Option mw_V → mw_S → Prop} : mw_WP d 102 26 [l0, l1, l2, l3, l4, l5, l6] st σ Q ↔ mw_WP d 102 28 [l0, l1, l2, l3, l4, l5, l6] (jI (15) :: st) σ Q := WP_bipush mq102 dd102_26 (by decide)
theorem dd102_28 : decode cX9_passThings 28 = .ok (.iand, 1) := by decide +kernel
theorem ww102_28 {d : Nat} {l0 l1 l2 l3 l4 l5 l6 : Option mw_V} {x y : Int} {st : List mw_V} {σ : mw_S} {Q : Option mw_V → mw_S → Prop} : mw_WP d 102 28 [l0, l1, l2, l3, l4, l5, l6] (jI y :: jI x :: st) σ Q ↔ mw_WP d 102 29 [l0, l1, l2, l3, l4, l5, l6] (jI (zAnd x y) :: st) σ Q := WP_iand mq102 dd102_28
theorem dd102_29 : decode cX9_passThings 29 = .ok (.istore 5, 2) := by decide +kernel
theorem ww102_29 {d : Nat} {l0 l1 l2 l3 l4 l5 l6 : Option mw_V} {x : Int} {st : List mw_V} {σ : mw_S} {Q : Option mw_V → mw_S → Prop} (h : mw_nlo l4 = true) : mw_WP d 102 29 [l0, l1, l2, l3, l4, l5, l6] (jI x :: st) σ Q ↔ mw_WP d 102 31 [l0, l1, l2, l3, l4, some (jI x), l6] st σ Q := WP_istore mq102 dd102_29 (Nat.le_of_ble_eq_true rfl) (mw_nl_of (i := 4) rfl h) rfl
theorem dd102_31 : decode cX9_passThings 31 = .ok (.iload 5, 2) := by decide +kernel
theorem ww102_31 {d : Nat} {l0 l1 l2 l3 l4 l6 : Option mw_V} {x : Int} {st : List mw_V} {σ : mw_S} {Q : Option mw_V → mw_S → Prop} : mw_WP d 102 31 [l0, l1, l2, l3, l4, some (jI x), l6] st σ Q ↔ mw_WP d 102 33 [l0, l1, l2, l3, l4, some (jI x), l6] (jI x :: st) σ Q := WP_iload mq102 dd102_31 rfl
theorem dd102_33 : decode cX9_passThings 33 = .ok (.bipush 7, 2) := by decide +kernel
theorem ww102_33 {d : Nat} {l0 l1 l2 l3 l4 l5 l6 : Option mw_V} {st : List mw_V} {σ : mw_S} {Q : Option mw_V → mw_S → Prop} : mw_WP d 102 33 [l0, l1, l2, l3, l4, l5, l6] st σ Q ↔ mw_WP d 102 35 [l0, l1, l2, l3, l4, l5, l6] (jI (7) :: st) σ Q := WP_bipush mq102 dd102_33 (by decide)
theorem dd102_35 : decode cX9_passThings 35 = .ok (.if_icmp .lt 42, 3) := by decide +kernel
theorem ww102_35 {d : Nat} {l0 l1 l2 l3 l4 l5 l6 : Option mw_V} {x y : Int} {st : List mw_V} {σ : mw_S} {Q : Option mw_V → mw_S → Prop} : mw_WP d 102 35 [l0, l1, l2, l3, l4, l5, l6] (jI y :: jI x :: st) σ Q ↔ (if x < y then mw_WP d 102 77 [l0, l1, l2, l3, l4, l5, l6] st σ Q else mw_WP d 102 38 [l0, l1, l2, l3, l4, l5, l6] st σ Q) := WP_icmp_lt mq102 dd102_35 (by decide)
theorem dd102_38 : decode cX9_passThings 38 = .ok (.aload_n 1, 1) := by decide +kernel
theorem ww102_38 {d : Nat} {l0 l2 l3 l4 l5 l6 : Option mw_V} {x : Nat} {st : List mw_V} {σ : mw_S} {Q : Option mw_V → mw_S → Prop} : mw_WP d 102 38 [l0, some (jR x), l2, l3, l4, l5, l6] st σ Q ↔ mw_WP d 102 39 [l0, some (jR x), l2, l3, l4, l5, l6] (jR x :: st) σ Q := WP_aload_n mq102 dd102_38 rfl
theorem dd102_39 : decode cX9_passThings 39 = .ok (.bipush 19, 2) := by decide +kernel
theorem ww102_39 {d : Nat} {l0 l1 l2 l3 l4 l5 l6 : Option mw_V} {st : List mw_V} {σ : mw_S} {Q : Option mw_V → mw_S → Prop} : mw_WP d 102 39 [l0, l1, l2, l3, l4, l5, l6] st σ Q ↔ mw_WP d 102 41 [l0, l1, l2, l3, l4, l5, l6] (jI (19) :: st) σ Q := WP_bipush mq102 dd102_39 (by decide)
theorem dd102_41 : decode cX9_passThings 41 = .ok (.iload 4, 2) := by decide +kernel
theorem ww102_41 {d : Nat} {l0 l1 l2 l3 l5 l6 : Option mw_V} {x : Int} {st : List mw_V} {σ : mw_S} {Q : Option mw_V → mw_S → Prop} : mw_WP d 102 41 [l0, l1, l2, l3, some (jI x), l5, l6] st σ Q ↔ mw_WP d 102 43 [l0, l1, l2, l3, some (jI x), l5, l6] (jI x :: st) σ Q := WP_iload mq102 dd102_41 rfl
theorem dd102_43 : decode cX9_passThings 43 = .ok (.iadd, 1) := by decide +kernel
theorem ww102_43 {d : Nat} {l0 l1 l2 l3 l4 l5 l6 : Option mw_V} {x y : Int} {st : List mw_V} {σ : mw_S} {Q : Option mw_V → mw_S → Prop} : mw_WP d 102 43 [l0, l1, l2, l3, l4, l5, l6] (jI y :: jI x :: st) σ Q ↔ mw_WP d 102 44 [l0, l1, l2, l3, l4, l5, l6] (jI (w32 (x + y)) :: st) σ Q := WP_iadd mq102 dd102_43
theorem dd102_44 : decode cX9_passThings 44 = .ok (.iaload, 1) := by decide +kernel
theorem ww102_44 {d : Nat} {l0 l1 l2 l3 l4 l5 l6 : Option mw_V} {z : Int} {a : Nat} {st : List mw_V} {σ : mw_S} {Q : Option mw_V → mw_S → Prop} : mw_WP d 102 44 [l0, l1, l2, l3, l4, l5, l6] (jI z :: jR a :: st) σ Q ↔ ((0 ≤ z ∧ z < mw_lenI a) ∧ mw_WP d 102 45 [l0, l1, l2, l3, l4, l5, l6] (jI (mw_rdI σ a z.toNat) :: st) σ Q) := WP_iaload mq102 dd102_44
theorem dd102_45 : decode cX9_passThings 45 = .ok (.iconst 1, 1) := by decide +kernel
theorem ww102_45 {d : Nat} {l0 l1 l2 l3 l4 l5 l6 : Option mw_V} {st : List mw_V} {σ : mw_S} {Q : Option mw_V → mw_S → Prop} : mw_WP d 102 45 [l0, l1, l2, l3, l4, l5, l6] st σ Q ↔ mw_WP d 102 46 [l0, l1, l2, l3, l4, l5, l6] (jI (1) :: st) σ Q := WP_iconst mq102 dd102_45 (by decide)
theorem dd102_46 : decode cX9_passThings 46 = .ok (.if_icmp .ne 31, 3) := by decide +kernel
theorem ww102_46 {d : Nat} {l0 l1 l2 l3 l4 l5 l6 : Option mw_V} {x y : Int} {st : List mw_V} {σ : mw_S} {Q : Option mw_V → mw_S → Prop} : mw_WP d 102 46 [l0, l1, l2, l3, l4, l5, l6] (jI y :: jI x :: st) σ Q ↔ (if ¬ x = y then mw_WP d 102 77 [l0, l1, l2, l3, l4, l5, l6] st σ Q else mw_WP d 102 49 [l0, l1, l2, l3, l4, l5, l6] st σ Q) := WP_icmp_ne mq102 dd102_46 (by decide)
theorem dd102_49 : decode cX9_passThings 49 = .ok (.aload_n 0, 1) := by decide +kernel
theorem ww102_49 {d : Nat} {l1 l2 l3 l4 l5 l6 : Option mw_V} {x : Nat} {st : List mw_V} {σ : mw_S} {Q : Option mw_V → mw_S → Prop} : mw_WP d 102 49 [some (jR x), l1, l2, l3, l4, l5, l6] st σ Q ↔ mw_WP d 102 50 [some (jR x), l1, l2, l3, l4, l5, l6] (jR x :: st) σ Q := WP_aload_n mq102 dd102_49 rfl
theorem dd102_50 : decode cX9_passThings 50 = .ok (.aload_n 1, 1) := by decide +kernel
theorem ww102_50 {d : Nat} {l0 l2 l3 l4 l5 l6 : Option mw_V} {x : Nat} {st : List mw_V} {σ : mw_S} {Q : Option mw_V → mw_S → Prop} : mw_WP d 102 50 [l0, some (jR x), l2, l3, l4, l5, l6] st σ Q ↔ mw_WP d 102 51 [l0, some (jR x), l2, l3, l4, l5, l6] (jR x :: st) σ Q := WP_aload_n mq102 dd102_50 rfl
theorem dd102_51 : decode cX9_passThings 51 = .ok (.iload 4, 2) := by decide +kernel
theorem ww102_51 {d : Nat} {l0 l1 l2 l3 l5 l6 : Option mw_V} {x : Int} {st : List mw_V} {σ : mw_S} {Q : Option mw_V → mw_S → Prop} : mw_WP d 102 51 [l0, l1, l2, l3, some (jI x), l5, l6] st σ Q ↔ mw_WP d 102 53 [l0, l1, l2, l3, some (jI x), l5, l6] (jI x :: st) σ Q := WP_iload mq102 dd102_51 rfl
theorem dd102_53 : decode cX9_passThings 53 = .ok (.iload 5, 2) := by decide +kernel
theorem ww102_53 {d : Nat} {l0 l1 l2 l3 l4 l6 : Option mw_V} {x : Int} {st : List mw_V} {σ : mw_S} {Q : Option mw_V → mw_S → Prop} : mw_WP d 102 53 [l0, l1, l2, l3, l4, some (jI x), l6] st σ Q ↔ mw_WP d 102 55 [l0, l1, l2, l3, l4, some (jI x), l6] (jI x :: st) σ Q := WP_iload mq102 dd102_53 rfl
theorem dd102_55 : decode cX9_passThings 55 = .ok (.iload_n 3, 1) := by decide +kernel
theorem ww102_55 {d : Nat} {l0 l1 l2 l4 l5 l6 : Option mw_V} {x : Int} {st : List mw_V} {σ : mw_S} {Q : Option mw_V → mw_S → Prop} : mw_WP d 102 55 [l0, l1, l2, some (jI x), l4, l5, l6] st σ Q ↔ mw_WP d 102 56 [l0, l1, l2, some (jI x), l4, l5, l6] (jI x :: st) σ Q := WP_iload_n mq102 dd102_55 rfl
theorem dd102_56 : decode cX9_passThings 56 = .ok (.invokevirtual 93, 3) := by decide +kernel
theorem ww102_56 {d : Nat} {l0 l1 l2 l3 l4 l5 l6 : Option mw_V} {v0 v1 v2 v3 : mw_V} {a : Nat} {st : List mw_V} {σ : mw_S} {Q : Option mw_V → mw_S → Prop} (hr : mw_rc a = 9) (h8 : (st.map mw_cat).sum ≤ 8) : mw_WP d 102 56 [l0, l1, l2, l3, l4, l5, l6] (v3 :: v2 :: v1 :: v0 :: jR a :: st) σ Q ↔ mw_Call d 103 [jR a, v0, v1, v2, v3] σ (fun r1 s1 => mw_WP d 102 59 [l0, l1, l2, l3, l4, l5, l6] (r1.toList ++ st) s1 Q) := WP_inv (as := [v3, v2, v1, v0]) mq102 dd102_56 (by decide) mq103 rfl hr h8
theorem dd102_59 : decode cX9_passThings 59 = .ok (.istore 6, 2) := by decide +kernel
theorem ww102_59 {d : Nat} {l0 l1 l2 l3 l4 l5 l6 : Option mw_V} {x : Int} {st : List mw_V} {σ : mw_S} {Q : Option mw_V → mw_S → Prop} (h : mw_nlo l5 = true) : mw_WP d 102 59 [l0, l1, l2, l3, l4, l5, l6] (jI x :: st) σ Q ↔ mw_WP d 102 61 [l0, l1, l2, l3, l4, l5, some (jI x)] st σ Q := WP_istore mq102 dd102_59 (Nat.le_of_ble_eq_true rfl) (mw_nl_of (i := 5) rfl h) rfl
theorem dd102_61 : decode cX9_passThings 61 = .ok (.iload 6, 2) := by decide +kernel
theorem ww102_61 {d : Nat} {l0 l1 l2 l3 l4 l5 : Option mw_V} {x : Int} {st : List mw_V} {σ : mw_S} {Q : Option mw_V → mw_S → Prop} : mw_WP d 102 61 [l0, l1, l2, l3, l4, l5, some (jI x)] st σ Q ↔ mw_WP d 102 63 [l0, l1, l2, l3, l4, l5, some (jI x)] (jI x :: st) σ Q := WP_iload mq102 dd102_61 rfl
theorem dd102_63 : decode cX9_passThings 63 = .ok (.iconst (-1), 1) := by decide +kernel
theorem ww102_63 {d : Nat} {l0 l1 l2 l3 l4 l5 l6 : Option mw_V} {st : List mw_V} {σ : mw_S} {Q : Option mw_V → mw_S → Prop} : mw_WP d 102 63 [l0, l1, l2, l3, l4, l5, l6] st σ Q ↔ mw_WP d 102 64 [l0, l1, l2, l3, l4, l5, l6] (jI (-1) :: st) σ Q := WP_iconst mq102 dd102_63 (by decide)
theorem dd102_64 : decode cX9_passThings 64 = .ok (.if_icmp .eq 13, 3) := by decide +kernel
theorem ww102_64 {d : Nat} {l0 l1 l2 l3 l4 l5 l6 : Option mw_V} {x y : Int} {st : List mw_V} {σ : mw_S} {Q : Option mw_V → mw_S → Prop} : mw_WP d 102 64 [l0, l1, l2, l3, l4, l5, l6] (jI y :: jI x :: st) σ Q ↔ (if x = y then mw_WP d 102 77 [l0, l1, l2, l3, l4, l5, l6] st σ Q else mw_WP d 102 67 [l0, l1, l2, l3, l4, l5, l6] st σ Q) := WP_icmp_eq mq102 dd102_64 (by decide)
theorem dd102_67 : decode cX9_passThings 67 = .ok (.iload_n 3, 1) := by decide +kernel
theorem ww102_67 {d : Nat} {l0 l1 l2 l4 l5 l6 : Option mw_V} {x : Int} {st : List mw_V} {σ : mw_S} {Q : Option mw_V → mw_S → Prop} : mw_WP d 102 67 [l0, l1, l2, some (jI x), l4, l5, l6] st σ Q ↔ mw_WP d 102 68 [l0, l1, l2, some (jI x), l4, l5, l6] (jI x :: st) σ Q := WP_iload_n mq102 dd102_67 rfl
theorem dd102_68 : decode cX9_passThings 68 = .ok (.iconst 1, 1) := by decide +kernel
theorem ww102_68 {d : Nat} {l0 l1 l2 l3 l4 l5 l6 : Option mw_V} {st : List mw_V} {σ : mw_S} {Q : Option mw_V → mw_S → Prop} : mw_WP d 102 68 [l0, l1, l2, l3, l4, l5, l6] st σ Q ↔ mw_WP d 102 69 [l0, l1, l2, l3, l4, l5, l6] (jI (1) :: st) σ Q := WP_iconst mq102 dd102_68 (by decide)
theorem dd102_69 : decode cX9_passThings 69 = .ok (.iload 6, 2) := by decide +kernel
theorem ww102_69 {d : Nat} {l0 l1 l2 l3 l4 l5 : Option mw_V} {x : Int} {st : List mw_V} {σ : mw_S} {Q : Option mw_V → mw_S → Prop} : mw_WP d 102 69 [l0, l1, l2, l3, l4, l5, some (jI x)] st σ Q ↔ mw_WP d 102 71 [l0, l1, l2, l3, l4, l5, some (jI x)] (jI x :: st) σ Q := WP_iload mq102 dd102_69 rfl
theorem dd102_71 : decode cX9_passThings 71 = .ok (.ishl, 1) := by decide +kernel
theorem ww102_71 {d : Nat} {l0 l1 l2 l3 l4 l5 l6 : Option mw_V} {x y : Int} {st : List mw_V} {σ : mw_S} {Q : Option mw_V → mw_S → Prop} : mw_WP d 102 71 [l0, l1, l2, l3, l4, l5, l6] (jI y :: jI x :: st) σ Q ↔ mw_WP d 102 72 [l0, l1, l2, l3, l4, l5, l6] (jI (zShl x y) :: st) σ Q := WP_ishl mq102 dd102_71
theorem dd102_72 : decode cX9_passThings 72 = .ok (.ior, 1) := by decide +kernel
theorem ww102_72 {d : Nat} {l0 l1 l2 l3 l4 l5 l6 : Option mw_V} {x y : Int} {st : List mw_V} {σ : mw_S} {Q : Option mw_V → mw_S → Prop} : mw_WP d 102 72 [l0, l1, l2, l3, l4, l5, l6] (jI y :: jI x :: st) σ Q ↔ mw_WP d 102 73 [l0, l1, l2, l3, l4, l5, l6] (jI (zOr x y) :: st) σ Q := WP_ior mq102 dd102_72
theorem dd102_73 : decode cX9_passThings 73 = .ok (.istore_n 3, 1) := by decide +kernel
theorem ww102_73 {d : Nat} {l0 l1 l2 l3 l4 l5 l6 : Option mw_V} {x : Int} {st : List mw_V} {σ : mw_S} {Q : Option mw_V → mw_S → Prop} (h : mw_nlo l2 = true) : mw_WP d 102 73 [l0, l1, l2, l3, l4, l5, l6] (jI x :: st) σ Q ↔ mw_WP d 102 74 [l0, l1, l2, some (jI x), l4, l5, l6] st σ Q := WP_istore_n mq102 dd102_73 (Nat.le_of_ble_eq_true rfl) (mw_nl_of (i := 2) rfl h) rfl
theorem dd102_74 : decode cX9_passThings 74 = .ok (.iinc 2 1, 3) := by decide +kernel
theorem ww102_74 {d : Nat} {l0 l1 l3 l4 l5 l6 : Option mw_V} {x : Int} {st : List mw_V} {σ : mw_S} {Q : Option mw_V → mw_S → Prop} (h : mw_nlo l1 = true) : mw_WP d 102 74 [l0, l1, some (jI x), l3, l4, l5, l6] st σ Q ↔ mw_WP d 102 77 [l0, l1, some (jI (w32 (x + (1)))), l3, l4, l5, l6] st σ Q := WP_iinc mq102 dd102_74 rfl (Nat.le_of_ble_eq_true rfl) (mw_nl_of (i := 1) rfl h) rfl
theorem dd102_77 : decode cX9_passThings 77 = .ok (.iinc 4 1, 3) := by decide +kernel
theorem ww102_77 {d : Nat} {l0 l1 l2 l3 l5 l6 : Option mw_V} {x : Int} {st : List mw_V} {σ : mw_S} {Q : Option mw_V → mw_S → Prop} (h : mw_nlo l3 = true) : mw_WP d 102 77 [l0, l1, l2, l3, some (jI x), l5, l6] st σ Q ↔ mw_WP d 102 80 [l0, l1, l2, l3, some (jI (w32 (x + (1)))), l5, l6] st σ Q := WP_iinc mq102 dd102_77 rfl (Nat.le_of_ble_eq_true rfl) (mw_nl_of (i := 3) rfl h) rfl
theorem dd102_80 : decode cX9_passThings 80 = .ok (.goto (-73), 3) := by decide +kernel
theorem ww102_80 {d : Nat} {l0 l1 l2 l3 l4 l5 l6 : Option mw_V} {st : List mw_V} {σ : mw_S} {Q : Option mw_V → mw_S → Prop} : mw_WP d 102 80 [l0, l1, l2, l3, l4, l5, l6] st σ Q ↔ mw_WP d 102 7 [l0, l1, l2, l3, l4, l5, l6] st σ Q := WP_goto mq102 dd102_80 (by decide)
theorem dd102_83 : decode cX9_passThings 83 = .ok (.iload_n 2, 1) := by decide +kernel
theorem ww102_83 {d : Nat} {l0 l1 l3 l4 l5 l6 : Option mw_V} {x : Int} {st : List mw_V} {σ : mw_S} {Q : Option mw_V → mw_S → Prop} : mw_WP d 102 83 [l0, l1, some (jI x), l3, l4, l5, l6] st σ Q ↔ mw_WP d 102 84 [l0, l1, some (jI x), l3, l4, l5, l6] (jI x :: st) σ Q := WP_iload_n mq102 dd102_83 rfl
theorem dd102_84 : decode cX9_passThings 84 = .ok (.ireturn, 1) := by decide +kernel
theorem ww102_84 {d : Nat} {l0 l1 l2 l3 l4 l5 l6 : Option mw_V} {z : Int} {σ : mw_S} {Q : Option mw_V → mw_S → Prop} : mw_WP d 102 84 [l0, l1, l2, l3, l4, l5, l6] [jI z] σ Q ↔ Q (some (jI z)) σ := WP_ireturn (ty := .int) mq102 dd102_84 rfl rfl
theorem ee103 {d : Nat} {a : Nat} {a0 : Nat} {z1 : Int} {z2 : Int} {z3 : Int} {σ : mw_S} {Q : Option mw_V → mw_S → Prop} : mw_Call (d + 1) 103 [jR a, jR a0, jI z1, jI z2, jI z3] σ Q ↔ mw_WP d 103 0 [some (jR a), some (jR a0), some (jI z1), some (jI z2), some (jI z3), none, none, none, none, none, none, none, none] [] σ Q := CL_u mq103 (Nat.le_of_ble_eq_true rfl) rfl
theorem dd103_0 : decode cX9_passWithFirst 0 = .ok (.aload_n 0, 1) := by decide +kernel
theorem ww103_0 {d : Nat} {l1 l2 l3 l4 l5 l6 l7 l8 l9 l10 l11 l12 : Option mw_V} {x : Nat} {st : List mw_V} {σ : mw_S} {Q : Option mw_V → mw_S → Prop} : mw_WP d 103 0 [some (jR x), l1, l2, l3, l4, l5, l6, l7, l8, l9, l10, l11, l12] st σ Q ↔ mw_WP d 103 1 [some (jR x), l1, l2, l3, l4, l5, l6, l7, l8, l9, l10, l11, l12] (jR x :: st) σ Q := WP_aload_n mq103 dd103_0 rfl
theorem dd103_1 : decode cX9_passWithFirst 1 = .ok (.iload_n 2, 1) := by decide +kernel
theorem ww103_1 {d : Nat} {l0 l1 l3 l4 l5 l6 l7 l8 l9 l10 l11 l12 : Option mw_V} {x : Int} {st : List mw_V} {σ : mw_S} {Q : Option mw_V → mw_S → Prop} : mw_WP d 103 1 [l0, l1, some (jI x), l3, l4, l5, l6, l7, l8, l9, l10, l11, l12] st σ Q ↔ mw_WP d 103 2 [l0, l1, some (jI x), l3, l4, l5, l6, l7, l8, l9, l10, l11, l12] (jI x :: st) σ Q := WP_iload_n mq103 dd103_1 rfl
theorem dd103_2 : decode cX9_passWithFirst 2 = .ok (.iload_n 3, 1) := by decide +kernel
theorem ww103_2 {d : Nat} {l0 l1 l2 l4 l5 l6 l7 l8 l9 l10 l11 l12 : Option mw_V} {x : Int} {st : List mw_V} {σ : mw_S} {Q : Option mw_V → mw_S → Prop} : mw_WP d 103 2 [l0, l1, l2, some (jI x), l4, l5, l6, l7, l8, l9, l10, l11, l12] st σ Q ↔ mw_WP d 103 3 [l0, l1, l2, some (jI x), l4, l5, l6, l7, l8, l9, l10, l11, l12] (jI x :: st) σ Q := WP_iload_n mq103 dd103_2 rfl
theorem dd103_3 : decode cX9_passWithFirst 3 = .ok (.bipush 7, 2) := by decide +kernel
theorem ww103_3 {d : Nat} {l0 l1 l2 l3 l4 l5 l6 l7 l8 l9 l10 l11 l12 : Option mw_V} {st : List mw_V} {σ : mw_S} {Q : Option mw_V → mw_S → Prop} : mw_WP d 103 3 [l0, l1, l2, l3, l4, l5, l6, l7, l8, l9, l10, l11, l12] st σ Q ↔ mw_WP d 103 5 [l0, l1, l2, l3, l4, l5, l6, l7, l8, l9, l10, l11, l12] (jI (7) :: st) σ Q := WP_bipush mq103 dd103_3 (by decide)
theorem dd103_5 : decode cX9_passWithFirst 5 = .ok (.isub, 1) := by decide +kernel
theorem ww103_5 {d : Nat} {l0 l1 l2 l3 l4 l5 l6 l7 l8 l9 l10 l11 l12 : Option mw_V} {x y : Int} {st : List mw_V} {σ : mw_S} {Q : Option mw_V → mw_S → Prop} : mw_WP d 103 5 [l0, l1, l2, l3, l4, l5, l6, l7, l8, l9, l10, l11, l12] (jI y :: jI x :: st) σ Q ↔ mw_WP d 103 6 [l0, l1, l2, l3, l4, l5, l6, l7, l8, l9, l10, l11, l12] (jI (w32 (x - y)) :: st) σ Q := WP_isub mq103 dd103_5
theorem dd103_6 : decode cX9_passWithFirst 6 = .ok (.invokevirtual 75, 3) := by decide +kernel
theorem ww103_6 {d : Nat} {l0 l1 l2 l3 l4 l5 l6 l7 l8 l9 l10 l11 l12 : Option mw_V} {v0 v1 : mw_V} {a : Nat} {st : List mw_V} {σ : mw_S} {Q : Option mw_V → mw_S → Prop} (hr : mw_rc a = 9) (h8 : (st.map mw_cat).sum ≤ 8) : mw_WP d 103 6 [l0, l1, l2, l3, l4, l5, l6, l7, l8, l9, l10, l11, l12] (v1 :: v0 :: jR a :: st) σ Q ↔ mw_Call d 96 [jR a, v0, v1] σ (fun r1 s1 => mw_WP d 103 9 [l0, l1, l2, l3, l4, l5, l6, l7, l8, l9, l10, l11, l12] (r1.toList ++ st) s1 Q) := WP_inv (as := [v1, v0]) mq103 dd103_6 (by decide) mq96 rfl hr h8
theorem dd103_9 : decode cX9_passWithFirst 9 = .ok (.istore 5, 2) := by decide +kernel
theorem ww103_9 {d : Nat} {l0 l1 l2 l3 l4 l5 l6 l7 l8 l9 l10 l11 l12 : Option mw_V} {x : Int} {st : List mw_V} {σ : mw_S} {Q : Option mw_V → mw_S → Prop} (h : mw_nlo l4 = true) : mw_WP d 103 9 [l0, l1, l2, l3, l4, l5, l6, l7, l8, l9, l10, l11, l12] (jI x :: st) σ Q ↔ mw_WP d 103 11 [l0, l1, l2, l3, l4, some (jI x), l6, l7, l8, l9, l10, l11, l12] st σ Q := WP_istore mq103 dd103_9 (Nat.le_of_ble_eq_true rfl) (mw_nl_of (i := 4) rfl h) rfl
theorem dd103_11 : decode cX9_passWithFirst 11 = .ok (.iload_n 3, 1) := by decide +kernel
theorem ww103_11 {d : Nat} {l0 l1 l2 l4 l5 l6 l7 l8 l9 l10 l11 l12 : Option mw_V} {x : Int} {st : List mw_V} {σ : mw_S} {Q : Option mw_V → mw_S → Prop} : mw_WP d 103 11 [l0, l1, l2, some (jI x), l4, l5, l6, l7, l8, l9, l10, l11, l12] st σ Q ↔ mw_WP d 103 12 [l0, l1, l2, some (jI x), l4, l5, l6, l7, l8, l9, l10, l11, l12] (jI x :: st) σ Q := WP_iload_n mq103 dd103_11 rfl
theorem dd103_12 : decode cX9_passWithFirst 12 = .ok (.invokestatic 62, 3) := by decide +kernel
theorem ww103_12 {d : Nat} {l0 l1 l2 l3 l4 l5 l6 l7 l8 l9 l10 l11 l12 : Option mw_V} {v0 : mw_V} {st : List mw_V} {σ : mw_S} {Q : Option mw_V → mw_S → Prop} (h8 : (st.map mw_cat).sum ≤ 8) : mw_WP d 103 12 [l0, l1, l2, l3, l4, l5, l6, l7, l8, l9, l10, l11, l12] (v0 :: st) σ Q ↔ mw_Call d 94 [v0] σ (fun r1 s1 => mw_WP d 103 15 [l0, l1, l2, l3, l4, l5, l6, l7, l8, l9, l10, l11, l12] (r1.toList ++ st) s1 Q) := WP_invs (as := [v0]) mq103 dd103_12 (by decide) mq94 rfl rfl h8
theorem dd103_15 : decode cX9_passWithFirst 15 = .ok (.istore 6, 2) := by decide +kernel
theorem ww103_15 {d : Nat} {l0 l1 l2 l3 l4 l5 l6 l7 l8 l9 l10 l11 l12 : Option mw_V} {x : Int} {st : List mw_V} {σ : mw_S} {Q : Option mw_V → mw_S → Prop} (h : mw_nlo l5 = true) : mw_WP d 103 15 [l0, l1, l2, l3, l4, l5, l6, l7, l8, l9, l10, l11, l12] (jI x :: st) σ Q ↔ mw_WP d 103 17 [l0, l1, l2, l3, l4, l5, some (jI x), l7, l8, l9, l10, l11, l12] st σ Q := WP_istore mq103 dd103_15 (Nat.le_of_ble_eq_true rfl) (mw_nl_of (i := 5) rfl h) rfl
theorem dd103_17 : decode cX9_passWithFirst 17 = .ok (.iconst 0, 1) := by decide +kernel
theorem ww103_17 {d : Nat} {l0 l1 l2 l3 l4 l5 l6 l7 l8 l9 l10 l11 l12 : Option mw_V} {st : List mw_V} {σ : mw_S} {Q : Option mw_V → mw_S → Prop} : mw_WP d 103 17 [l0, l1, l2, l3, l4, l5, l6, l7, l8, l9, l10, l11, l12] st σ Q ↔ mw_WP d 103 18 [l0, l1, l2, l3, l4, l5, l6, l7, l8, l9, l10, l11, l12] (jI (0) :: st) σ Q := WP_iconst mq103 dd103_17 (by decide)
theorem dd103_18 : decode cX9_passWithFirst 18 = .ok (.istore 7, 2) := by decide +kernel
theorem ww103_18 {d : Nat} {l0 l1 l2 l3 l4 l5 l6 l7 l8 l9 l10 l11 l12 : Option mw_V} {x : Int} {st : List mw_V} {σ : mw_S} {Q : Option mw_V → mw_S → Prop} (h : mw_nlo l6 = true) : mw_WP d 103 18 [l0, l1, l2, l3, l4, l5, l6, l7, l8, l9, l10, l11, l12] (jI x :: st) σ Q ↔ mw_WP d 103 20 [l0, l1, l2, l3, l4, l5, l6, some (jI x), l8, l9, l10, l11, l12] st σ Q := WP_istore mq103 dd103_18 (Nat.le_of_ble_eq_true rfl) (mw_nl_of (i := 6) rfl h) rfl
theorem dd103_20 : decode cX9_passWithFirst 20 = .ok (.iload 7, 2) := by decide +kernel
theorem ww103_20 {d : Nat} {l0 l1 l2 l3 l4 l5 l6 l8 l9 l10 l11 l12 : Option mw_V} {x : Int} {st : List mw_V} {σ : mw_S} {Q : Option mw_V → mw_S → Prop} : mw_WP d 103 20 [l0, l1, l2, l3, l4, l5, l6, some (jI x), l8, l9, l10, l11, l12] st σ Q ↔ mw_WP d 103 22 [l0, l1, l2, l3, l4, l5, l6, some (jI x), l8, l9, l10, l11, l12] (jI x :: st) σ Q := WP_iload mq103 dd103_20 rfl
theorem dd103_22 : decode cX9_passWithFirst 22 = .ok (.aload_n 0, 1) := by decide +kernel
theorem ww103_22 {d : Nat} {l1 l2 l3 l4 l5 l6 l7 l8 l9 l10 l11 l12 : Option mw_V} {x : Nat} {st : List mw_V} {σ : mw_S} {Q : Option mw_V → mw_S → Prop} : mw_WP d 103 22 [some (jR x), l1, l2, l3, l4, l5, l6, l7, l8, l9, l10, l11, l12] st σ Q ↔ mw_WP d 103 23 [some (jR x), l1, l2, l3, l4, l5, l6, l7, l8, l9, l10, l11, l12] (jR x :: st) σ Q := WP_aload_n mq103 dd103_22 rfl
theorem dd103_23 : decode cX9_passWithFirst 23 = .ok (.getfield 18, 3) := by decide +kernel
theorem ww103_23 {d : Nat} {l0 l1 l2 l3 l4 l5 l6 l7 l8 l9 l10 l11 l12 : Option mw_V} {st : List mw_V} {σ : mw_S} {Q : Option mw_V → mw_S → Prop} : mw_WP d 103 23 [l0, l1, l2, l3, l4, l5, l6, l7, l8, l9, l10, l11, l12] (jR 22 :: st) σ Q ↔ mw_WP d 103 26 [l0, l1, l2, l3, l4, l5, l6, l7, l8, l9, l10, l11, l12] (jR 13 :: st) σ Q := WP_getR (ci := 8) (k := 0) mq103 dd103_23 (by decide) rfl
theorem dd103_26 : decode cX9_passWithFirst 26 = .ok (.getfield 25, 3) := by decide +kernel
theorem ww103_26i3 {d : Nat} {l0 l1 l2 l3 l4 l5 l6 l7 l8 l9 l10 l11 l12 : Option mw_V} {st : List mw_V} {σ : mw_S} {Q : Option mw_V → mw_S → Prop} : mw_WP d 103 26 [l0, l1, l2, l3, l4, l5, l6, l7, l8, l9, l10, l11, l12] (jR 3 :: st) σ Q ↔ mw_WP d 103 29 [l0, l1, l2, l3, l4, l5, l6, l7, l8, l9, l10, l11, l12] (jI (σ 3 1) :: st) σ Q := WP_getI (ci := 0) (k := 1) mq103 dd103_26 (by decide) (Or.inl rfl)
theorem ww103_26i13 {d : Nat} {l0 l1 l2 l3 l4 l5 l6 l7 l8 l9 l10 l11 l12 : Option mw_V} {st : List mw_V} {σ : mw_S} {Q : Option mw_V → mw_S → Prop} : mw_WP d 103 26 [l0, l1, l2, l3, l4, l5, l6, l7, l8, l9, l10, l11, l12] (jR 13 :: st) σ Q ↔ mw_WP d 103 29 [l0, l1, l2, l3, l4, l5, l6, l7, l8, l9, l10, l11, l12] (jI (σ 13 1) :: st) σ Q := WP_getI (ci := 0) (k := 1) mq103 dd103_26 (by decide) (Or.inl rfl)
theorem ww103_26i77 {d : Nat} {l0 l1 l2 l3 l4 l5 l6 l7 l8 l9 l10 l11 l12 : Option mw_V} {st : List mw_V} {σ : mw_S} {Q : Option mw_V → mw_S → Prop} : mw_WP d 103 26 [l0, l1, l2, l3, l4, l5, l6, l7, l8, l9, l10, l11, l12] (jR 77 :: st) σ Q ↔ mw_WP d 103 29 [l0, l1, l2, l3, l4, l5, l6, l7, l8, l9, l10, l11, l12] (jI (σ 77 1) :: st) σ Q := WP_getI (ci := 0) (k := 1) mq103 dd103_26 (by decide) (Or.inl rfl)
theorem ww103_26i88 {d : Nat} {l0 l1 l2 l3 l4 l5 l6 l7 l8 l9 l10 l11 l12 : Option mw_V} {st : List mw_V} {σ : mw_S} {Q : Option mw_V → mw_S → Prop} : mw_WP d 103 26 [l0, l1, l2, l3, l4, l5, l6, l7, l8, l9, l10, l11, l12] (jR 88 :: st) σ Q ↔ mw_WP d 103 29 [l0, l1, l2, l3, l4, l5, l6, l7, l8, l9, l10, l11, l12] (jI (σ 88 1) :: st) σ Q := WP_getI (ci := 0) (k := 1) mq103 dd103_26 (by decide) (Or.inl rfl)
theorem dd103_29 : decode cX9_passWithFirst 29 = .ok (.if_icmp .ge 139, 3) := by decide +kernel
theorem ww103_29 {d : Nat} {l0 l1 l2 l3 l4 l5 l6 l7 l8 l9 l10 l11 l12 : Option mw_V} {x y : Int} {st : List mw_V} {σ : mw_S} {Q : Option mw_V → mw_S → Prop} : mw_WP d 103 29 [l0, l1, l2, l3, l4, l5, l6, l7, l8, l9, l10, l11, l12] (jI y :: jI x :: st) σ Q ↔ (if y ≤ x then mw_WP d 103 168 [l0, l1, l2, l3, l4, l5, l6, l7, l8, l9, l10, l11, l12] st σ Q else mw_WP d 103 32 [l0, l1, l2, l3, l4, l5, l6, l7, l8, l9, l10, l11, l12] st σ Q) := WP_icmp_ge mq103 dd103_29 (by decide)
theorem dd103_32 : decode cX9_passWithFirst 32 = .ok (.iconst 3, 1) := by decide +kernel
theorem ww103_32 {d : Nat} {l0 l1 l2 l3 l4 l5 l6 l7 l8 l9 l10 l11 l12 : Option mw_V} {st : List mw_V} {σ : mw_S} {Q : Option mw_V → mw_S → Prop} : mw_WP d 103 32 [l0, l1, l2, l3, l4, l5, l6, l7, l8, l9, l10, l11, l12] st σ Q ↔ mw_WP d 103 33 [l0, l1, l2, l3, l4, l5, l6, l7, l8, l9, l10, l11, l12] (jI (3) :: st) σ Q := WP_iconst mq103 dd103_32 (by decide)
theorem dd103_33 : decode cX9_passWithFirst 33 = .ok (.iload 7, 2) := by decide +kernel
theorem ww103_33 {d : Nat} {l0 l1 l2 l3 l4 l5 l6 l8 l9 l10 l11 l12 : Option mw_V} {x : Int} {st : List mw_V} {σ : mw_S} {Q : Option mw_V → mw_S → Prop} : mw_WP d 103 33 [l0, l1, l2, l3, l4, l5, l6, some (jI x), l8, l9, l10, l11, l12] st σ Q ↔ mw_WP d 103 35 [l0, l1, l2, l3, l4, l5, l6, some (jI x), l8, l9, l10, l11, l12] (jI x :: st) σ Q := WP_iload mq103 dd103_33 rfl
theorem dd103_35 : decode cX9_passWithFirst 35 = .ok (.iadd, 1) := by decide +kernel
theorem ww103_35 {d : Nat} {l0 l1 l2 l3 l4 l5 l6 l7 l8 l9 l10 l11 l12 : Option mw_V} {x y : Int} {st : List mw_V} {σ : mw_S} {Q : Option mw_V → mw_S → Prop} : mw_WP d 103 35 [l0, l1, l2, l3, l4, l5, l6, l7, l8, l9, l10, l11, l12] (jI y :: jI x :: st) σ Q ↔ mw_WP d 103 36 [l0, l1, l2, l3, l4, l5, l6, l7, l8, l9, l10, l11, l12] (jI (w32 (x + y)) :: st) σ Q := WP_iadd mq103 dd103_35
theorem dd103_36 : decode cX9_passWithFirst 36 = .ok (.istore 8, 2) := by decide +kernel
theorem ww103_36 {d : Nat} {l0 l1 l2 l3 l4 l5 l6 l7 l8 l9 l10 l11 l12 : Option mw_V} {x : Int} {st : List mw_V} {σ : mw_S} {Q : Option mw_V → mw_S → Prop} (h : mw_nlo l7 = true) : mw_WP d 103 36 [l0, l1, l2, l3, l4, l5, l6, l7, l8, l9, l10, l11, l12] (jI x :: st) σ Q ↔ mw_WP d 103 38 [l0, l1, l2, l3, l4, l5, l6, l7, some (jI x), l9, l10, l11, l12] st σ Q := WP_istore mq103 dd103_36 (Nat.le_of_ble_eq_true rfl) (mw_nl_of (i := 7) rfl h) rfl
theorem dd103_38 : decode cX9_passWithFirst 38 = .ok (.iload 4, 2) := by decide +kernel
theorem ww103_38 {d : Nat} {l0 l1 l2 l3 l5 l6 l7 l8 l9 l10 l11 l12 : Option mw_V} {x : Int} {st : List mw_V} {σ : mw_S} {Q : Option mw_V → mw_S → Prop} : mw_WP d 103 38 [l0, l1, l2, l3, some (jI x), l5, l6, l7, l8, l9, l10, l11, l12] st σ Q ↔ mw_WP d 103 40 [l0, l1, l2, l3, some (jI x), l5, l6, l7, l8, l9, l10, l11, l12] (jI x :: st) σ Q := WP_iload mq103 dd103_38 rfl
theorem dd103_40 : decode cX9_passWithFirst 40 = .ok (.iload 7, 2) := by decide +kernel
theorem ww103_40 {d : Nat} {l0 l1 l2 l3 l4 l5 l6 l8 l9 l10 l11 l12 : Option mw_V} {x : Int} {st : List mw_V} {σ : mw_S} {Q : Option mw_V → mw_S → Prop} : mw_WP d 103 40 [l0, l1, l2, l3, l4, l5, l6, some (jI x), l8, l9, l10, l11, l12] st σ Q ↔ mw_WP d 103 42 [l0, l1, l2, l3, l4, l5, l6, some (jI x), l8, l9, l10, l11, l12] (jI x :: st) σ Q := WP_iload mq103 dd103_40 rfl
theorem dd103_42 : decode cX9_passWithFirst 42 = .ok (.ishr, 1) := by decide +kernel
theorem ww103_42 {d : Nat} {l0 l1 l2 l3 l4 l5 l6 l7 l8 l9 l10 l11 l12 : Option mw_V} {x y : Int} {st : List mw_V} {σ : mw_S} {Q : Option mw_V → mw_S → Prop} : mw_WP d 103 42 [l0, l1, l2, l3, l4, l5, l6, l7, l8, l9, l10, l11, l12] (jI y :: jI x :: st) σ Q ↔ mw_WP d 103 43 [l0, l1, l2, l3, l4, l5, l6, l7, l8, l9, l10, l11, l12] (jI (zShr x y) :: st) σ Q := WP_ishr mq103 dd103_42
theorem dd103_43 : decode cX9_passWithFirst 43 = .ok (.iconst 1, 1) := by decide +kernel
theorem ww103_43 {d : Nat} {l0 l1 l2 l3 l4 l5 l6 l7 l8 l9 l10 l11 l12 : Option mw_V} {st : List mw_V} {σ : mw_S} {Q : Option mw_V → mw_S → Prop} : mw_WP d 103 43 [l0, l1, l2, l3, l4, l5, l6, l7, l8, l9, l10, l11, l12] st σ Q ↔ mw_WP d 103 44 [l0, l1, l2, l3, l4, l5, l6, l7, l8, l9, l10, l11, l12] (jI (1) :: st) σ Q := WP_iconst mq103 dd103_43 (by decide)
theorem dd103_44 : decode cX9_passWithFirst 44 = .ok (.iand, 1) := by decide +kernel
theorem ww103_44 {d : Nat} {l0 l1 l2 l3 l4 l5 l6 l7 l8 l9 l10 l11 l12 : Option mw_V} {x y : Int} {st : List mw_V} {σ : mw_S} {Q : Option mw_V → mw_S → Prop} : mw_WP d 103 44 [l0, l1, l2, l3, l4, l5, l6, l7, l8, l9, l10, l11, l12] (jI y :: jI x :: st) σ Q ↔ mw_WP d 103 45 [l0, l1, l2, l3, l4, l5, l6, l7, l8, l9, l10, l11, l12] (jI (zAnd x y) :: st) σ Q := WP_iand mq103 dd103_44
theorem dd103_45 : decode cX9_passWithFirst 45 = .ok (.ifCond .ne 7, 3) := by decide +kernel
theorem ww103_45 {d : Nat} {l0 l1 l2 l3 l4 l5 l6 l7 l8 l9 l10 l11 l12 : Option mw_V} {x : Int} {st : List mw_V} {σ : mw_S} {Q : Option mw_V → mw_S → Prop} : mw_WP d 103 45 [l0, l1, l2, l3, l4, l5, l6, l7, l8, l9, l10, l11, l12] (jI x :: st) σ Q ↔ (if ¬ x = 0 then mw_WP d 103 52 [l0, l1, l2, l3, l4, l5, l6, l7, l8, l9, l10, l11, l12] st σ Q else mw_WP d 103 48 [l0, l1, l2, l3, l4, l5, l6, l7, l8, l9, l10, l11, l12] st σ Q) := WP_if_ne mq103 dd103_45 (by decide)
theorem dd103_48 : decode cX9_passWithFirst 48 = .ok (.iconst 1, 1) := by decide +kernel
theorem ww103_48 {d : Nat} {l0 l1 l2 l3 l4 l5 l6 l7 l8 l9 l10 l11 l12 : Option mw_V} {st : List mw_V} {σ : mw_S} {Q : Option mw_V → mw_S → Prop} : mw_WP d 103 48 [l0, l1, l2, l3, l4, l5, l6, l7, l8, l9, l10, l11, l12] st σ Q ↔ mw_WP d 103 49 [l0, l1, l2, l3, l4, l5, l6, l7, l8, l9, l10, l11, l12] (jI (1) :: st) σ Q := WP_iconst mq103 dd103_48 (by decide)
theorem dd103_49 : decode cX9_passWithFirst 49 = .ok (.goto 4, 3) := by decide +kernel
theorem ww103_49 {d : Nat} {l0 l1 l2 l3 l4 l5 l6 l7 l8 l9 l10 l11 l12 : Option mw_V} {st : List mw_V} {σ : mw_S} {Q : Option mw_V → mw_S → Prop} : mw_WP d 103 49 [l0, l1, l2, l3, l4, l5, l6, l7, l8, l9, l10, l11, l12] st σ Q ↔ mw_WP d 103 53 [l0, l1, l2, l3, l4, l5, l6, l7, l8, l9, l10, l11, l12] st σ Q := WP_goto mq103 dd103_49 (by decide)
theorem dd103_52 : decode cX9_passWithFirst 52 = .ok (.iconst 0, 1) := by decide +kernel
theorem ww103_52 {d : Nat} {l0 l1 l2 l3 l4 l5 l6 l7 l8 l9 l10 l11 l12 : Option mw_V} {st : List mw_V} {σ : mw_S} {Q : Option mw_V → mw_S → Prop} : mw_WP d 103 52 [l0, l1, l2, l3, l4, l5, l6, l7, l8, l9, l10, l11, l12] st σ Q ↔ mw_WP d 103 53 [l0, l1, l2, l3, l4, l5, l6, l7, l8, l9, l10, l11, l12] (jI (0) :: st) σ Q := WP_iconst mq103 dd103_52 (by decide)
theorem dd103_53 : decode cX9_passWithFirst 53 = .ok (.istore 9, 2) := by decide +kernel
theorem ww103_53 {d : Nat} {l0 l1 l2 l3 l4 l5 l6 l7 l8 l9 l10 l11 l12 : Option mw_V} {x : Int} {st : List mw_V} {σ : mw_S} {Q : Option mw_V → mw_S → Prop} (h : mw_nlo l8 = true) : mw_WP d 103 53 [l0, l1, l2, l3, l4, l5, l6, l7, l8, l9, l10, l11, l12] (jI x :: st) σ Q ↔ mw_WP d 103 55 [l0, l1, l2, l3, l4, l5, l6, l7, l8, some (jI x), l10, l11, l12] st σ Q := WP_istore mq103 dd103_53 (Nat.le_of_ble_eq_true rfl) (mw_nl_of (i := 8) rfl h) rfl
theorem dd103_55 : decode cX9_passWithFirst 55 = .ok (.iload 9, 2) := by decide +kernel
theorem ww103_55 {d : Nat} {l0 l1 l2 l3 l4 l5 l6 l7 l8 l10 l11 l12 : Option mw_V} {x : Int} {st : List mw_V} {σ : mw_S} {Q : Option mw_V → mw_S → Prop} : mw_WP d 103 55 [l0, l1, l2, l3, l4, l5, l6, l7, l8, some (jI x), l10, l11, l12] st σ Q ↔ mw_WP d 103 57 [l0, l1, l2, l3, l4, l5, l6, l7, l8, some (jI x), l10, l11, l12] (jI x :: st) σ Q := WP_iload mq103 dd103_55 rfl
theorem dd103_57 : decode cX9_passWithFirst 57 = .ok (.ifCond .eq 105, 3) := by decide +kernel
theorem ww103_57 {d : Nat} {l0 l1 l2 l3 l4 l5 l6 l7 l8 l9 l10 l11 l12 : Option mw_V} {x : Int} {st : List mw_V} {σ : mw_S} {Q : Option mw_V → mw_S → Prop} : mw_WP d 103 57 [l0, l1, l2, l3, l4, l5, l6, l7, l8, l9, l10, l11, l12] (jI x :: st) σ Q ↔ (if x = 0 then mw_WP d 103 162 [l0, l1, l2, l3, l4, l5, l6, l7, l8, l9, l10, l11, l12] st σ Q else mw_WP d 103 60 [l0, l1, l2, l3, l4, l5, l6, l7, l8, l9, l10, l11, l12] st σ Q) := WP_if_eq mq103 dd103_57 (by decide)
theorem dd103_60 : decode cX9_passWithFirst 60 = .ok (.aload_n 1, 1) := by decide +kernel
theorem ww103_60 {d : Nat} {l0 l2 l3 l4 l5 l6 l7 l8 l9 l10 l11 l12 : Option mw_V} {x : Nat} {st : List mw_V} {σ : mw_S} {Q : Option mw_V → mw_S → Prop} : mw_WP d 103 60 [l0, some (jR x), l2, l3, l4, l5, l6, l7, l8, l9, l10, l11, l12] st σ Q ↔ mw_WP d 103 61 [l0, some (jR x), l2, l3, l4, l5, l6, l7, l8, l9, l10, l11, l12] (jR x :: st) σ Q := WP_aload_n mq103 dd103_60 rfl
theorem dd103_61 : decode cX9_passWithFirst 61 = .ok (.bipush 16, 2) := by decide +kernel
theorem ww103_61 {d : Nat} {l0 l1 l2 l3 l4 l5 l6 l7 l8 l9 l10 l11 l12 : Option mw_V} {st : List mw_V} {σ : mw_S} {Q : Option mw_V → mw_S → Prop} : mw_WP d 103 61 [l0, l1, l2, l3, l4, l5, l6, l7, l8, l9, l10, l11, l12] st σ Q ↔ mw_WP d 103 63 [l0, l1, l2, l3, l4, l5, l6, l7, l8, l9, l10, l11, l12] (jI (16) :: st) σ Q := WP_bipush mq103 dd103_61 (by decide)
theorem dd103_63 : decode cX9_passWithFirst 63 = .ok (.iload 7, 2) := by decide +kernel
theorem ww103_63 {d : Nat} {l0 l1 l2 l3 l4 l5 l6 l8 l9 l10 l11 l12 : Option mw_V} {x : Int} {st : List mw_V} {σ : mw_S} {Q : Option mw_V → mw_S → Prop} : mw_WP d 103 63 [l0, l1, l2, l3, l4, l5, l6, some (jI x), l8, l9, l10, l11, l12] st σ Q ↔ mw_WP d 103 65 [l0, l1, l2, l3, l4, l5, l6, some (jI x), l8, l9, l10, l11, l12] (jI x :: st) σ Q := WP_iload mq103 dd103_63 rfl
theorem dd103_65 : decode cX9_passWithFirst 65 = .ok (.iadd, 1) := by decide +kernel
theorem ww103_65 {d : Nat} {l0 l1 l2 l3 l4 l5 l6 l7 l8 l9 l10 l11 l12 : Option mw_V} {x y : Int} {st : List mw_V} {σ : mw_S} {Q : Option mw_V → mw_S → Prop} : mw_WP d 103 65 [l0, l1, l2, l3, l4, l5, l6, l7, l8, l9, l10, l11, l12] (jI y :: jI x :: st) σ Q ↔ mw_WP d 103 66 [l0, l1, l2, l3, l4, l5, l6, l7, l8, l9, l10, l11, l12] (jI (w32 (x + y)) :: st) σ Q := WP_iadd mq103 dd103_65
theorem dd103_66 : decode cX9_passWithFirst 66 = .ok (.iaload, 1) := by decide +kernel
theorem ww103_66 {d : Nat} {l0 l1 l2 l3 l4 l5 l6 l7 l8 l9 l10 l11 l12 : Option mw_V} {z : Int} {a : Nat} {st : List mw_V} {σ : mw_S} {Q : Option mw_V → mw_S → Prop} : mw_WP d 103 66 [l0, l1, l2, l3, l4, l5, l6, l7, l8, l9, l10, l11, l12] (jI z :: jR a :: st) σ Q ↔ ((0 ≤ z ∧ z < mw_lenI a) ∧ mw_WP d 103 67 [l0, l1, l2, l3, l4, l5, l6, l7, l8, l9, l10, l11, l12] (jI (mw_rdI σ a z.toNat) :: st) σ Q) := WP_iaload mq103 dd103_66
theorem dd103_67 : decode cX9_passWithFirst 67 = .ok (.iload 6, 2) := by decide +kernel
theorem ww103_67 {d : Nat} {l0 l1 l2 l3 l4 l5 l7 l8 l9 l10 l11 l12 : Option mw_V} {x : Int} {st : List mw_V} {σ : mw_S} {Q : Option mw_V → mw_S → Prop} : mw_WP d 103 67 [l0, l1, l2, l3, l4, l5, some (jI x), l7, l8, l9, l10, l11, l12] st σ Q ↔ mw_WP d 103 69 [l0, l1, l2, l3, l4, l5, some (jI x), l7, l8, l9, l10, l11, l12] (jI x :: st) σ Q := WP_iload mq103 dd103_67 rfl
theorem dd103_69 : decode cX9_passWithFirst 69 = .ok (.if_icmp .ne 93, 3) := by decide +kernel
theorem ww103_69 {d : Nat} {l0 l1 l2 l3 l4 l5 l6 l7 l8 l9 l10 l11 l12 : Option mw_V} {x y : Int} {st : List mw_V} {σ : mw_S} {Q : Option mw_V → mw_S → Prop} : mw_WP d 103 69 [l0, l1, l2, l3, l4, l5, l6, l7, l8, l9, l10, l11, l12] (jI y :: jI x :: st) σ Q ↔ (if ¬ x = y then mw_WP d 103 162 [l0, l1, l2, l3, l4, l5, l6, l7, l8, l9, l10, l11, l12] st σ Q else mw_WP d 103 72 [l0, l1, l2, l3, l4, l5, l6, l7, l8, l9, l10, l11, l12] st σ Q) := WP_icmp_ne mq103 dd103_69 (by decide)
theorem dd103_72 : decode cX9_passWithFirst 72 = .ok (.aload_n 1, 1) := by decide +kernel
theorem ww103_72 {d : Nat} {l0 l2 l3 l4 l5 l6 l7 l8 l9 l10 l11 l12 : Option mw_V} {x : Nat} {st : List mw_V} {σ : mw_S} {Q : Option mw_V → mw_S → Prop} : mw_WP d 103 72 [l0, some (jR x), l2, l3, l4, l5, l6, l7, l8, l9, l10, l11, l12] st σ Q ↔ mw_WP d 103 73 [l0, some (jR x), l2, l3, l4, l5, l6, l7, l8, l9, l10, l11, l12] (jR x :: st) σ Q := WP_aload_n mq103 dd103_72 rfl
theorem dd103_73 : decode cX9_passWithFirst 73 = .ok (.bipush 19, 2) := by decide +kernel
theorem ww103_73 {d : Nat} {l0 l1 l2 l3 l4 l5 l6 l7 l8 l9 l10 l11 l12 : Option mw_V} {st : List mw_V} {σ : mw_S} {Q : Option mw_V → mw_S → Prop} : mw_WP d 103 73 [l0, l1, l2, l3, l4, l5, l6, l7, l8, l9, l10, l11, l12] st σ Q ↔ mw_WP d 103 75 [l0, l1, l2, l3, l4, l5, l6, l7, l8, l9, l10, l11, l12] (jI (19) :: st) σ Q := WP_bipush mq103 dd103_73 (by decide)
theorem dd103_75 : decode cX9_passWithFirst 75 = .ok (.iload 8, 2) := by decide +kernel
theorem ww103_75 {d : Nat} {l0 l1 l2 l3 l4 l5 l6 l7 l9 l10 l11 l12 : Option mw_V} {x : Int} {st : List mw_V} {σ : mw_S} {Q : Option mw_V → mw_S → Prop} : mw_WP d 103 75 [l0, l1, l2, l3, l4, l5, l6, l7, some (jI x), l9, l10, l11, l12] st σ Q ↔ mw_WP d 103 77 [l0, l1, l2, l3, l4, l5, l6, l7, some (jI x), l9, l10, l11, l12] (jI x :: st) σ Q := WP_iload mq103 dd103_75 rfl
theorem dd103_77 : decode cX9_passWithFirst 77 = .ok (.iadd, 1) := by decide +kernel
theorem ww103_77 {d : Nat} {l0 l1 l2 l3 l4 l5 l6 l7 l8 l9 l10 l11 l12 : Option mw_V} {x y : Int} {st : List mw_V} {σ : mw_S} {Q : Option mw_V → mw_S → Prop} : mw_WP d 103 77 [l0, l1, l2, l3, l4, l5, l6, l7, l8, l9, l10, l11, l12] (jI y :: jI x :: st) σ Q ↔ mw_WP d 103 78 [l0, l1, l2, l3, l4, l5, l6, l7, l8, l9, l10, l11, l12] (jI (w32 (x + y)) :: st) σ Q := WP_iadd mq103 dd103_77
theorem dd103_78 : decode cX9_passWithFirst 78 = .ok (.iaload, 1) := by decide +kernel
theorem ww103_78 {d : Nat} {l0 l1 l2 l3 l4 l5 l6 l7 l8 l9 l10 l11 l12 : Option mw_V} {z : Int} {a : Nat} {st : List mw_V} {σ : mw_S} {Q : Option mw_V → mw_S → Prop} : mw_WP d 103 78 [l0, l1, l2, l3, l4, l5, l6, l7, l8, l9, l10, l11, l12] (jI z :: jR a :: st) σ Q ↔ ((0 ≤ z ∧ z < mw_lenI a) ∧ mw_WP d 103 79 [l0, l1, l2, l3, l4, l5, l6, l7, l8, l9, l10, l11, l12] (jI (mw_rdI σ a z.toNat) :: st) σ Q) := WP_iaload mq103 dd103_78
theorem dd103_79 : decode cX9_passWithFirst 79 = .ok (.iconst 1, 1) := by decide +kernel
theorem ww103_79 {d : Nat} {l0 l1 l2 l3 l4 l5 l6 l7 l8 l9 l10 l11 l12 : Option mw_V} {st : List mw_V} {σ : mw_S} {Q : Option mw_V → mw_S → Prop} : mw_WP d 103 79 [l0, l1, l2, l3, l4, l5, l6, l7, l8, l9, l10, l11, l12] st σ Q ↔ mw_WP d 103 80 [l0, l1, l2, l3, l4, l5, l6, l7, l8, l9, l10, l11, l12] (jI (1) :: st) σ Q := WP_iconst mq103 dd103_79 (by decide)
theorem dd103_80 : decode cX9_passWithFirst 80 = .ok (.if_icmp .ne 82, 3) := by decide +kernel
theorem ww103_80 {d : Nat} {l0 l1 l2 l3 l4 l5 l6 l7 l8 l9 l10 l11 l12 : Option mw_V} {x y : Int} {st : List mw_V} {σ : mw_S} {Q : Option mw_V → mw_S → Prop} : mw_WP d 103 80 [l0, l1, l2, l3, l4, l5, l6, l7, l8, l9, l10, l11, l12] (jI y :: jI x :: st) σ Q ↔ (if ¬ x = y then mw_WP d 103 162 [l0, l1, l2, l3, l4, l5, l6, l7, l8, l9, l10, l11, l12] st σ Q else mw_WP d 103 83 [l0, l1, l2, l3, l4, l5, l6, l7, l8, l9, l10, l11, l12] st σ Q) := WP_icmp_ne mq103 dd103_80 (by decide)
theorem dd103_83 : decode cX9_passWithFirst 83 = .ok (.aload_n 0, 1) := by decide +kernel
theorem ww103_83 {d : Nat} {l1 l2 l3 l4 l5 l6 l7 l8 l9 l10 l11 l12 : Option mw_V} {x : Nat} {st : List mw_V} {σ : mw_S} {Q : Option mw_V → mw_S → Prop} : mw_WP d 103 83 [some (jR x), l1, l2, l3, l4, l5, l6, l7, l8, l9, l10, l11, l12] st σ Q ↔ mw_WP d 103 84 [some (jR x), l1, l2, l3, l4, l5, l6, l7, l8, l9, l10, l11, l12] (jR x :: st) σ Q := WP_aload_n mq103 dd103_83 rfl
theorem dd103_84 : decode cX9_passWithFirst 84 = .ok (.iload 8, 2) := by decide +kernel
theorem ww103_84 {d : Nat} {l0 l1 l2 l3 l4 l5 l6 l7 l9 l10 l11 l12 : Option mw_V} {x : Int} {st : List mw_V} {σ : mw_S} {Q : Option mw_V → mw_S → Prop} : mw_WP d 103 84 [l0, l1, l2, l3, l4, l5, l6, l7, some (jI x), l9, l10, l11, l12] st σ Q ↔ mw_WP d 103 86 [l0, l1, l2, l3, l4, l5, l6, l7, some (jI x), l9, l10, l11, l12] (jI x :: st) σ Q := WP_iload mq103 dd103_84 rfl
theorem dd103_86 : decode cX9_passWithFirst 86 = .ok (.iload 6, 2) := by decide +kernel
theorem ww103_86 {d : Nat} {l0 l1 l2 l3 l4 l5 l7 l8 l9 l10 l11 l12 : Option mw_V} {x : Int} {st : List mw_V} {σ : mw_S} {Q : Option mw_V → mw_S → Prop} : mw_WP d 103 86 [l0, l1, l2, l3, l4, l5, some (jI x), l7, l8, l9, l10, l11, l12] st σ Q ↔ mw_WP d 103 88 [l0, l1, l2, l3, l4, l5, some (jI x), l7, l8, l9, l10, l11, l12] (jI x :: st) σ Q := WP_iload mq103 dd103_86 rfl
theorem dd103_88 : decode cX9_passWithFirst 88 = .ok (.bipush 7, 2) := by decide +kernel
theorem ww103_88 {d : Nat} {l0 l1 l2 l3 l4 l5 l6 l7 l8 l9 l10 l11 l12 : Option mw_V} {st : List mw_V} {σ : mw_S} {Q : Option mw_V → mw_S → Prop} : mw_WP d 103 88 [l0, l1, l2, l3, l4, l5, l6, l7, l8, l9, l10, l11, l12] st σ Q ↔ mw_WP d 103 90 [l0, l1, l2, l3, l4, l5, l6, l7, l8, l9, l10, l11, l12] (jI (7) :: st) σ Q := WP_bipush mq103 dd103_88 (by decide)
theorem dd103_90 : decode cX9_passWithFirst 90 = .ok (.isub, 1) := by decide +kernel
theorem ww103_90 {d : Nat} {l0 l1 l2 l3 l4 l5 l6 l7 l8 l9 l10 l11 l12 : Option mw_V} {x y : Int} {st : List mw_V} {σ : mw_S} {Q : Option mw_V → mw_S → Prop} : mw_WP d 103 90 [l0, l1, l2, l3, l4, l5, l6, l7, l8, l9, l10, l11, l12] (jI y :: jI x :: st) σ Q ↔ mw_WP d 103 91 [l0, l1, l2, l3, l4, l5, l6, l7, l8, l9, l10, l11, l12] (jI (w32 (x - y)) :: st) σ Q := WP_isub mq103 dd103_90
theorem dd103_91 : decode cX9_passWithFirst 91 = .ok (.invokevirtual 75, 3) := by decide +kernel
theorem ww103_91 {d : Nat} {l0 l1 l2 l3 l4 l5 l6 l7 l8 l9 l10 l11 l12 : Option mw_V} {v0 v1 : mw_V} {a : Nat} {st : List mw_V} {σ : mw_S} {Q : Option mw_V → mw_S → Prop} (hr : mw_rc a = 9) (h8 : (st.map mw_cat).sum ≤ 8) : mw_WP d 103 91 [l0, l1, l2, l3, l4, l5, l6, l7, l8, l9, l10, l11, l12] (v1 :: v0 :: jR a :: st) σ Q ↔ mw_Call d 96 [jR a, v0, v1] σ (fun r1 s1 => mw_WP d 103 94 [l0, l1, l2, l3, l4, l5, l6, l7, l8, l9, l10, l11, l12] (r1.toList ++ st) s1 Q) := WP_inv (as := [v1, v0]) mq103 dd103_91 (by decide) mq96 rfl hr h8
theorem dd103_94 : decode cX9_passWithFirst 94 = .ok (.istore 10, 2) := by decide +kernel
theorem ww103_94 {d : Nat} {l0 l1 l2 l3 l4 l5 l6 l7 l8 l9 l10 l11 l12 : Option mw_V} {x : Int} {st : List mw_V} {σ : mw_S} {Q : Option mw_V → mw_S → Prop} (h : mw_nlo l9 = true) : mw_WP d 103 94 [l0, l1, l2, l3, l4, l5, l6, l7, l8, l9, l10, l11, l12] (jI x :: st) σ Q ↔ mw_WP d 103 96 [l0, l1, l2, l3, l4, l5, l6, l7, l8, l9, some (jI x), l11, l12] st σ Q := WP_istore mq103 dd103_94 (Nat.le_of_ble_eq_true rfl) (mw_nl_of (i := 9) rfl h) rfl
theorem dd103_96 : decode cX9_passWithFirst 96 = .ok (.aload_n 0, 1) := by decide +kernel
theorem ww103_96 {d : Nat} {l1 l2 l3 l4 l5 l6 l7 l8 l9 l10 l11 l12 : Option mw_V} {x : Nat} {st : List mw_V} {σ : mw_S} {Q : Option mw_V → mw_S → Prop} : mw_WP d 103 96 [some (jR x), l1, l2, l3, l4, l5, l6, l7, l8, l9, l10, l11, l12] st σ Q ↔ mw_WP d 103 97 [some (jR x), l1, l2, l3, l4, l5, l6, l7, l8, l9, l10, l11, l12] (jR x :: st) σ Q := WP_aload_n mq103 dd103_96 rfl
theorem dd103_97 : decode cX9_passWithFirst 97 = .ok (.aload_n 1, 1) := by decide +kernel
theorem ww103_97 {d : Nat} {l0 l2 l3 l4 l5 l6 l7 l8 l9 l10 l11 l12 : Option mw_V} {x : Nat} {st : List mw_V} {σ : mw_S} {Q : Option mw_V → mw_S → Prop} : mw_WP d 103 97 [l0, some (jR x), l2, l3, l4, l5, l6, l7, l8, l9, l10, l11, l12] st σ Q ↔ mw_WP d 103 98 [l0, some (jR x), l2, l3, l4, l5, l6, l7, l8, l9, l10, l11, l12] (jR x :: st) σ Q := WP_aload_n mq103 dd103_97 rfl
theorem dd103_98 : decode cX9_passWithFirst 98 = .ok (.iload 5, 2) := by decide +kernel
theorem ww103_98 {d : Nat} {l0 l1 l2 l3 l4 l6 l7 l8 l9 l10 l11 l12 : Option mw_V} {x : Int} {st : List mw_V} {σ : mw_S} {Q : Option mw_V → mw_S → Prop} : mw_WP d 103 98 [l0, l1, l2, l3, l4, some (jI x), l6, l7, l8, l9, l10, l11, l12] st σ Q ↔ mw_WP d 103 100 [l0, l1, l2, l3, l4, some (jI x), l6, l7, l8, l9, l10, l11, l12] (jI x :: st) σ Q := WP_iload mq103 dd103_98 rfl
theorem dd103_100 : decode cX9_passWithFirst 100 = .ok (.invokevirtual 78, 3) := by decide +kernel
theorem ww103_100 {d : Nat} {l0 l1 l2 l3 l4 l5 l6 l7 l8 l9 l10 l11 l12 : Option mw_V} {v0 v1 : mw_V} {a : Nat} {st : List mw_V} {σ : mw_S} {Q : Option mw_V → mw_S → Prop} (hr : mw_rc a = 9) (h8 : (st.map mw_cat).sum ≤ 8) : mw_WP d 103 100 [l0, l1, l2, l3, l4, l5, l6, l7, l8, l9, l10, l11, l12] (v1 :: v0 :: jR a :: st) σ Q ↔ mw_Call d 97 [jR a, v0, v1] σ (fun r1 s1 => mw_WP d 103 103 [l0, l1, l2, l3, l4, l5, l6, l7, l8, l9, l10, l11, l12] (r1.toList ++ st) s1 Q) := WP_inv (as := [v1, v0]) mq103 dd103_100 (by decide) mq97 rfl hr h8
theorem dd103_103 : decode cX9_passWithFirst 103 = .ok (.istore 11, 2) := by decide +kernel
theorem ww103_103 {d : Nat} {l0 l1 l2 l3 l4 l5 l6 l7 l8 l9 l10 l11 l12 : Option mw_V} {x : Int} {st : List mw_V} {σ : mw_S} {Q : Option mw_V → mw_S → Prop} (h : mw_nlo l10 = true) : mw_WP d 103 103 [l0, l1, l2, l3, l4, l5, l6, l7, l8, l9, l10, l11, l12] (jI x :: st) σ Q ↔ mw_WP d 103 105 [l0, l1, l2, l3, l4, l5, l6, l7, l8, l9, l10, some (jI x), l12] st σ Q := WP_istore mq103 dd103_103 (Nat.le_of_ble_eq_true rfl) (mw_nl_of (i := 10) rfl h) rfl
theorem dd103_105 : decode cX9_passWithFirst 105 = .ok (.aload_n 0, 1) := by decide +kernel
theorem ww103_105 {d : Nat} {l1 l2 l3 l4 l5 l6 l7 l8 l9 l10 l11 l12 : Option mw_V} {x : Nat} {st : List mw_V} {σ : mw_S} {Q : Option mw_V → mw_S → Prop} : mw_WP d 103 105 [some (jR x), l1, l2, l3, l4, l5, l6, l7, l8, l9, l10, l11, l12] st σ Q ↔ mw_WP d 103 106 [some (jR x), l1, l2, l3, l4, l5, l6, l7, l8, l9, l10, l11, l12] (jR x :: st) σ Q := WP_aload_n mq103 dd103_105 rfl
theorem dd103_106 : decode cX9_passWithFirst 106 = .ok (.aload_n 1, 1) := by decide +kernel
theorem ww103_106 {d : Nat} {l0 l2 l3 l4 l5 l6 l7 l8 l9 l10 l11 l12 : Option mw_V} {x : Nat} {st : List mw_V} {σ : mw_S} {Q : Option mw_V → mw_S → Prop} : mw_WP d 103 106 [l0, some (jR x), l2, l3, l4, l5, l6, l7, l8, l9, l10, l11, l12] st σ Q ↔ mw_WP d 103 107 [l0, some (jR x), l2, l3, l4, l5, l6, l7, l8, l9, l10, l11, l12] (jR x :: st) σ Q := WP_aload_n mq103 dd103_106 rfl
theorem dd103_107 : decode cX9_passWithFirst 107 = .ok (.iload 10, 2) := by decide +kernel
theorem ww103_107 {d : Nat} {l0 l1 l2 l3 l4 l5 l6 l7 l8 l9 l11 l12 : Option mw_V} {x : Int} {st : List mw_V} {σ : mw_S} {Q : Option mw_V → mw_S → Prop} : mw_WP d 103 107 [l0, l1, l2, l3, l4, l5, l6, l7, l8, l9, some (jI x), l11, l12] st σ Q ↔ mw_WP d 103 109 [l0, l1, l2, l3, l4, l5, l6, l7, l8, l9, some (jI x), l11, l12] (jI x :: st) σ Q := WP_iload mq103 dd103_107 rfl
theorem dd103_109 : decode cX9_passWithFirst 109 = .ok (.invokevirtual 78, 3) := by decide +kernel
theorem ww103_109 {d : Nat} {l0 l1 l2 l3 l4 l5 l6 l7 l8 l9 l10 l11 l12 : Option mw_V} {v0 v1 : mw_V} {a : Nat} {st : List mw_V} {σ : mw_S} {Q : Option mw_V → mw_S → Prop} (hr : mw_rc a = 9) (h8 : (st.map mw_cat).sum ≤ 8) : mw_WP d 103 109 [l0, l1, l2, l3, l4, l5, l6, l7, l8, l9, l10, l11, l12] (v1 :: v0 :: jR a :: st) σ Q ↔ mw_Call d 97 [jR a, v0, v1] σ (fun r1 s1 => mw_WP d 103 112 [l0, l1, l2, l3, l4, l5, l6, l7, l8, l9, l10, l11, l12] (r1.toList ++ st) s1 Q) := WP_inv (as := [v1, v0]) mq103 dd103_109 (by decide) mq97 rfl hr h8
theorem dd103_112 : decode cX9_passWithFirst 112 = .ok (.istore 12, 2) := by decide +kernel
theorem ww103_112 {d : Nat} {l0 l1 l2 l3 l4 l5 l6 l7 l8 l9 l10 l11 l12 : Option mw_V} {x : Int} {st : List mw_V} {σ : mw_S} {Q : Option mw_V → mw_S → Prop} (h : mw_nlo l11 = true) : mw_WP d 103 112 [l0, l1, l2, l3, l4, l5, l6, l7, l8, l9, l10, l11, l12] (jI x :: st) σ Q ↔ mw_WP d 103 114 [l0, l1, l2, l3, l4, l5, l6, l7, l8, l9, l10, l11, some (jI x)] st σ Q := WP_istore mq103 dd103_112 (Nat.le_of_ble_eq_true rfl) (mw_nl_of (i := 11) rfl h) rfl
theorem dd103_114 : decode cX9_passWithFirst 114 = .ok (.iload 11, 2) := by decide +kernel
theorem ww103_114 {d : Nat} {l0 l1 l2 l3 l4 l5 l6 l7 l8 l9 l10 l12 : Option mw_V} {x : Int} {st : List mw_V} {σ : mw_S} {Q : Option mw_V → mw_S → Prop} : mw_WP d 103 114 [l0, l1, l2, l3, l4, l5, l6, l7, l8, l9, l10, some (jI x), l12] st σ Q ↔ mw_WP d 103 116 [l0, l1, l2, l3, l4, l5, l6, l7, l8, l9, l10, some (jI x), l12] (jI x :: st) σ Q := WP_iload mq103 dd103_114 rfl
theorem dd103_116 : decode cX9_passWithFirst 116 = .ok (.iconst (-1), 1) := by decide +kernel
theorem ww103_116 {d : Nat} {l0 l1 l2 l3 l4 l5 l6 l7 l8 l9 l10 l11 l12 : Option mw_V} {st : List mw_V} {σ : mw_S} {Q : Option mw_V → mw_S → Prop} : mw_WP d 103 116 [l0, l1, l2, l3, l4, l5, l6, l7, l8, l9, l10, l11, l12] st σ Q ↔ mw_WP d 103 117 [l0, l1, l2, l3, l4, l5, l6, l7, l8, l9, l10, l11, l12] (jI (-1) :: st) σ Q := WP_iconst mq103 dd103_116 (by decide)
theorem dd103_117 : decode cX9_passWithFirst 117 = .ok (.if_icmp .eq 21, 3) := by decide +kernel
theorem ww103_117 {d : Nat} {l0 l1 l2 l3 l4 l5 l6 l7 l8 l9 l10 l11 l12 : Option mw_V} {x y : Int} {st : List mw_V} {σ : mw_S} {Q : Option mw_V → mw_S → Prop} : mw_WP d 103 117 [l0, l1, l2, l3, l4, l5, l6, l7, l8, l9, l10, l11, l12] (jI y :: jI x :: st) σ Q ↔ (if x = y then mw_WP d 103 138 [l0, l1, l2, l3, l4, l5, l6, l7, l8, l9, l10, l11, l12] st σ Q else mw_WP d 103 120 [l0, l1, l2, l3, l4, l5, l6, l7, l8, l9, l10, l11, l12] st σ Q) := WP_icmp_eq mq103 dd103_117 (by decide)
theorem dd103_120 : decode cX9_passWithFirst 120 = .ok (.iload 12, 2) := by decide +kernel
theorem ww103_120 {d : Nat} {l0 l1 l2 l3 l4 l5 l6 l7 l8 l9 l10 l11 : Option mw_V} {x : Int} {st : List mw_V} {σ : mw_S} {Q : Option mw_V → mw_S → Prop} : mw_WP d 103 120 [l0, l1, l2, l3, l4, l5, l6, l7, l8, l9, l10, l11, some (jI x)] st σ Q ↔ mw_WP d 103 122 [l0, l1, l2, l3, l4, l5, l6, l7, l8, l9, l10, l11, some (jI x)] (jI x :: st) σ Q := WP_iload mq103 dd103_120 rfl
theorem dd103_122 : decode cX9_passWithFirst 122 = .ok (.iconst (-1), 1) := by decide +kernel
theorem ww103_122 {d : Nat} {l0 l1 l2 l3 l4 l5 l6 l7 l8 l9 l10 l11 l12 : Option mw_V} {st : List mw_V} {σ : mw_S} {Q : Option mw_V → mw_S → Prop} : mw_WP d 103 122 [l0, l1, l2, l3, l4, l5, l6, l7, l8, l9, l10, l11, l12] st σ Q ↔ mw_WP d 103 123 [l0, l1, l2, l3, l4, l5, l6, l7, l8, l9, l10, l11, l12] (jI (-1) :: st) σ Q := WP_iconst mq103 dd103_122 (by decide)
theorem dd103_123 : decode cX9_passWithFirst 123 = .ok (.if_icmp .ne 15, 3) := by decide +kernel
theorem ww103_123 {d : Nat} {l0 l1 l2 l3 l4 l5 l6 l7 l8 l9 l10 l11 l12 : Option mw_V} {x y : Int} {st : List mw_V} {σ : mw_S} {Q : Option mw_V → mw_S → Prop} : mw_WP d 103 123 [l0, l1, l2, l3, l4, l5, l6, l7, l8, l9, l10, l11, l12] (jI y :: jI x :: st) σ Q ↔ (if ¬ x = y then mw_WP d 103 138 [l0, l1, l2, l3, l4, l5, l6, l7, l8, l9, l10, l11, l12] st σ Q else mw_WP d 103 126 [l0, l1, l2, l3, l4, l5, l6, l7, l8, l9, l10, l11, l12] st σ Q) := WP_icmp_ne mq103 dd103_123 (by decide)
theorem dd103_126 : decode cX9_passWithFirst 126 = .ok (.aload_n 1, 1) := by decide +kernel
theorem ww103_126 {d : Nat} {l0 l2 l3 l4 l5 l6 l7 l8 l9 l10 l11 l12 : Option mw_V} {x : Nat} {st : List mw_V} {σ : mw_S} {Q : Option mw_V → mw_S → Prop} : mw_WP d 103 126 [l0, some (jR x), l2, l3, l4, l5, l6, l7, l8, l9, l10, l11, l12] st σ Q ↔ mw_WP d 103 127 [l0, some (jR x), l2, l3, l4, l5, l6, l7, l8, l9, l10, l11, l12] (jR x :: st) σ Q := WP_aload_n mq103 dd103_126 rfl
theorem dd103_127 : decode cX9_passWithFirst 127 = .ok (.bipush 6, 2) := by decide +kernel
theorem ww103_127 {d : Nat} {l0 l1 l2 l3 l4 l5 l6 l7 l8 l9 l10 l11 l12 : Option mw_V} {st : List mw_V} {σ : mw_S} {Q : Option mw_V → mw_S → Prop} : mw_WP d 103 127 [l0, l1, l2, l3, l4, l5, l6, l7, l8, l9, l10, l11, l12] st σ Q ↔ mw_WP d 103 129 [l0, l1, l2, l3, l4, l5, l6, l7, l8, l9, l10, l11, l12] (jI (6) :: st) σ Q := WP_bipush mq103 dd103_127 (by decide)
theorem dd103_129 : decode cX9_passWithFirst 129 = .ok (.iload 11, 2) := by decide +kernel
theorem ww103_129 {d : Nat} {l0 l1 l2 l3 l4 l5 l6 l7 l8 l9 l10 l12 : Option mw_V} {x : Int} {st : List mw_V} {σ : mw_S} {Q : Option mw_V → mw_S → Prop} : mw_WP d 103 129 [l0, l1, l2, l3, l4, l5, l6, l7, l8, l9, l10, some (jI x), l12] st σ Q ↔ mw_WP d 103 131 [l0, l1, l2, l3, l4, l5, l6, l7, l8, l9, l10, some (jI x), l12] (jI x :: st) σ Q := WP_iload mq103 dd103_129 rfl
theorem dd103_131 : decode cX9_passWithFirst 131 = .ok (.iadd, 1) := by decide +kernel
theorem ww103_131 {d : Nat} {l0 l1 l2 l3 l4 l5 l6 l7 l8 l9 l10 l11 l12 : Option mw_V} {x y : Int} {st : List mw_V} {σ : mw_S} {Q : Option mw_V → mw_S → Prop} : mw_WP d 103 131 [l0, l1, l2, l3, l4, l5, l6, l7, l8, l9, l10, l11, l12] (jI y :: jI x :: st) σ Q ↔ mw_WP d 103 132 [l0, l1, l2, l3, l4, l5, l6, l7, l8, l9, l10, l11, l12] (jI (w32 (x + y)) :: st) σ Q := WP_iadd mq103 dd103_131
theorem dd103_132 : decode cX9_passWithFirst 132 = .ok (.iload 10, 2) := by decide +kernel
theorem ww103_132 {d : Nat} {l0 l1 l2 l3 l4 l5 l6 l7 l8 l9 l11 l12 : Option mw_V} {x : Int} {st : List mw_V} {σ : mw_S} {Q : Option mw_V → mw_S → Prop} : mw_WP d 103 132 [l0, l1, l2, l3, l4, l5, l6, l7, l8, l9, some (jI x), l11, l12] st σ Q ↔ mw_WP d 103 134 [l0, l1, l2, l3, l4, l5, l6, l7, l8, l9, some (jI x), l11, l12] (jI x :: st) σ Q := WP_iload mq103 dd103_132 rfl
theorem dd103_134 : decode cX9_passWithFirst 134 = .ok (.iastore, 1) := by decide +kernel
theorem ww103_134 {d : Nat} {l0 l1 l2 l3 l4 l5 l6 l7 l8 l9 l10 l11 l12 : Option mw_V} {x z : Int} {a : Nat} {st : List mw_V} {σ : mw_S} {Q : Option mw_V → mw_S → Prop} : mw_WP d 103 134 [l0, l1, l2, l3, l4, l5, l6, l7, l8, l9, l10, l11, l12] (jI x :: jI z :: jR a :: st) σ Q ↔ ((0 ≤ z ∧ z < mw_lenW 0 a) ∧ mw_WP d 103 135 [l0, l1, l2, l3, l4, l5, l6, l7, l8, l9, l10, l11, l12] st (upS σ a z.toNat x) Q) := WP_iastore mq103 dd103_134
theorem dd103_135 : decode cX9_passWithFirst 135 = .ok (.iload 7, 2) := by decide +kernel
theorem ww103_135 {d : Nat} {l0 l1 l2 l3 l4 l5 l6 l8 l9 l10 l11 l12 : Option mw_V} {x : Int} {st : List mw_V} {σ : mw_S} {Q : Option mw_V → mw_S → Prop} : mw_WP d 103 135 [l0, l1, l2, l3, l4, l5, l6, some (jI x), l8, l9, l10, l11, l12] st σ Q ↔ mw_WP d 103 137 [l0, l1, l2, l3, l4, l5, l6, some (jI x), l8, l9, l10, l11, l12] (jI x :: st) σ Q := WP_iload mq103 dd103_135 rfl
theorem dd103_137 : decode cX9_passWithFirst 137 = .ok (.ireturn, 1) := by decide +kernel
theorem ww103_137 {d : Nat} {l0 l1 l2 l3 l4 l5 l6 l7 l8 l9 l10 l11 l12 : Option mw_V} {z : Int} {σ : mw_S} {Q : Option mw_V → mw_S → Prop} : mw_WP d 103 137 [l0, l1, l2, l3, l4, l5, l6, l7, l8, l9, l10, l11, l12] [jI z] σ Q ↔ Q (some (jI z)) σ := WP_ireturn (ty := .int) mq103 dd103_137 rfl rfl
theorem dd103_138 : decode cX9_passWithFirst 138 = .ok (.iload 11, 2) := by decide +kernel
theorem ww103_138 {d : Nat} {l0 l1 l2 l3 l4 l5 l6 l7 l8 l9 l10 l12 : Option mw_V} {x : Int} {st : List mw_V} {σ : mw_S} {Q : Option mw_V → mw_S → Prop} : mw_WP d 103 138 [l0, l1, l2, l3, l4, l5, l6, l7, l8, l9, l10, some (jI x), l12] st σ Q ↔ mw_WP d 103 140 [l0, l1, l2, l3, l4, l5, l6, l7, l8, l9, l10, some (jI x), l12] (jI x :: st) σ Q := WP_iload mq103 dd103_138 rfl
theorem dd103_140 : decode cX9_passWithFirst 140 = .ok (.iconst (-1), 1) := by decide +kernel
theorem ww103_140 {d : Nat} {l0 l1 l2 l3 l4 l5 l6 l7 l8 l9 l10 l11 l12 : Option mw_V} {st : List mw_V} {σ : mw_S} {Q : Option mw_V → mw_S → Prop} : mw_WP d 103 140 [l0, l1, l2, l3, l4, l5, l6, l7, l8, l9, l10, l11, l12] st σ Q ↔ mw_WP d 103 141 [l0, l1, l2, l3, l4, l5, l6, l7, l8, l9, l10, l11, l12] (jI (-1) :: st) σ Q := WP_iconst mq103 dd103_140 (by decide)
theorem dd103_141 : decode cX9_passWithFirst 141 = .ok (.if_icmp .ne 21, 3) := by decide +kernel
theorem ww103_141 {d : Nat} {l0 l1 l2 l3 l4 l5 l6 l7 l8 l9 l10 l11 l12 : Option mw_V} {x y : Int} {st : List mw_V} {σ : mw_S} {Q : Option mw_V → mw_S → Prop} : mw_WP d 103 141 [l0, l1, l2, l3, l4, l5, l6, l7, l8, l9, l10, l11, l12] (jI y :: jI x :: st) σ Q ↔ (if ¬ x = y then mw_WP d 103 162 [l0, l1, l2, l3, l4, l5, l6, l7, l8, l9, l10, l11, l12] st σ Q else mw_WP d 103 144 [l0, l1, l2, l3, l4, l5, l6, l7, l8, l9, l10, l11, l12] st σ Q) := WP_icmp_ne mq103 dd103_141 (by decide)
theorem dd103_144 : decode cX9_passWithFirst 144 = .ok (.iload 12, 2) := by decide +kernel
theorem ww103_144 {d : Nat} {l0 l1 l2 l3 l4 l5 l6 l7 l8 l9 l10 l11 : Option mw_V} {x : Int} {st : List mw_V} {σ : mw_S} {Q : Option mw_V → mw_S → Prop} : mw_WP d 103 144 [l0, l1, l2, l3, l4, l5, l6, l7, l8, l9, l10, l11, some (jI x)] st σ Q ↔ mw_WP d 103 146 [l0, l1, l2, l3, l4, l5, l6, l7, l8, l9, l10, l11, some (jI x)] (jI x :: st) σ Q := WP_iload mq103 dd103_144 rfl
theorem dd103_146 : decode cX9_passWithFirst 146 = .ok (.iconst (-1), 1) := by decide +kernel
theorem ww103_146 {d : Nat} {l0 l1 l2 l3 l4 l5 l6 l7 l8 l9 l10 l11 l12 : Option mw_V} {st : List mw_V} {σ : mw_S} {Q : Option mw_V → mw_S → Prop} : mw_WP d 103 146 [l0, l1, l2, l3, l4, l5, l6, l7, l8, l9, l10, l11, l12] st σ Q ↔ mw_WP d 103 147 [l0, l1, l2, l3, l4, l5, l6, l7, l8, l9, l10, l11, l12] (jI (-1) :: st) σ Q := WP_iconst mq103 dd103_146 (by decide)
theorem dd103_147 : decode cX9_passWithFirst 147 = .ok (.if_icmp .eq 15, 3) := by decide +kernel
theorem ww103_147 {d : Nat} {l0 l1 l2 l3 l4 l5 l6 l7 l8 l9 l10 l11 l12 : Option mw_V} {x y : Int} {st : List mw_V} {σ : mw_S} {Q : Option mw_V → mw_S → Prop} : mw_WP d 103 147 [l0, l1, l2, l3, l4, l5, l6, l7, l8, l9, l10, l11, l12] (jI y :: jI x :: st) σ Q ↔ (if x = y then mw_WP d 103 162 [l0, l1, l2, l3, l4, l5, l6, l7, l8, l9, l10, l11, l12] st σ Q else mw_WP d 103 150 [l0, l1, l2, l3, l4, l5, l6, l7, l8, l9, l10, l11, l12] st σ Q) := WP_icmp_eq mq103 dd103_147 (by decide)
theorem dd103_150 : decode cX9_passWithFirst 150 = .ok (.aload_n 1, 1) := by decide +kernel
theorem ww103_150 {d : Nat} {l0 l2 l3 l4 l5 l6 l7 l8 l9 l10 l11 l12 : Option mw_V} {x : Nat} {st : List mw_V} {σ : mw_S} {Q : Option mw_V → mw_S → Prop} : mw_WP d 103 150 [l0, some (jR x), l2, l3, l4, l5, l6, l7, l8, l9, l10, l11, l12] st σ Q ↔ mw_WP d 103 151 [l0, some (jR x), l2, l3, l4, l5, l6, l7, l8, l9, l10, l11, l12] (jR x :: st) σ Q := WP_aload_n mq103 dd103_150 rfl
theorem dd103_151 : decode cX9_passWithFirst 151 = .ok (.bipush 6, 2) := by decide +kernel
theorem ww103_151 {d : Nat} {l0 l1 l2 l3 l4 l5 l6 l7 l8 l9 l10 l11 l12 : Option mw_V} {st : List mw_V} {σ : mw_S} {Q : Option mw_V → mw_S → Prop} : mw_WP d 103 151 [l0, l1, l2, l3, l4, l5, l6, l7, l8, l9, l10, l11, l12] st σ Q ↔ mw_WP d 103 153 [l0, l1, l2, l3, l4, l5, l6, l7, l8, l9, l10, l11, l12] (jI (6) :: st) σ Q := WP_bipush mq103 dd103_151 (by decide)
theorem dd103_153 : decode cX9_passWithFirst 153 = .ok (.iload 12, 2) := by decide +kernel
theorem ww103_153 {d : Nat} {l0 l1 l2 l3 l4 l5 l6 l7 l8 l9 l10 l11 : Option mw_V} {x : Int} {st : List mw_V} {σ : mw_S} {Q : Option mw_V → mw_S → Prop} : mw_WP d 103 153 [l0, l1, l2, l3, l4, l5, l6, l7, l8, l9, l10, l11, some (jI x)] st σ Q ↔ mw_WP d 103 155 [l0, l1, l2, l3, l4, l5, l6, l7, l8, l9, l10, l11, some (jI x)] (jI x :: st) σ Q := WP_iload mq103 dd103_153 rfl
theorem dd103_155 : decode cX9_passWithFirst 155 = .ok (.iadd, 1) := by decide +kernel
theorem ww103_155 {d : Nat} {l0 l1 l2 l3 l4 l5 l6 l7 l8 l9 l10 l11 l12 : Option mw_V} {x y : Int} {st : List mw_V} {σ : mw_S} {Q : Option mw_V → mw_S → Prop} : mw_WP d 103 155 [l0, l1, l2, l3, l4, l5, l6, l7, l8, l9, l10, l11, l12] (jI y :: jI x :: st) σ Q ↔ mw_WP d 103 156 [l0, l1, l2, l3, l4, l5, l6, l7, l8, l9, l10, l11, l12] (jI (w32 (x + y)) :: st) σ Q := WP_iadd mq103 dd103_155
theorem dd103_156 : decode cX9_passWithFirst 156 = .ok (.iload 5, 2) := by decide +kernel
theorem ww103_156 {d : Nat} {l0 l1 l2 l3 l4 l6 l7 l8 l9 l10 l11 l12 : Option mw_V} {x : Int} {st : List mw_V} {σ : mw_S} {Q : Option mw_V → mw_S → Prop} : mw_WP d 103 156 [l0, l1, l2, l3, l4, some (jI x), l6, l7, l8, l9, l10, l11, l12] st σ Q ↔ mw_WP d 103 158 [l0, l1, l2, l3, l4, some (jI x), l6, l7, l8, l9, l10, l11, l12] (jI x :: st) σ Q := WP_iload mq103 dd103_156 rfl
theorem dd103_158 : decode cX9_passWithFirst 158 = .ok (.iastore, 1) := by decide +kernel
theorem ww103_158 {d : Nat} {l0 l1 l2 l3 l4 l5 l6 l7 l8 l9 l10 l11 l12 : Option mw_V} {x z : Int} {a : Nat} {st : List mw_V} {σ : mw_S} {Q : Option mw_V → mw_S → Prop} : mw_WP d 103 158 [l0, l1, l2, l3, l4, l5, l6, l7, l8, l9, l10, l11, l12] (jI x :: jI z :: jR a :: st) σ Q ↔ ((0 ≤ z ∧ z < mw_lenW 0 a) ∧ mw_WP d 103 159 [l0, l1, l2, l3, l4, l5, l6, l7, l8, l9, l10, l11, l12] st (upS σ a z.toNat x) Q) := WP_iastore mq103 dd103_158
theorem dd103_159 : decode cX9_passWithFirst 159 = .ok (.iload 7, 2) := by decide +kernel
theorem ww103_159 {d : Nat} {l0 l1 l2 l3 l4 l5 l6 l8 l9 l10 l11 l12 : Option mw_V} {x : Int} {st : List mw_V} {σ : mw_S} {Q : Option mw_V → mw_S → Prop} : mw_WP d 103 159 [l0, l1, l2, l3, l4, l5, l6, some (jI x), l8, l9, l10, l11, l12] st σ Q ↔ mw_WP d 103 161 [l0, l1, l2, l3, l4, l5, l6, some (jI x), l8, l9, l10, l11, l12] (jI x :: st) σ Q := WP_iload mq103 dd103_159 rfl
theorem dd103_161 : decode cX9_passWithFirst 161 = .ok (.ireturn, 1) := by decide +kernel
theorem ww103_161 {d : Nat} {l0 l1 l2 l3 l4 l5 l6 l7 l8 l9 l10 l11 l12 : Option mw_V} {z : Int} {σ : mw_S} {Q : Option mw_V → mw_S → Prop} : mw_WP d 103 161 [l0, l1, l2, l3, l4, l5, l6, l7, l8, l9, l10, l11, l12] [jI z] σ Q ↔ Q (some (jI z)) σ := WP_ireturn (ty := .int) mq103 dd103_161 rfl rfl
theorem dd103_162 : decode cX9_passWithFirst 162 = .ok (.iinc 7 1, 3) := by decide +kernel
theorem ww103_162 {d : Nat} {l0 l1 l2 l3 l4 l5 l6 l8 l9 l10 l11 l12 : Option mw_V} {x : Int} {st : List mw_V} {σ : mw_S} {Q : Option mw_V → mw_S → Prop} (h : mw_nlo l6 = true) : mw_WP d 103 162 [l0, l1, l2, l3, l4, l5, l6, some (jI x), l8, l9, l10, l11, l12] st σ Q ↔ mw_WP d 103 165 [l0, l1, l2, l3, l4, l5, l6, some (jI (w32 (x + (1)))), l8, l9, l10, l11, l12] st σ Q := WP_iinc mq103 dd103_162 rfl (Nat.le_of_ble_eq_true rfl) (mw_nl_of (i := 6) rfl h) rfl
theorem dd103_165 : decode cX9_passWithFirst 165 = .ok (.goto (-145), 3) := by decide +kernel
theorem ww103_165 {d : Nat} {l0 l1 l2 l3 l4 l5 l6 l7 l8 l9 l10 l11 l12 : Option mw_V} {st : List mw_V} {σ : mw_S} {Q : Option mw_V → mw_S → Prop} : mw_WP d 103 165 [l0, l1, l2, l3, l4, l5, l6, l7, l8, l9, l10, l11, l12] st σ Q ↔ mw_WP d 103 20 [l0, l1, l2, l3, l4, l5, l6, l7, l8, l9, l10, l11, l12] st σ Q := WP_goto mq103 dd103_165 (by decide)
theorem dd103_168 : decode cX9_passWithFirst 168 = .ok (.iconst (-1), 1) := by decide +kernel
theorem ww103_168 {d : Nat} {l0 l1 l2 l3 l4 l5 l6 l7 l8 l9 l10 l11 l12 : Option mw_V} {st : List mw_V} {σ : mw_S} {Q : Option mw_V → mw_S → Prop} : mw_WP d 103 168 [l0, l1, l2, l3, l4, l5, l6, l7, l8, l9, l10, l11, l12] st σ Q ↔ mw_WP d 103 169 [l0, l1, l2, l3, l4, l5, l6, l7, l8, l9, l10, l11, l12] (jI (-1) :: st) σ Q := WP_iconst mq103 dd103_168 (by decide)
theorem dd103_169 : decode cX9_passWithFirst 169 = .ok (.ireturn, 1) := by decide +kernel
theorem ww103_169 {d : Nat} {l0 l1 l2 l3 l4 l5 l6 l7 l8 l9 l10 l11 l12 : Option mw_V} {z : Int} {σ : mw_S} {Q : Option mw_V → mw_S → Prop} : mw_WP d 103 169 [l0, l1, l2, l3, l4, l5, l6, l7, l8, l9, l10, l11, l12] [jI z] σ Q ↔ Q (some (jI z)) σ := WP_ireturn (ty := .int) mq103 dd103_169 rfl rfl
theorem ee104 {d : Nat} {a : Nat} {a0 : Nat} {z1 : Int} {z2 : Int} {z3 : Int} {z4 : Int} {σ : mw_S} {Q : Option mw_V → mw_S → Prop} : mw_Call (d + 1) 104 [jR a, jR a0, jI z1, jI z2, jI z3, jI z4] σ Q ↔ mw_WP d 104 0 [some (jR a), some (jR a0), some (jI z1), some (jI z2), some (jI z3), some (jI z4), none] [] σ Q := CL_u mq104 (Nat.le_of_ble_eq_true rfl) rfl
theorem dd104_0 : decode cX9_chosen 0 = .ok (.aload_n 0, 1) := by decide +kernel
theorem ww104_0 {d : Nat} {l1 l2 l3 l4 l5 l6 : Option mw_V} {x : Nat} {st : List mw_V} {σ : mw_S} {Q : Option mw_V → mw_S → Prop} : mw_WP d 104 0 [some (jR x), l1, l2, l3, l4, l5, l6] st σ Q ↔ mw_WP d 104 1 [some (jR x), l1, l2, l3, l4, l5, l6] (jR x :: st) σ Q := WP_aload_n mq104 dd104_0 rfl
theorem dd104_1 : decode cX9_chosen 1 = .ok (.getfield 18, 3) := by decide +kernel
theorem ww104_1 {d : Nat} {l0 l1 l2 l3 l4 l5 l6 : Option mw_V} {st : List mw_V} {σ : mw_S} {Q : Option mw_V → mw_S → Prop} : mw_WP d 104 1 [l0, l1, l2, l3, l4, l5, l6] (jR 22 :: st) σ Q ↔ mw_WP d 104 4 [l0, l1, l2, l3, l4, l5, l6] (jR 13 :: st) σ Q := WP_getR (ci := 8) (k := 0) mq104 dd104_1 (by decide) rfl
theorem dd104_4 : decode cX9_chosen 4 = .ok (.getfield 97, 3) := by decide +kernel
theorem ww104_4i3 {d : Nat} {l0 l1 l2 l3 l4 l5 l6 : Option mw_V} {st : List mw_V} {σ : mw_S} {Q : Option mw_V → mw_S → Prop} : mw_WP d 104 4 [l0, l1, l2, l3, l4, l5, l6] (jR 3 :: st) σ Q ↔ mw_WP d 104 7 [l0, l1, l2, l3, l4, l5, l6] (jI (σ 3 3) :: st) σ Q := WP_getI (ci := 0) (k := 3) mq104 dd104_4 (by decide) (Or.inl rfl)
theorem ww104_4i13 {d : Nat} {l0 l1 l2 l3 l4 l5 l6 : Option mw_V} {st : List mw_V} {σ : mw_S} {Q : Option mw_V → mw_S → Prop} : mw_WP d 104 4 [l0, l1, l2, l3, l4, l5, l6] (jR 13 :: st) σ Q ↔ mw_WP d 104 7 [l0, l1, l2, l3, l4, l5, l6] (jI (σ 13 3) :: st) σ Q := WP_getI (ci := 0) (k := 3) mq104 dd104_4 (by decide) (Or.inl rfl)
theorem ww104_4i77 {d : Nat} {l0 l1 l2 l3 l4 l5 l6 : Option mw_V} {st : List mw_V} {σ : mw_S} {Q : Option mw_V → mw_S → Prop} : mw_WP d 104 4 [l0, l1, l2, l3, l4, l5, l6] (jR 77 :: st) σ Q ↔ mw_WP d 104 7 [l0, l1, l2, l3, l4, l5, l6] (jI (σ 77 3) :: st) σ Q := WP_getI (ci := 0) (k := 3) mq104 dd104_4 (by decide) (Or.inl rfl)
theorem ww104_4i88 {d : Nat} {l0 l1 l2 l3 l4 l5 l6 : Option mw_V} {st : List mw_V} {σ : mw_S} {Q : Option mw_V → mw_S → Prop} : mw_WP d 104 4 [l0, l1, l2, l3, l4, l5, l6] (jR 88 :: st) σ Q ↔ mw_WP d 104 7 [l0, l1, l2, l3, l4, l5, l6] (jI (σ 88 3) :: st) σ Q := WP_getI (ci := 0) (k := 3) mq104 dd104_4 (by decide) (Or.inl rfl)
theorem dd104_7 : decode cX9_chosen 7 = .ok (.ifCond .ne 5, 3) := by decide +kernel
theorem ww104_7 {d : Nat} {l0 l1 l2 l3 l4 l5 l6 : Option mw_V} {x : Int} {st : List mw_V} {σ : mw_S} {Q : Option mw_V → mw_S → Prop} : mw_WP d 104 7 [l0, l1, l2, l3, l4, l5, l6] (jI x :: st) σ Q ↔ (if ¬ x = 0 then mw_WP d 104 12 [l0, l1, l2, l3, l4, l5, l6] st σ Q else mw_WP d 104 10 [l0, l1, l2, l3, l4, l5, l6] st σ Q) := WP_if_ne mq104 dd104_7 (by decide)
theorem dd104_10 : decode cX9_chosen 10 = .ok (.iload_n 3, 1) := by decide +kernel
theorem ww104_10 {d : Nat} {l0 l1 l2 l4 l5 l6 : Option mw_V} {x : Int} {st : List mw_V} {σ : mw_S} {Q : Option mw_V → mw_S → Prop} : mw_WP d 104 10 [l0, l1, l2, some (jI x), l4, l5, l6] st σ Q ↔ mw_WP d 104 11 [l0, l1, l2, some (jI x), l4, l5, l6] (jI x :: st) σ Q := WP_iload_n mq104 dd104_10 rfl
theorem dd104_11 : decode cX9_chosen 11 = .ok (.ireturn, 1) := by decide +kernel
theorem ww104_11 {d : Nat} {l0 l1 l2 l3 l4 l5 l6 : Option mw_V} {z : Int} {σ : mw_S} {Q : Option mw_V → mw_S → Prop} : mw_WP d 104 11 [l0, l1, l2, l3, l4, l5, l6] [jI z] σ Q ↔ Q (some (jI z)) σ := WP_ireturn (ty := .int) mq104 dd104_11 rfl rfl
theorem dd104_12 : decode cX9_chosen 12 = .ok (.aload_n 0, 1) := by decide +kernel
theorem ww104_12 {d : Nat} {l1 l2 l3 l4 l5 l6 : Option mw_V} {x : Nat} {st : List mw_V} {σ : mw_S} {Q : Option mw_V → mw_S → Prop} : mw_WP d 104 12 [some (jR x), l1, l2, l3, l4, l5, l6] st σ Q ↔ mw_WP d 104 13 [some (jR x), l1, l2, l3, l4, l5, l6] (jR x :: st) σ Q := WP_aload_n mq104 dd104_12 rfl
theorem dd104_13 : decode cX9_chosen 13 = .ok (.getfield 15, 3) := by decide +kernel
theorem ww104_13 {d : Nat} {l0 l1 l2 l3 l4 l5 l6 : Option mw_V} {st : List mw_V} {σ : mw_S} {Q : Option mw_V → mw_S → Prop} : mw_WP d 104 13 [l0, l1, l2, l3, l4, l5, l6] (jR 22 :: st) σ Q ↔ mw_WP d 104 16 [l0, l1, l2, l3, l4, l5, l6] (jR 24 :: st) σ Q := WP_getR (ci := 8) (k := 7) mq104 dd104_13 (by decide) rfl
theorem dd104_16 : decode cX9_chosen 16 = .ok (.iconst 0, 1) := by decide +kernel
theorem ww104_16 {d : Nat} {l0 l1 l2 l3 l4 l5 l6 : Option mw_V} {st : List mw_V} {σ : mw_S} {Q : Option mw_V → mw_S → Prop} : mw_WP d 104 16 [l0, l1, l2, l3, l4, l5, l6] st σ Q ↔ mw_WP d 104 17 [l0, l1, l2, l3, l4, l5, l6] (jI (0) :: st) σ Q := WP_iconst mq104 dd104_16 (by decide)
theorem dd104_17 : decode cX9_chosen 17 = .ok (.iload_n 3, 1) := by decide +kernel
theorem ww104_17 {d : Nat} {l0 l1 l2 l4 l5 l6 : Option mw_V} {x : Int} {st : List mw_V} {σ : mw_S} {Q : Option mw_V → mw_S → Prop} : mw_WP d 104 17 [l0, l1, l2, some (jI x), l4, l5, l6] st σ Q ↔ mw_WP d 104 18 [l0, l1, l2, some (jI x), l4, l5, l6] (jI x :: st) σ Q := WP_iload_n mq104 dd104_17 rfl
theorem dd104_18 : decode cX9_chosen 18 = .ok (.iastore, 1) := by decide +kernel
theorem ww104_18 {d : Nat} {l0 l1 l2 l3 l4 l5 l6 : Option mw_V} {x z : Int} {a : Nat} {st : List mw_V} {σ : mw_S} {Q : Option mw_V → mw_S → Prop} : mw_WP d 104 18 [l0, l1, l2, l3, l4, l5, l6] (jI x :: jI z :: jR a :: st) σ Q ↔ ((0 ≤ z ∧ z < mw_lenW 0 a) ∧ mw_WP d 104 19 [l0, l1, l2, l3, l4, l5, l6] st (upS σ a z.toNat x) Q) := WP_iastore mq104 dd104_18
theorem dd104_19 : decode cX9_chosen 19 = .ok (.aload_n 0, 1) := by decide +kernel
theorem ww104_19 {d : Nat} {l1 l2 l3 l4 l5 l6 : Option mw_V} {x : Nat} {st : List mw_V} {σ : mw_S} {Q : Option mw_V → mw_S → Prop} : mw_WP d 104 19 [some (jR x), l1, l2, l3, l4, l5, l6] st σ Q ↔ mw_WP d 104 20 [some (jR x), l1, l2, l3, l4, l5, l6] (jR x :: st) σ Q := WP_aload_n mq104 dd104_19 rfl
theorem dd104_20 : decode cX9_chosen 20 = .ok (.getfield 15, 3) := by decide +kernel
theorem ww104_20 {d : Nat} {l0 l1 l2 l3 l4 l5 l6 : Option mw_V} {st : List mw_V} {σ : mw_S} {Q : Option mw_V → mw_S → Prop} : mw_WP d 104 20 [l0, l1, l2, l3, l4, l5, l6] (jR 22 :: st) σ Q ↔ mw_WP d 104 23 [l0, l1, l2, l3, l4, l5, l6] (jR 24 :: st) σ Q := WP_getR (ci := 8) (k := 7) mq104 dd104_20 (by decide) rfl
theorem dd104_23 : decode cX9_chosen 23 = .ok (.iconst 1, 1) := by decide +kernel
theorem ww104_23 {d : Nat} {l0 l1 l2 l3 l4 l5 l6 : Option mw_V} {st : List mw_V} {σ : mw_S} {Q : Option mw_V → mw_S → Prop} : mw_WP d 104 23 [l0, l1, l2, l3, l4, l5, l6] st σ Q ↔ mw_WP d 104 24 [l0, l1, l2, l3, l4, l5, l6] (jI (1) :: st) σ Q := WP_iconst mq104 dd104_23 (by decide)
theorem dd104_24 : decode cX9_chosen 24 = .ok (.aload_n 1, 1) := by decide +kernel
theorem ww104_24 {d : Nat} {l0 l2 l3 l4 l5 l6 : Option mw_V} {x : Nat} {st : List mw_V} {σ : mw_S} {Q : Option mw_V → mw_S → Prop} : mw_WP d 104 24 [l0, some (jR x), l2, l3, l4, l5, l6] st σ Q ↔ mw_WP d 104 25 [l0, some (jR x), l2, l3, l4, l5, l6] (jR x :: st) σ Q := WP_aload_n mq104 dd104_24 rfl
theorem dd104_25 : decode cX9_chosen 25 = .ok (.iconst 3, 1) := by decide +kernel
theorem ww104_25 {d : Nat} {l0 l1 l2 l3 l4 l5 l6 : Option mw_V} {st : List mw_V} {σ : mw_S} {Q : Option mw_V → mw_S → Prop} : mw_WP d 104 25 [l0, l1, l2, l3, l4, l5, l6] st σ Q ↔ mw_WP d 104 26 [l0, l1, l2, l3, l4, l5, l6] (jI (3) :: st) σ Q := WP_iconst mq104 dd104_25 (by decide)
theorem dd104_26 : decode cX9_chosen 26 = .ok (.iload_n 2, 1) := by decide +kernel
theorem ww104_26 {d : Nat} {l0 l1 l3 l4 l5 l6 : Option mw_V} {x : Int} {st : List mw_V} {σ : mw_S} {Q : Option mw_V → mw_S → Prop} : mw_WP d 104 26 [l0, l1, some (jI x), l3, l4, l5, l6] st σ Q ↔ mw_WP d 104 27 [l0, l1, some (jI x), l3, l4, l5, l6] (jI x :: st) σ Q := WP_iload_n mq104 dd104_26 rfl
theorem dd104_27 : decode cX9_chosen 27 = .ok (.iadd, 1) := by decide +kernel
theorem ww104_27 {d : Nat} {l0 l1 l2 l3 l4 l5 l6 : Option mw_V} {x y : Int} {st : List mw_V} {σ : mw_S} {Q : Option mw_V → mw_S → Prop} : mw_WP d 104 27 [l0, l1, l2, l3, l4, l5, l6] (jI y :: jI x :: st) σ Q ↔ mw_WP d 104 28 [l0, l1, l2, l3, l4, l5, l6] (jI (w32 (x + y)) :: st) σ Q := WP_iadd mq104 dd104_27
theorem dd104_28 : decode cX9_chosen 28 = .ok (.iaload, 1) := by decide +kernel
theorem ww104_28 {d : Nat} {l0 l1 l2 l3 l4 l5 l6 : Option mw_V} {z : Int} {a : Nat} {st : List mw_V} {σ : mw_S} {Q : Option mw_V → mw_S → Prop} : mw_WP d 104 28 [l0, l1, l2, l3, l4, l5, l6] (jI z :: jR a :: st) σ Q ↔ ((0 ≤ z ∧ z < mw_lenI a) ∧ mw_WP d 104 29 [l0, l1, l2, l3, l4, l5, l6] (jI (mw_rdI σ a z.toNat) :: st) σ Q) := WP_iaload mq104 dd104_28
theorem dd104_29 : decode cX9_chosen 29 = .ok (.iastore, 1) := by decide +kernel
theorem ww104_29 {d : Nat} {l0 l1 l2 l3 l4 l5 l6 : Option mw_V} {x z : Int} {a : Nat} {st : List mw_V} {σ : mw_S} {Q : Option mw_V → mw_S → Prop} : mw_WP d 104 29 [l0, l1, l2, l3, l4, l5, l6] (jI x :: jI z :: jR a :: st) σ Q ↔ ((0 ≤ z ∧ z < mw_lenW 0 a) ∧ mw_WP d 104 30 [l0, l1, l2, l3, l4, l5, l6] st (upS σ a z.toNat x) Q) := WP_iastore mq104 dd104_29
theorem dd104_30 : decode cX9_chosen 30 = .ok (.aload_n 0, 1) := by decide +kernel
theorem ww104_30 {d : Nat} {l1 l2 l3 l4 l5 l6 : Option mw_V} {x : Nat} {st : List mw_V} {σ : mw_S} {Q : Option mw_V → mw_S → Prop} : mw_WP d 104 30 [some (jR x), l1, l2, l3, l4, l5, l6] st σ Q ↔ mw_WP d 104 31 [some (jR x), l1, l2, l3, l4, l5, l6] (jR x :: st) σ Q := WP_aload_n mq104 dd104_30 rfl
theorem dd104_31 : decode cX9_chosen 31 = .ok (.getfield 15, 3) := by decide +kernel
theorem ww104_31 {d : Nat} {l0 l1 l2 l3 l4 l5 l6 : Option mw_V} {st : List mw_V} {σ : mw_S} {Q : Option mw_V → mw_S → Prop} : mw_WP d 104 31 [l0, l1, l2, l3, l4, l5, l6] (jR 22 :: st) σ Q ↔ mw_WP d 104 34 [l0, l1, l2, l3, l4, l5, l6] (jR 24 :: st) σ Q := WP_getR (ci := 8) (k := 7) mq104 dd104_31 (by decide) rfl
theorem dd104_34 : decode cX9_chosen 34 = .ok (.iconst 2, 1) := by decide +kernel
theorem ww104_34 {d : Nat} {l0 l1 l2 l3 l4 l5 l6 : Option mw_V} {st : List mw_V} {σ : mw_S} {Q : Option mw_V → mw_S → Prop} : mw_WP d 104 34 [l0, l1, l2, l3, l4, l5, l6] st σ Q ↔ mw_WP d 104 35 [l0, l1, l2, l3, l4, l5, l6] (jI (2) :: st) σ Q := WP_iconst mq104 dd104_34 (by decide)
theorem dd104_35 : decode cX9_chosen 35 = .ok (.iload 4, 2) := by decide +kernel
theorem ww104_35 {d : Nat} {l0 l1 l2 l3 l5 l6 : Option mw_V} {x : Int} {st : List mw_V} {σ : mw_S} {Q : Option mw_V → mw_S → Prop} : mw_WP d 104 35 [l0, l1, l2, l3, some (jI x), l5, l6] st σ Q ↔ mw_WP d 104 37 [l0, l1, l2, l3, some (jI x), l5, l6] (jI x :: st) σ Q := WP_iload mq104 dd104_35 rfl
theorem dd104_37 : decode cX9_chosen 37 = .ok (.iastore, 1) := by decide +kernel
theorem ww104_37 {d : Nat} {l0 l1 l2 l3 l4 l5 l6 : Option mw_V} {x z : Int} {a : Nat} {st : List mw_V} {σ : mw_S} {Q : Option mw_V → mw_S → Prop} : mw_WP d 104 37 [l0, l1, l2, l3, l4, l5, l6] (jI x :: jI z :: jR a :: st) σ Q ↔ ((0 ≤ z ∧ z < mw_lenW 0 a) ∧ mw_WP d 104 38 [l0, l1, l2, l3, l4, l5, l6] st (upS σ a z.toNat x) Q) := WP_iastore mq104 dd104_37
theorem dd104_38 : decode cX9_chosen 38 = .ok (.aload_n 0, 1) := by decide +kernel
theorem ww104_38 {d : Nat} {l1 l2 l3 l4 l5 l6 : Option mw_V} {x : Nat} {st : List mw_V} {σ : mw_S} {Q : Option mw_V → mw_S → Prop} : mw_WP d 104 38 [some (jR x), l1, l2, l3, l4, l5, l6] st σ Q ↔ mw_WP d 104 39 [some (jR x), l1, l2, l3, l4, l5, l6] (jR x :: st) σ Q := WP_aload_n mq104 dd104_38 rfl
theorem dd104_39 : decode cX9_chosen 39 = .ok (.getfield 15, 3) := by decide +kernel
theorem ww104_39 {d : Nat} {l0 l1 l2 l3 l4 l5 l6 : Option mw_V} {st : List mw_V} {σ : mw_S} {Q : Option mw_V → mw_S → Prop} : mw_WP d 104 39 [l0, l1, l2, l3, l4, l5, l6] (jR 22 :: st) σ Q ↔ mw_WP d 104 42 [l0, l1, l2, l3, l4, l5, l6] (jR 24 :: st) σ Q := WP_getR (ci := 8) (k := 7) mq104 dd104_39 (by decide) rfl
theorem dd104_42 : decode cX9_chosen 42 = .ok (.iconst 3, 1) := by decide +kernel
theorem ww104_42 {d : Nat} {l0 l1 l2 l3 l4 l5 l6 : Option mw_V} {st : List mw_V} {σ : mw_S} {Q : Option mw_V → mw_S → Prop} : mw_WP d 104 42 [l0, l1, l2, l3, l4, l5, l6] st σ Q ↔ mw_WP d 104 43 [l0, l1, l2, l3, l4, l5, l6] (jI (3) :: st) σ Q := WP_iconst mq104 dd104_42 (by decide)
theorem dd104_43 : decode cX9_chosen 43 = .ok (.aload_n 0, 1) := by decide +kernel
theorem ww104_43 {d : Nat} {l1 l2 l3 l4 l5 l6 : Option mw_V} {x : Nat} {st : List mw_V} {σ : mw_S} {Q : Option mw_V → mw_S → Prop} : mw_WP d 104 43 [some (jR x), l1, l2, l3, l4, l5, l6] st σ Q ↔ mw_WP d 104 44 [some (jR x), l1, l2, l3, l4, l5, l6] (jR x :: st) σ Q := WP_aload_n mq104 dd104_43 rfl
theorem dd104_44 : decode cX9_chosen 44 = .ok (.aload_n 1, 1) := by decide +kernel
theorem ww104_44 {d : Nat} {l0 l2 l3 l4 l5 l6 : Option mw_V} {x : Nat} {st : List mw_V} {σ : mw_S} {Q : Option mw_V → mw_S → Prop} : mw_WP d 104 44 [l0, some (jR x), l2, l3, l4, l5, l6] st σ Q ↔ mw_WP d 104 45 [l0, some (jR x), l2, l3, l4, l5, l6] (jR x :: st) σ Q := WP_aload_n mq104 dd104_44 rfl
theorem dd104_45 : decode cX9_chosen 45 = .ok (.iload_n 2, 1) := by decide +kernel
theorem ww104_45 {d : Nat} {l0 l1 l3 l4 l5 l6 : Option mw_V} {x : Int} {st : List mw_V} {σ : mw_S} {Q : Option mw_V → mw_S → Prop} : mw_WP d 104 45 [l0, l1, some (jI x), l3, l4, l5, l6] st σ Q ↔ mw_WP d 104 46 [l0, l1, some (jI x), l3, l4, l5, l6] (jI x :: st) σ Q := WP_iload_n mq104 dd104_45 rfl
theorem dd104_46 : decode cX9_chosen 46 = .ok (.iconst 0, 1) := by decide +kernel
theorem ww104_46 {d : Nat} {l0 l1 l2 l3 l4 l5 l6 : Option mw_V} {st : List mw_V} {σ : mw_S} {Q : Option mw_V → mw_S → Prop} : mw_WP d 104 46 [l0, l1, l2, l3, l4, l5, l6] st σ Q ↔ mw_WP d 104 47 [l0, l1, l2, l3, l4, l5, l6] (jI (0) :: st) σ Q := WP_iconst mq104 dd104_46 (by decide)
theorem dd104_47 : decode cX9_chosen 47 = .ok (.invokevirtual 102, 3) := by decide +kernel
theorem ww104_47 {d : Nat} {l0 l1 l2 l3 l4 l5 l6 : Option mw_V} {v0 v1 v2 : mw_V} {a : Nat} {st : List mw_V} {σ : mw_S} {Q : Option mw_V → mw_S → Prop} (hr : mw_rc a = 9) (h8 : (st.map mw_cat).sum ≤ 8) : mw_WP d 104 47 [l0, l1, l2, l3, l4, l5, l6] (v2 :: v1 :: v0 :: jR a :: st) σ Q ↔ mw_Call d 105 [jR a, v0, v1, v2] σ (fun r1 s1 => mw_WP d 104 50 [l0, l1, l2, l3, l4, l5, l6] (r1.toList ++ st) s1 Q) := WP_inv (as := [v2, v1, v0]) mq104 dd104_47 (by decide) mq105 rfl hr h8
theorem dd104_50 : decode cX9_chosen 50 = .ok (.iastore, 1) := by decide +kernel
theorem ww104_50 {d : Nat} {l0 l1 l2 l3 l4 l5 l6 : Option mw_V} {x z : Int} {a : Nat} {st : List mw_V} {σ : mw_S} {Q : Option mw_V → mw_S → Prop} : mw_WP d 104 50 [l0, l1, l2, l3, l4, l5, l6] (jI x :: jI z :: jR a :: st) σ Q ↔ ((0 ≤ z ∧ z < mw_lenW 0 a) ∧ mw_WP d 104 51 [l0, l1, l2, l3, l4, l5, l6] st (upS σ a z.toNat x) Q) := WP_iastore mq104 dd104_50
theorem dd104_51 : decode cX9_chosen 51 = .ok (.aload_n 0, 1) := by decide +kernel
theorem ww104_51 {d : Nat} {l1 l2 l3 l4 l5 l6 : Option mw_V} {x : Nat} {st : List mw_V} {σ : mw_S} {Q : Option mw_V → mw_S → Prop} : mw_WP d 104 51 [some (jR x), l1, l2, l3, l4, l5, l6] st σ Q ↔ mw_WP d 104 52 [some (jR x), l1, l2, l3, l4, l5, l6] (jR x :: st) σ Q := WP_aload_n mq104 dd104_51 rfl
theorem dd104_52 : decode cX9_chosen 52 = .ok (.getfield 15, 3) := by decide +kernel
theorem ww104_52 {d : Nat} {l0 l1 l2 l3 l4 l5 l6 : Option mw_V} {st : List mw_V} {σ : mw_S} {Q : Option mw_V → mw_S → Prop} : mw_WP d 104 52 [l0, l1, l2, l3, l4, l5, l6] (jR 22 :: st) σ Q ↔ mw_WP d 104 55 [l0, l1, l2, l3, l4, l5, l6] (jR 24 :: st) σ Q := WP_getR (ci := 8) (k := 7) mq104 dd104_52 (by decide) rfl
theorem dd104_55 : decode cX9_chosen 55 = .ok (.iconst 4, 1) := by decide +kernel
theorem ww104_55 {d : Nat} {l0 l1 l2 l3 l4 l5 l6 : Option mw_V} {st : List mw_V} {σ : mw_S} {Q : Option mw_V → mw_S → Prop} : mw_WP d 104 55 [l0, l1, l2, l3, l4, l5, l6] st σ Q ↔ mw_WP d 104 56 [l0, l1, l2, l3, l4, l5, l6] (jI (4) :: st) σ Q := WP_iconst mq104 dd104_55 (by decide)
theorem dd104_56 : decode cX9_chosen 56 = .ok (.aload_n 0, 1) := by decide +kernel
theorem ww104_56 {d : Nat} {l1 l2 l3 l4 l5 l6 : Option mw_V} {x : Nat} {st : List mw_V} {σ : mw_S} {Q : Option mw_V → mw_S → Prop} : mw_WP d 104 56 [some (jR x), l1, l2, l3, l4, l5, l6] st σ Q ↔ mw_WP d 104 57 [some (jR x), l1, l2, l3, l4, l5, l6] (jR x :: st) σ Q := WP_aload_n mq104 dd104_56 rfl
theorem dd104_57 : decode cX9_chosen 57 = .ok (.aload_n 1, 1) := by decide +kernel
theorem ww104_57 {d : Nat} {l0 l2 l3 l4 l5 l6 : Option mw_V} {x : Nat} {st : List mw_V} {σ : mw_S} {Q : Option mw_V → mw_S → Prop} : mw_WP d 104 57 [l0, some (jR x), l2, l3, l4, l5, l6] st σ Q ↔ mw_WP d 104 58 [l0, some (jR x), l2, l3, l4, l5, l6] (jR x :: st) σ Q := WP_aload_n mq104 dd104_57 rfl
theorem dd104_58 : decode cX9_chosen 58 = .ok (.iload_n 2, 1) := by decide +kernel
theorem ww104_58 {d : Nat} {l0 l1 l3 l4 l5 l6 : Option mw_V} {x : Int} {st : List mw_V} {σ : mw_S} {Q : Option mw_V → mw_S → Prop} : mw_WP d 104 58 [l0, l1, some (jI x), l3, l4, l5, l6] st σ Q ↔ mw_WP d 104 59 [l0, l1, some (jI x), l3, l4, l5, l6] (jI x :: st) σ Q := WP_iload_n mq104 dd104_58 rfl
theorem dd104_59 : decode cX9_chosen 59 = .ok (.iconst 1, 1) := by decide +kernel
theorem ww104_59 {d : Nat} {l0 l1 l2 l3 l4 l5 l6 : Option mw_V} {st : List mw_V} {σ : mw_S} {Q : Option mw_V → mw_S → Prop} : mw_WP d 104 59 [l0, l1, l2, l3, l4, l5, l6] st σ Q ↔ mw_WP d 104 60 [l0, l1, l2, l3, l4, l5, l6] (jI (1) :: st) σ Q := WP_iconst mq104 dd104_59 (by decide)
theorem dd104_60 : decode cX9_chosen 60 = .ok (.invokevirtual 102, 3) := by decide +kernel
theorem ww104_60 {d : Nat} {l0 l1 l2 l3 l4 l5 l6 : Option mw_V} {v0 v1 v2 : mw_V} {a : Nat} {st : List mw_V} {σ : mw_S} {Q : Option mw_V → mw_S → Prop} (hr : mw_rc a = 9) (h8 : (st.map mw_cat).sum ≤ 8) : mw_WP d 104 60 [l0, l1, l2, l3, l4, l5, l6] (v2 :: v1 :: v0 :: jR a :: st) σ Q ↔ mw_Call d 105 [jR a, v0, v1, v2] σ (fun r1 s1 => mw_WP d 104 63 [l0, l1, l2, l3, l4, l5, l6] (r1.toList ++ st) s1 Q) := WP_inv (as := [v2, v1, v0]) mq104 dd104_60 (by decide) mq105 rfl hr h8
theorem dd104_63 : decode cX9_chosen 63 = .ok (.iastore, 1) := by decide +kernel
theorem ww104_63 {d : Nat} {l0 l1 l2 l3 l4 l5 l6 : Option mw_V} {x z : Int} {a : Nat} {st : List mw_V} {σ : mw_S} {Q : Option mw_V → mw_S → Prop} : mw_WP d 104 63 [l0, l1, l2, l3, l4, l5, l6] (jI x :: jI z :: jR a :: st) σ Q ↔ ((0 ≤ z ∧ z < mw_lenW 0 a) ∧ mw_WP d 104 64 [l0, l1, l2, l3, l4, l5, l6] st (upS σ a z.toNat x) Q) := WP_iastore mq104 dd104_63
theorem dd104_64 : decode cX9_chosen 64 = .ok (.aload_n 0, 1) := by decide +kernel
theorem ww104_64 {d : Nat} {l1 l2 l3 l4 l5 l6 : Option mw_V} {x : Nat} {st : List mw_V} {σ : mw_S} {Q : Option mw_V → mw_S → Prop} : mw_WP d 104 64 [some (jR x), l1, l2, l3, l4, l5, l6] st σ Q ↔ mw_WP d 104 65 [some (jR x), l1, l2, l3, l4, l5, l6] (jR x :: st) σ Q := WP_aload_n mq104 dd104_64 rfl
theorem dd104_65 : decode cX9_chosen 65 = .ok (.getfield 15, 3) := by decide +kernel
theorem ww104_65 {d : Nat} {l0 l1 l2 l3 l4 l5 l6 : Option mw_V} {st : List mw_V} {σ : mw_S} {Q : Option mw_V → mw_S → Prop} : mw_WP d 104 65 [l0, l1, l2, l3, l4, l5, l6] (jR 22 :: st) σ Q ↔ mw_WP d 104 68 [l0, l1, l2, l3, l4, l5, l6] (jR 24 :: st) σ Q := WP_getR (ci := 8) (k := 7) mq104 dd104_65 (by decide) rfl
theorem dd104_68 : decode cX9_chosen 68 = .ok (.iconst 5, 1) := by decide +kernel
theorem ww104_68 {d : Nat} {l0 l1 l2 l3 l4 l5 l6 : Option mw_V} {st : List mw_V} {σ : mw_S} {Q : Option mw_V → mw_S → Prop} : mw_WP d 104 68 [l0, l1, l2, l3, l4, l5, l6] st σ Q ↔ mw_WP d 104 69 [l0, l1, l2, l3, l4, l5, l6] (jI (5) :: st) σ Q := WP_iconst mq104 dd104_68 (by decide)
theorem dd104_69 : decode cX9_chosen 69 = .ok (.iload 5, 2) := by decide +kernel
theorem ww104_69 {d : Nat} {l0 l1 l2 l3 l4 l6 : Option mw_V} {x : Int} {st : List mw_V} {σ : mw_S} {Q : Option mw_V → mw_S → Prop} : mw_WP d 104 69 [l0, l1, l2, l3, l4, some (jI x), l6] st σ Q ↔ mw_WP d 104 71 [l0, l1, l2, l3, l4, some (jI x), l6] (jI x :: st) σ Q := WP_iload mq104 dd104_69 rfl
theorem dd104_71 : decode cX9_chosen 71 = .ok (.iastore, 1) := by decide +kernel
theorem ww104_71 {d : Nat} {l0 l1 l2 l3 l4 l5 l6 : Option mw_V} {x z : Int} {a : Nat} {st : List mw_V} {σ : mw_S} {Q : Option mw_V → mw_S → Prop} : mw_WP d 104 71 [l0, l1, l2, l3, l4, l5, l6] (jI x :: jI z :: jR a :: st) σ Q ↔ ((0 ≤ z ∧ z < mw_lenW 0 a) ∧ mw_WP d 104 72 [l0, l1, l2, l3, l4, l5, l6] st (upS σ a z.toNat x) Q) := WP_iastore mq104 dd104_71
theorem dd104_72 : decode cX9_chosen 72 = .ok (.iconst 0, 1) := by decide +kernel
theorem ww104_72 {d : Nat} {l0 l1 l2 l3 l4 l5 l6 : Option mw_V} {st : List mw_V} {σ : mw_S} {Q : Option mw_V → mw_S → Prop} : mw_WP d 104 72 [l0, l1, l2, l3, l4, l5, l6] st σ Q ↔ mw_WP d 104 73 [l0, l1, l2, l3, l4, l5, l6] (jI (0) :: st) σ Q := WP_iconst mq104 dd104_72 (by decide)
theorem dd104_73 : decode cX9_chosen 73 = .ok (.istore 6, 2) := by decide +kernel
theorem ww104_73 {d : Nat} {l0 l1 l2 l3 l4 l5 l6 : Option mw_V} {x : Int} {st : List mw_V} {σ : mw_S} {Q : Option mw_V → mw_S → Prop} (h : mw_nlo l5 = true) : mw_WP d 104 73 [l0, l1, l2, l3, l4, l5, l6] (jI x :: st) σ Q ↔ mw_WP d 104 75 [l0, l1, l2, l3, l4, l5, some (jI x)] st σ Q := WP_istore mq104 dd104_73 (Nat.le_of_ble_eq_true rfl) (mw_nl_of (i := 5) rfl h) rfl
theorem dd104_75 : decode cX9_chosen 75 = .ok (.iload 6, 2) := by decide +kernel
theorem ww104_75 {d : Nat} {l0 l1 l2 l3 l4 l5 : Option mw_V} {x : Int} {st : List mw_V} {σ : mw_S} {Q : Option mw_V → mw_S → Prop} : mw_WP d 104 75 [l0, l1, l2, l3, l4, l5, some (jI x)] st σ Q ↔ mw_WP d 104 77 [l0, l1, l2, l3, l4, l5, some (jI x)] (jI x :: st) σ Q := WP_iload mq104 dd104_75 rfl
theorem dd104_77 : decode cX9_chosen 77 = .ok (.aload_n 0, 1) := by decide +kernel
theorem ww104_77 {d : Nat} {l1 l2 l3 l4 l5 l6 : Option mw_V} {x : Nat} {st : List mw_V} {σ : mw_S} {Q : Option mw_V → mw_S → Prop} : mw_WP d 104 77 [some (jR x), l1, l2, l3, l4, l5, l6] st σ Q ↔ mw_WP d 104 78 [some (jR x), l1, l2, l3, l4, l5, l6] (jR x :: st) σ Q := WP_aload_n mq104 dd104_77 rfl
theorem dd104_78 : decode cX9_chosen 78 = .ok (.getfield 18, 3) := by decide +kernel
theorem ww104_78 {d : Nat} {l0 l1 l2 l3 l4 l5 l6 : Option mw_V} {st : List mw_V} {σ : mw_S} {Q : Option mw_V → mw_S → Prop} : mw_WP d 104 78 [l0, l1, l2, l3, l4, l5, l6] (jR 22 :: st) σ Q ↔ mw_WP d 104 81 [l0, l1, l2, l3, l4, l5, l6] (jR 13 :: st) σ Q := WP_getR (ci := 8) (k := 0) mq104 dd104_78 (by decide) rfl
theorem dd104_81 : decode cX9_chosen 81 = .ok (.getfield 97, 3) := by decide +kernel
theorem ww104_81i3 {d : Nat} {l0 l1 l2 l3 l4 l5 l6 : Option mw_V} {st : List mw_V} {σ : mw_S} {Q : Option mw_V → mw_S → Prop} : mw_WP d 104 81 [l0, l1, l2, l3, l4, l5, l6] (jR 3 :: st) σ Q ↔ mw_WP d 104 84 [l0, l1, l2, l3, l4, l5, l6] (jI (σ 3 3) :: st) σ Q := WP_getI (ci := 0) (k := 3) mq104 dd104_81 (by decide) (Or.inl rfl)
theorem ww104_81i13 {d : Nat} {l0 l1 l2 l3 l4 l5 l6 : Option mw_V} {st : List mw_V} {σ : mw_S} {Q : Option mw_V → mw_S → Prop} : mw_WP d 104 81 [l0, l1, l2, l3, l4, l5, l6] (jR 13 :: st) σ Q ↔ mw_WP d 104 84 [l0, l1, l2, l3, l4, l5, l6] (jI (σ 13 3) :: st) σ Q := WP_getI (ci := 0) (k := 3) mq104 dd104_81 (by decide) (Or.inl rfl)
theorem ww104_81i77 {d : Nat} {l0 l1 l2 l3 l4 l5 l6 : Option mw_V} {st : List mw_V} {σ : mw_S} {Q : Option mw_V → mw_S → Prop} : mw_WP d 104 81 [l0, l1, l2, l3, l4, l5, l6] (jR 77 :: st) σ Q ↔ mw_WP d 104 84 [l0, l1, l2, l3, l4, l5, l6] (jI (σ 77 3) :: st) σ Q := WP_getI (ci := 0) (k := 3) mq104 dd104_81 (by decide) (Or.inl rfl)
theorem ww104_81i88 {d : Nat} {l0 l1 l2 l3 l4 l5 l6 : Option mw_V} {st : List mw_V} {σ : mw_S} {Q : Option mw_V → mw_S → Prop} : mw_WP d 104 81 [l0, l1, l2, l3, l4, l5, l6] (jR 88 :: st) σ Q ↔ mw_WP d 104 84 [l0, l1, l2, l3, l4, l5, l6] (jI (σ 88 3) :: st) σ Q := WP_getI (ci := 0) (k := 3) mq104 dd104_81 (by decide) (Or.inl rfl)
theorem dd104_84 : decode cX9_chosen 84 = .ok (.if_icmp .ge 57, 3) := by decide +kernel
theorem ww104_84 {d : Nat} {l0 l1 l2 l3 l4 l5 l6 : Option mw_V} {x y : Int} {st : List mw_V} {σ : mw_S} {Q : Option mw_V → mw_S → Prop} : mw_WP d 104 84 [l0, l1, l2, l3, l4, l5, l6] (jI y :: jI x :: st) σ Q ↔ (if y ≤ x then mw_WP d 104 141 [l0, l1, l2, l3, l4, l5, l6] st σ Q else mw_WP d 104 87 [l0, l1, l2, l3, l4, l5, l6] st σ Q) := WP_icmp_ge mq104 dd104_84 (by decide)
theorem dd104_87 : decode cX9_chosen 87 = .ok (.aload_n 0, 1) := by decide +kernel
theorem ww104_87 {d : Nat} {l1 l2 l3 l4 l5 l6 : Option mw_V} {x : Nat} {st : List mw_V} {σ : mw_S} {Q : Option mw_V → mw_S → Prop} : mw_WP d 104 87 [some (jR x), l1, l2, l3, l4, l5, l6] st σ Q ↔ mw_WP d 104 88 [some (jR x), l1, l2, l3, l4, l5, l6] (jR x :: st) σ Q := WP_aload_n mq104 dd104_87 rfl
theorem dd104_88 : decode cX9_chosen 88 = .ok (.getfield 18, 3) := by decide +kernel
theorem ww104_88 {d : Nat} {l0 l1 l2 l3 l4 l5 l6 : Option mw_V} {st : List mw_V} {σ : mw_S} {Q : Option mw_V → mw_S → Prop} : mw_WP d 104 88 [l0, l1, l2, l3, l4, l5, l6] (jR 22 :: st) σ Q ↔ mw_WP d 104 91 [l0, l1, l2, l3, l4, l5, l6] (jR 13 :: st) σ Q := WP_getR (ci := 8) (k := 0) mq104 dd104_88 (by decide) rfl
theorem dd104_91 : decode cX9_chosen 91 = .ok (.getfield 105, 3) := by decide +kernel
theorem ww104_91i3 {d : Nat} {l0 l1 l2 l3 l4 l5 l6 : Option mw_V} {st : List mw_V} {σ : mw_S} {Q : Option mw_V → mw_S → Prop} : mw_WP d 104 91 [l0, l1, l2, l3, l4, l5, l6] (jR 3 :: st) σ Q ↔ mw_WP d 104 94 [l0, l1, l2, l3, l4, l5, l6] (jR 7 :: st) σ Q := WP_getR (ci := 0) (k := 10) mq104 dd104_91 (by decide) rfl
theorem ww104_91i13 {d : Nat} {l0 l1 l2 l3 l4 l5 l6 : Option mw_V} {st : List mw_V} {σ : mw_S} {Q : Option mw_V → mw_S → Prop} : mw_WP d 104 91 [l0, l1, l2, l3, l4, l5, l6] (jR 13 :: st) σ Q ↔ mw_WP d 104 94 [l0, l1, l2, l3, l4, l5, l6] (jR 17 :: st) σ Q := WP_getR (ci := 0) (k := 10) mq104 dd104_91 (by decide) rfl
theorem ww104_91i77 {d : Nat} {l0 l1 l2 l3 l4 l5 l6 : Option mw_V} {st : List mw_V} {σ : mw_S} {Q : Option mw_V → mw_S → Prop} : mw_WP d 104 91 [l0, l1, l2, l3, l4, l5, l6] (jR 77 :: st) σ Q ↔ mw_WP d 104 94 [l0, l1, l2, l3, l4, l5, l6] (jR 81 :: st) σ Q := WP_getR (ci := 0) (k := 10) mq104 dd104_91 (by decide) rfl
theorem ww104_91i88 {d : Nat} {l0 l1 l2 l3 l4 l5 l6 : Option mw_V} {st : List mw_V} {σ : mw_S} {Q : Option mw_V → mw_S → Prop} : mw_WP d 104 91 [l0, l1, l2, l3, l4, l5, l6] (jR 88 :: st) σ Q ↔ mw_WP d 104 94 [l0, l1, l2, l3, l4, l5, l6] (jR 92 :: st) σ Q := WP_getR (ci := 0) (k := 10) mq104 dd104_91 (by decide) rfl
theorem dd104_94 : decode cX9_chosen 94 = .ok (.iload 6, 2) := by decide +kernel
theorem ww104_94 {d : Nat} {l0 l1 l2 l3 l4 l5 : Option mw_V} {x : Int} {st : List mw_V} {σ : mw_S} {Q : Option mw_V → mw_S → Prop} : mw_WP d 104 94 [l0, l1, l2, l3, l4, l5, some (jI x)] st σ Q ↔ mw_WP d 104 96 [l0, l1, l2, l3, l4, l5, some (jI x)] (jI x :: st) σ Q := WP_iload mq104 dd104_94 rfl
theorem dd104_96 : decode cX9_chosen 96 = .ok (.iaload, 1) := by decide +kernel
theorem ww104_96 {d : Nat} {l0 l1 l2 l3 l4 l5 l6 : Option mw_V} {z : Int} {a : Nat} {st : List mw_V} {σ : mw_S} {Q : Option mw_V → mw_S → Prop} : mw_WP d 104 96 [l0, l1, l2, l3, l4, l5, l6] (jI z :: jR a :: st) σ Q ↔ ((0 ≤ z ∧ z < mw_lenI a) ∧ mw_WP d 104 97 [l0, l1, l2, l3, l4, l5, l6] (jI (mw_rdI σ a z.toNat) :: st) σ Q) := WP_iaload mq104 dd104_96
theorem dd104_97 : decode cX9_chosen 97 = .ok (.iconst (-1), 1) := by decide +kernel
theorem ww104_97 {d : Nat} {l0 l1 l2 l3 l4 l5 l6 : Option mw_V} {st : List mw_V} {σ : mw_S} {Q : Option mw_V → mw_S → Prop} : mw_WP d 104 97 [l0, l1, l2, l3, l4, l5, l6] st σ Q ↔ mw_WP d 104 98 [l0, l1, l2, l3, l4, l5, l6] (jI (-1) :: st) σ Q := WP_iconst mq104 dd104_97 (by decide)
theorem dd104_98 : decode cX9_chosen 98 = .ok (.if_icmp .eq 17, 3) := by decide +kernel
theorem ww104_98 {d : Nat} {l0 l1 l2 l3 l4 l5 l6 : Option mw_V} {x y : Int} {st : List mw_V} {σ : mw_S} {Q : Option mw_V → mw_S → Prop} : mw_WP d 104 98 [l0, l1, l2, l3, l4, l5, l6] (jI y :: jI x :: st) σ Q ↔ (if x = y then mw_WP d 104 115 [l0, l1, l2, l3, l4, l5, l6] st σ Q else mw_WP d 104 101 [l0, l1, l2, l3, l4, l5, l6] st σ Q) := WP_icmp_eq mq104 dd104_98 (by decide)
theorem dd104_101 : decode cX9_chosen 101 = .ok (.aload_n 0, 1) := by decide +kernel
theorem ww104_101 {d : Nat} {l1 l2 l3 l4 l5 l6 : Option mw_V} {x : Nat} {st : List mw_V} {σ : mw_S} {Q : Option mw_V → mw_S → Prop} : mw_WP d 104 101 [some (jR x), l1, l2, l3, l4, l5, l6] st σ Q ↔ mw_WP d 104 102 [some (jR x), l1, l2, l3, l4, l5, l6] (jR x :: st) σ Q := WP_aload_n mq104 dd104_101 rfl
theorem dd104_102 : decode cX9_chosen 102 = .ok (.getfield 18, 3) := by decide +kernel
theorem ww104_102 {d : Nat} {l0 l1 l2 l3 l4 l5 l6 : Option mw_V} {st : List mw_V} {σ : mw_S} {Q : Option mw_V → mw_S → Prop} : mw_WP d 104 102 [l0, l1, l2, l3, l4, l5, l6] (jR 22 :: st) σ Q ↔ mw_WP d 104 105 [l0, l1, l2, l3, l4, l5, l6] (jR 13 :: st) σ Q := WP_getR (ci := 8) (k := 0) mq104 dd104_102 (by decide) rfl
theorem dd104_105 : decode cX9_chosen 105 = .ok (.getfield 105, 3) := by decide +kernel
theorem ww104_105i3 {d : Nat} {l0 l1 l2 l3 l4 l5 l6 : Option mw_V} {st : List mw_V} {σ : mw_S} {Q : Option mw_V → mw_S → Prop} : mw_WP d 104 105 [l0, l1, l2, l3, l4, l5, l6] (jR 3 :: st) σ Q ↔ mw_WP d 104 108 [l0, l1, l2, l3, l4, l5, l6] (jR 7 :: st) σ Q := WP_getR (ci := 0) (k := 10) mq104 dd104_105 (by decide) rfl
theorem ww104_105i13 {d : Nat} {l0 l1 l2 l3 l4 l5 l6 : Option mw_V} {st : List mw_V} {σ : mw_S} {Q : Option mw_V → mw_S → Prop} : mw_WP d 104 105 [l0, l1, l2, l3, l4, l5, l6] (jR 13 :: st) σ Q ↔ mw_WP d 104 108 [l0, l1, l2, l3, l4, l5, l6] (jR 17 :: st) σ Q := WP_getR (ci := 0) (k := 10) mq104 dd104_105 (by decide) rfl
theorem ww104_105i77 {d : Nat} {l0 l1 l2 l3 l4 l5 l6 : Option mw_V} {st : List mw_V} {σ : mw_S} {Q : Option mw_V → mw_S → Prop} : mw_WP d 104 105 [l0, l1, l2, l3, l4, l5, l6] (jR 77 :: st) σ Q ↔ mw_WP d 104 108 [l0, l1, l2, l3, l4, l5, l6] (jR 81 :: st) σ Q := WP_getR (ci := 0) (k := 10) mq104 dd104_105 (by decide) rfl
theorem ww104_105i88 {d : Nat} {l0 l1 l2 l3 l4 l5 l6 : Option mw_V} {st : List mw_V} {σ : mw_S} {Q : Option mw_V → mw_S → Prop} : mw_WP d 104 105 [l0, l1, l2, l3, l4, l5, l6] (jR 88 :: st) σ Q ↔ mw_WP d 104 108 [l0, l1, l2, l3, l4, l5, l6] (jR 92 :: st) σ Q := WP_getR (ci := 0) (k := 10) mq104 dd104_105 (by decide) rfl
theorem dd104_108 : decode cX9_chosen 108 = .ok (.iload 6, 2) := by decide +kernel
theorem ww104_108 {d : Nat} {l0 l1 l2 l3 l4 l5 : Option mw_V} {x : Int} {st : List mw_V} {σ : mw_S} {Q : Option mw_V → mw_S → Prop} : mw_WP d 104 108 [l0, l1, l2, l3, l4, l5, some (jI x)] st σ Q ↔ mw_WP d 104 110 [l0, l1, l2, l3, l4, l5, some (jI x)] (jI x :: st) σ Q := WP_iload mq104 dd104_108 rfl
theorem dd104_110 : decode cX9_chosen 110 = .ok (.iaload, 1) := by decide +kernel
theorem ww104_110 {d : Nat} {l0 l1 l2 l3 l4 l5 l6 : Option mw_V} {z : Int} {a : Nat} {st : List mw_V} {σ : mw_S} {Q : Option mw_V → mw_S → Prop} : mw_WP d 104 110 [l0, l1, l2, l3, l4, l5, l6] (jI z :: jR a :: st) σ Q ↔ ((0 ≤ z ∧ z < mw_lenI a) ∧ mw_WP d 104 111 [l0, l1, l2, l3, l4, l5, l6] (jI (mw_rdI σ a z.toNat) :: st) σ Q) := WP_iaload mq104 dd104_110
theorem dd104_111 : decode cX9_chosen 111 = .ok (.iload_n 2, 1) := by decide +kernel
theorem ww104_111 {d : Nat} {l0 l1 l3 l4 l5 l6 : Option mw_V} {x : Int} {st : List mw_V} {σ : mw_S} {Q : Option mw_V → mw_S → Prop} : mw_WP d 104 111 [l0, l1, some (jI x), l3, l4, l5, l6] st σ Q ↔ mw_WP d 104 112 [l0, l1, some (jI x), l3, l4, l5, l6] (jI x :: st) σ Q := WP_iload_n mq104 dd104_111 rfl
theorem dd104_112 : decode cX9_chosen 112 = .ok (.if_icmp .ne 23, 3) := by decide +kernel
theorem ww104_112 {d : Nat} {l0 l1 l2 l3 l4 l5 l6 : Option mw_V} {x y : Int} {st : List mw_V} {σ : mw_S} {Q : Option mw_V → mw_S → Prop} : mw_WP d 104 112 [l0, l1, l2, l3, l4, l5, l6] (jI y :: jI x :: st) σ Q ↔ (if ¬ x = y then mw_WP d 104 135 [l0, l1, l2, l3, l4, l5, l6] st σ Q else mw_WP d 104 115 [l0, l1, l2, l3, l4, l5, l6] st σ Q) := WP_icmp_ne mq104 dd104_112 (by decide)
theorem dd104_115 : decode cX9_chosen 115 = .ok (.aload_n 0, 1) := by decide +kernel
theorem ww104_115 {d : Nat} {l1 l2 l3 l4 l5 l6 : Option mw_V} {x : Nat} {st : List mw_V} {σ : mw_S} {Q : Option mw_V → mw_S → Prop} : mw_WP d 104 115 [some (jR x), l1, l2, l3, l4, l5, l6] st σ Q ↔ mw_WP d 104 116 [some (jR x), l1, l2, l3, l4, l5, l6] (jR x :: st) σ Q := WP_aload_n mq104 dd104_115 rfl
theorem dd104_116 : decode cX9_chosen 116 = .ok (.iload 6, 2) := by decide +kernel
theorem ww104_116 {d : Nat} {l0 l1 l2 l3 l4 l5 : Option mw_V} {x : Int} {st : List mw_V} {σ : mw_S} {Q : Option mw_V → mw_S → Prop} : mw_WP d 104 116 [l0, l1, l2, l3, l4, l5, some (jI x)] st σ Q ↔ mw_WP d 104 118 [l0, l1, l2, l3, l4, l5, some (jI x)] (jI x :: st) σ Q := WP_iload mq104 dd104_116 rfl
theorem dd104_118 : decode cX9_chosen 118 = .ok (.invokevirtual 108, 3) := by decide +kernel
theorem ww104_118 {d : Nat} {l0 l1 l2 l3 l4 l5 l6 : Option mw_V} {v0 : mw_V} {a : Nat} {st : List mw_V} {σ : mw_S} {Q : Option mw_V → mw_S → Prop} (hr : mw_rc a = 9) (h8 : (st.map mw_cat).sum ≤ 8) : mw_WP d 104 118 [l0, l1, l2, l3, l4, l5, l6] (v0 :: jR a :: st) σ Q ↔ mw_Call d 106 [jR a, v0] σ (fun r1 s1 => mw_WP d 104 121 [l0, l1, l2, l3, l4, l5, l6] (r1.toList ++ st) s1 Q) := WP_inv (as := [v0]) mq104 dd104_118 (by decide) mq106 rfl hr h8
theorem dd104_121 : decode cX9_chosen 121 = .ok (.ifCond .eq 14, 3) := by decide +kernel
theorem ww104_121 {d : Nat} {l0 l1 l2 l3 l4 l5 l6 : Option mw_V} {x : Int} {st : List mw_V} {σ : mw_S} {Q : Option mw_V → mw_S → Prop} : mw_WP d 104 121 [l0, l1, l2, l3, l4, l5, l6] (jI x :: st) σ Q ↔ (if x = 0 then mw_WP d 104 135 [l0, l1, l2, l3, l4, l5, l6] st σ Q else mw_WP d 104 124 [l0, l1, l2, l3, l4, l5, l6] st σ Q) := WP_if_eq mq104 dd104_121 (by decide)
theorem dd104_124 : decode cX9_chosen 124 = .ok (.aload_n 0, 1) := by decide +kernel
theorem ww104_124 {d : Nat} {l1 l2 l3 l4 l5 l6 : Option mw_V} {x : Nat} {st : List mw_V} {σ : mw_S} {Q : Option mw_V → mw_S → Prop} : mw_WP d 104 124 [some (jR x), l1, l2, l3, l4, l5, l6] st σ Q ↔ mw_WP d 104 125 [some (jR x), l1, l2, l3, l4, l5, l6] (jR x :: st) σ Q := WP_aload_n mq104 dd104_124 rfl
theorem dd104_125 : decode cX9_chosen 125 = .ok (.getfield 18, 3) := by decide +kernel
theorem ww104_125 {d : Nat} {l0 l1 l2 l3 l4 l5 l6 : Option mw_V} {st : List mw_V} {σ : mw_S} {Q : Option mw_V → mw_S → Prop} : mw_WP d 104 125 [l0, l1, l2, l3, l4, l5, l6] (jR 22 :: st) σ Q ↔ mw_WP d 104 128 [l0, l1, l2, l3, l4, l5, l6] (jR 13 :: st) σ Q := WP_getR (ci := 8) (k := 0) mq104 dd104_125 (by decide) rfl
theorem dd104_128 : decode cX9_chosen 128 = .ok (.getfield 112, 3) := by decide +kernel
theorem ww104_128i3 {d : Nat} {l0 l1 l2 l3 l4 l5 l6 : Option mw_V} {st : List mw_V} {σ : mw_S} {Q : Option mw_V → mw_S → Prop} : mw_WP d 104 128 [l0, l1, l2, l3, l4, l5, l6] (jR 3 :: st) σ Q ↔ mw_WP d 104 131 [l0, l1, l2, l3, l4, l5, l6] (jR 10 :: st) σ Q := WP_getR (ci := 0) (k := 13) mq104 dd104_128 (by decide) rfl
theorem ww104_128i13 {d : Nat} {l0 l1 l2 l3 l4 l5 l6 : Option mw_V} {st : List mw_V} {σ : mw_S} {Q : Option mw_V → mw_S → Prop} : mw_WP d 104 128 [l0, l1, l2, l3, l4, l5, l6] (jR 13 :: st) σ Q ↔ mw_WP d 104 131 [l0, l1, l2, l3, l4, l5, l6] (jR 20 :: st) σ Q := WP_getR (ci := 0) (k := 13) mq104 dd104_128 (by decide) rfl
theorem ww104_128i77 {d : Nat} {l0 l1 l2 l3 l4 l5 l6 : Option mw_V} {st : List mw_V} {σ : mw_S} {Q : Option mw_V → mw_S → Prop} : mw_WP d 104 128 [l0, l1, l2, l3, l4, l5, l6] (jR 77 :: st) σ Q ↔ mw_WP d 104 131 [l0, l1, l2, l3, l4, l5, l6] (jR 84 :: st) σ Q := WP_getR (ci := 0) (k := 13) mq104 dd104_128 (by decide) rfl
theorem ww104_128i88 {d : Nat} {l0 l1 l2 l3 l4 l5 l6 : Option mw_V} {st : List mw_V} {σ : mw_S} {Q : Option mw_V → mw_S → Prop} : mw_WP d 104 128 [l0, l1, l2, l3, l4, l5, l6] (jR 88 :: st) σ Q ↔ mw_WP d 104 131 [l0, l1, l2, l3, l4, l5, l6] (jR 95 :: st) σ Q := WP_getR (ci := 0) (k := 13) mq104 dd104_128 (by decide) rfl
theorem dd104_131 : decode cX9_chosen 131 = .ok (.iload 6, 2) := by decide +kernel
theorem ww104_131 {d : Nat} {l0 l1 l2 l3 l4 l5 : Option mw_V} {x : Int} {st : List mw_V} {σ : mw_S} {Q : Option mw_V → mw_S → Prop} : mw_WP d 104 131 [l0, l1, l2, l3, l4, l5, some (jI x)] st σ Q ↔ mw_WP d 104 133 [l0, l1, l2, l3, l4, l5, some (jI x)] (jI x :: st) σ Q := WP_iload mq104 dd104_131 rfl
theorem dd104_133 : decode cX9_chosen 133 = .ok (.iaload, 1) := by decide +kernel
theorem ww104_133 {d : Nat} {l0 l1 l2 l3 l4 l5 l6 : Option mw_V} {z : Int} {a : Nat} {st : List mw_V} {σ : mw_S} {Q : Option mw_V → mw_S → Prop} : mw_WP d 104 133 [l0, l1, l2, l3, l4, l5, l6] (jI z :: jR a :: st) σ Q ↔ ((0 ≤ z ∧ z < mw_lenI a) ∧ mw_WP d 104 134 [l0, l1, l2, l3, l4, l5, l6] (jI (mw_rdI σ a z.toNat) :: st) σ Q) := WP_iaload mq104 dd104_133
theorem dd104_134 : decode cX9_chosen 134 = .ok (.ireturn, 1) := by decide +kernel
theorem ww104_134 {d : Nat} {l0 l1 l2 l3 l4 l5 l6 : Option mw_V} {z : Int} {σ : mw_S} {Q : Option mw_V → mw_S → Prop} : mw_WP d 104 134 [l0, l1, l2, l3, l4, l5, l6] [jI z] σ Q ↔ Q (some (jI z)) σ := WP_ireturn (ty := .int) mq104 dd104_134 rfl rfl
theorem dd104_135 : decode cX9_chosen 135 = .ok (.iinc 6 1, 3) := by decide +kernel
theorem ww104_135 {d : Nat} {l0 l1 l2 l3 l4 l5 : Option mw_V} {x : Int} {st : List mw_V} {σ : mw_S} {Q : Option mw_V → mw_S → Prop} (h : mw_nlo l5 = true) : mw_WP d 104 135 [l0, l1, l2, l3, l4, l5, some (jI x)] st σ Q ↔ mw_WP d 104 138 [l0, l1, l2, l3, l4, l5, some (jI (w32 (x + (1))))] st σ Q := WP_iinc mq104 dd104_135 rfl (Nat.le_of_ble_eq_true rfl) (mw_nl_of (i := 5) rfl h) rfl
theorem dd104_138 : decode cX9_chosen 138 = .ok (.goto (-63), 3) := by decide +kernel
theorem ww104_138 {d : Nat} {l0 l1 l2 l3 l4 l5 l6 : Option mw_V} {st : List mw_V} {σ : mw_S} {Q : Option mw_V → mw_S → Prop} : mw_WP d 104 138 [l0, l1, l2, l3, l4, l5, l6] st σ Q ↔ mw_WP d 104 75 [l0, l1, l2, l3, l4, l5, l6] st σ Q := WP_goto mq104 dd104_138 (by decide)
theorem dd104_141 : decode cX9_chosen 141 = .ok (.iload_n 3, 1) := by decide +kernel
theorem ww104_141 {d : Nat} {l0 l1 l2 l4 l5 l6 : Option mw_V} {x : Int} {st : List mw_V} {σ : mw_S} {Q : Option mw_V → mw_S → Prop} : mw_WP d 104 141 [l0, l1, l2, some (jI x), l4, l5, l6] st σ Q ↔ mw_WP d 104 142 [l0, l1, l2, some (jI x), l4, l5, l6] (jI x :: st) σ Q := WP_iload_n mq104 dd104_141 rfl
theorem dd104_142 : decode cX9_chosen 142 = .ok (.ireturn, 1) := by decide +kernel
theorem ww104_142 {d : Nat} {l0 l1 l2 l3 l4 l5 l6 : Option mw_V} {z : Int} {σ : mw_S} {Q : Option mw_V → mw_S → Prop} : mw_WP d 104 142 [l0, l1, l2, l3, l4, l5, l6] [jI z] σ Q ↔ Q (some (jI z)) σ := WP_ireturn (ty := .int) mq104 dd104_142 rfl rfl
theorem ee105 {d : Nat} {a : Nat} {a0 : Nat} {z1 : Int} {z2 : Int} {σ : mw_S} {Q : Option mw_V → mw_S → Prop} : mw_Call (d + 1) 105 [jR a, jR a0, jI z1, jI z2] σ Q ↔ mw_WP d 105 0 [some (jR a), some (jR a0), some (jI z1), some (jI z2)] [] σ Q := CL_u mq105 (Nat.le_of_ble_eq_true rfl) rfl
theorem dd105_0 : decode cX9_holds 0 = .ok (.aload_n 0, 1) := by decide +kernel
theorem ww105_0 {d : Nat} {l1 l2 l3 : Option mw_V} {x : Nat} {st : List mw_V} {σ : mw_S} {Q : Option mw_V → mw_S → Prop} : mw_WP d 105 0 [some (jR x), l1, l2, l3] st σ Q ↔ mw_WP d 105 1 [some (jR x), l1, l2, l3] (jR x :: st) σ Q := WP_aload_n mq105 dd105_0 rfl
theorem dd105_1 : decode cX9_holds 1 = .ok (.aload_n 1, 1) := by decide +kernel
theorem ww105_1 {d : Nat} {l0 l2 l3 : Option mw_V} {x : Nat} {st : List mw_V} {σ : mw_S} {Q : Option mw_V → mw_S → Prop} : mw_WP d 105 1 [l0, some (jR x), l2, l3] st σ Q ↔ mw_WP d 105 2 [l0, some (jR x), l2, l3] (jR x :: st) σ Q := WP_aload_n mq105 dd105_1 rfl
theorem dd105_2 : decode cX9_holds 2 = .ok (.aload_n 0, 1) := by decide +kernel
theorem ww105_2 {d : Nat} {l1 l2 l3 : Option mw_V} {x : Nat} {st : List mw_V} {σ : mw_S} {Q : Option mw_V → mw_S → Prop} : mw_WP d 105 2 [some (jR x), l1, l2, l3] st σ Q ↔ mw_WP d 105 3 [some (jR x), l1, l2, l3] (jR x :: st) σ Q := WP_aload_n mq105 dd105_2 rfl
theorem dd105_3 : decode cX9_holds 3 = .ok (.iconst 3, 1) := by decide +kernel
theorem ww105_3 {d : Nat} {l0 l1 l2 l3 : Option mw_V} {st : List mw_V} {σ : mw_S} {Q : Option mw_V → mw_S → Prop} : mw_WP d 105 3 [l0, l1, l2, l3] st σ Q ↔ mw_WP d 105 4 [l0, l1, l2, l3] (jI (3) :: st) σ Q := WP_iconst mq105 dd105_3 (by decide)
theorem dd105_4 : decode cX9_holds 4 = .ok (.iload_n 2, 1) := by decide +kernel
theorem ww105_4 {d : Nat} {l0 l1 l3 : Option mw_V} {x : Int} {st : List mw_V} {σ : mw_S} {Q : Option mw_V → mw_S → Prop} : mw_WP d 105 4 [l0, l1, some (jI x), l3] st σ Q ↔ mw_WP d 105 5 [l0, l1, some (jI x), l3] (jI x :: st) σ Q := WP_iload_n mq105 dd105_4 rfl
theorem dd105_5 : decode cX9_holds 5 = .ok (.iadd, 1) := by decide +kernel
theorem ww105_5 {d : Nat} {l0 l1 l2 l3 : Option mw_V} {x y : Int} {st : List mw_V} {σ : mw_S} {Q : Option mw_V → mw_S → Prop} : mw_WP d 105 5 [l0, l1, l2, l3] (jI y :: jI x :: st) σ Q ↔ mw_WP d 105 6 [l0, l1, l2, l3] (jI (w32 (x + y)) :: st) σ Q := WP_iadd mq105 dd105_5
theorem dd105_6 : decode cX9_holds 6 = .ok (.iload_n 3, 1) := by decide +kernel
theorem ww105_6 {d : Nat} {l0 l1 l2 : Option mw_V} {x : Int} {st : List mw_V} {σ : mw_S} {Q : Option mw_V → mw_S → Prop} : mw_WP d 105 6 [l0, l1, l2, some (jI x)] st σ Q ↔ mw_WP d 105 7 [l0, l1, l2, some (jI x)] (jI x :: st) σ Q := WP_iload_n mq105 dd105_6 rfl
theorem dd105_7 : decode cX9_holds 7 = .ok (.invokevirtual 75, 3) := by decide +kernel
theorem ww105_7 {d : Nat} {l0 l1 l2 l3 : Option mw_V} {v0 v1 : mw_V} {a : Nat} {st : List mw_V} {σ : mw_S} {Q : Option mw_V → mw_S → Prop} (hr : mw_rc a = 9) (h8 : (st.map mw_cat).sum ≤ 8) : mw_WP d 105 7 [l0, l1, l2, l3] (v1 :: v0 :: jR a :: st) σ Q ↔ mw_Call d 96 [jR a, v0, v1] σ (fun r1 s1 => mw_WP d 105 10 [l0, l1, l2, l3] (r1.toList ++ st) s1 Q) := WP_inv (as := [v1, v0]) mq105 dd105_7 (by decide) mq96 rfl hr h8
theorem dd105_10 : decode cX9_holds 10 = .ok (.invokevirtual 78, 3) := by decide +kernel
theorem ww105_10 {d : Nat} {l0 l1 l2 l3 : Option mw_V} {v0 v1 : mw_V} {a : Nat} {st : List mw_V} {σ : mw_S} {Q : Option mw_V → mw_S → Prop} (hr : mw_rc a = 9) (h8 : (st.map mw_cat).sum ≤ 8) : mw_WP d 105 10 [l0, l1, l2, l3] (v1 :: v0 :: jR a :: st) σ Q ↔ mw_Call d 97 [jR a, v0, v1] σ (fun r1 s1 => mw_WP d 105 13 [l0, l1, l2, l3] (r1.toList ++ st) s1 Q) := WP_inv (as := [v1, v0]) mq105 dd105_10 (by decide) mq97 rfl hr h8
theorem dd105_13 : decode cX9_holds 13 = .ok (.iconst (-1), 1) := by decide +kernel
theorem ww105_13 {d : Nat} {l0 l1 l2 l3 : Option mw_V} {st : List mw_V} {σ : mw_S} {Q : Option mw_V → mw_S → Prop} : mw_WP d 105 13 [l0, l1, l2, l3] st σ Q ↔ mw_WP d 105 14 [l0, l1, l2, l3] (jI (-1) :: st) σ Q := WP_iconst mq105 dd105_13 (by decide)
theorem dd105_14 : decode cX9_holds 14 = .ok (.if_icmp .ne 7, 3) := by decide +kernel
theorem ww105_14 {d : Nat} {l0 l1 l2 l3 : Option mw_V} {x y : Int} {st : List mw_V} {σ : mw_S} {Q : Option mw_V → mw_S → Prop} : mw_WP d 105 14 [l0, l1, l2, l3] (jI y :: jI x :: st) σ Q ↔ (if ¬ x = y then mw_WP d 105 21 [l0, l1, l2, l3] st σ Q else mw_WP d 105 17 [l0, l1, l2, l3] st σ Q) := WP_icmp_ne mq105 dd105_14 (by decide)
theorem dd105_17 : decode cX9_holds 17 = .ok (.iconst 0, 1) := by decide +kernel
theorem ww105_17 {d : Nat} {l0 l1 l2 l3 : Option mw_V} {st : List mw_V} {σ : mw_S} {Q : Option mw_V → mw_S → Prop} : mw_WP d 105 17 [l0, l1, l2, l3] st σ Q ↔ mw_WP d 105 18 [l0, l1, l2, l3] (jI (0) :: st) σ Q := WP_iconst mq105 dd105_17 (by decide)
theorem dd105_18 : decode cX9_holds 18 = .ok (.goto 4, 3) := by decide +kernel
theorem ww105_18 {d : Nat} {l0 l1 l2 l3 : Option mw_V} {st : List mw_V} {σ : mw_S} {Q : Option mw_V → mw_S → Prop} : mw_WP d 105 18 [l0, l1, l2, l3] st σ Q ↔ mw_WP d 105 22 [l0, l1, l2, l3] st σ Q := WP_goto mq105 dd105_18 (by decide)
theorem dd105_21 : decode cX9_holds 21 = .ok (.iconst 1, 1) := by decide +kernel
theorem ww105_21 {d : Nat} {l0 l1 l2 l3 : Option mw_V} {st : List mw_V} {σ : mw_S} {Q : Option mw_V → mw_S → Prop} : mw_WP d 105 21 [l0, l1, l2, l3] st σ Q ↔ mw_WP d 105 22 [l0, l1, l2, l3] (jI (1) :: st) σ Q := WP_iconst mq105 dd105_21 (by decide)
theorem dd105_22 : decode cX9_holds 22 = .ok (.ireturn, 1) := by decide +kernel
theorem ww105_22 {d : Nat} {l0 l1 l2 l3 : Option mw_V} {z : Int} {σ : mw_S} {Q : Option mw_V → mw_S → Prop} : mw_WP d 105 22 [l0, l1, l2, l3] [jI z] σ Q ↔ Q (some (jI z)) σ := WP_ireturn (ty := .int) mq105 dd105_22 rfl rfl
theorem ee106 {d : Nat} {a : Nat} {z0 : Int} {σ : mw_S} {Q : Option mw_V → mw_S → Prop} : mw_Call (d + 1) 106 [jR a, jI z0] σ Q ↔ mw_WP d 106 0 [some (jR a), some (jI z0), none, none, none] [] σ Q := CL_u mq106 (Nat.le_of_ble_eq_true rfl) rfl
theorem dd106_0 : decode cX9_isTrue 0 = .ok (.iconst 0, 1) := by decide +kernel
theorem ww106_0 {d : Nat} {l0 l1 l2 l3 l4 : Option mw_V} {st : List mw_V} {σ : mw_S} {Q : Option mw_V → mw_S → Prop} : mw_WP d 106 0 [l0, l1, l2, l3, l4] st σ Q ↔ mw_WP d 106 1 [l0, l1, l2, l3, l4] (jI (0) :: st) σ Q := WP_iconst mq106 dd106_0 (by decide)
theorem dd106_1 : decode cX9_isTrue 1 = .ok (.istore_n 2, 1) := by decide +kernel
theorem ww106_1 {d : Nat} {l0 l1 l2 l3 l4 : Option mw_V} {x : Int} {st : List mw_V} {σ : mw_S} {Q : Option mw_V → mw_S → Prop} (h : mw_nlo l1 = true) : mw_WP d 106 1 [l0, l1, l2, l3, l4] (jI x :: st) σ Q ↔ mw_WP d 106 2 [l0, l1, some (jI x), l3, l4] st σ Q := WP_istore_n mq106 dd106_1 (Nat.le_of_ble_eq_true rfl) (mw_nl_of (i := 1) rfl h) rfl
theorem dd106_2 : decode cX9_isTrue 2 = .ok (.aload_n 0, 1) := by decide +kernel
theorem ww106_2 {d : Nat} {l1 l2 l3 l4 : Option mw_V} {x : Nat} {st : List mw_V} {σ : mw_S} {Q : Option mw_V → mw_S → Prop} : mw_WP d 106 2 [some (jR x), l1, l2, l3, l4] st σ Q ↔ mw_WP d 106 3 [some (jR x), l1, l2, l3, l4] (jR x :: st) σ Q := WP_aload_n mq106 dd106_2 rfl
theorem dd106_3 : decode cX9_isTrue 3 = .ok (.getfield 18, 3) := by decide +kernel
theorem ww106_3 {d : Nat} {l0 l1 l2 l3 l4 : Option mw_V} {st : List mw_V} {σ : mw_S} {Q : Option mw_V → mw_S → Prop} : mw_WP d 106 3 [l0, l1, l2, l3, l4] (jR 22 :: st) σ Q ↔ mw_WP d 106 6 [l0, l1, l2, l3, l4] (jR 13 :: st) σ Q := WP_getR (ci := 8) (k := 0) mq106 dd106_3 (by decide) rfl
theorem dd106_6 : decode cX9_isTrue 6 = .ok (.getfield 115, 3) := by decide +kernel
theorem ww106_6i3 {d : Nat} {l0 l1 l2 l3 l4 : Option mw_V} {st : List mw_V} {σ : mw_S} {Q : Option mw_V → mw_S → Prop} : mw_WP d 106 6 [l0, l1, l2, l3, l4] (jR 3 :: st) σ Q ↔ mw_WP d 106 9 [l0, l1, l2, l3, l4] (jR 8 :: st) σ Q := WP_getR (ci := 0) (k := 11) mq106 dd106_6 (by decide) rfl
theorem ww106_6i13 {d : Nat} {l0 l1 l2 l3 l4 : Option mw_V} {st : List mw_V} {σ : mw_S} {Q : Option mw_V → mw_S → Prop} : mw_WP d 106 6 [l0, l1, l2, l3, l4] (jR 13 :: st) σ Q ↔ mw_WP d 106 9 [l0, l1, l2, l3, l4] (jR 18 :: st) σ Q := WP_getR (ci := 0) (k := 11) mq106 dd106_6 (by decide) rfl
theorem ww106_6i77 {d : Nat} {l0 l1 l2 l3 l4 : Option mw_V} {st : List mw_V} {σ : mw_S} {Q : Option mw_V → mw_S → Prop} : mw_WP d 106 6 [l0, l1, l2, l3, l4] (jR 77 :: st) σ Q ↔ mw_WP d 106 9 [l0, l1, l2, l3, l4] (jR 82 :: st) σ Q := WP_getR (ci := 0) (k := 11) mq106 dd106_6 (by decide) rfl
theorem ww106_6i88 {d : Nat} {l0 l1 l2 l3 l4 : Option mw_V} {st : List mw_V} {σ : mw_S} {Q : Option mw_V → mw_S → Prop} : mw_WP d 106 6 [l0, l1, l2, l3, l4] (jR 88 :: st) σ Q ↔ mw_WP d 106 9 [l0, l1, l2, l3, l4] (jR 93 :: st) σ Q := WP_getR (ci := 0) (k := 11) mq106 dd106_6 (by decide) rfl
theorem dd106_9 : decode cX9_isTrue 9 = .ok (.iload_n 1, 1) := by decide +kernel
theorem ww106_9 {d : Nat} {l0 l2 l3 l4 : Option mw_V} {x : Int} {st : List mw_V} {σ : mw_S} {Q : Option mw_V → mw_S → Prop} : mw_WP d 106 9 [l0, some (jI x), l2, l3, l4] st σ Q ↔ mw_WP d 106 10 [l0, some (jI x), l2, l3, l4] (jI x :: st) σ Q := WP_iload_n mq106 dd106_9 rfl
theorem dd106_10 : decode cX9_isTrue 10 = .ok (.iaload, 1) := by decide +kernel
theorem ww106_10 {d : Nat} {l0 l1 l2 l3 l4 : Option mw_V} {z : Int} {a : Nat} {st : List mw_V} {σ : mw_S} {Q : Option mw_V → mw_S → Prop} : mw_WP d 106 10 [l0, l1, l2, l3, l4] (jI z :: jR a :: st) σ Q ↔ ((0 ≤ z ∧ z < mw_lenI a) ∧ mw_WP d 106 11 [l0, l1, l2, l3, l4] (jI (mw_rdI σ a z.toNat) :: st) σ Q) := WP_iaload mq106 dd106_10
theorem dd106_11 : decode cX9_isTrue 11 = .ok (.istore_n 3, 1) := by decide +kernel
theorem ww106_11 {d : Nat} {l0 l1 l2 l3 l4 : Option mw_V} {x : Int} {st : List mw_V} {σ : mw_S} {Q : Option mw_V → mw_S → Prop} (h : mw_nlo l2 = true) : mw_WP d 106 11 [l0, l1, l2, l3, l4] (jI x :: st) σ Q ↔ mw_WP d 106 12 [l0, l1, l2, some (jI x), l4] st σ Q := WP_istore_n mq106 dd106_11 (Nat.le_of_ble_eq_true rfl) (mw_nl_of (i := 2) rfl h) rfl
theorem dd106_12 : decode cX9_isTrue 12 = .ok (.iload_n 3, 1) := by decide +kernel
theorem ww106_12 {d : Nat} {l0 l1 l2 l4 : Option mw_V} {x : Int} {st : List mw_V} {σ : mw_S} {Q : Option mw_V → mw_S → Prop} : mw_WP d 106 12 [l0, l1, l2, some (jI x), l4] st σ Q ↔ mw_WP d 106 13 [l0, l1, l2, some (jI x), l4] (jI x :: st) σ Q := WP_iload_n mq106 dd106_12 rfl
theorem dd106_13 : decode cX9_isTrue 13 = .ok (.aload_n 0, 1) := by decide +kernel
theorem ww106_13 {d : Nat} {l1 l2 l3 l4 : Option mw_V} {x : Nat} {st : List mw_V} {σ : mw_S} {Q : Option mw_V → mw_S → Prop} : mw_WP d 106 13 [some (jR x), l1, l2, l3, l4] st σ Q ↔ mw_WP d 106 14 [some (jR x), l1, l2, l3, l4] (jR x :: st) σ Q := WP_aload_n mq106 dd106_13 rfl
theorem dd106_14 : decode cX9_isTrue 14 = .ok (.getfield 18, 3) := by decide +kernel
theorem ww106_14 {d : Nat} {l0 l1 l2 l3 l4 : Option mw_V} {st : List mw_V} {σ : mw_S} {Q : Option mw_V → mw_S → Prop} : mw_WP d 106 14 [l0, l1, l2, l3, l4] (jR 22 :: st) σ Q ↔ mw_WP d 106 17 [l0, l1, l2, l3, l4] (jR 13 :: st) σ Q := WP_getR (ci := 8) (k := 0) mq106 dd106_14 (by decide) rfl
theorem dd106_17 : decode cX9_isTrue 17 = .ok (.getfield 118, 3) := by decide +kernel
theorem ww106_17i3 {d : Nat} {l0 l1 l2 l3 l4 : Option mw_V} {st : List mw_V} {σ : mw_S} {Q : Option mw_V → mw_S → Prop} : mw_WP d 106 17 [l0, l1, l2, l3, l4] (jR 3 :: st) σ Q ↔ mw_WP d 106 20 [l0, l1, l2, l3, l4] (jR 9 :: st) σ Q := WP_getR (ci := 0) (k := 12) mq106 dd106_17 (by decide) rfl
theorem ww106_17i13 {d : Nat} {l0 l1 l2 l3 l4 : Option mw_V} {st : List mw_V} {σ : mw_S} {Q : Option mw_V → mw_S → Prop} : mw_WP d 106 17 [l0, l1, l2, l3, l4] (jR 13 :: st) σ Q ↔ mw_WP d 106 20 [l0, l1, l2, l3, l4] (jR 19 :: st) σ Q := WP_getR (ci := 0) (k := 12) mq106 dd106_17 (by decide) rfl
theorem ww106_17i77 {d : Nat} {l0 l1 l2 l3 l4 : Option mw_V} {st : List mw_V} {σ : mw_S} {Q : Option mw_V → mw_S → Prop} : mw_WP d 106 17 [l0, l1, l2, l3, l4] (jR 77 :: st) σ Q ↔ mw_WP d 106 20 [l0, l1, l2, l3, l4] (jR 83 :: st) σ Q := WP_getR (ci := 0) (k := 12) mq106 dd106_17 (by decide) rfl
theorem ww106_17i88 {d : Nat} {l0 l1 l2 l3 l4 : Option mw_V} {st : List mw_V} {σ : mw_S} {Q : Option mw_V → mw_S → Prop} : mw_WP d 106 17 [l0, l1, l2, l3, l4] (jR 88 :: st) σ Q ↔ mw_WP d 106 20 [l0, l1, l2, l3, l4] (jR 94 :: st) σ Q := WP_getR (ci := 0) (k := 12) mq106 dd106_17 (by decide) rfl
theorem dd106_20 : decode cX9_isTrue 20 = .ok (.iload_n 1, 1) := by decide +kernel
theorem ww106_20 {d : Nat} {l0 l2 l3 l4 : Option mw_V} {x : Int} {st : List mw_V} {σ : mw_S} {Q : Option mw_V → mw_S → Prop} : mw_WP d 106 20 [l0, some (jI x), l2, l3, l4] st σ Q ↔ mw_WP d 106 21 [l0, some (jI x), l2, l3, l4] (jI x :: st) σ Q := WP_iload_n mq106 dd106_20 rfl
theorem dd106_21 : decode cX9_isTrue 21 = .ok (.iaload, 1) := by decide +kernel
theorem ww106_21 {d : Nat} {l0 l1 l2 l3 l4 : Option mw_V} {z : Int} {a : Nat} {st : List mw_V} {σ : mw_S} {Q : Option mw_V → mw_S → Prop} : mw_WP d 106 21 [l0, l1, l2, l3, l4] (jI z :: jR a :: st) σ Q ↔ ((0 ≤ z ∧ z < mw_lenI a) ∧ mw_WP d 106 22 [l0, l1, l2, l3, l4] (jI (mw_rdI σ a z.toNat) :: st) σ Q) := WP_iaload mq106 dd106_21
theorem dd106_22 : decode cX9_isTrue 22 = .ok (.if_icmp .ge 148, 3) := by decide +kernel
theorem ww106_22 {d : Nat} {l0 l1 l2 l3 l4 : Option mw_V} {x y : Int} {st : List mw_V} {σ : mw_S} {Q : Option mw_V → mw_S → Prop} : mw_WP d 106 22 [l0, l1, l2, l3, l4] (jI y :: jI x :: st) σ Q ↔ (if y ≤ x then mw_WP d 106 170 [l0, l1, l2, l3, l4] st σ Q else mw_WP d 106 25 [l0, l1, l2, l3, l4] st σ Q) := WP_icmp_ge mq106 dd106_22 (by decide)
theorem dd106_25 : decode cX9_isTrue 25 = .ok (.aload_n 0, 1) := by decide +kernel
theorem ww106_25 {d : Nat} {l1 l2 l3 l4 : Option mw_V} {x : Nat} {st : List mw_V} {σ : mw_S} {Q : Option mw_V → mw_S → Prop} : mw_WP d 106 25 [some (jR x), l1, l2, l3, l4] st σ Q ↔ mw_WP d 106 26 [some (jR x), l1, l2, l3, l4] (jR x :: st) σ Q := WP_aload_n mq106 dd106_25 rfl
theorem dd106_26 : decode cX9_isTrue 26 = .ok (.getfield 18, 3) := by decide +kernel
theorem ww106_26 {d : Nat} {l0 l1 l2 l3 l4 : Option mw_V} {st : List mw_V} {σ : mw_S} {Q : Option mw_V → mw_S → Prop} : mw_WP d 106 26 [l0, l1, l2, l3, l4] (jR 22 :: st) σ Q ↔ mw_WP d 106 29 [l0, l1, l2, l3, l4] (jR 13 :: st) σ Q := WP_getR (ci := 8) (k := 0) mq106 dd106_26 (by decide) rfl
theorem dd106_29 : decode cX9_isTrue 29 = .ok (.getfield 121, 3) := by decide +kernel
theorem ww106_29i3 {d : Nat} {l0 l1 l2 l3 l4 : Option mw_V} {st : List mw_V} {σ : mw_S} {Q : Option mw_V → mw_S → Prop} : mw_WP d 106 29 [l0, l1, l2, l3, l4] (jR 3 :: st) σ Q ↔ mw_WP d 106 32 [l0, l1, l2, l3, l4] (jR 11 :: st) σ Q := WP_getR (ci := 0) (k := 14) mq106 dd106_29 (by decide) rfl
theorem ww106_29i13 {d : Nat} {l0 l1 l2 l3 l4 : Option mw_V} {st : List mw_V} {σ : mw_S} {Q : Option mw_V → mw_S → Prop} : mw_WP d 106 29 [l0, l1, l2, l3, l4] (jR 13 :: st) σ Q ↔ mw_WP d 106 32 [l0, l1, l2, l3, l4] (jR 21 :: st) σ Q := WP_getR (ci := 0) (k := 14) mq106 dd106_29 (by decide) rfl
theorem ww106_29i77 {d : Nat} {l0 l1 l2 l3 l4 : Option mw_V} {st : List mw_V} {σ : mw_S} {Q : Option mw_V → mw_S → Prop} : mw_WP d 106 29 [l0, l1, l2, l3, l4] (jR 77 :: st) σ Q ↔ mw_WP d 106 32 [l0, l1, l2, l3, l4] (jR 85 :: st) σ Q := WP_getR (ci := 0) (k := 14) mq106 dd106_29 (by decide) rfl
theorem ww106_29i88 {d : Nat} {l0 l1 l2 l3 l4 : Option mw_V} {st : List mw_V} {σ : mw_S} {Q : Option mw_V → mw_S → Prop} : mw_WP d 106 29 [l0, l1, l2, l3, l4] (jR 88 :: st) σ Q ↔ mw_WP d 106 32 [l0, l1, l2, l3, l4] (jR 96 :: st) σ Q := WP_getR (ci := 0) (k := 14) mq106 dd106_29 (by decide) rfl
theorem dd106_32 : decode cX9_isTrue 32 = .ok (.iload_n 3, 1) := by decide +kernel
theorem ww106_32 {d : Nat} {l0 l1 l2 l4 : Option mw_V} {x : Int} {st : List mw_V} {σ : mw_S} {Q : Option mw_V → mw_S → Prop} : mw_WP d 106 32 [l0, l1, l2, some (jI x), l4] st σ Q ↔ mw_WP d 106 33 [l0, l1, l2, some (jI x), l4] (jI x :: st) σ Q := WP_iload_n mq106 dd106_32 rfl
theorem dd106_33 : decode cX9_isTrue 33 = .ok (.iaload, 1) := by decide +kernel
theorem ww106_33 {d : Nat} {l0 l1 l2 l3 l4 : Option mw_V} {z : Int} {a : Nat} {st : List mw_V} {σ : mw_S} {Q : Option mw_V → mw_S → Prop} : mw_WP d 106 33 [l0, l1, l2, l3, l4] (jI z :: jR a :: st) σ Q ↔ ((0 ≤ z ∧ z < mw_lenI a) ∧ mw_WP d 106 34 [l0, l1, l2, l3, l4] (jI (mw_rdI σ a z.toNat) :: st) σ Q) := WP_iaload mq106 dd106_33
theorem dd106_34 : decode cX9_isTrue 34 = .ok (.istore 4, 2) := by decide +kernel
theorem ww106_34 {d : Nat} {l0 l1 l2 l3 l4 : Option mw_V} {x : Int} {st : List mw_V} {σ : mw_S} {Q : Option mw_V → mw_S → Prop} (h : mw_nlo l3 = true) : mw_WP d 106 34 [l0, l1, l2, l3, l4] (jI x :: st) σ Q ↔ mw_WP d 106 36 [l0, l1, l2, l3, some (jI x)] st σ Q := WP_istore mq106 dd106_34 (Nat.le_of_ble_eq_true rfl) (mw_nl_of (i := 3) rfl h) rfl
theorem dd106_36 : decode cX9_isTrue 36 = .ok (.iload 4, 2) := by decide +kernel
theorem ww106_36 {d : Nat} {l0 l1 l2 l3 : Option mw_V} {x : Int} {st : List mw_V} {σ : mw_S} {Q : Option mw_V → mw_S → Prop} : mw_WP d 106 36 [l0, l1, l2, l3, some (jI x)] st σ Q ↔ mw_WP d 106 38 [l0, l1, l2, l3, some (jI x)] (jI x :: st) σ Q := WP_iload mq106 dd106_36 rfl
theorem dd106_38 : decode cX9_isTrue 38 = .ok (.sipush 1010, 3) := by decide +kernel
theorem ww106_38 {d : Nat} {l0 l1 l2 l3 l4 : Option mw_V} {st : List mw_V} {σ : mw_S} {Q : Option mw_V → mw_S → Prop} : mw_WP d 106 38 [l0, l1, l2, l3, l4] st σ Q ↔ mw_WP d 106 41 [l0, l1, l2, l3, l4] (jI (1010) :: st) σ Q := WP_sipush mq106 dd106_38 (by decide)
theorem dd106_41 : decode cX9_isTrue 41 = .ok (.if_icmp .ge 47, 3) := by decide +kernel
theorem ww106_41 {d : Nat} {l0 l1 l2 l3 l4 : Option mw_V} {x y : Int} {st : List mw_V} {σ : mw_S} {Q : Option mw_V → mw_S → Prop} : mw_WP d 106 41 [l0, l1, l2, l3, l4] (jI y :: jI x :: st) σ Q ↔ (if y ≤ x then mw_WP d 106 88 [l0, l1, l2, l3, l4] st σ Q else mw_WP d 106 44 [l0, l1, l2, l3, l4] st σ Q) := WP_icmp_ge mq106 dd106_41 (by decide)
theorem dd106_44 : decode cX9_isTrue 44 = .ok (.iload_n 2, 1) := by decide +kernel
theorem ww106_44 {d : Nat} {l0 l1 l3 l4 : Option mw_V} {x : Int} {st : List mw_V} {σ : mw_S} {Q : Option mw_V → mw_S → Prop} : mw_WP d 106 44 [l0, l1, some (jI x), l3, l4] st σ Q ↔ mw_WP d 106 45 [l0, l1, some (jI x), l3, l4] (jI x :: st) σ Q := WP_iload_n mq106 dd106_44 rfl
theorem dd106_45 : decode cX9_isTrue 45 = .ok (.bipush 64, 2) := by decide +kernel
theorem ww106_45 {d : Nat} {l0 l1 l2 l3 l4 : Option mw_V} {st : List mw_V} {σ : mw_S} {Q : Option mw_V → mw_S → Prop} : mw_WP d 106 45 [l0, l1, l2, l3, l4] st σ Q ↔ mw_WP d 106 47 [l0, l1, l2, l3, l4] (jI (64) :: st) σ Q := WP_bipush mq106 dd106_45 (by decide)
theorem dd106_47 : decode cX9_isTrue 47 = .ok (.if_icmp .lt 5, 3) := by decide +kernel
theorem ww106_47 {d : Nat} {l0 l1 l2 l3 l4 : Option mw_V} {x y : Int} {st : List mw_V} {σ : mw_S} {Q : Option mw_V → mw_S → Prop} : mw_WP d 106 47 [l0, l1, l2, l3, l4] (jI y :: jI x :: st) σ Q ↔ (if x < y then mw_WP d 106 52 [l0, l1, l2, l3, l4] st σ Q else mw_WP d 106 50 [l0, l1, l2, l3, l4] st σ Q) := WP_icmp_lt mq106 dd106_47 (by decide)
theorem dd106_50 : decode cX9_isTrue 50 = .ok (.iconst 0, 1) := by decide +kernel
theorem ww106_50 {d : Nat} {l0 l1 l2 l3 l4 : Option mw_V} {st : List mw_V} {σ : mw_S} {Q : Option mw_V → mw_S → Prop} : mw_WP d 106 50 [l0, l1, l2, l3, l4] st σ Q ↔ mw_WP d 106 51 [l0, l1, l2, l3, l4] (jI (0) :: st) σ Q := WP_iconst mq106 dd106_50 (by decide)
theorem dd106_51 : decode cX9_isTrue 51 = .ok (.ireturn, 1) := by decide +kernel
theorem ww106_51 {d : Nat} {l0 l1 l2 l3 l4 : Option mw_V} {z : Int} {σ : mw_S} {Q : Option mw_V → mw_S → Prop} (h : z = 0 ∨ z = 1) : mw_WP d 106 51 [l0, l1, l2, l3, l4] [jI z] σ Q ↔ Q (some (jI z)) σ := WP_ireturn (ty := .boolean) mq106 dd106_51 rfl (by rcases h with rfl | rfl <;> decide)
theorem dd106_52 : decode cX9_isTrue 52 = .ok (.aload_n 0, 1) := by decide +kernel
theorem ww106_52 {d : Nat} {l1 l2 l3 l4 : Option mw_V} {x : Nat} {st : List mw_V} {σ : mw_S} {Q : Option mw_V → mw_S → Prop} : mw_WP d 106 52 [some (jR x), l1, l2, l3, l4] st σ Q ↔ mw_WP d 106 53 [some (jR x), l1, l2, l3, l4] (jR x :: st) σ Q := WP_aload_n mq106 dd106_52 rfl
theorem dd106_53 : decode cX9_isTrue 53 = .ok (.getfield 11, 3) := by decide +kernel
theorem ww106_53 {d : Nat} {l0 l1 l2 l3 l4 : Option mw_V} {st : List mw_V} {σ : mw_S} {Q : Option mw_V → mw_S → Prop} : mw_WP d 106 53 [l0, l1, l2, l3, l4] (jR 22 :: st) σ Q ↔ mw_WP d 106 56 [l0, l1, l2, l3, l4] (jR 23 :: st) σ Q := WP_getR (ci := 8) (k := 6) mq106 dd106_53 (by decide) rfl
theorem dd106_56 : decode cX9_isTrue 56 = .ok (.iload_n 2, 1) := by decide +kernel
theorem ww106_56 {d : Nat} {l0 l1 l3 l4 : Option mw_V} {x : Int} {st : List mw_V} {σ : mw_S} {Q : Option mw_V → mw_S → Prop} : mw_WP d 106 56 [l0, l1, some (jI x), l3, l4] st σ Q ↔ mw_WP d 106 57 [l0, l1, some (jI x), l3, l4] (jI x :: st) σ Q := WP_iload_n mq106 dd106_56 rfl
theorem dd106_57 : decode cX9_isTrue 57 = .ok (.iload 4, 2) := by decide +kernel
theorem ww106_57 {d : Nat} {l0 l1 l2 l3 : Option mw_V} {x : Int} {st : List mw_V} {σ : mw_S} {Q : Option mw_V → mw_S → Prop} : mw_WP d 106 57 [l0, l1, l2, l3, some (jI x)] st σ Q ↔ mw_WP d 106 59 [l0, l1, l2, l3, some (jI x)] (jI x :: st) σ Q := WP_iload mq106 dd106_57 rfl
theorem dd106_59 : decode cX9_isTrue 59 = .ok (.sipush 1000, 3) := by decide +kernel
theorem ww106_59 {d : Nat} {l0 l1 l2 l3 l4 : Option mw_V} {st : List mw_V} {σ : mw_S} {Q : Option mw_V → mw_S → Prop} : mw_WP d 106 59 [l0, l1, l2, l3, l4] st σ Q ↔ mw_WP d 106 62 [l0, l1, l2, l3, l4] (jI (1000) :: st) σ Q := WP_sipush mq106 dd106_59 (by decide)
theorem dd106_62 : decode cX9_isTrue 62 = .ok (.if_icmp .ge 8, 3) := by decide +kernel
theorem ww106_62 {d : Nat} {l0 l1 l2 l3 l4 : Option mw_V} {x y : Int} {st : List mw_V} {σ : mw_S} {Q : Option mw_V → mw_S → Prop} : mw_WP d 106 62 [l0, l1, l2, l3, l4] (jI y :: jI x :: st) σ Q ↔ (if y ≤ x then mw_WP d 106 70 [l0, l1, l2, l3, l4] st σ Q else mw_WP d 106 65 [l0, l1, l2, l3, l4] st σ Q) := WP_icmp_ge mq106 dd106_62 (by decide)
theorem dd106_65 : decode cX9_isTrue 65 = .ok (.iload 4, 2) := by decide +kernel
theorem ww106_65 {d : Nat} {l0 l1 l2 l3 : Option mw_V} {x : Int} {st : List mw_V} {σ : mw_S} {Q : Option mw_V → mw_S → Prop} : mw_WP d 106 65 [l0, l1, l2, l3, some (jI x)] st σ Q ↔ mw_WP d 106 67 [l0, l1, l2, l3, some (jI x)] (jI x :: st) σ Q := WP_iload mq106 dd106_65 rfl
theorem dd106_67 : decode cX9_isTrue 67 = .ok (.goto 14, 3) := by decide +kernel
theorem ww106_67 {d : Nat} {l0 l1 l2 l3 l4 : Option mw_V} {st : List mw_V} {σ : mw_S} {Q : Option mw_V → mw_S → Prop} : mw_WP d 106 67 [l0, l1, l2, l3, l4] st σ Q ↔ mw_WP d 106 81 [l0, l1, l2, l3, l4] st σ Q := WP_goto mq106 dd106_67 (by decide)
theorem dd106_70 : decode cX9_isTrue 70 = .ok (.aload_n 0, 1) := by decide +kernel
theorem ww106_70 {d : Nat} {l1 l2 l3 l4 : Option mw_V} {x : Nat} {st : List mw_V} {σ : mw_S} {Q : Option mw_V → mw_S → Prop} : mw_WP d 106 70 [some (jR x), l1, l2, l3, l4] st σ Q ↔ mw_WP d 106 71 [some (jR x), l1, l2, l3, l4] (jR x :: st) σ Q := WP_aload_n mq106 dd106_70 rfl
theorem dd106_71 : decode cX9_isTrue 71 = .ok (.getfield 15, 3) := by decide +kernel
theorem ww106_71 {d : Nat} {l0 l1 l2 l3 l4 : Option mw_V} {st : List mw_V} {σ : mw_S} {Q : Option mw_V → mw_S → Prop} : mw_WP d 106 71 [l0, l1, l2, l3, l4] (jR 22 :: st) σ Q ↔ mw_WP d 106 74 [l0, l1, l2, l3, l4] (jR 24 :: st) σ Q := WP_getR (ci := 8) (k := 7) mq106 dd106_71 (by decide) rfl
theorem dd106_74 : decode cX9_isTrue 74 = .ok (.iload 4, 2) := by decide +kernel
theorem ww106_74 {d : Nat} {l0 l1 l2 l3 : Option mw_V} {x : Int} {st : List mw_V} {σ : mw_S} {Q : Option mw_V → mw_S → Prop} : mw_WP d 106 74 [l0, l1, l2, l3, some (jI x)] st σ Q ↔ mw_WP d 106 76 [l0, l1, l2, l3, some (jI x)] (jI x :: st) σ Q := WP_iload mq106 dd106_74 rfl
theorem dd106_76 : decode cX9_isTrue 76 = .ok (.sipush 1000, 3) := by decide +kernel
theorem ww106_76 {d : Nat} {l0 l1 l2 l3 l4 : Option mw_V} {st : List mw_V} {σ : mw_S} {Q : Option mw_V → mw_S → Prop} : mw_WP d 106 76 [l0, l1, l2, l3, l4] st σ Q ↔ mw_WP d 106 79 [l0, l1, l2, l3, l4] (jI (1000) :: st) σ Q := WP_sipush mq106 dd106_76 (by decide)
theorem dd106_79 : decode cX9_isTrue 79 = .ok (.isub, 1) := by decide +kernel
theorem ww106_79 {d : Nat} {l0 l1 l2 l3 l4 : Option mw_V} {x y : Int} {st : List mw_V} {σ : mw_S} {Q : Option mw_V → mw_S → Prop} : mw_WP d 106 79 [l0, l1, l2, l3, l4] (jI y :: jI x :: st) σ Q ↔ mw_WP d 106 80 [l0, l1, l2, l3, l4] (jI (w32 (x - y)) :: st) σ Q := WP_isub mq106 dd106_79
theorem dd106_80 : decode cX9_isTrue 80 = .ok (.iaload, 1) := by decide +kernel
theorem ww106_80 {d : Nat} {l0 l1 l2 l3 l4 : Option mw_V} {z : Int} {a : Nat} {st : List mw_V} {σ : mw_S} {Q : Option mw_V → mw_S → Prop} : mw_WP d 106 80 [l0, l1, l2, l3, l4] (jI z :: jR a :: st) σ Q ↔ ((0 ≤ z ∧ z < mw_lenI a) ∧ mw_WP d 106 81 [l0, l1, l2, l3, l4] (jI (mw_rdI σ a z.toNat) :: st) σ Q) := WP_iaload mq106 dd106_80
theorem dd106_81 : decode cX9_isTrue 81 = .ok (.iastore, 1) := by decide +kernel
theorem ww106_81 {d : Nat} {l0 l1 l2 l3 l4 : Option mw_V} {x z : Int} {a : Nat} {st : List mw_V} {σ : mw_S} {Q : Option mw_V → mw_S → Prop} : mw_WP d 106 81 [l0, l1, l2, l3, l4] (jI x :: jI z :: jR a :: st) σ Q ↔ ((0 ≤ z ∧ z < mw_lenW 0 a) ∧ mw_WP d 106 82 [l0, l1, l2, l3, l4] st (upS σ a z.toNat x) Q) := WP_iastore mq106 dd106_81
theorem dd106_82 : decode cX9_isTrue 82 = .ok (.iinc 2 1, 3) := by decide +kernel
theorem ww106_82 {d : Nat} {l0 l1 l3 l4 : Option mw_V} {x : Int} {st : List mw_V} {σ : mw_S} {Q : Option mw_V → mw_S → Prop} (h : mw_nlo l1 = true) : mw_WP d 106 82 [l0, l1, some (jI x), l3, l4] st σ Q ↔ mw_WP d 106 85 [l0, l1, some (jI (w32 (x + (1)))), l3, l4] st σ Q := WP_iinc mq106 dd106_82 rfl (Nat.le_of_ble_eq_true rfl) (mw_nl_of (i := 1) rfl h) rfl
theorem dd106_85 : decode cX9_isTrue 85 = .ok (.goto 79, 3) := by decide +kernel
theorem ww106_85 {d : Nat} {l0 l1 l2 l3 l4 : Option mw_V} {st : List mw_V} {σ : mw_S} {Q : Option mw_V → mw_S → Prop} : mw_WP d 106 85 [l0, l1, l2, l3, l4] st σ Q ↔ mw_WP d 106 164 [l0, l1, l2, l3, l4] st σ Q := WP_goto mq106 dd106_85 (by decide)
theorem dd106_88 : decode cX9_isTrue 88 = .ok (.iload 4, 2) := by decide +kernel
theorem ww106_88 {d : Nat} {l0 l1 l2 l3 : Option mw_V} {x : Int} {st : List mw_V} {σ : mw_S} {Q : Option mw_V → mw_S → Prop} : mw_WP d 106 88 [l0, l1, l2, l3, some (jI x)] st σ Q ↔ mw_WP d 106 90 [l0, l1, l2, l3, some (jI x)] (jI x :: st) σ Q := WP_iload mq106 dd106_88 rfl
theorem dd106_90 : decode cX9_isTrue 90 = .ok (.sipush 1010, 3) := by decide +kernel
theorem ww106_90 {d : Nat} {l0 l1 l2 l3 l4 : Option mw_V} {st : List mw_V} {σ : mw_S} {Q : Option mw_V → mw_S → Prop} : mw_WP d 106 90 [l0, l1, l2, l3, l4] st σ Q ↔ mw_WP d 106 93 [l0, l1, l2, l3, l4] (jI (1010) :: st) σ Q := WP_sipush mq106 dd106_90 (by decide)
theorem dd106_93 : decode cX9_isTrue 93 = .ok (.if_icmp .ne 31, 3) := by decide +kernel
theorem ww106_93 {d : Nat} {l0 l1 l2 l3 l4 : Option mw_V} {x y : Int} {st : List mw_V} {σ : mw_S} {Q : Option mw_V → mw_S → Prop} : mw_WP d 106 93 [l0, l1, l2, l3, l4] (jI y :: jI x :: st) σ Q ↔ (if ¬ x = y then mw_WP d 106 124 [l0, l1, l2, l3, l4] st σ Q else mw_WP d 106 96 [l0, l1, l2, l3, l4] st σ Q) := WP_icmp_ne mq106 dd106_93 (by decide)
theorem dd106_96 : decode cX9_isTrue 96 = .ok (.iload_n 2, 1) := by decide +kernel
theorem ww106_96 {d : Nat} {l0 l1 l3 l4 : Option mw_V} {x : Int} {st : List mw_V} {σ : mw_S} {Q : Option mw_V → mw_S → Prop} : mw_WP d 106 96 [l0, l1, some (jI x), l3, l4] st σ Q ↔ mw_WP d 106 97 [l0, l1, some (jI x), l3, l4] (jI x :: st) σ Q := WP_iload_n mq106 dd106_96 rfl
theorem dd106_97 : decode cX9_isTrue 97 = .ok (.iconst 1, 1) := by decide +kernel
theorem ww106_97 {d : Nat} {l0 l1 l2 l3 l4 : Option mw_V} {st : List mw_V} {σ : mw_S} {Q : Option mw_V → mw_S → Prop} : mw_WP d 106 97 [l0, l1, l2, l3, l4] st σ Q ↔ mw_WP d 106 98 [l0, l1, l2, l3, l4] (jI (1) :: st) σ Q := WP_iconst mq106 dd106_97 (by decide)
theorem dd106_98 : decode cX9_isTrue 98 = .ok (.if_icmp .ge 5, 3) := by decide +kernel
theorem ww106_98 {d : Nat} {l0 l1 l2 l3 l4 : Option mw_V} {x y : Int} {st : List mw_V} {σ : mw_S} {Q : Option mw_V → mw_S → Prop} : mw_WP d 106 98 [l0, l1, l2, l3, l4] (jI y :: jI x :: st) σ Q ↔ (if y ≤ x then mw_WP d 106 103 [l0, l1, l2, l3, l4] st σ Q else mw_WP d 106 101 [l0, l1, l2, l3, l4] st σ Q) := WP_icmp_ge mq106 dd106_98 (by decide)
theorem dd106_101 : decode cX9_isTrue 101 = .ok (.iconst 0, 1) := by decide +kernel
theorem ww106_101 {d : Nat} {l0 l1 l2 l3 l4 : Option mw_V} {st : List mw_V} {σ : mw_S} {Q : Option mw_V → mw_S → Prop} : mw_WP d 106 101 [l0, l1, l2, l3, l4] st σ Q ↔ mw_WP d 106 102 [l0, l1, l2, l3, l4] (jI (0) :: st) σ Q := WP_iconst mq106 dd106_101 (by decide)
theorem dd106_102 : decode cX9_isTrue 102 = .ok (.ireturn, 1) := by decide +kernel
theorem ww106_102 {d : Nat} {l0 l1 l2 l3 l4 : Option mw_V} {z : Int} {σ : mw_S} {Q : Option mw_V → mw_S → Prop} (h : z = 0 ∨ z = 1) : mw_WP d 106 102 [l0, l1, l2, l3, l4] [jI z] σ Q ↔ Q (some (jI z)) σ := WP_ireturn (ty := .boolean) mq106 dd106_102 rfl (by rcases h with rfl | rfl <;> decide)
theorem dd106_103 : decode cX9_isTrue 103 = .ok (.aload_n 0, 1) := by decide +kernel
theorem ww106_103 {d : Nat} {l1 l2 l3 l4 : Option mw_V} {x : Nat} {st : List mw_V} {σ : mw_S} {Q : Option mw_V → mw_S → Prop} : mw_WP d 106 103 [some (jR x), l1, l2, l3, l4] st σ Q ↔ mw_WP d 106 104 [some (jR x), l1, l2, l3, l4] (jR x :: st) σ Q := WP_aload_n mq106 dd106_103 rfl
theorem dd106_104 : decode cX9_isTrue 104 = .ok (.getfield 11, 3) := by decide +kernel
theorem ww106_104 {d : Nat} {l0 l1 l2 l3 l4 : Option mw_V} {st : List mw_V} {σ : mw_S} {Q : Option mw_V → mw_S → Prop} : mw_WP d 106 104 [l0, l1, l2, l3, l4] (jR 22 :: st) σ Q ↔ mw_WP d 106 107 [l0, l1, l2, l3, l4] (jR 23 :: st) σ Q := WP_getR (ci := 8) (k := 6) mq106 dd106_104 (by decide) rfl
theorem dd106_107 : decode cX9_isTrue 107 = .ok (.iload_n 2, 1) := by decide +kernel
theorem ww106_107 {d : Nat} {l0 l1 l3 l4 : Option mw_V} {x : Int} {st : List mw_V} {σ : mw_S} {Q : Option mw_V → mw_S → Prop} : mw_WP d 106 107 [l0, l1, some (jI x), l3, l4] st σ Q ↔ mw_WP d 106 108 [l0, l1, some (jI x), l3, l4] (jI x :: st) σ Q := WP_iload_n mq106 dd106_107 rfl
theorem dd106_108 : decode cX9_isTrue 108 = .ok (.iconst 1, 1) := by decide +kernel
theorem ww106_108 {d : Nat} {l0 l1 l2 l3 l4 : Option mw_V} {st : List mw_V} {σ : mw_S} {Q : Option mw_V → mw_S → Prop} : mw_WP d 106 108 [l0, l1, l2, l3, l4] st σ Q ↔ mw_WP d 106 109 [l0, l1, l2, l3, l4] (jI (1) :: st) σ Q := WP_iconst mq106 dd106_108 (by decide)
theorem dd106_109 : decode cX9_isTrue 109 = .ok (.isub, 1) := by decide +kernel
theorem ww106_109 {d : Nat} {l0 l1 l2 l3 l4 : Option mw_V} {x y : Int} {st : List mw_V} {σ : mw_S} {Q : Option mw_V → mw_S → Prop} : mw_WP d 106 109 [l0, l1, l2, l3, l4] (jI y :: jI x :: st) σ Q ↔ mw_WP d 106 110 [l0, l1, l2, l3, l4] (jI (w32 (x - y)) :: st) σ Q := WP_isub mq106 dd106_109
theorem dd106_110 : decode cX9_isTrue 110 = .ok (.iconst 1, 1) := by decide +kernel
theorem ww106_110 {d : Nat} {l0 l1 l2 l3 l4 : Option mw_V} {st : List mw_V} {σ : mw_S} {Q : Option mw_V → mw_S → Prop} : mw_WP d 106 110 [l0, l1, l2, l3, l4] st σ Q ↔ mw_WP d 106 111 [l0, l1, l2, l3, l4] (jI (1) :: st) σ Q := WP_iconst mq106 dd106_110 (by decide)
theorem dd106_111 : decode cX9_isTrue 111 = .ok (.aload_n 0, 1) := by decide +kernel
theorem ww106_111 {d : Nat} {l1 l2 l3 l4 : Option mw_V} {x : Nat} {st : List mw_V} {σ : mw_S} {Q : Option mw_V → mw_S → Prop} : mw_WP d 106 111 [some (jR x), l1, l2, l3, l4] st σ Q ↔ mw_WP d 106 112 [some (jR x), l1, l2, l3, l4] (jR x :: st) σ Q := WP_aload_n mq106 dd106_111 rfl
theorem dd106_112 : decode cX9_isTrue 112 = .ok (.getfield 11, 3) := by decide +kernel
theorem ww106_112 {d : Nat} {l0 l1 l2 l3 l4 : Option mw_V} {st : List mw_V} {σ : mw_S} {Q : Option mw_V → mw_S → Prop} : mw_WP d 106 112 [l0, l1, l2, l3, l4] (jR 22 :: st) σ Q ↔ mw_WP d 106 115 [l0, l1, l2, l3, l4] (jR 23 :: st) σ Q := WP_getR (ci := 8) (k := 6) mq106 dd106_112 (by decide) rfl
theorem dd106_115 : decode cX9_isTrue 115 = .ok (.iload_n 2, 1) := by decide +kernel
theorem ww106_115 {d : Nat} {l0 l1 l3 l4 : Option mw_V} {x : Int} {st : List mw_V} {σ : mw_S} {Q : Option mw_V → mw_S → Prop} : mw_WP d 106 115 [l0, l1, some (jI x), l3, l4] st σ Q ↔ mw_WP d 106 116 [l0, l1, some (jI x), l3, l4] (jI x :: st) σ Q := WP_iload_n mq106 dd106_115 rfl
theorem dd106_116 : decode cX9_isTrue 116 = .ok (.iconst 1, 1) := by decide +kernel
theorem ww106_116 {d : Nat} {l0 l1 l2 l3 l4 : Option mw_V} {st : List mw_V} {σ : mw_S} {Q : Option mw_V → mw_S → Prop} : mw_WP d 106 116 [l0, l1, l2, l3, l4] st σ Q ↔ mw_WP d 106 117 [l0, l1, l2, l3, l4] (jI (1) :: st) σ Q := WP_iconst mq106 dd106_116 (by decide)
theorem dd106_117 : decode cX9_isTrue 117 = .ok (.isub, 1) := by decide +kernel
theorem ww106_117 {d : Nat} {l0 l1 l2 l3 l4 : Option mw_V} {x y : Int} {st : List mw_V} {σ : mw_S} {Q : Option mw_V → mw_S → Prop} : mw_WP d 106 117 [l0, l1, l2, l3, l4] (jI y :: jI x :: st) σ Q ↔ mw_WP d 106 118 [l0, l1, l2, l3, l4] (jI (w32 (x - y)) :: st) σ Q := WP_isub mq106 dd106_117
theorem dd106_118 : decode cX9_isTrue 118 = .ok (.iaload, 1) := by decide +kernel
theorem ww106_118 {d : Nat} {l0 l1 l2 l3 l4 : Option mw_V} {z : Int} {a : Nat} {st : List mw_V} {σ : mw_S} {Q : Option mw_V → mw_S → Prop} : mw_WP d 106 118 [l0, l1, l2, l3, l4] (jI z :: jR a :: st) σ Q ↔ ((0 ≤ z ∧ z < mw_lenI a) ∧ mw_WP d 106 119 [l0, l1, l2, l3, l4] (jI (mw_rdI σ a z.toNat) :: st) σ Q) := WP_iaload mq106 dd106_118
theorem dd106_119 : decode cX9_isTrue 119 = .ok (.isub, 1) := by decide +kernel
theorem ww106_119 {d : Nat} {l0 l1 l2 l3 l4 : Option mw_V} {x y : Int} {st : List mw_V} {σ : mw_S} {Q : Option mw_V → mw_S → Prop} : mw_WP d 106 119 [l0, l1, l2, l3, l4] (jI y :: jI x :: st) σ Q ↔ mw_WP d 106 120 [l0, l1, l2, l3, l4] (jI (w32 (x - y)) :: st) σ Q := WP_isub mq106 dd106_119
theorem dd106_120 : decode cX9_isTrue 120 = .ok (.iastore, 1) := by decide +kernel
theorem ww106_120 {d : Nat} {l0 l1 l2 l3 l4 : Option mw_V} {x z : Int} {a : Nat} {st : List mw_V} {σ : mw_S} {Q : Option mw_V → mw_S → Prop} : mw_WP d 106 120 [l0, l1, l2, l3, l4] (jI x :: jI z :: jR a :: st) σ Q ↔ ((0 ≤ z ∧ z < mw_lenW 0 a) ∧ mw_WP d 106 121 [l0, l1, l2, l3, l4] st (upS σ a z.toNat x) Q) := WP_iastore mq106 dd106_120
theorem dd106_121 : decode cX9_isTrue 121 = .ok (.goto 43, 3) := by decide +kernel
theorem ww106_121 {d : Nat} {l0 l1 l2 l3 l4 : Option mw_V} {st : List mw_V} {σ : mw_S} {Q : Option mw_V → mw_S → Prop} : mw_WP d 106 121 [l0, l1, l2, l3, l4] st σ Q ↔ mw_WP d 106 164 [l0, l1, l2, l3, l4] st σ Q := WP_goto mq106 dd106_121 (by decide)
theorem dd106_124 : decode cX9_isTrue 124 = .ok (.iload_n 2, 1) := by decide +kernel
theorem ww106_124 {d : Nat} {l0 l1 l3 l4 : Option mw_V} {x : Int} {st : List mw_V} {σ : mw_S} {Q : Option mw_V → mw_S → Prop} : mw_WP d 106 124 [l0, l1, some (jI x), l3, l4] st σ Q ↔ mw_WP d 106 125 [l0, l1, some (jI x), l3, l4] (jI x :: st) σ Q := WP_iload_n mq106 dd106_124 rfl
theorem dd106_125 : decode cX9_isTrue 125 = .ok (.iconst 2, 1) := by decide +kernel
theorem ww106_125 {d : Nat} {l0 l1 l2 l3 l4 : Option mw_V} {st : List mw_V} {σ : mw_S} {Q : Option mw_V → mw_S → Prop} : mw_WP d 106 125 [l0, l1, l2, l3, l4] st σ Q ↔ mw_WP d 106 126 [l0, l1, l2, l3, l4] (jI (2) :: st) σ Q := WP_iconst mq106 dd106_125 (by decide)
theorem dd106_126 : decode cX9_isTrue 126 = .ok (.if_icmp .ge 5, 3) := by decide +kernel
theorem ww106_126 {d : Nat} {l0 l1 l2 l3 l4 : Option mw_V} {x y : Int} {st : List mw_V} {σ : mw_S} {Q : Option mw_V → mw_S → Prop} : mw_WP d 106 126 [l0, l1, l2, l3, l4] (jI y :: jI x :: st) σ Q ↔ (if y ≤ x then mw_WP d 106 131 [l0, l1, l2, l3, l4] st σ Q else mw_WP d 106 129 [l0, l1, l2, l3, l4] st σ Q) := WP_icmp_ge mq106 dd106_126 (by decide)
theorem dd106_129 : decode cX9_isTrue 129 = .ok (.iconst 0, 1) := by decide +kernel
theorem ww106_129 {d : Nat} {l0 l1 l2 l3 l4 : Option mw_V} {st : List mw_V} {σ : mw_S} {Q : Option mw_V → mw_S → Prop} : mw_WP d 106 129 [l0, l1, l2, l3, l4] st σ Q ↔ mw_WP d 106 130 [l0, l1, l2, l3, l4] (jI (0) :: st) σ Q := WP_iconst mq106 dd106_129 (by decide)
theorem dd106_130 : decode cX9_isTrue 130 = .ok (.ireturn, 1) := by decide +kernel
theorem ww106_130 {d : Nat} {l0 l1 l2 l3 l4 : Option mw_V} {z : Int} {σ : mw_S} {Q : Option mw_V → mw_S → Prop} (h : z = 0 ∨ z = 1) : mw_WP d 106 130 [l0, l1, l2, l3, l4] [jI z] σ Q ↔ Q (some (jI z)) σ := WP_ireturn (ty := .boolean) mq106 dd106_130 rfl (by rcases h with rfl | rfl <;> decide)
theorem dd106_131 : decode cX9_isTrue 131 = .ok (.iinc 2 (-1), 3) := by decide +kernel
theorem ww106_131 {d : Nat} {l0 l1 l3 l4 : Option mw_V} {x : Int} {st : List mw_V} {σ : mw_S} {Q : Option mw_V → mw_S → Prop} (h : mw_nlo l1 = true) : mw_WP d 106 131 [l0, l1, some (jI x), l3, l4] st σ Q ↔ mw_WP d 106 134 [l0, l1, some (jI (w32 (x + (-1)))), l3, l4] st σ Q := WP_iinc mq106 dd106_131 rfl (Nat.le_of_ble_eq_true rfl) (mw_nl_of (i := 1) rfl h) rfl
theorem dd106_134 : decode cX9_isTrue 134 = .ok (.aload_n 0, 1) := by decide +kernel
theorem ww106_134 {d : Nat} {l1 l2 l3 l4 : Option mw_V} {x : Nat} {st : List mw_V} {σ : mw_S} {Q : Option mw_V → mw_S → Prop} : mw_WP d 106 134 [some (jR x), l1, l2, l3, l4] st σ Q ↔ mw_WP d 106 135 [some (jR x), l1, l2, l3, l4] (jR x :: st) σ Q := WP_aload_n mq106 dd106_134 rfl
theorem dd106_135 : decode cX9_isTrue 135 = .ok (.getfield 11, 3) := by decide +kernel
theorem ww106_135 {d : Nat} {l0 l1 l2 l3 l4 : Option mw_V} {st : List mw_V} {σ : mw_S} {Q : Option mw_V → mw_S → Prop} : mw_WP d 106 135 [l0, l1, l2, l3, l4] (jR 22 :: st) σ Q ↔ mw_WP d 106 138 [l0, l1, l2, l3, l4] (jR 23 :: st) σ Q := WP_getR (ci := 8) (k := 6) mq106 dd106_135 (by decide) rfl
theorem dd106_138 : decode cX9_isTrue 138 = .ok (.iload_n 2, 1) := by decide +kernel
theorem ww106_138 {d : Nat} {l0 l1 l3 l4 : Option mw_V} {x : Int} {st : List mw_V} {σ : mw_S} {Q : Option mw_V → mw_S → Prop} : mw_WP d 106 138 [l0, l1, some (jI x), l3, l4] st σ Q ↔ mw_WP d 106 139 [l0, l1, some (jI x), l3, l4] (jI x :: st) σ Q := WP_iload_n mq106 dd106_138 rfl
theorem dd106_139 : decode cX9_isTrue 139 = .ok (.iconst 1, 1) := by decide +kernel
theorem ww106_139 {d : Nat} {l0 l1 l2 l3 l4 : Option mw_V} {st : List mw_V} {σ : mw_S} {Q : Option mw_V → mw_S → Prop} : mw_WP d 106 139 [l0, l1, l2, l3, l4] st σ Q ↔ mw_WP d 106 140 [l0, l1, l2, l3, l4] (jI (1) :: st) σ Q := WP_iconst mq106 dd106_139 (by decide)
theorem dd106_140 : decode cX9_isTrue 140 = .ok (.isub, 1) := by decide +kernel
theorem ww106_140 {d : Nat} {l0 l1 l2 l3 l4 : Option mw_V} {x y : Int} {st : List mw_V} {σ : mw_S} {Q : Option mw_V → mw_S → Prop} : mw_WP d 106 140 [l0, l1, l2, l3, l4] (jI y :: jI x :: st) σ Q ↔ mw_WP d 106 141 [l0, l1, l2, l3, l4] (jI (w32 (x - y)) :: st) σ Q := WP_isub mq106 dd106_140
theorem dd106_141 : decode cX9_isTrue 141 = .ok (.iload 4, 2) := by decide +kernel
theorem ww106_141 {d : Nat} {l0 l1 l2 l3 : Option mw_V} {x : Int} {st : List mw_V} {σ : mw_S} {Q : Option mw_V → mw_S → Prop} : mw_WP d 106 141 [l0, l1, l2, l3, some (jI x)] st σ Q ↔ mw_WP d 106 143 [l0, l1, l2, l3, some (jI x)] (jI x :: st) σ Q := WP_iload mq106 dd106_141 rfl
theorem dd106_143 : decode cX9_isTrue 143 = .ok (.aload_n 0, 1) := by decide +kernel
theorem ww106_143 {d : Nat} {l1 l2 l3 l4 : Option mw_V} {x : Nat} {st : List mw_V} {σ : mw_S} {Q : Option mw_V → mw_S → Prop} : mw_WP d 106 143 [some (jR x), l1, l2, l3, l4] st σ Q ↔ mw_WP d 106 144 [some (jR x), l1, l2, l3, l4] (jR x :: st) σ Q := WP_aload_n mq106 dd106_143 rfl
theorem dd106_144 : decode cX9_isTrue 144 = .ok (.getfield 11, 3) := by decide +kernel
theorem ww106_144 {d : Nat} {l0 l1 l2 l3 l4 : Option mw_V} {st : List mw_V} {σ : mw_S} {Q : Option mw_V → mw_S → Prop} : mw_WP d 106 144 [l0, l1, l2, l3, l4] (jR 22 :: st) σ Q ↔ mw_WP d 106 147 [l0, l1, l2, l3, l4] (jR 23 :: st) σ Q := WP_getR (ci := 8) (k := 6) mq106 dd106_144 (by decide) rfl
theorem dd106_147 : decode cX9_isTrue 147 = .ok (.iload_n 2, 1) := by decide +kernel
theorem ww106_147 {d : Nat} {l0 l1 l3 l4 : Option mw_V} {x : Int} {st : List mw_V} {σ : mw_S} {Q : Option mw_V → mw_S → Prop} : mw_WP d 106 147 [l0, l1, some (jI x), l3, l4] st σ Q ↔ mw_WP d 106 148 [l0, l1, some (jI x), l3, l4] (jI x :: st) σ Q := WP_iload_n mq106 dd106_147 rfl
theorem dd106_148 : decode cX9_isTrue 148 = .ok (.iconst 1, 1) := by decide +kernel
theorem ww106_148 {d : Nat} {l0 l1 l2 l3 l4 : Option mw_V} {st : List mw_V} {σ : mw_S} {Q : Option mw_V → mw_S → Prop} : mw_WP d 106 148 [l0, l1, l2, l3, l4] st σ Q ↔ mw_WP d 106 149 [l0, l1, l2, l3, l4] (jI (1) :: st) σ Q := WP_iconst mq106 dd106_148 (by decide)
theorem dd106_149 : decode cX9_isTrue 149 = .ok (.isub, 1) := by decide +kernel
theorem ww106_149 {d : Nat} {l0 l1 l2 l3 l4 : Option mw_V} {x y : Int} {st : List mw_V} {σ : mw_S} {Q : Option mw_V → mw_S → Prop} : mw_WP d 106 149 [l0, l1, l2, l3, l4] (jI y :: jI x :: st) σ Q ↔ mw_WP d 106 150 [l0, l1, l2, l3, l4] (jI (w32 (x - y)) :: st) σ Q := WP_isub mq106 dd106_149
theorem dd106_150 : decode cX9_isTrue 150 = .ok (.iaload, 1) := by decide +kernel
theorem ww106_150 {d : Nat} {l0 l1 l2 l3 l4 : Option mw_V} {z : Int} {a : Nat} {st : List mw_V} {σ : mw_S} {Q : Option mw_V → mw_S → Prop} : mw_WP d 106 150 [l0, l1, l2, l3, l4] (jI z :: jR a :: st) σ Q ↔ ((0 ≤ z ∧ z < mw_lenI a) ∧ mw_WP d 106 151 [l0, l1, l2, l3, l4] (jI (mw_rdI σ a z.toNat) :: st) σ Q) := WP_iaload mq106 dd106_150
theorem dd106_151 : decode cX9_isTrue 151 = .ok (.aload_n 0, 1) := by decide +kernel
theorem ww106_151 {d : Nat} {l1 l2 l3 l4 : Option mw_V} {x : Nat} {st : List mw_V} {σ : mw_S} {Q : Option mw_V → mw_S → Prop} : mw_WP d 106 151 [some (jR x), l1, l2, l3, l4] st σ Q ↔ mw_WP d 106 152 [some (jR x), l1, l2, l3, l4] (jR x :: st) σ Q := WP_aload_n mq106 dd106_151 rfl
theorem dd106_152 : decode cX9_isTrue 152 = .ok (.getfield 11, 3) := by decide +kernel
theorem ww106_152 {d : Nat} {l0 l1 l2 l3 l4 : Option mw_V} {st : List mw_V} {σ : mw_S} {Q : Option mw_V → mw_S → Prop} : mw_WP d 106 152 [l0, l1, l2, l3, l4] (jR 22 :: st) σ Q ↔ mw_WP d 106 155 [l0, l1, l2, l3, l4] (jR 23 :: st) σ Q := WP_getR (ci := 8) (k := 6) mq106 dd106_152 (by decide) rfl
theorem dd106_155 : decode cX9_isTrue 155 = .ok (.iload_n 2, 1) := by decide +kernel
theorem ww106_155 {d : Nat} {l0 l1 l3 l4 : Option mw_V} {x : Int} {st : List mw_V} {σ : mw_S} {Q : Option mw_V → mw_S → Prop} : mw_WP d 106 155 [l0, l1, some (jI x), l3, l4] st σ Q ↔ mw_WP d 106 156 [l0, l1, some (jI x), l3, l4] (jI x :: st) σ Q := WP_iload_n mq106 dd106_155 rfl
theorem dd106_156 : decode cX9_isTrue 156 = .ok (.iaload, 1) := by decide +kernel
theorem ww106_156 {d : Nat} {l0 l1 l2 l3 l4 : Option mw_V} {z : Int} {a : Nat} {st : List mw_V} {σ : mw_S} {Q : Option mw_V → mw_S → Prop} : mw_WP d 106 156 [l0, l1, l2, l3, l4] (jI z :: jR a :: st) σ Q ↔ ((0 ≤ z ∧ z < mw_lenI a) ∧ mw_WP d 106 157 [l0, l1, l2, l3, l4] (jI (mw_rdI σ a z.toNat) :: st) σ Q) := WP_iaload mq106 dd106_156
theorem dd106_157 : decode cX9_isTrue 157 = .ok (.invokestatic 124, 3) := by decide +kernel
theorem ww106_157 {d : Nat} {l0 l1 l2 l3 l4 : Option mw_V} {v0 v1 v2 : mw_V} {st : List mw_V} {σ : mw_S} {Q : Option mw_V → mw_S → Prop} (h8 : (st.map mw_cat).sum ≤ 8) : mw_WP d 106 157 [l0, l1, l2, l3, l4] (v2 :: v1 :: v0 :: st) σ Q ↔ mw_Call d 107 [v0, v1, v2] σ (fun r1 s1 => mw_WP d 106 160 [l0, l1, l2, l3, l4] (r1.toList ++ st) s1 Q) := WP_invs (as := [v2, v1, v0]) mq106 dd106_157 (by decide) mq107 rfl rfl h8
theorem dd106_160 : decode cX9_isTrue 160 = .ok (.invokestatic 128, 3) := by decide +kernel
theorem ww106_160 {d : Nat} {l0 l1 l2 l3 l4 : Option mw_V} {v0 : mw_V} {st : List mw_V} {σ : mw_S} {Q : Option mw_V → mw_S → Prop} (h8 : (st.map mw_cat).sum ≤ 8) : mw_WP d 106 160 [l0, l1, l2, l3, l4] (v0 :: st) σ Q ↔ mw_Call d 108 [v0] σ (fun r1 s1 => mw_WP d 106 163 [l0, l1, l2, l3, l4] (r1.toList ++ st) s1 Q) := WP_invs (as := [v0]) mq106 dd106_160 (by decide) mq108 rfl rfl h8
theorem dd106_163 : decode cX9_isTrue 163 = .ok (.iastore, 1) := by decide +kernel
theorem ww106_163 {d : Nat} {l0 l1 l2 l3 l4 : Option mw_V} {x z : Int} {a : Nat} {st : List mw_V} {σ : mw_S} {Q : Option mw_V → mw_S → Prop} : mw_WP d 106 163 [l0, l1, l2, l3, l4] (jI x :: jI z :: jR a :: st) σ Q ↔ ((0 ≤ z ∧ z < mw_lenW 0 a) ∧ mw_WP d 106 164 [l0, l1, l2, l3, l4] st (upS σ a z.toNat x) Q) := WP_iastore mq106 dd106_163
theorem dd106_164 : decode cX9_isTrue 164 = .ok (.iinc 3 1, 3) := by decide +kernel
theorem ww106_164 {d : Nat} {l0 l1 l2 l4 : Option mw_V} {x : Int} {st : List mw_V} {σ : mw_S} {Q : Option mw_V → mw_S → Prop} (h : mw_nlo l2 = true) : mw_WP d 106 164 [l0, l1, l2, some (jI x), l4] st σ Q ↔ mw_WP d 106 167 [l0, l1, l2, some (jI (w32 (x + (1)))), l4] st σ Q := WP_iinc mq106 dd106_164 rfl (Nat.le_of_ble_eq_true rfl) (mw_nl_of (i := 2) rfl h) rfl
theorem dd106_167 : decode cX9_isTrue 167 = .ok (.goto (-155), 3) := by decide +kernel
theorem ww106_167 {d : Nat} {l0 l1 l2 l3 l4 : Option mw_V} {st : List mw_V} {σ : mw_S} {Q : Option mw_V → mw_S → Prop} : mw_WP d 106 167 [l0, l1, l2, l3, l4] st σ Q ↔ mw_WP d 106 12 [l0, l1, l2, l3, l4] st σ Q := WP_goto mq106 dd106_167 (by decide)
theorem dd106_170 : decode cX9_isTrue 170 = .ok (.iload_n 2, 1) := by decide +kernel
theorem ww106_170 {d : Nat} {l0 l1 l3 l4 : Option mw_V} {x : Int} {st : List mw_V} {σ : mw_S} {Q : Option mw_V → mw_S → Prop} : mw_WP d 106 170 [l0, l1, some (jI x), l3, l4] st σ Q ↔ mw_WP d 106 171 [l0, l1, some (jI x), l3, l4] (jI x :: st) σ Q := WP_iload_n mq106 dd106_170 rfl
theorem dd106_171 : decode cX9_isTrue 171 = .ok (.iconst 1, 1) := by decide +kernel
theorem ww106_171 {d : Nat} {l0 l1 l2 l3 l4 : Option mw_V} {st : List mw_V} {σ : mw_S} {Q : Option mw_V → mw_S → Prop} : mw_WP d 106 171 [l0, l1, l2, l3, l4] st σ Q ↔ mw_WP d 106 172 [l0, l1, l2, l3, l4] (jI (1) :: st) σ Q := WP_iconst mq106 dd106_171 (by decide)
theorem dd106_172 : decode cX9_isTrue 172 = .ok (.if_icmp .ne 17, 3) := by decide +kernel
theorem ww106_172 {d : Nat} {l0 l1 l2 l3 l4 : Option mw_V} {x y : Int} {st : List mw_V} {σ : mw_S} {Q : Option mw_V → mw_S → Prop} : mw_WP d 106 172 [l0, l1, l2, l3, l4] (jI y :: jI x :: st) σ Q ↔ (if ¬ x = y then mw_WP d 106 189 [l0, l1, l2, l3, l4] st σ Q else mw_WP d 106 175 [l0, l1, l2, l3, l4] st σ Q) := WP_icmp_ne mq106 dd106_172 (by decide)
theorem dd106_175 : decode cX9_isTrue 175 = .ok (.aload_n 0, 1) := by decide +kernel
theorem ww106_175 {d : Nat} {l1 l2 l3 l4 : Option mw_V} {x : Nat} {st : List mw_V} {σ : mw_S} {Q : Option mw_V → mw_S → Prop} : mw_WP d 106 175 [some (jR x), l1, l2, l3, l4] st σ Q ↔ mw_WP d 106 176 [some (jR x), l1, l2, l3, l4] (jR x :: st) σ Q := WP_aload_n mq106 dd106_175 rfl
theorem dd106_176 : decode cX9_isTrue 176 = .ok (.getfield 11, 3) := by decide +kernel
theorem ww106_176 {d : Nat} {l0 l1 l2 l3 l4 : Option mw_V} {st : List mw_V} {σ : mw_S} {Q : Option mw_V → mw_S → Prop} : mw_WP d 106 176 [l0, l1, l2, l3, l4] (jR 22 :: st) σ Q ↔ mw_WP d 106 179 [l0, l1, l2, l3, l4] (jR 23 :: st) σ Q := WP_getR (ci := 8) (k := 6) mq106 dd106_176 (by decide) rfl
theorem dd106_179 : decode cX9_isTrue 179 = .ok (.iconst 0, 1) := by decide +kernel
theorem ww106_179 {d : Nat} {l0 l1 l2 l3 l4 : Option mw_V} {st : List mw_V} {σ : mw_S} {Q : Option mw_V → mw_S → Prop} : mw_WP d 106 179 [l0, l1, l2, l3, l4] st σ Q ↔ mw_WP d 106 180 [l0, l1, l2, l3, l4] (jI (0) :: st) σ Q := WP_iconst mq106 dd106_179 (by decide)
theorem dd106_180 : decode cX9_isTrue 180 = .ok (.iaload, 1) := by decide +kernel
theorem ww106_180 {d : Nat} {l0 l1 l2 l3 l4 : Option mw_V} {z : Int} {a : Nat} {st : List mw_V} {σ : mw_S} {Q : Option mw_V → mw_S → Prop} : mw_WP d 106 180 [l0, l1, l2, l3, l4] (jI z :: jR a :: st) σ Q ↔ ((0 ≤ z ∧ z < mw_lenI a) ∧ mw_WP d 106 181 [l0, l1, l2, l3, l4] (jI (mw_rdI σ a z.toNat) :: st) σ Q) := WP_iaload mq106 dd106_180
theorem dd106_181 : decode cX9_isTrue 181 = .ok (.iconst 1, 1) := by decide +kernel
theorem ww106_181 {d : Nat} {l0 l1 l2 l3 l4 : Option mw_V} {st : List mw_V} {σ : mw_S} {Q : Option mw_V → mw_S → Prop} : mw_WP d 106 181 [l0, l1, l2, l3, l4] st σ Q ↔ mw_WP d 106 182 [l0, l1, l2, l3, l4] (jI (1) :: st) σ Q := WP_iconst mq106 dd106_181 (by decide)
theorem dd106_182 : decode cX9_isTrue 182 = .ok (.if_icmp .ne 7, 3) := by decide +kernel
theorem ww106_182 {d : Nat} {l0 l1 l2 l3 l4 : Option mw_V} {x y : Int} {st : List mw_V} {σ : mw_S} {Q : Option mw_V → mw_S → Prop} : mw_WP d 106 182 [l0, l1, l2, l3, l4] (jI y :: jI x :: st) σ Q ↔ (if ¬ x = y then mw_WP d 106 189 [l0, l1, l2, l3, l4] st σ Q else mw_WP d 106 185 [l0, l1, l2, l3, l4] st σ Q) := WP_icmp_ne mq106 dd106_182 (by decide)
theorem dd106_185 : decode cX9_isTrue 185 = .ok (.iconst 1, 1) := by decide +kernel
theorem ww106_185 {d : Nat} {l0 l1 l2 l3 l4 : Option mw_V} {st : List mw_V} {σ : mw_S} {Q : Option mw_V → mw_S → Prop} : mw_WP d 106 185 [l0, l1, l2, l3, l4] st σ Q ↔ mw_WP d 106 186 [l0, l1, l2, l3, l4] (jI (1) :: st) σ Q := WP_iconst mq106 dd106_185 (by decide)
theorem dd106_186 : decode cX9_isTrue 186 = .ok (.goto 4, 3) := by decide +kernel
theorem ww106_186 {d : Nat} {l0 l1 l2 l3 l4 : Option mw_V} {st : List mw_V} {σ : mw_S} {Q : Option mw_V → mw_S → Prop} : mw_WP d 106 186 [l0, l1, l2, l3, l4] st σ Q ↔ mw_WP d 106 190 [l0, l1, l2, l3, l4] st σ Q := WP_goto mq106 dd106_186 (by decide)
theorem dd106_189 : decode cX9_isTrue 189 = .ok (.iconst 0, 1) := by decide +kernel
theorem ww106_189 {d : Nat} {l0 l1 l2 l3 l4 : Option mw_V} {st : List mw_V} {σ : mw_S} {Q : Option mw_V → mw_S → Prop} : mw_WP d 106 189 [l0, l1, l2, l3, l4] st σ Q ↔ mw_WP d 106 190 [l0, l1, l2, l3, l4] (jI (0) :: st) σ Q := WP_iconst mq106 dd106_189 (by decide)
theorem dd106_190 : decode cX9_isTrue 190 = .ok (.ireturn, 1) := by decide +kernel
theorem ww106_190 {d : Nat} {l0 l1 l2 l3 l4 : Option mw_V} {z : Int} {σ : mw_S} {Q : Option mw_V → mw_S → Prop} (h : z = 0 ∨ z = 1) : mw_WP d 106 190 [l0, l1, l2, l3, l4] [jI z] σ Q ↔ Q (some (jI z)) σ := WP_ireturn (ty := .boolean) mq106 dd106_190 rfl (by rcases h with rfl | rfl <;> decide)
theorem ee107 {d : Nat} {z0 : Int} {z1 : Int} {z2 : Int} {σ : mw_S} {Q : Option mw_V → mw_S → Prop} : mw_Call (d + 1) 107 [jI z0, jI z1, jI z2] σ Q ↔ mw_WP d 107 0 [some (jI z0), some (jI z1), some (jI z2)] [] σ Q := CL_u mq107 (Nat.le_of_ble_eq_true rfl) rfl
theorem dd107_0 : decode cX9_joined 0 = .ok (.iload_n 0, 1) := by decide +kernel
theorem ww107_0 {d : Nat} {l1 l2 : Option mw_V} {x : Int} {st : List mw_V} {σ : mw_S} {Q : Option mw_V → mw_S → Prop} : mw_WP d 107 0 [some (jI x), l1, l2] st σ Q ↔ mw_WP d 107 1 [some (jI x), l1, l2] (jI x :: st) σ Q := WP_iload_n mq107 dd107_0 rfl
theorem dd107_1 : decode cX9_joined 1 = .ok (.tableswitch 99 1011 1017 #[43, 49, 55, 61, 72, 83, 94], 43) := by decide +kernel
theorem ww107_1k0 {d : Nat} {l0 l1 l2 : Option mw_V} {st : List mw_V} {σ : mw_S} {Q : Option mw_V → mw_S → Prop} : mw_WP d 107 1 [l0, l1, l2] (jI (1011) :: st) σ Q ↔ mw_WP d 107 44 [l0, l1, l2] st σ Q := WP_k mq107 dd107_1 rfl (fun _ _ => by simp [mw_stp, mw_b1, mw_go])
theorem ww107_1k1 {d : Nat} {l0 l1 l2 : Option mw_V} {st : List mw_V} {σ : mw_S} {Q : Option mw_V → mw_S → Prop} : mw_WP d 107 1 [l0, l1, l2] (jI (1012) :: st) σ Q ↔ mw_WP d 107 50 [l0, l1, l2] st σ Q := WP_k mq107 dd107_1 rfl (fun _ _ => by simp [mw_stp, mw_b1, mw_go])
theorem ww107_1k2 {d : Nat} {l0 l1 l2 : Option mw_V} {st : List mw_V} {σ : mw_S} {Q : Option mw_V → mw_S → Prop} : mw_WP d 107 1 [l0, l1, l2] (jI (1013) :: st) σ Q ↔ mw_WP d 107 56 [l0, l1, l2] st σ Q := WP_k mq107 dd107_1 rfl (fun _ _ => by simp [mw_stp, mw_b1, mw_go])
theorem ww107_1k3 {d : Nat} {l0 l1 l2 : Option mw_V} {st : List mw_V} {σ : mw_S} {Q : Option mw_V → mw_S → Prop} : mw_WP d 107 1 [l0, l1, l2] (jI (1014) :: st) σ Q ↔ mw_WP d 107 62 [l0, l1, l2] st σ Q := WP_k mq107 dd107_1 rfl (fun _ _ => by simp [mw_stp, mw_b1, mw_go])
theorem ww107_1k4 {d : Nat} {l0 l1 l2 : Option mw_V} {st : List mw_V} {σ : mw_S} {Q : Option mw_V → mw_S → Prop} : mw_WP d 107 1 [l0, l1, l2] (jI (1015) :: st) σ Q ↔ mw_WP d 107 73 [l0, l1, l2] st σ Q := WP_k mq107 dd107_1 rfl (fun _ _ => by simp [mw_stp, mw_b1, mw_go])
theorem ww107_1k5 {d : Nat} {l0 l1 l2 : Option mw_V} {st : List mw_V} {σ : mw_S} {Q : Option mw_V → mw_S → Prop} : mw_WP d 107 1 [l0, l1, l2] (jI (1016) :: st) σ Q ↔ mw_WP d 107 84 [l0, l1, l2] st σ Q := WP_k mq107 dd107_1 rfl (fun _ _ => by simp [mw_stp, mw_b1, mw_go])
theorem ww107_1k6 {d : Nat} {l0 l1 l2 : Option mw_V} {st : List mw_V} {σ : mw_S} {Q : Option mw_V → mw_S → Prop} : mw_WP d 107 1 [l0, l1, l2] (jI (1017) :: st) σ Q ↔ mw_WP d 107 95 [l0, l1, l2] st σ Q := WP_k mq107 dd107_1 rfl (fun _ _ => by simp [mw_stp, mw_b1, mw_go])
theorem ww107_1kd {d : Nat} {l0 l1 l2 : Option mw_V} {x : Int} {st : List mw_V} {σ : mw_S} {Q : Option mw_V → mw_S → Prop} (h : x < 1011 ∨ 1017 < x) : mw_WP d 107 1 [l0, l1, l2] (jI x :: st) σ Q ↔ mw_WP d 107 100 [l0, l1, l2] st σ Q := WP_k mq107 dd107_1 rfl (fun _ _ => by simp [mw_stp, mw_b1, mw_go, h])
theorem dd107_44 : decode cX9_joined 44 = .ok (.iload_n 1, 1) := by decide +kernel
theorem ww107_44 {d : Nat} {l0 l2 : Option mw_V} {x : Int} {st : List mw_V} {σ : mw_S} {Q : Option mw_V → mw_S → Prop} : mw_WP d 107 44 [l0, some (jI x), l2] st σ Q ↔ mw_WP d 107 45 [l0, some (jI x), l2] (jI x :: st) σ Q := WP_iload_n mq107 dd107_44 rfl
theorem dd107_45 : decode cX9_joined 45 = .ok (.i2l, 1) := by decide +kernel
theorem ww107_45 {d : Nat} {l0 l1 l2 : Option mw_V} {x : Int} {st : List mw_V} {σ : mw_S} {Q : Option mw_V → mw_S → Prop} : mw_WP d 107 45 [l0, l1, l2] (jI x :: st) σ Q ↔ mw_WP d 107 46 [l0, l1, l2] (jL (yL x) :: st) σ Q := WP_i2l mq107 dd107_45
theorem dd107_46 : decode cX9_joined 46 = .ok (.iload_n 2, 1) := by decide +kernel
theorem ww107_46 {d : Nat} {l0 l1 : Option mw_V} {x : Int} {st : List mw_V} {σ : mw_S} {Q : Option mw_V → mw_S → Prop} : mw_WP d 107 46 [l0, l1, some (jI x)] st σ Q ↔ mw_WP d 107 47 [l0, l1, some (jI x)] (jI x :: st) σ Q := WP_iload_n mq107 dd107_46 rfl
theorem dd107_47 : decode cX9_joined 47 = .ok (.i2l, 1) := by decide +kernel
theorem ww107_47 {d : Nat} {l0 l1 l2 : Option mw_V} {x : Int} {st : List mw_V} {σ : mw_S} {Q : Option mw_V → mw_S → Prop} : mw_WP d 107 47 [l0, l1, l2] (jI x :: st) σ Q ↔ mw_WP d 107 48 [l0, l1, l2] (jL (yL x) :: st) σ Q := WP_i2l mq107 dd107_47
theorem dd107_48 : decode cX9_joined 48 = .ok (.ladd, 1) := by decide +kernel
theorem ww107_48 {d : Nat} {l0 l1 l2 : Option mw_V} {x y : Int} {st : List mw_V} {σ : mw_S} {Q : Option mw_V → mw_S → Prop} : mw_WP d 107 48 [l0, l1, l2] (jL y :: jL x :: st) σ Q ↔ mw_WP d 107 49 [l0, l1, l2] (jL (w64 (x + y)) :: st) σ Q := WP_ladd mq107 dd107_48
theorem dd107_49 : decode cX9_joined 49 = .ok (.lreturn, 1) := by decide +kernel
theorem ww107_49 {d : Nat} {l0 l1 l2 : Option mw_V} {z : Int} {σ : mw_S} {Q : Option mw_V → mw_S → Prop} : mw_WP d 107 49 [l0, l1, l2] [jL z] σ Q ↔ Q (some (jL z)) σ := WP_lreturn mq107 dd107_49 rfl
theorem dd107_50 : decode cX9_joined 50 = .ok (.iload_n 1, 1) := by decide +kernel
theorem ww107_50 {d : Nat} {l0 l2 : Option mw_V} {x : Int} {st : List mw_V} {σ : mw_S} {Q : Option mw_V → mw_S → Prop} : mw_WP d 107 50 [l0, some (jI x), l2] st σ Q ↔ mw_WP d 107 51 [l0, some (jI x), l2] (jI x :: st) σ Q := WP_iload_n mq107 dd107_50 rfl
theorem dd107_51 : decode cX9_joined 51 = .ok (.i2l, 1) := by decide +kernel
theorem ww107_51 {d : Nat} {l0 l1 l2 : Option mw_V} {x : Int} {st : List mw_V} {σ : mw_S} {Q : Option mw_V → mw_S → Prop} : mw_WP d 107 51 [l0, l1, l2] (jI x :: st) σ Q ↔ mw_WP d 107 52 [l0, l1, l2] (jL (yL x) :: st) σ Q := WP_i2l mq107 dd107_51
theorem dd107_52 : decode cX9_joined 52 = .ok (.iload_n 2, 1) := by decide +kernel
theorem ww107_52 {d : Nat} {l0 l1 : Option mw_V} {x : Int} {st : List mw_V} {σ : mw_S} {Q : Option mw_V → mw_S → Prop} : mw_WP d 107 52 [l0, l1, some (jI x)] st σ Q ↔ mw_WP d 107 53 [l0, l1, some (jI x)] (jI x :: st) σ Q := WP_iload_n mq107 dd107_52 rfl
theorem dd107_53 : decode cX9_joined 53 = .ok (.i2l, 1) := by decide +kernel
theorem ww107_53 {d : Nat} {l0 l1 l2 : Option mw_V} {x : Int} {st : List mw_V} {σ : mw_S} {Q : Option mw_V → mw_S → Prop} : mw_WP d 107 53 [l0, l1, l2] (jI x :: st) σ Q ↔ mw_WP d 107 54 [l0, l1, l2] (jL (yL x) :: st) σ Q := WP_i2l mq107 dd107_53
theorem dd107_54 : decode cX9_joined 54 = .ok (.lsub, 1) := by decide +kernel
theorem ww107_54 {d : Nat} {l0 l1 l2 : Option mw_V} {x y : Int} {st : List mw_V} {σ : mw_S} {Q : Option mw_V → mw_S → Prop} : mw_WP d 107 54 [l0, l1, l2] (jL y :: jL x :: st) σ Q ↔ mw_WP d 107 55 [l0, l1, l2] (jL (w64 (x - y)) :: st) σ Q := WP_lsub mq107 dd107_54
theorem dd107_55 : decode cX9_joined 55 = .ok (.lreturn, 1) := by decide +kernel
theorem ww107_55 {d : Nat} {l0 l1 l2 : Option mw_V} {z : Int} {σ : mw_S} {Q : Option mw_V → mw_S → Prop} : mw_WP d 107 55 [l0, l1, l2] [jL z] σ Q ↔ Q (some (jL z)) σ := WP_lreturn mq107 dd107_55 rfl
theorem dd107_56 : decode cX9_joined 56 = .ok (.iload_n 1, 1) := by decide +kernel
theorem ww107_56 {d : Nat} {l0 l2 : Option mw_V} {x : Int} {st : List mw_V} {σ : mw_S} {Q : Option mw_V → mw_S → Prop} : mw_WP d 107 56 [l0, some (jI x), l2] st σ Q ↔ mw_WP d 107 57 [l0, some (jI x), l2] (jI x :: st) σ Q := WP_iload_n mq107 dd107_56 rfl
theorem dd107_57 : decode cX9_joined 57 = .ok (.i2l, 1) := by decide +kernel
theorem ww107_57 {d : Nat} {l0 l1 l2 : Option mw_V} {x : Int} {st : List mw_V} {σ : mw_S} {Q : Option mw_V → mw_S → Prop} : mw_WP d 107 57 [l0, l1, l2] (jI x :: st) σ Q ↔ mw_WP d 107 58 [l0, l1, l2] (jL (yL x) :: st) σ Q := WP_i2l mq107 dd107_57
theorem dd107_58 : decode cX9_joined 58 = .ok (.iload_n 2, 1) := by decide +kernel
theorem ww107_58 {d : Nat} {l0 l1 : Option mw_V} {x : Int} {st : List mw_V} {σ : mw_S} {Q : Option mw_V → mw_S → Prop} : mw_WP d 107 58 [l0, l1, some (jI x)] st σ Q ↔ mw_WP d 107 59 [l0, l1, some (jI x)] (jI x :: st) σ Q := WP_iload_n mq107 dd107_58 rfl
theorem dd107_59 : decode cX9_joined 59 = .ok (.i2l, 1) := by decide +kernel
theorem ww107_59 {d : Nat} {l0 l1 l2 : Option mw_V} {x : Int} {st : List mw_V} {σ : mw_S} {Q : Option mw_V → mw_S → Prop} : mw_WP d 107 59 [l0, l1, l2] (jI x :: st) σ Q ↔ mw_WP d 107 60 [l0, l1, l2] (jL (yL x) :: st) σ Q := WP_i2l mq107 dd107_59
theorem dd107_60 : decode cX9_joined 60 = .ok (.lmul, 1) := by decide +kernel
theorem ww107_60 {d : Nat} {l0 l1 l2 : Option mw_V} {x y : Int} {st : List mw_V} {σ : mw_S} {Q : Option mw_V → mw_S → Prop} : mw_WP d 107 60 [l0, l1, l2] (jL y :: jL x :: st) σ Q ↔ mw_WP d 107 61 [l0, l1, l2] (jL (w64 (x * y)) :: st) σ Q := WP_lmul mq107 dd107_60
theorem dd107_61 : decode cX9_joined 61 = .ok (.lreturn, 1) := by decide +kernel
theorem ww107_61 {d : Nat} {l0 l1 l2 : Option mw_V} {z : Int} {σ : mw_S} {Q : Option mw_V → mw_S → Prop} : mw_WP d 107 61 [l0, l1, l2] [jL z] σ Q ↔ Q (some (jL z)) σ := WP_lreturn mq107 dd107_61 rfl
theorem dd107_62 : decode cX9_joined 62 = .ok (.iload_n 1, 1) := by decide +kernel
theorem ww107_62 {d : Nat} {l0 l2 : Option mw_V} {x : Int} {st : List mw_V} {σ : mw_S} {Q : Option mw_V → mw_S → Prop} : mw_WP d 107 62 [l0, some (jI x), l2] st σ Q ↔ mw_WP d 107 63 [l0, some (jI x), l2] (jI x :: st) σ Q := WP_iload_n mq107 dd107_62 rfl
theorem dd107_63 : decode cX9_joined 63 = .ok (.iload_n 2, 1) := by decide +kernel
theorem ww107_63 {d : Nat} {l0 l1 : Option mw_V} {x : Int} {st : List mw_V} {σ : mw_S} {Q : Option mw_V → mw_S → Prop} : mw_WP d 107 63 [l0, l1, some (jI x)] st σ Q ↔ mw_WP d 107 64 [l0, l1, some (jI x)] (jI x :: st) σ Q := WP_iload_n mq107 dd107_63 rfl
theorem dd107_64 : decode cX9_joined 64 = .ok (.if_icmp .ne 7, 3) := by decide +kernel
theorem ww107_64 {d : Nat} {l0 l1 l2 : Option mw_V} {x y : Int} {st : List mw_V} {σ : mw_S} {Q : Option mw_V → mw_S → Prop} : mw_WP d 107 64 [l0, l1, l2] (jI y :: jI x :: st) σ Q ↔ (if ¬ x = y then mw_WP d 107 71 [l0, l1, l2] st σ Q else mw_WP d 107 67 [l0, l1, l2] st σ Q) := WP_icmp_ne mq107 dd107_64 (by decide)
theorem dd107_67 : decode cX9_joined 67 = .ok (.lconst 1, 1) := by decide +kernel
theorem ww107_67 {d : Nat} {l0 l1 l2 : Option mw_V} {st : List mw_V} {σ : mw_S} {Q : Option mw_V → mw_S → Prop} : mw_WP d 107 67 [l0, l1, l2] st σ Q ↔ mw_WP d 107 68 [l0, l1, l2] (jL (1) :: st) σ Q := WP_lconst mq107 dd107_67 (by decide)
theorem dd107_68 : decode cX9_joined 68 = .ok (.goto 4, 3) := by decide +kernel
theorem ww107_68 {d : Nat} {l0 l1 l2 : Option mw_V} {st : List mw_V} {σ : mw_S} {Q : Option mw_V → mw_S → Prop} : mw_WP d 107 68 [l0, l1, l2] st σ Q ↔ mw_WP d 107 72 [l0, l1, l2] st σ Q := WP_goto mq107 dd107_68 (by decide)
theorem dd107_71 : decode cX9_joined 71 = .ok (.lconst 0, 1) := by decide +kernel
theorem ww107_71 {d : Nat} {l0 l1 l2 : Option mw_V} {st : List mw_V} {σ : mw_S} {Q : Option mw_V → mw_S → Prop} : mw_WP d 107 71 [l0, l1, l2] st σ Q ↔ mw_WP d 107 72 [l0, l1, l2] (jL (0) :: st) σ Q := WP_lconst mq107 dd107_71 (by decide)
theorem dd107_72 : decode cX9_joined 72 = .ok (.lreturn, 1) := by decide +kernel
theorem ww107_72 {d : Nat} {l0 l1 l2 : Option mw_V} {z : Int} {σ : mw_S} {Q : Option mw_V → mw_S → Prop} : mw_WP d 107 72 [l0, l1, l2] [jL z] σ Q ↔ Q (some (jL z)) σ := WP_lreturn mq107 dd107_72 rfl
theorem dd107_73 : decode cX9_joined 73 = .ok (.iload_n 1, 1) := by decide +kernel
theorem ww107_73 {d : Nat} {l0 l2 : Option mw_V} {x : Int} {st : List mw_V} {σ : mw_S} {Q : Option mw_V → mw_S → Prop} : mw_WP d 107 73 [l0, some (jI x), l2] st σ Q ↔ mw_WP d 107 74 [l0, some (jI x), l2] (jI x :: st) σ Q := WP_iload_n mq107 dd107_73 rfl
theorem dd107_74 : decode cX9_joined 74 = .ok (.iload_n 2, 1) := by decide +kernel
theorem ww107_74 {d : Nat} {l0 l1 : Option mw_V} {x : Int} {st : List mw_V} {σ : mw_S} {Q : Option mw_V → mw_S → Prop} : mw_WP d 107 74 [l0, l1, some (jI x)] st σ Q ↔ mw_WP d 107 75 [l0, l1, some (jI x)] (jI x :: st) σ Q := WP_iload_n mq107 dd107_74 rfl
theorem dd107_75 : decode cX9_joined 75 = .ok (.if_icmp .ge 7, 3) := by decide +kernel
theorem ww107_75 {d : Nat} {l0 l1 l2 : Option mw_V} {x y : Int} {st : List mw_V} {σ : mw_S} {Q : Option mw_V → mw_S → Prop} : mw_WP d 107 75 [l0, l1, l2] (jI y :: jI x :: st) σ Q ↔ (if y ≤ x then mw_WP d 107 82 [l0, l1, l2] st σ Q else mw_WP d 107 78 [l0, l1, l2] st σ Q) := WP_icmp_ge mq107 dd107_75 (by decide)
theorem dd107_78 : decode cX9_joined 78 = .ok (.lconst 1, 1) := by decide +kernel
theorem ww107_78 {d : Nat} {l0 l1 l2 : Option mw_V} {st : List mw_V} {σ : mw_S} {Q : Option mw_V → mw_S → Prop} : mw_WP d 107 78 [l0, l1, l2] st σ Q ↔ mw_WP d 107 79 [l0, l1, l2] (jL (1) :: st) σ Q := WP_lconst mq107 dd107_78 (by decide)
theorem dd107_79 : decode cX9_joined 79 = .ok (.goto 4, 3) := by decide +kernel
theorem ww107_79 {d : Nat} {l0 l1 l2 : Option mw_V} {st : List mw_V} {σ : mw_S} {Q : Option mw_V → mw_S → Prop} : mw_WP d 107 79 [l0, l1, l2] st σ Q ↔ mw_WP d 107 83 [l0, l1, l2] st σ Q := WP_goto mq107 dd107_79 (by decide)
theorem dd107_82 : decode cX9_joined 82 = .ok (.lconst 0, 1) := by decide +kernel
theorem ww107_82 {d : Nat} {l0 l1 l2 : Option mw_V} {st : List mw_V} {σ : mw_S} {Q : Option mw_V → mw_S → Prop} : mw_WP d 107 82 [l0, l1, l2] st σ Q ↔ mw_WP d 107 83 [l0, l1, l2] (jL (0) :: st) σ Q := WP_lconst mq107 dd107_82 (by decide)
theorem dd107_83 : decode cX9_joined 83 = .ok (.lreturn, 1) := by decide +kernel
theorem ww107_83 {d : Nat} {l0 l1 l2 : Option mw_V} {z : Int} {σ : mw_S} {Q : Option mw_V → mw_S → Prop} : mw_WP d 107 83 [l0, l1, l2] [jL z] σ Q ↔ Q (some (jL z)) σ := WP_lreturn mq107 dd107_83 rfl
theorem dd107_84 : decode cX9_joined 84 = .ok (.iload_n 1, 1) := by decide +kernel
theorem ww107_84 {d : Nat} {l0 l2 : Option mw_V} {x : Int} {st : List mw_V} {σ : mw_S} {Q : Option mw_V → mw_S → Prop} : mw_WP d 107 84 [l0, some (jI x), l2] st σ Q ↔ mw_WP d 107 85 [l0, some (jI x), l2] (jI x :: st) σ Q := WP_iload_n mq107 dd107_84 rfl
theorem dd107_85 : decode cX9_joined 85 = .ok (.iload_n 2, 1) := by decide +kernel
theorem ww107_85 {d : Nat} {l0 l1 : Option mw_V} {x : Int} {st : List mw_V} {σ : mw_S} {Q : Option mw_V → mw_S → Prop} : mw_WP d 107 85 [l0, l1, some (jI x)] st σ Q ↔ mw_WP d 107 86 [l0, l1, some (jI x)] (jI x :: st) σ Q := WP_iload_n mq107 dd107_85 rfl
theorem dd107_86 : decode cX9_joined 86 = .ok (.if_icmp .le 7, 3) := by decide +kernel
theorem ww107_86 {d : Nat} {l0 l1 l2 : Option mw_V} {x y : Int} {st : List mw_V} {σ : mw_S} {Q : Option mw_V → mw_S → Prop} : mw_WP d 107 86 [l0, l1, l2] (jI y :: jI x :: st) σ Q ↔ (if x ≤ y then mw_WP d 107 93 [l0, l1, l2] st σ Q else mw_WP d 107 89 [l0, l1, l2] st σ Q) := WP_icmp_le mq107 dd107_86 (by decide)
theorem dd107_89 : decode cX9_joined 89 = .ok (.lconst 1, 1) := by decide +kernel
theorem ww107_89 {d : Nat} {l0 l1 l2 : Option mw_V} {st : List mw_V} {σ : mw_S} {Q : Option mw_V → mw_S → Prop} : mw_WP d 107 89 [l0, l1, l2] st σ Q ↔ mw_WP d 107 90 [l0, l1, l2] (jL (1) :: st) σ Q := WP_lconst mq107 dd107_89 (by decide)
theorem dd107_90 : decode cX9_joined 90 = .ok (.goto 4, 3) := by decide +kernel
theorem ww107_90 {d : Nat} {l0 l1 l2 : Option mw_V} {st : List mw_V} {σ : mw_S} {Q : Option mw_V → mw_S → Prop} : mw_WP d 107 90 [l0, l1, l2] st σ Q ↔ mw_WP d 107 94 [l0, l1, l2] st σ Q := WP_goto mq107 dd107_90 (by decide)
theorem dd107_93 : decode cX9_joined 93 = .ok (.lconst 0, 1) := by decide +kernel
theorem ww107_93 {d : Nat} {l0 l1 l2 : Option mw_V} {st : List mw_V} {σ : mw_S} {Q : Option mw_V → mw_S → Prop} : mw_WP d 107 93 [l0, l1, l2] st σ Q ↔ mw_WP d 107 94 [l0, l1, l2] (jL (0) :: st) σ Q := WP_lconst mq107 dd107_93 (by decide)
theorem dd107_94 : decode cX9_joined 94 = .ok (.lreturn, 1) := by decide +kernel
theorem ww107_94 {d : Nat} {l0 l1 l2 : Option mw_V} {z : Int} {σ : mw_S} {Q : Option mw_V → mw_S → Prop} : mw_WP d 107 94 [l0, l1, l2] [jL z] σ Q ↔ Q (some (jL z)) σ := WP_lreturn mq107 dd107_94 rfl
theorem dd107_95 : decode cX9_joined 95 = .ok (.iload_n 1, 1) := by decide +kernel
theorem ww107_95 {d : Nat} {l0 l2 : Option mw_V} {x : Int} {st : List mw_V} {σ : mw_S} {Q : Option mw_V → mw_S → Prop} : mw_WP d 107 95 [l0, some (jI x), l2] st σ Q ↔ mw_WP d 107 96 [l0, some (jI x), l2] (jI x :: st) σ Q := WP_iload_n mq107 dd107_95 rfl
theorem dd107_96 : decode cX9_joined 96 = .ok (.iload_n 2, 1) := by decide +kernel
theorem ww107_96 {d : Nat} {l0 l1 : Option mw_V} {x : Int} {st : List mw_V} {σ : mw_S} {Q : Option mw_V → mw_S → Prop} : mw_WP d 107 96 [l0, l1, some (jI x)] st σ Q ↔ mw_WP d 107 97 [l0, l1, some (jI x)] (jI x :: st) σ Q := WP_iload_n mq107 dd107_96 rfl
theorem dd107_97 : decode cX9_joined 97 = .ok (.iand, 1) := by decide +kernel
theorem ww107_97 {d : Nat} {l0 l1 l2 : Option mw_V} {x y : Int} {st : List mw_V} {σ : mw_S} {Q : Option mw_V → mw_S → Prop} : mw_WP d 107 97 [l0, l1, l2] (jI y :: jI x :: st) σ Q ↔ mw_WP d 107 98 [l0, l1, l2] (jI (zAnd x y) :: st) σ Q := WP_iand mq107 dd107_97
theorem dd107_98 : decode cX9_joined 98 = .ok (.i2l, 1) := by decide +kernel
theorem ww107_98 {d : Nat} {l0 l1 l2 : Option mw_V} {x : Int} {st : List mw_V} {σ : mw_S} {Q : Option mw_V → mw_S → Prop} : mw_WP d 107 98 [l0, l1, l2] (jI x :: st) σ Q ↔ mw_WP d 107 99 [l0, l1, l2] (jL (yL x) :: st) σ Q := WP_i2l mq107 dd107_98
theorem dd107_99 : decode cX9_joined 99 = .ok (.lreturn, 1) := by decide +kernel
theorem ww107_99 {d : Nat} {l0 l1 l2 : Option mw_V} {z : Int} {σ : mw_S} {Q : Option mw_V → mw_S → Prop} : mw_WP d 107 99 [l0, l1, l2] [jL z] σ Q ↔ Q (some (jL z)) σ := WP_lreturn mq107 dd107_99 rfl
theorem dd107_100 : decode cX9_joined 100 = .ok (.iload_n 1, 1) := by decide +kernel
theorem ww107_100 {d : Nat} {l0 l2 : Option mw_V} {x : Int} {st : List mw_V} {σ : mw_S} {Q : Option mw_V → mw_S → Prop} : mw_WP d 107 100 [l0, some (jI x), l2] st σ Q ↔ mw_WP d 107 101 [l0, some (jI x), l2] (jI x :: st) σ Q := WP_iload_n mq107 dd107_100 rfl
theorem dd107_101 : decode cX9_joined 101 = .ok (.iload_n 2, 1) := by decide +kernel
theorem ww107_101 {d : Nat} {l0 l1 : Option mw_V} {x : Int} {st : List mw_V} {σ : mw_S} {Q : Option mw_V → mw_S → Prop} : mw_WP d 107 101 [l0, l1, some (jI x)] st σ Q ↔ mw_WP d 107 102 [l0, l1, some (jI x)] (jI x :: st) σ Q := WP_iload_n mq107 dd107_101 rfl
theorem dd107_102 : decode cX9_joined 102 = .ok (.ior, 1) := by decide +kernel
theorem ww107_102 {d : Nat} {l0 l1 l2 : Option mw_V} {x y : Int} {st : List mw_V} {σ : mw_S} {Q : Option mw_V → mw_S → Prop} : mw_WP d 107 102 [l0, l1, l2] (jI y :: jI x :: st) σ Q ↔ mw_WP d 107 103 [l0, l1, l2] (jI (zOr x y) :: st) σ Q := WP_ior mq107 dd107_102
theorem dd107_103 : decode cX9_joined 103 = .ok (.i2l, 1) := by decide +kernel
theorem ww107_103 {d : Nat} {l0 l1 l2 : Option mw_V} {x : Int} {st : List mw_V} {σ : mw_S} {Q : Option mw_V → mw_S → Prop} : mw_WP d 107 103 [l0, l1, l2] (jI x :: st) σ Q ↔ mw_WP d 107 104 [l0, l1, l2] (jL (yL x) :: st) σ Q := WP_i2l mq107 dd107_103
theorem dd107_104 : decode cX9_joined 104 = .ok (.lreturn, 1) := by decide +kernel
theorem ww107_104 {d : Nat} {l0 l1 l2 : Option mw_V} {z : Int} {σ : mw_S} {Q : Option mw_V → mw_S → Prop} : mw_WP d 107 104 [l0, l1, l2] [jL z] σ Q ↔ Q (some (jL z)) σ := WP_lreturn mq107 dd107_104 rfl
theorem ee108 {d : Nat} {z0 : Int} {σ : mw_S} {Q : Option mw_V → mw_S → Prop} : mw_Call (d + 1) 108 [jL z0] σ Q ↔ mw_WP d 108 0 [some (jL z0), none] [] σ Q := CL_u mq108 (Nat.le_of_ble_eq_true rfl) rfl
theorem dd108_0 : decode cX9_kept 0 = .ok (.lload_n 0, 1) := by decide +kernel
theorem ww108_0 {d : Nat} {l1 : Option mw_V} {x : Int} {st : List mw_V} {σ : mw_S} {Q : Option mw_V → mw_S → Prop} : mw_WP d 108 0 [some (jL x), l1] st σ Q ↔ mw_WP d 108 1 [some (jL x), l1] (jL x :: st) σ Q := WP_lload_n mq108 dd108_0 rfl
theorem dd108_1 : decode cX9_kept 1 = .ok (.ldc2_w 132, 3) := by decide +kernel
theorem ww108_1 {d : Nat} {l0 l1 : Option mw_V} {st : List mw_V} {σ : mw_S} {Q : Option mw_V → mw_S → Prop} : mw_WP d 108 1 [l0, l1] st σ Q ↔ mw_WP d 108 4 [l0, l1] (jL (1000000) :: st) σ Q := WP_ldc2_w (v := 1000000) mq108 dd108_1 (by decide) (by decide)
theorem dd108_4 : decode cX9_kept 4 = .ok (.lcmp, 1) := by decide +kernel
theorem ww108_4 {d : Nat} {l0 l1 : Option mw_V} {x y : Int} {st : List mw_V} {σ : mw_S} {Q : Option mw_V → mw_S → Prop} : mw_WP d 108 4 [l0, l1] (jL y :: jL x :: st) σ Q ↔ mw_WP d 108 5 [l0, l1] (jI (yCmp x y) :: st) σ Q := WP_lcmp mq108 dd108_4
theorem dd108_5 : decode cX9_kept 5 = .ok (.ifCond .le 8, 3) := by decide +kernel
theorem ww108_5 {d : Nat} {l0 l1 : Option mw_V} {x : Int} {st : List mw_V} {σ : mw_S} {Q : Option mw_V → mw_S → Prop} : mw_WP d 108 5 [l0, l1] (jI x :: st) σ Q ↔ (if x ≤ 0 then mw_WP d 108 13 [l0, l1] st σ Q else mw_WP d 108 8 [l0, l1] st σ Q) := WP_if_le mq108 dd108_5 (by decide)
theorem dd108_8 : decode cX9_kept 8 = .ok (.ldc 134, 2) := by decide +kernel
theorem ww108_8 {d : Nat} {l0 l1 : Option mw_V} {st : List mw_V} {σ : mw_S} {Q : Option mw_V → mw_S → Prop} : mw_WP d 108 8 [l0, l1] st σ Q ↔ mw_WP d 108 10 [l0, l1] (jI (1000000) :: st) σ Q := WP_ldc (v := 1000000) mq108 dd108_8 (by decide) (by decide)
theorem dd108_10 : decode cX9_kept 10 = .ok (.goto 18, 3) := by decide +kernel
theorem ww108_10 {d : Nat} {l0 l1 : Option mw_V} {st : List mw_V} {σ : mw_S} {Q : Option mw_V → mw_S → Prop} : mw_WP d 108 10 [l0, l1] st σ Q ↔ mw_WP d 108 28 [l0, l1] st σ Q := WP_goto mq108 dd108_10 (by decide)
theorem dd108_13 : decode cX9_kept 13 = .ok (.lload_n 0, 1) := by decide +kernel
theorem ww108_13 {d : Nat} {l1 : Option mw_V} {x : Int} {st : List mw_V} {σ : mw_S} {Q : Option mw_V → mw_S → Prop} : mw_WP d 108 13 [some (jL x), l1] st σ Q ↔ mw_WP d 108 14 [some (jL x), l1] (jL x :: st) σ Q := WP_lload_n mq108 dd108_13 rfl
theorem dd108_14 : decode cX9_kept 14 = .ok (.ldc2_w 135, 3) := by decide +kernel
theorem ww108_14 {d : Nat} {l0 l1 : Option mw_V} {st : List mw_V} {σ : mw_S} {Q : Option mw_V → mw_S → Prop} : mw_WP d 108 14 [l0, l1] st σ Q ↔ mw_WP d 108 17 [l0, l1] (jL (-1000000) :: st) σ Q := WP_ldc2_w (v := -1000000) mq108 dd108_14 (by decide) (by decide)
theorem dd108_17 : decode cX9_kept 17 = .ok (.lcmp, 1) := by decide +kernel
theorem ww108_17 {d : Nat} {l0 l1 : Option mw_V} {x y : Int} {st : List mw_V} {σ : mw_S} {Q : Option mw_V → mw_S → Prop} : mw_WP d 108 17 [l0, l1] (jL y :: jL x :: st) σ Q ↔ mw_WP d 108 18 [l0, l1] (jI (yCmp x y) :: st) σ Q := WP_lcmp mq108 dd108_17
theorem dd108_18 : decode cX9_kept 18 = .ok (.ifCond .ge 8, 3) := by decide +kernel
theorem ww108_18 {d : Nat} {l0 l1 : Option mw_V} {x : Int} {st : List mw_V} {σ : mw_S} {Q : Option mw_V → mw_S → Prop} : mw_WP d 108 18 [l0, l1] (jI x :: st) σ Q ↔ (if 0 ≤ x then mw_WP d 108 26 [l0, l1] st σ Q else mw_WP d 108 21 [l0, l1] st σ Q) := WP_if_ge mq108 dd108_18 (by decide)
theorem dd108_21 : decode cX9_kept 21 = .ok (.ldc 137, 2) := by decide +kernel
theorem ww108_21 {d : Nat} {l0 l1 : Option mw_V} {st : List mw_V} {σ : mw_S} {Q : Option mw_V → mw_S → Prop} : mw_WP d 108 21 [l0, l1] st σ Q ↔ mw_WP d 108 23 [l0, l1] (jI (-1000000) :: st) σ Q := WP_ldc (v := -1000000) mq108 dd108_21 (by decide) (by decide)
theorem dd108_23 : decode cX9_kept 23 = .ok (.goto 5, 3) := by decide +kernel
theorem ww108_23 {d : Nat} {l0 l1 : Option mw_V} {st : List mw_V} {σ : mw_S} {Q : Option mw_V → mw_S → Prop} : mw_WP d 108 23 [l0, l1] st σ Q ↔ mw_WP d 108 28 [l0, l1] st σ Q := WP_goto mq108 dd108_23 (by decide)
theorem dd108_26 : decode cX9_kept 26 = .ok (.lload_n 0, 1) := by decide +kernel
theorem ww108_26 {d : Nat} {l1 : Option mw_V} {x : Int} {st : List mw_V} {σ : mw_S} {Q : Option mw_V → mw_S → Prop} : mw_WP d 108 26 [some (jL x), l1] st σ Q ↔ mw_WP d 108 27 [some (jL x), l1] (jL x :: st) σ Q := WP_lload_n mq108 dd108_26 rfl
theorem dd108_27 : decode cX9_kept 27 = .ok (.l2i, 1) := by decide +kernel
theorem ww108_27 {d : Nat} {l0 l1 : Option mw_V} {x : Int} {st : List mw_V} {σ : mw_S} {Q : Option mw_V → mw_S → Prop} : mw_WP d 108 27 [l0, l1] (jL x :: st) σ Q ↔ mw_WP d 108 28 [l0, l1] (jI (zI x) :: st) σ Q := WP_l2i mq108 dd108_27
theorem dd108_28 : decode cX9_kept 28 = .ok (.ireturn, 1) := by decide +kernel
theorem ww108_28 {d : Nat} {l0 l1 : Option mw_V} {z : Int} {σ : mw_S} {Q : Option mw_V → mw_S → Prop} : mw_WP d 108 28 [l0, l1] [jI z] σ Q ↔ Q (some (jI z)) σ := WP_ireturn (ty := .int) mq108 dd108_28 rfl rfl
theorem ee109 {d : Nat} {a : Nat} {a0 : Nat} {a1 : Nat} {z2 : Int} {σ : mw_S} {Q : Option mw_V → mw_S → Prop} : mw_Call (d + 1) 109 [jR a, jR a0, jR a1, jI z2] σ Q ↔ mw_WP d 109 0 [some (jR a), some (jR a0), some (jR a1), some (jI z2), none, none, none] [] σ Q := CL_u mq109 (Nat.le_of_ble_eq_true rfl) rfl
theorem dd109_0 : decode cX9_spendHours 0 = .ok (.aload_n 0, 1) := by decide +kernel
theorem ww109_0 {d : Nat} {l1 l2 l3 l4 l5 l6 : Option mw_V} {x : Nat} {st : List mw_V} {σ : mw_S} {Q : Option mw_V → mw_S → Prop} : mw_WP d 109 0 [some (jR x), l1, l2, l3, l4, l5, l6] st σ Q ↔ mw_WP d 109 1 [some (jR x), l1, l2, l3, l4, l5, l6] (jR x :: st) σ Q := WP_aload_n mq109 dd109_0 rfl
theorem dd109_1 : decode cX9_spendHours 1 = .ok (.iconst 0, 1) := by decide +kernel
theorem ww109_1 {d : Nat} {l0 l1 l2 l3 l4 l5 l6 : Option mw_V} {st : List mw_V} {σ : mw_S} {Q : Option mw_V → mw_S → Prop} : mw_WP d 109 1 [l0, l1, l2, l3, l4, l5, l6] st σ Q ↔ mw_WP d 109 2 [l0, l1, l2, l3, l4, l5, l6] (jI (0) :: st) σ Q := WP_iconst mq109 dd109_1 (by decide)
theorem dd109_2 : decode cX9_spendHours 2 = .ok (.putfield 138, 3) := by decide +kernel
theorem ww109_2 {d : Nat} {l0 l1 l2 l3 l4 l5 l6 : Option mw_V} {v : Int} {st : List mw_V} {σ : mw_S} {Q : Option mw_V → mw_S → Prop} : mw_WP d 109 2 [l0, l1, l2, l3, l4, l5, l6] (jI v :: jR 22 :: st) σ Q ↔ mw_WP d 109 5 [l0, l1, l2, l3, l4, l5, l6] st (upS σ 22 1 v) Q := WP_putI (ci := 8) (k := 1) mq109 dd109_2 (by decide) rfl
theorem dd109_5 : decode cX9_spendHours 5 = .ok (.aload_n 0, 1) := by decide +kernel
theorem ww109_5 {d : Nat} {l1 l2 l3 l4 l5 l6 : Option mw_V} {x : Nat} {st : List mw_V} {σ : mw_S} {Q : Option mw_V → mw_S → Prop} : mw_WP d 109 5 [some (jR x), l1, l2, l3, l4, l5, l6] st σ Q ↔ mw_WP d 109 6 [some (jR x), l1, l2, l3, l4, l5, l6] (jR x :: st) σ Q := WP_aload_n mq109 dd109_5 rfl
theorem dd109_6 : decode cX9_spendHours 6 = .ok (.iconst 0, 1) := by decide +kernel
theorem ww109_6 {d : Nat} {l0 l1 l2 l3 l4 l5 l6 : Option mw_V} {st : List mw_V} {σ : mw_S} {Q : Option mw_V → mw_S → Prop} : mw_WP d 109 6 [l0, l1, l2, l3, l4, l5, l6] st σ Q ↔ mw_WP d 109 7 [l0, l1, l2, l3, l4, l5, l6] (jI (0) :: st) σ Q := WP_iconst mq109 dd109_6 (by decide)
theorem dd109_7 : decode cX9_spendHours 7 = .ok (.putfield 141, 3) := by decide +kernel
theorem ww109_7 {d : Nat} {l0 l1 l2 l3 l4 l5 l6 : Option mw_V} {v : Int} {st : List mw_V} {σ : mw_S} {Q : Option mw_V → mw_S → Prop} : mw_WP d 109 7 [l0, l1, l2, l3, l4, l5, l6] (jI v :: jR 22 :: st) σ Q ↔ mw_WP d 109 10 [l0, l1, l2, l3, l4, l5, l6] st (upS σ 22 2 v) Q := WP_putI (ci := 8) (k := 2) mq109 dd109_7 (by decide) rfl
theorem dd109_10 : decode cX9_spendHours 10 = .ok (.aload_n 0, 1) := by decide +kernel
theorem ww109_10 {d : Nat} {l1 l2 l3 l4 l5 l6 : Option mw_V} {x : Nat} {st : List mw_V} {σ : mw_S} {Q : Option mw_V → mw_S → Prop} : mw_WP d 109 10 [some (jR x), l1, l2, l3, l4, l5, l6] st σ Q ↔ mw_WP d 109 11 [some (jR x), l1, l2, l3, l4, l5, l6] (jR x :: st) σ Q := WP_aload_n mq109 dd109_10 rfl
theorem dd109_11 : decode cX9_spendHours 11 = .ok (.iconst 0, 1) := by decide +kernel
theorem ww109_11 {d : Nat} {l0 l1 l2 l3 l4 l5 l6 : Option mw_V} {st : List mw_V} {σ : mw_S} {Q : Option mw_V → mw_S → Prop} : mw_WP d 109 11 [l0, l1, l2, l3, l4, l5, l6] st σ Q ↔ mw_WP d 109 12 [l0, l1, l2, l3, l4, l5, l6] (jI (0) :: st) σ Q := WP_iconst mq109 dd109_11 (by decide)
theorem dd109_12 : decode cX9_spendHours 12 = .ok (.putfield 144, 3) := by decide +kernel
theorem ww109_12 {d : Nat} {l0 l1 l2 l3 l4 l5 l6 : Option mw_V} {v : Int} {st : List mw_V} {σ : mw_S} {Q : Option mw_V → mw_S → Prop} : mw_WP d 109 12 [l0, l1, l2, l3, l4, l5, l6] (jI v :: jR 22 :: st) σ Q ↔ mw_WP d 109 15 [l0, l1, l2, l3, l4, l5, l6] st (upS σ 22 3 v) Q := WP_putI (ci := 8) (k := 3) mq109 dd109_12 (by decide) rfl
theorem dd109_15 : decode cX9_spendHours 15 = .ok (.aload_n 0, 1) := by decide +kernel
theorem ww109_15 {d : Nat} {l1 l2 l3 l4 l5 l6 : Option mw_V} {x : Nat} {st : List mw_V} {σ : mw_S} {Q : Option mw_V → mw_S → Prop} : mw_WP d 109 15 [some (jR x), l1, l2, l3, l4, l5, l6] st σ Q ↔ mw_WP d 109 16 [some (jR x), l1, l2, l3, l4, l5, l6] (jR x :: st) σ Q := WP_aload_n mq109 dd109_15 rfl
theorem dd109_16 : decode cX9_spendHours 16 = .ok (.iconst (-1), 1) := by decide +kernel
theorem ww109_16 {d : Nat} {l0 l1 l2 l3 l4 l5 l6 : Option mw_V} {st : List mw_V} {σ : mw_S} {Q : Option mw_V → mw_S → Prop} : mw_WP d 109 16 [l0, l1, l2, l3, l4, l5, l6] st σ Q ↔ mw_WP d 109 17 [l0, l1, l2, l3, l4, l5, l6] (jI (-1) :: st) σ Q := WP_iconst mq109 dd109_16 (by decide)
theorem dd109_17 : decode cX9_spendHours 17 = .ok (.putfield 147, 3) := by decide +kernel
theorem ww109_17 {d : Nat} {l0 l1 l2 l3 l4 l5 l6 : Option mw_V} {v : Int} {st : List mw_V} {σ : mw_S} {Q : Option mw_V → mw_S → Prop} : mw_WP d 109 17 [l0, l1, l2, l3, l4, l5, l6] (jI v :: jR 22 :: st) σ Q ↔ mw_WP d 109 20 [l0, l1, l2, l3, l4, l5, l6] st (upS σ 22 4 v) Q := WP_putI (ci := 8) (k := 4) mq109 dd109_17 (by decide) rfl
theorem dd109_20 : decode cX9_spendHours 20 = .ok (.aload_n 0, 1) := by decide +kernel
theorem ww109_20 {d : Nat} {l1 l2 l3 l4 l5 l6 : Option mw_V} {x : Nat} {st : List mw_V} {σ : mw_S} {Q : Option mw_V → mw_S → Prop} : mw_WP d 109 20 [some (jR x), l1, l2, l3, l4, l5, l6] st σ Q ↔ mw_WP d 109 21 [some (jR x), l1, l2, l3, l4, l5, l6] (jR x :: st) σ Q := WP_aload_n mq109 dd109_20 rfl
theorem dd109_21 : decode cX9_spendHours 21 = .ok (.iconst (-1), 1) := by decide +kernel
theorem ww109_21 {d : Nat} {l0 l1 l2 l3 l4 l5 l6 : Option mw_V} {st : List mw_V} {σ : mw_S} {Q : Option mw_V → mw_S → Prop} : mw_WP d 109 21 [l0, l1, l2, l3, l4, l5, l6] st σ Q ↔ mw_WP d 109 22 [l0, l1, l2, l3, l4, l5, l6] (jI (-1) :: st) σ Q := WP_iconst mq109 dd109_21 (by decide)
theorem dd109_22 : decode cX9_spendHours 22 = .ok (.putfield 150, 3) := by decide +kernel
theorem ww109_22 {d : Nat} {l0 l1 l2 l3 l4 l5 l6 : Option mw_V} {v : Int} {st : List mw_V} {σ : mw_S} {Q : Option mw_V → mw_S → Prop} : mw_WP d 109 22 [l0, l1, l2, l3, l4, l5, l6] (jI v :: jR 22 :: st) σ Q ↔ mw_WP d 109 25 [l0, l1, l2, l3, l4, l5, l6] st (upS σ 22 5 v) Q := WP_putI (ci := 8) (k := 5) mq109 dd109_22 (by decide) rfl
theorem dd109_25 : decode cX9_spendHours 25 = .ok (.iconst 0, 1) := by decide +kernel
theorem ww109_25 {d : Nat} {l0 l1 l2 l3 l4 l5 l6 : Option mw_V} {st : List mw_V} {σ : mw_S} {Q : Option mw_V → mw_S → Prop} : mw_WP d 109 25 [l0, l1, l2, l3, l4, l5, l6] st σ Q ↔ mw_WP d 109 26 [l0, l1, l2, l3, l4, l5, l6] (jI (0) :: st) σ Q := WP_iconst mq109 dd109_25 (by decide)
theorem dd109_26 : decode cX9_spendHours 26 = .ok (.istore 4, 2) := by decide +kernel
theorem ww109_26 {d : Nat} {l0 l1 l2 l3 l4 l5 l6 : Option mw_V} {x : Int} {st : List mw_V} {σ : mw_S} {Q : Option mw_V → mw_S → Prop} (h : mw_nlo l3 = true) : mw_WP d 109 26 [l0, l1, l2, l3, l4, l5, l6] (jI x :: st) σ Q ↔ mw_WP d 109 28 [l0, l1, l2, l3, some (jI x), l5, l6] st σ Q := WP_istore mq109 dd109_26 (Nat.le_of_ble_eq_true rfl) (mw_nl_of (i := 3) rfl h) rfl
theorem dd109_28 : decode cX9_spendHours 28 = .ok (.iload 4, 2) := by decide +kernel
theorem ww109_28 {d : Nat} {l0 l1 l2 l3 l5 l6 : Option mw_V} {x : Int} {st : List mw_V} {σ : mw_S} {Q : Option mw_V → mw_S → Prop} : mw_WP d 109 28 [l0, l1, l2, l3, some (jI x), l5, l6] st σ Q ↔ mw_WP d 109 30 [l0, l1, l2, l3, some (jI x), l5, l6] (jI x :: st) σ Q := WP_iload mq109 dd109_28 rfl
theorem dd109_30 : decode cX9_spendHours 30 = .ok (.aload_n 2, 1) := by decide +kernel
theorem ww109_30 {d : Nat} {l0 l1 l3 l4 l5 l6 : Option mw_V} {x : Nat} {st : List mw_V} {σ : mw_S} {Q : Option mw_V → mw_S → Prop} : mw_WP d 109 30 [l0, l1, some (jR x), l3, l4, l5, l6] st σ Q ↔ mw_WP d 109 31 [l0, l1, some (jR x), l3, l4, l5, l6] (jR x :: st) σ Q := WP_aload_n mq109 dd109_30 rfl
theorem dd109_31 : decode cX9_spendHours 31 = .ok (.iload_n 3, 1) := by decide +kernel
theorem ww109_31 {d : Nat} {l0 l1 l2 l4 l5 l6 : Option mw_V} {x : Int} {st : List mw_V} {σ : mw_S} {Q : Option mw_V → mw_S → Prop} : mw_WP d 109 31 [l0, l1, l2, some (jI x), l4, l5, l6] st σ Q ↔ mw_WP d 109 32 [l0, l1, l2, some (jI x), l4, l5, l6] (jI x :: st) σ Q := WP_iload_n mq109 dd109_31 rfl
theorem dd109_32 : decode cX9_spendHours 32 = .ok (.invokevirtual 153, 3) := by decide +kernel
theorem ww109_32 {d : Nat} {l0 l1 l2 l3 l4 l5 l6 : Option mw_V} {v0 : mw_V} {a : Nat} {st : List mw_V} {σ : mw_S} {Q : Option mw_V → mw_S → Prop} (hr : mw_rc a = 10) (h8 : (st.map mw_cat).sum ≤ 8) : mw_WP d 109 32 [l0, l1, l2, l3, l4, l5, l6] (v0 :: jR a :: st) σ Q ↔ mw_Call d 114 [jR a, v0] σ (fun r1 s1 => mw_WP d 109 35 [l0, l1, l2, l3, l4, l5, l6] (r1.toList ++ st) s1 Q) := WP_inv (as := [v0]) mq109 dd109_32 (by decide) mq114 rfl hr h8
theorem dd109_35 : decode cX9_spendHours 35 = .ok (.if_icmp .ge 60, 3) := by decide +kernel
theorem ww109_35 {d : Nat} {l0 l1 l2 l3 l4 l5 l6 : Option mw_V} {x y : Int} {st : List mw_V} {σ : mw_S} {Q : Option mw_V → mw_S → Prop} : mw_WP d 109 35 [l0, l1, l2, l3, l4, l5, l6] (jI y :: jI x :: st) σ Q ↔ (if y ≤ x then mw_WP d 109 95 [l0, l1, l2, l3, l4, l5, l6] st σ Q else mw_WP d 109 38 [l0, l1, l2, l3, l4, l5, l6] st σ Q) := WP_icmp_ge mq109 dd109_35 (by decide)
theorem dd109_38 : decode cX9_spendHours 38 = .ok (.aload_n 2, 1) := by decide +kernel
theorem ww109_38 {d : Nat} {l0 l1 l3 l4 l5 l6 : Option mw_V} {x : Nat} {st : List mw_V} {σ : mw_S} {Q : Option mw_V → mw_S → Prop} : mw_WP d 109 38 [l0, l1, some (jR x), l3, l4, l5, l6] st σ Q ↔ mw_WP d 109 39 [l0, l1, some (jR x), l3, l4, l5, l6] (jR x :: st) σ Q := WP_aload_n mq109 dd109_38 rfl
theorem dd109_39 : decode cX9_spendHours 39 = .ok (.iload_n 3, 1) := by decide +kernel
theorem ww109_39 {d : Nat} {l0 l1 l2 l4 l5 l6 : Option mw_V} {x : Int} {st : List mw_V} {σ : mw_S} {Q : Option mw_V → mw_S → Prop} : mw_WP d 109 39 [l0, l1, l2, some (jI x), l4, l5, l6] st σ Q ↔ mw_WP d 109 40 [l0, l1, l2, some (jI x), l4, l5, l6] (jI x :: st) σ Q := WP_iload_n mq109 dd109_39 rfl
theorem dd109_40 : decode cX9_spendHours 40 = .ok (.iload 4, 2) := by decide +kernel
theorem ww109_40 {d : Nat} {l0 l1 l2 l3 l5 l6 : Option mw_V} {x : Int} {st : List mw_V} {σ : mw_S} {Q : Option mw_V → mw_S → Prop} : mw_WP d 109 40 [l0, l1, l2, l3, some (jI x), l5, l6] st σ Q ↔ mw_WP d 109 42 [l0, l1, l2, l3, some (jI x), l5, l6] (jI x :: st) σ Q := WP_iload mq109 dd109_40 rfl
theorem dd109_42 : decode cX9_spendHours 42 = .ok (.invokevirtual 158, 3) := by decide +kernel
theorem ww109_42 {d : Nat} {l0 l1 l2 l3 l4 l5 l6 : Option mw_V} {v0 v1 : mw_V} {a : Nat} {st : List mw_V} {σ : mw_S} {Q : Option mw_V → mw_S → Prop} (hr : mw_rc a = 10) (h8 : (st.map mw_cat).sum ≤ 8) : mw_WP d 109 42 [l0, l1, l2, l3, l4, l5, l6] (v1 :: v0 :: jR a :: st) σ Q ↔ mw_Call d 115 [jR a, v0, v1] σ (fun r1 s1 => mw_WP d 109 45 [l0, l1, l2, l3, l4, l5, l6] (r1.toList ++ st) s1 Q) := WP_inv (as := [v1, v0]) mq109 dd109_42 (by decide) mq115 rfl hr h8
theorem dd109_45 : decode cX9_spendHours 45 = .ok (.lstore 5, 2) := by decide +kernel
theorem ww109_45 {d : Nat} {l0 l1 l2 l3 l4 l5 l6 : Option mw_V} {x : Int} {st : List mw_V} {σ : mw_S} {Q : Option mw_V → mw_S → Prop} (h : mw_nlo l4 = true) : mw_WP d 109 45 [l0, l1, l2, l3, l4, l5, l6] (jL x :: st) σ Q ↔ mw_WP d 109 47 [l0, l1, l2, l3, l4, some (jL x), none] st σ Q := WP_lstore mq109 dd109_45 (Nat.le_of_ble_eq_true rfl) (mw_nl_of (i := 4) rfl h) rfl
theorem dd109_47 : decode cX9_spendHours 47 = .ok (.aload_n 0, 1) := by decide +kernel
theorem ww109_47 {d : Nat} {l1 l2 l3 l4 l5 l6 : Option mw_V} {x : Nat} {st : List mw_V} {σ : mw_S} {Q : Option mw_V → mw_S → Prop} : mw_WP d 109 47 [some (jR x), l1, l2, l3, l4, l5, l6] st σ Q ↔ mw_WP d 109 48 [some (jR x), l1, l2, l3, l4, l5, l6] (jR x :: st) σ Q := WP_aload_n mq109 dd109_47 rfl
theorem dd109_48 : decode cX9_spendHours 48 = .ok (.lload 5, 2) := by decide +kernel
theorem ww109_48 {d : Nat} {l0 l1 l2 l3 l4 l6 : Option mw_V} {x : Int} {st : List mw_V} {σ : mw_S} {Q : Option mw_V → mw_S → Prop} : mw_WP d 109 48 [l0, l1, l2, l3, l4, some (jL x), l6] st σ Q ↔ mw_WP d 109 50 [l0, l1, l2, l3, l4, some (jL x), l6] (jL x :: st) σ Q := WP_lload mq109 dd109_48 rfl
theorem dd109_50 : decode cX9_spendHours 50 = .ok (.invokevirtual 162, 3) := by decide +kernel
theorem ww109_50 {d : Nat} {l0 l1 l2 l3 l4 l5 l6 : Option mw_V} {v0 : mw_V} {a : Nat} {st : List mw_V} {σ : mw_S} {Q : Option mw_V → mw_S → Prop} (hr : mw_rc a = 9) (h8 : (st.map mw_cat).sum ≤ 8) : mw_WP d 109 50 [l0, l1, l2, l3, l4, l5, l6] (v0 :: jR a :: st) σ Q ↔ mw_Call d 87 [jR a, v0] σ (fun r1 s1 => mw_WP d 109 53 [l0, l1, l2, l3, l4, l5, l6] (r1.toList ++ st) s1 Q) := WP_inv (as := [v0]) mq109 dd109_50 (by decide) mq87 rfl hr h8
theorem dd109_53 : decode cX9_spendHours 53 = .ok (.ifCond .ne 4, 3) := by decide +kernel
theorem ww109_53 {d : Nat} {l0 l1 l2 l3 l4 l5 l6 : Option mw_V} {x : Int} {st : List mw_V} {σ : mw_S} {Q : Option mw_V → mw_S → Prop} : mw_WP d 109 53 [l0, l1, l2, l3, l4, l5, l6] (jI x :: st) σ Q ↔ (if ¬ x = 0 then mw_WP d 109 57 [l0, l1, l2, l3, l4, l5, l6] st σ Q else mw_WP d 109 56 [l0, l1, l2, l3, l4, l5, l6] st σ Q) := WP_if_ne mq109 dd109_53 (by decide)
theorem dd109_56 : decode cX9_spendHours 56 = .ok (.return_, 1) := by decide +kernel
theorem ww109_56 {d : Nat} {l0 l1 l2 l3 l4 l5 l6 : Option mw_V} {σ : mw_S} {Q : Option mw_V → mw_S → Prop} : mw_WP d 109 56 [l0, l1, l2, l3, l4, l5, l6] [] σ Q ↔ Q none σ := WP_return mq109 dd109_56 rfl
theorem dd109_57 : decode cX9_spendHours 57 = .ok (.aload_n 0, 1) := by decide +kernel
theorem ww109_57 {d : Nat} {l1 l2 l3 l4 l5 l6 : Option mw_V} {x : Nat} {st : List mw_V} {σ : mw_S} {Q : Option mw_V → mw_S → Prop} : mw_WP d 109 57 [some (jR x), l1, l2, l3, l4, l5, l6] st σ Q ↔ mw_WP d 109 58 [some (jR x), l1, l2, l3, l4, l5, l6] (jR x :: st) σ Q := WP_aload_n mq109 dd109_57 rfl
theorem dd109_58 : decode cX9_spendHours 58 = .ok (.dup, 1) := by decide +kernel
theorem ww109_58 {d : Nat} {l0 l1 l2 l3 l4 l5 l6 : Option mw_V} {v : mw_V} {st : List mw_V} {σ : mw_S} {Q : Option mw_V → mw_S → Prop} (h : mw_cat v = 1) : mw_WP d 109 58 [l0, l1, l2, l3, l4, l5, l6] (v :: st) σ Q ↔ mw_WP d 109 59 [l0, l1, l2, l3, l4, l5, l6] (v :: v :: st) σ Q := WP_dup mq109 dd109_58 h
theorem dd109_59 : decode cX9_spendHours 59 = .ok (.getfield 141, 3) := by decide +kernel
theorem ww109_59 {d : Nat} {l0 l1 l2 l3 l4 l5 l6 : Option mw_V} {st : List mw_V} {σ : mw_S} {Q : Option mw_V → mw_S → Prop} : mw_WP d 109 59 [l0, l1, l2, l3, l4, l5, l6] (jR 22 :: st) σ Q ↔ mw_WP d 109 62 [l0, l1, l2, l3, l4, l5, l6] (jI (σ 22 2) :: st) σ Q := WP_getI (ci := 8) (k := 2) mq109 dd109_59 (by decide) (Or.inl rfl)
theorem dd109_62 : decode cX9_spendHours 62 = .ok (.aload_n 0, 1) := by decide +kernel
theorem ww109_62 {d : Nat} {l1 l2 l3 l4 l5 l6 : Option mw_V} {x : Nat} {st : List mw_V} {σ : mw_S} {Q : Option mw_V → mw_S → Prop} : mw_WP d 109 62 [some (jR x), l1, l2, l3, l4, l5, l6] st σ Q ↔ mw_WP d 109 63 [some (jR x), l1, l2, l3, l4, l5, l6] (jR x :: st) σ Q := WP_aload_n mq109 dd109_62 rfl
theorem dd109_63 : decode cX9_spendHours 63 = .ok (.aload_n 1, 1) := by decide +kernel
theorem ww109_63 {d : Nat} {l0 l2 l3 l4 l5 l6 : Option mw_V} {x : Nat} {st : List mw_V} {σ : mw_S} {Q : Option mw_V → mw_S → Prop} : mw_WP d 109 63 [l0, some (jR x), l2, l3, l4, l5, l6] st σ Q ↔ mw_WP d 109 64 [l0, some (jR x), l2, l3, l4, l5, l6] (jR x :: st) σ Q := WP_aload_n mq109 dd109_63 rfl
theorem dd109_64 : decode cX9_spendHours 64 = .ok (.lload 5, 2) := by decide +kernel
theorem ww109_64 {d : Nat} {l0 l1 l2 l3 l4 l6 : Option mw_V} {x : Int} {st : List mw_V} {σ : mw_S} {Q : Option mw_V → mw_S → Prop} : mw_WP d 109 64 [l0, l1, l2, l3, l4, some (jL x), l6] st σ Q ↔ mw_WP d 109 66 [l0, l1, l2, l3, l4, some (jL x), l6] (jL x :: st) σ Q := WP_lload mq109 dd109_64 rfl
theorem dd109_66 : decode cX9_spendHours 66 = .ok (.l2i, 1) := by decide +kernel
theorem ww109_66 {d : Nat} {l0 l1 l2 l3 l4 l5 l6 : Option mw_V} {x : Int} {st : List mw_V} {σ : mw_S} {Q : Option mw_V → mw_S → Prop} : mw_WP d 109 66 [l0, l1, l2, l3, l4, l5, l6] (jL x :: st) σ Q ↔ mw_WP d 109 67 [l0, l1, l2, l3, l4, l5, l6] (jI (zI x) :: st) σ Q := WP_l2i mq109 dd109_66
theorem dd109_67 : decode cX9_spendHours 67 = .ok (.invokevirtual 166, 3) := by decide +kernel
theorem ww109_67 {d : Nat} {l0 l1 l2 l3 l4 l5 l6 : Option mw_V} {v0 v1 : mw_V} {a : Nat} {st : List mw_V} {σ : mw_S} {Q : Option mw_V → mw_S → Prop} (hr : mw_rc a = 9) (h8 : (st.map mw_cat).sum ≤ 8) : mw_WP d 109 67 [l0, l1, l2, l3, l4, l5, l6] (v1 :: v0 :: jR a :: st) σ Q ↔ mw_Call d 88 [jR a, v0, v1] σ (fun r1 s1 => mw_WP d 109 70 [l0, l1, l2, l3, l4, l5, l6] (r1.toList ++ st) s1 Q) := WP_inv (as := [v1, v0]) mq109 dd109_67 (by decide) mq88 rfl hr h8
theorem dd109_70 : decode cX9_spendHours 70 = .ok (.iadd, 1) := by decide +kernel
theorem ww109_70 {d : Nat} {l0 l1 l2 l3 l4 l5 l6 : Option mw_V} {x y : Int} {st : List mw_V} {σ : mw_S} {Q : Option mw_V → mw_S → Prop} : mw_WP d 109 70 [l0, l1, l2, l3, l4, l5, l6] (jI y :: jI x :: st) σ Q ↔ mw_WP d 109 71 [l0, l1, l2, l3, l4, l5, l6] (jI (w32 (x + y)) :: st) σ Q := WP_iadd mq109 dd109_70
theorem dd109_71 : decode cX9_spendHours 71 = .ok (.putfield 141, 3) := by decide +kernel
theorem ww109_71 {d : Nat} {l0 l1 l2 l3 l4 l5 l6 : Option mw_V} {v : Int} {st : List mw_V} {σ : mw_S} {Q : Option mw_V → mw_S → Prop} : mw_WP d 109 71 [l0, l1, l2, l3, l4, l5, l6] (jI v :: jR 22 :: st) σ Q ↔ mw_WP d 109 74 [l0, l1, l2, l3, l4, l5, l6] st (upS σ 22 2 v) Q := WP_putI (ci := 8) (k := 2) mq109 dd109_71 (by decide) rfl
theorem dd109_74 : decode cX9_spendHours 74 = .ok (.aload_n 0, 1) := by decide +kernel
theorem ww109_74 {d : Nat} {l1 l2 l3 l4 l5 l6 : Option mw_V} {x : Nat} {st : List mw_V} {σ : mw_S} {Q : Option mw_V → mw_S → Prop} : mw_WP d 109 74 [some (jR x), l1, l2, l3, l4, l5, l6] st σ Q ↔ mw_WP d 109 75 [some (jR x), l1, l2, l3, l4, l5, l6] (jR x :: st) σ Q := WP_aload_n mq109 dd109_74 rfl
theorem dd109_75 : decode cX9_spendHours 75 = .ok (.aload_n 1, 1) := by decide +kernel
theorem ww109_75 {d : Nat} {l0 l2 l3 l4 l5 l6 : Option mw_V} {x : Nat} {st : List mw_V} {σ : mw_S} {Q : Option mw_V → mw_S → Prop} : mw_WP d 109 75 [l0, some (jR x), l2, l3, l4, l5, l6] st σ Q ↔ mw_WP d 109 76 [l0, some (jR x), l2, l3, l4, l5, l6] (jR x :: st) σ Q := WP_aload_n mq109 dd109_75 rfl
theorem dd109_76 : decode cX9_spendHours 76 = .ok (.invokevirtual 169, 3) := by decide +kernel
theorem ww109_76 {d : Nat} {l0 l1 l2 l3 l4 l5 l6 : Option mw_V} {v0 : mw_V} {a : Nat} {st : List mw_V} {σ : mw_S} {Q : Option mw_V → mw_S → Prop} (hr : mw_rc a = 9) (h8 : (st.map mw_cat).sum ≤ 8) : mw_WP d 109 76 [l0, l1, l2, l3, l4, l5, l6] (v0 :: jR a :: st) σ Q ↔ mw_Call d 110 [jR a, v0] σ (fun r1 s1 => mw_WP d 109 79 [l0, l1, l2, l3, l4, l5, l6] (r1.toList ++ st) s1 Q) := WP_inv (as := [v0]) mq109 dd109_76 (by decide) mq110 rfl hr h8
theorem dd109_79 : decode cX9_spendHours 79 = .ok (.aload_n 0, 1) := by decide +kernel
theorem ww109_79 {d : Nat} {l1 l2 l3 l4 l5 l6 : Option mw_V} {x : Nat} {st : List mw_V} {σ : mw_S} {Q : Option mw_V → mw_S → Prop} : mw_WP d 109 79 [some (jR x), l1, l2, l3, l4, l5, l6] st σ Q ↔ mw_WP d 109 80 [some (jR x), l1, l2, l3, l4, l5, l6] (jR x :: st) σ Q := WP_aload_n mq109 dd109_79 rfl
theorem dd109_80 : decode cX9_spendHours 80 = .ok (.dup, 1) := by decide +kernel
theorem ww109_80 {d : Nat} {l0 l1 l2 l3 l4 l5 l6 : Option mw_V} {v : mw_V} {st : List mw_V} {σ : mw_S} {Q : Option mw_V → mw_S → Prop} (h : mw_cat v = 1) : mw_WP d 109 80 [l0, l1, l2, l3, l4, l5, l6] (v :: st) σ Q ↔ mw_WP d 109 81 [l0, l1, l2, l3, l4, l5, l6] (v :: v :: st) σ Q := WP_dup mq109 dd109_80 h
theorem dd109_81 : decode cX9_spendHours 81 = .ok (.getfield 138, 3) := by decide +kernel
theorem ww109_81 {d : Nat} {l0 l1 l2 l3 l4 l5 l6 : Option mw_V} {st : List mw_V} {σ : mw_S} {Q : Option mw_V → mw_S → Prop} : mw_WP d 109 81 [l0, l1, l2, l3, l4, l5, l6] (jR 22 :: st) σ Q ↔ mw_WP d 109 84 [l0, l1, l2, l3, l4, l5, l6] (jI (σ 22 1) :: st) σ Q := WP_getI (ci := 8) (k := 1) mq109 dd109_81 (by decide) (Or.inl rfl)
theorem dd109_84 : decode cX9_spendHours 84 = .ok (.iconst 1, 1) := by decide +kernel
theorem ww109_84 {d : Nat} {l0 l1 l2 l3 l4 l5 l6 : Option mw_V} {st : List mw_V} {σ : mw_S} {Q : Option mw_V → mw_S → Prop} : mw_WP d 109 84 [l0, l1, l2, l3, l4, l5, l6] st σ Q ↔ mw_WP d 109 85 [l0, l1, l2, l3, l4, l5, l6] (jI (1) :: st) σ Q := WP_iconst mq109 dd109_84 (by decide)
theorem dd109_85 : decode cX9_spendHours 85 = .ok (.iadd, 1) := by decide +kernel
theorem ww109_85 {d : Nat} {l0 l1 l2 l3 l4 l5 l6 : Option mw_V} {x y : Int} {st : List mw_V} {σ : mw_S} {Q : Option mw_V → mw_S → Prop} : mw_WP d 109 85 [l0, l1, l2, l3, l4, l5, l6] (jI y :: jI x :: st) σ Q ↔ mw_WP d 109 86 [l0, l1, l2, l3, l4, l5, l6] (jI (w32 (x + y)) :: st) σ Q := WP_iadd mq109 dd109_85
theorem dd109_86 : decode cX9_spendHours 86 = .ok (.putfield 138, 3) := by decide +kernel
theorem ww109_86 {d : Nat} {l0 l1 l2 l3 l4 l5 l6 : Option mw_V} {v : Int} {st : List mw_V} {σ : mw_S} {Q : Option mw_V → mw_S → Prop} : mw_WP d 109 86 [l0, l1, l2, l3, l4, l5, l6] (jI v :: jR 22 :: st) σ Q ↔ mw_WP d 109 89 [l0, l1, l2, l3, l4, l5, l6] st (upS σ 22 1 v) Q := WP_putI (ci := 8) (k := 1) mq109 dd109_86 (by decide) rfl
theorem dd109_89 : decode cX9_spendHours 89 = .ok (.iinc 4 1, 3) := by decide +kernel
theorem ww109_89 {d : Nat} {l0 l1 l2 l3 l5 l6 : Option mw_V} {x : Int} {st : List mw_V} {σ : mw_S} {Q : Option mw_V → mw_S → Prop} (h : mw_nlo l3 = true) : mw_WP d 109 89 [l0, l1, l2, l3, some (jI x), l5, l6] st σ Q ↔ mw_WP d 109 92 [l0, l1, l2, l3, some (jI (w32 (x + (1)))), l5, l6] st σ Q := WP_iinc mq109 dd109_89 rfl (Nat.le_of_ble_eq_true rfl) (mw_nl_of (i := 3) rfl h) rfl
theorem dd109_92 : decode cX9_spendHours 92 = .ok (.goto (-64), 3) := by decide +kernel
theorem ww109_92 {d : Nat} {l0 l1 l2 l3 l4 l5 l6 : Option mw_V} {st : List mw_V} {σ : mw_S} {Q : Option mw_V → mw_S → Prop} : mw_WP d 109 92 [l0, l1, l2, l3, l4, l5, l6] st σ Q ↔ mw_WP d 109 28 [l0, l1, l2, l3, l4, l5, l6] st σ Q := WP_goto mq109 dd109_92 (by decide)
theorem dd109_95 : decode cX9_spendHours 95 = .ok (.return_, 1) := by decide +kernel
theorem ww109_95 {d : Nat} {l0 l1 l2 l3 l4 l5 l6 : Option mw_V} {σ : mw_S} {Q : Option mw_V → mw_S → Prop} : mw_WP d 109 95 [l0, l1, l2, l3, l4, l5, l6] [] σ Q ↔ Q none σ := WP_return mq109 dd109_95 rfl
theorem ee110 {d : Nat} {a : Nat} {a0 : Nat} {σ : mw_S} {Q : Option mw_V → mw_S → Prop} : mw_Call (d + 1) 110 [jR a, jR a0] σ Q ↔ mw_WP d 110 0 [some (jR a), some (jR a0), none] [] σ Q := CL_u mq110 (Nat.le_of_ble_eq_true rfl) rfl
theorem dd110_0 : decode cX9_noteFailures 0 = .ok (.iconst 0, 1) := by decide +kernel
theorem ww110_0 {d : Nat} {l0 l1 l2 : Option mw_V} {st : List mw_V} {σ : mw_S} {Q : Option mw_V → mw_S → Prop} : mw_WP d 110 0 [l0, l1, l2] st σ Q ↔ mw_WP d 110 1 [l0, l1, l2] (jI (0) :: st) σ Q := WP_iconst mq110 dd110_0 (by decide)
theorem dd110_1 : decode cX9_noteFailures 1 = .ok (.istore_n 2, 1) := by decide +kernel
theorem ww110_1 {d : Nat} {l0 l1 l2 : Option mw_V} {x : Int} {st : List mw_V} {σ : mw_S} {Q : Option mw_V → mw_S → Prop} (h : mw_nlo l1 = true) : mw_WP d 110 1 [l0, l1, l2] (jI x :: st) σ Q ↔ mw_WP d 110 2 [l0, l1, some (jI x)] st σ Q := WP_istore_n mq110 dd110_1 (Nat.le_of_ble_eq_true rfl) (mw_nl_of (i := 1) rfl h) rfl
theorem dd110_2 : decode cX9_noteFailures 2 = .ok (.iload_n 2, 1) := by decide +kernel
theorem ww110_2 {d : Nat} {l0 l1 : Option mw_V} {x : Int} {st : List mw_V} {σ : mw_S} {Q : Option mw_V → mw_S → Prop} : mw_WP d 110 2 [l0, l1, some (jI x)] st σ Q ↔ mw_WP d 110 3 [l0, l1, some (jI x)] (jI x :: st) σ Q := WP_iload_n mq110 dd110_2 rfl
theorem dd110_3 : decode cX9_noteFailures 3 = .ok (.aload_n 0, 1) := by decide +kernel
theorem ww110_3 {d : Nat} {l1 l2 : Option mw_V} {x : Nat} {st : List mw_V} {σ : mw_S} {Q : Option mw_V → mw_S → Prop} : mw_WP d 110 3 [some (jR x), l1, l2] st σ Q ↔ mw_WP d 110 4 [some (jR x), l1, l2] (jR x :: st) σ Q := WP_aload_n mq110 dd110_3 rfl
theorem dd110_4 : decode cX9_noteFailures 4 = .ok (.getfield 18, 3) := by decide +kernel
theorem ww110_4 {d : Nat} {l0 l1 l2 : Option mw_V} {st : List mw_V} {σ : mw_S} {Q : Option mw_V → mw_S → Prop} : mw_WP d 110 4 [l0, l1, l2] (jR 22 :: st) σ Q ↔ mw_WP d 110 7 [l0, l1, l2] (jR 13 :: st) σ Q := WP_getR (ci := 8) (k := 0) mq110 dd110_4 (by decide) rfl
theorem dd110_7 : decode cX9_noteFailures 7 = .ok (.getfield 25, 3) := by decide +kernel
theorem ww110_7i3 {d : Nat} {l0 l1 l2 : Option mw_V} {st : List mw_V} {σ : mw_S} {Q : Option mw_V → mw_S → Prop} : mw_WP d 110 7 [l0, l1, l2] (jR 3 :: st) σ Q ↔ mw_WP d 110 10 [l0, l1, l2] (jI (σ 3 1) :: st) σ Q := WP_getI (ci := 0) (k := 1) mq110 dd110_7 (by decide) (Or.inl rfl)
theorem ww110_7i13 {d : Nat} {l0 l1 l2 : Option mw_V} {st : List mw_V} {σ : mw_S} {Q : Option mw_V → mw_S → Prop} : mw_WP d 110 7 [l0, l1, l2] (jR 13 :: st) σ Q ↔ mw_WP d 110 10 [l0, l1, l2] (jI (σ 13 1) :: st) σ Q := WP_getI (ci := 0) (k := 1) mq110 dd110_7 (by decide) (Or.inl rfl)
theorem ww110_7i77 {d : Nat} {l0 l1 l2 : Option mw_V} {st : List mw_V} {σ : mw_S} {Q : Option mw_V → mw_S → Prop} : mw_WP d 110 7 [l0, l1, l2] (jR 77 :: st) σ Q ↔ mw_WP d 110 10 [l0, l1, l2] (jI (σ 77 1) :: st) σ Q := WP_getI (ci := 0) (k := 1) mq110 dd110_7 (by decide) (Or.inl rfl)
theorem ww110_7i88 {d : Nat} {l0 l1 l2 : Option mw_V} {st : List mw_V} {σ : mw_S} {Q : Option mw_V → mw_S → Prop} : mw_WP d 110 7 [l0, l1, l2] (jR 88 :: st) σ Q ↔ mw_WP d 110 10 [l0, l1, l2] (jI (σ 88 1) :: st) σ Q := WP_getI (ci := 0) (k := 1) mq110 dd110_7 (by decide) (Or.inl rfl)
theorem dd110_10 : decode cX9_noteFailures 10 = .ok (.if_icmp .ge 49, 3) := by decide +kernel
theorem ww110_10 {d : Nat} {l0 l1 l2 : Option mw_V} {x y : Int} {st : List mw_V} {σ : mw_S} {Q : Option mw_V → mw_S → Prop} : mw_WP d 110 10 [l0, l1, l2] (jI y :: jI x :: st) σ Q ↔ (if y ≤ x then mw_WP d 110 59 [l0, l1, l2] st σ Q else mw_WP d 110 13 [l0, l1, l2] st σ Q) := WP_icmp_ge mq110 dd110_10 (by decide)
theorem dd110_13 : decode cX9_noteFailures 13 = .ok (.aload_n 1, 1) := by decide +kernel
theorem ww110_13 {d : Nat} {l0 l2 : Option mw_V} {x : Nat} {st : List mw_V} {σ : mw_S} {Q : Option mw_V → mw_S → Prop} : mw_WP d 110 13 [l0, some (jR x), l2] st σ Q ↔ mw_WP d 110 14 [l0, some (jR x), l2] (jR x :: st) σ Q := WP_aload_n mq110 dd110_13 rfl
theorem dd110_14 : decode cX9_noteFailures 14 = .ok (.bipush 22, 2) := by decide +kernel
theorem ww110_14 {d : Nat} {l0 l1 l2 : Option mw_V} {st : List mw_V} {σ : mw_S} {Q : Option mw_V → mw_S → Prop} : mw_WP d 110 14 [l0, l1, l2] st σ Q ↔ mw_WP d 110 16 [l0, l1, l2] (jI (22) :: st) σ Q := WP_bipush mq110 dd110_14 (by decide)
theorem dd110_16 : decode cX9_noteFailures 16 = .ok (.iload_n 2, 1) := by decide +kernel
theorem ww110_16 {d : Nat} {l0 l1 : Option mw_V} {x : Int} {st : List mw_V} {σ : mw_S} {Q : Option mw_V → mw_S → Prop} : mw_WP d 110 16 [l0, l1, some (jI x)] st σ Q ↔ mw_WP d 110 17 [l0, l1, some (jI x)] (jI x :: st) σ Q := WP_iload_n mq110 dd110_16 rfl
theorem dd110_17 : decode cX9_noteFailures 17 = .ok (.iadd, 1) := by decide +kernel
theorem ww110_17 {d : Nat} {l0 l1 l2 : Option mw_V} {x y : Int} {st : List mw_V} {σ : mw_S} {Q : Option mw_V → mw_S → Prop} : mw_WP d 110 17 [l0, l1, l2] (jI y :: jI x :: st) σ Q ↔ mw_WP d 110 18 [l0, l1, l2] (jI (w32 (x + y)) :: st) σ Q := WP_iadd mq110 dd110_17
theorem dd110_18 : decode cX9_noteFailures 18 = .ok (.iaload, 1) := by decide +kernel
theorem ww110_18 {d : Nat} {l0 l1 l2 : Option mw_V} {z : Int} {a : Nat} {st : List mw_V} {σ : mw_S} {Q : Option mw_V → mw_S → Prop} : mw_WP d 110 18 [l0, l1, l2] (jI z :: jR a :: st) σ Q ↔ ((0 ≤ z ∧ z < mw_lenI a) ∧ mw_WP d 110 19 [l0, l1, l2] (jI (mw_rdI σ a z.toNat) :: st) σ Q) := WP_iaload mq110 dd110_18
theorem dd110_19 : decode cX9_noteFailures 19 = .ok (.ifCond .ne 34, 3) := by decide +kernel
theorem ww110_19 {d : Nat} {l0 l1 l2 : Option mw_V} {x : Int} {st : List mw_V} {σ : mw_S} {Q : Option mw_V → mw_S → Prop} : mw_WP d 110 19 [l0, l1, l2] (jI x :: st) σ Q ↔ (if ¬ x = 0 then mw_WP d 110 53 [l0, l1, l2] st σ Q else mw_WP d 110 22 [l0, l1, l2] st σ Q) := WP_if_ne mq110 dd110_19 (by decide)
theorem dd110_22 : decode cX9_noteFailures 22 = .ok (.aload_n 0, 1) := by decide +kernel
theorem ww110_22 {d : Nat} {l1 l2 : Option mw_V} {x : Nat} {st : List mw_V} {σ : mw_S} {Q : Option mw_V → mw_S → Prop} : mw_WP d 110 22 [some (jR x), l1, l2] st σ Q ↔ mw_WP d 110 23 [some (jR x), l1, l2] (jR x :: st) σ Q := WP_aload_n mq110 dd110_22 rfl
theorem dd110_23 : decode cX9_noteFailures 23 = .ok (.dup, 1) := by decide +kernel
theorem ww110_23 {d : Nat} {l0 l1 l2 : Option mw_V} {v : mw_V} {st : List mw_V} {σ : mw_S} {Q : Option mw_V → mw_S → Prop} (h : mw_cat v = 1) : mw_WP d 110 23 [l0, l1, l2] (v :: st) σ Q ↔ mw_WP d 110 24 [l0, l1, l2] (v :: v :: st) σ Q := WP_dup mq110 dd110_23 h
theorem dd110_24 : decode cX9_noteFailures 24 = .ok (.getfield 144, 3) := by decide +kernel
theorem ww110_24 {d : Nat} {l0 l1 l2 : Option mw_V} {st : List mw_V} {σ : mw_S} {Q : Option mw_V → mw_S → Prop} : mw_WP d 110 24 [l0, l1, l2] (jR 22 :: st) σ Q ↔ mw_WP d 110 27 [l0, l1, l2] (jI (σ 22 3) :: st) σ Q := WP_getI (ci := 8) (k := 3) mq110 dd110_24 (by decide) (Or.inl rfl)
theorem dd110_27 : decode cX9_noteFailures 27 = .ok (.iconst 1, 1) := by decide +kernel
theorem ww110_27 {d : Nat} {l0 l1 l2 : Option mw_V} {st : List mw_V} {σ : mw_S} {Q : Option mw_V → mw_S → Prop} : mw_WP d 110 27 [l0, l1, l2] st σ Q ↔ mw_WP d 110 28 [l0, l1, l2] (jI (1) :: st) σ Q := WP_iconst mq110 dd110_27 (by decide)
theorem dd110_28 : decode cX9_noteFailures 28 = .ok (.iadd, 1) := by decide +kernel
theorem ww110_28 {d : Nat} {l0 l1 l2 : Option mw_V} {x y : Int} {st : List mw_V} {σ : mw_S} {Q : Option mw_V → mw_S → Prop} : mw_WP d 110 28 [l0, l1, l2] (jI y :: jI x :: st) σ Q ↔ mw_WP d 110 29 [l0, l1, l2] (jI (w32 (x + y)) :: st) σ Q := WP_iadd mq110 dd110_28
theorem dd110_29 : decode cX9_noteFailures 29 = .ok (.putfield 144, 3) := by decide +kernel
theorem ww110_29 {d : Nat} {l0 l1 l2 : Option mw_V} {v : Int} {st : List mw_V} {σ : mw_S} {Q : Option mw_V → mw_S → Prop} : mw_WP d 110 29 [l0, l1, l2] (jI v :: jR 22 :: st) σ Q ↔ mw_WP d 110 32 [l0, l1, l2] st (upS σ 22 3 v) Q := WP_putI (ci := 8) (k := 3) mq110 dd110_29 (by decide) rfl
theorem dd110_32 : decode cX9_noteFailures 32 = .ok (.aload_n 0, 1) := by decide +kernel
theorem ww110_32 {d : Nat} {l1 l2 : Option mw_V} {x : Nat} {st : List mw_V} {σ : mw_S} {Q : Option mw_V → mw_S → Prop} : mw_WP d 110 32 [some (jR x), l1, l2] st σ Q ↔ mw_WP d 110 33 [some (jR x), l1, l2] (jR x :: st) σ Q := WP_aload_n mq110 dd110_32 rfl
theorem dd110_33 : decode cX9_noteFailures 33 = .ok (.getfield 147, 3) := by decide +kernel
theorem ww110_33 {d : Nat} {l0 l1 l2 : Option mw_V} {st : List mw_V} {σ : mw_S} {Q : Option mw_V → mw_S → Prop} : mw_WP d 110 33 [l0, l1, l2] (jR 22 :: st) σ Q ↔ mw_WP d 110 36 [l0, l1, l2] (jI (σ 22 4) :: st) σ Q := WP_getI (ci := 8) (k := 4) mq110 dd110_33 (by decide) (Or.inl rfl)
theorem dd110_36 : decode cX9_noteFailures 36 = .ok (.iconst (-1), 1) := by decide +kernel
theorem ww110_36 {d : Nat} {l0 l1 l2 : Option mw_V} {st : List mw_V} {σ : mw_S} {Q : Option mw_V → mw_S → Prop} : mw_WP d 110 36 [l0, l1, l2] st σ Q ↔ mw_WP d 110 37 [l0, l1, l2] (jI (-1) :: st) σ Q := WP_iconst mq110 dd110_36 (by decide)
theorem dd110_37 : decode cX9_noteFailures 37 = .ok (.if_icmp .ne 16, 3) := by decide +kernel
theorem ww110_37 {d : Nat} {l0 l1 l2 : Option mw_V} {x y : Int} {st : List mw_V} {σ : mw_S} {Q : Option mw_V → mw_S → Prop} : mw_WP d 110 37 [l0, l1, l2] (jI y :: jI x :: st) σ Q ↔ (if ¬ x = y then mw_WP d 110 53 [l0, l1, l2] st σ Q else mw_WP d 110 40 [l0, l1, l2] st σ Q) := WP_icmp_ne mq110 dd110_37 (by decide)
theorem dd110_40 : decode cX9_noteFailures 40 = .ok (.aload_n 0, 1) := by decide +kernel
theorem ww110_40 {d : Nat} {l1 l2 : Option mw_V} {x : Nat} {st : List mw_V} {σ : mw_S} {Q : Option mw_V → mw_S → Prop} : mw_WP d 110 40 [some (jR x), l1, l2] st σ Q ↔ mw_WP d 110 41 [some (jR x), l1, l2] (jR x :: st) σ Q := WP_aload_n mq110 dd110_40 rfl
theorem dd110_41 : decode cX9_noteFailures 41 = .ok (.aload_n 0, 1) := by decide +kernel
theorem ww110_41 {d : Nat} {l1 l2 : Option mw_V} {x : Nat} {st : List mw_V} {σ : mw_S} {Q : Option mw_V → mw_S → Prop} : mw_WP d 110 41 [some (jR x), l1, l2] st σ Q ↔ mw_WP d 110 42 [some (jR x), l1, l2] (jR x :: st) σ Q := WP_aload_n mq110 dd110_41 rfl
theorem dd110_42 : decode cX9_noteFailures 42 = .ok (.getfield 138, 3) := by decide +kernel
theorem ww110_42 {d : Nat} {l0 l1 l2 : Option mw_V} {st : List mw_V} {σ : mw_S} {Q : Option mw_V → mw_S → Prop} : mw_WP d 110 42 [l0, l1, l2] (jR 22 :: st) σ Q ↔ mw_WP d 110 45 [l0, l1, l2] (jI (σ 22 1) :: st) σ Q := WP_getI (ci := 8) (k := 1) mq110 dd110_42 (by decide) (Or.inl rfl)
theorem dd110_45 : decode cX9_noteFailures 45 = .ok (.putfield 147, 3) := by decide +kernel
theorem ww110_45 {d : Nat} {l0 l1 l2 : Option mw_V} {v : Int} {st : List mw_V} {σ : mw_S} {Q : Option mw_V → mw_S → Prop} : mw_WP d 110 45 [l0, l1, l2] (jI v :: jR 22 :: st) σ Q ↔ mw_WP d 110 48 [l0, l1, l2] st (upS σ 22 4 v) Q := WP_putI (ci := 8) (k := 4) mq110 dd110_45 (by decide) rfl
theorem dd110_48 : decode cX9_noteFailures 48 = .ok (.aload_n 0, 1) := by decide +kernel
theorem ww110_48 {d : Nat} {l1 l2 : Option mw_V} {x : Nat} {st : List mw_V} {σ : mw_S} {Q : Option mw_V → mw_S → Prop} : mw_WP d 110 48 [some (jR x), l1, l2] st σ Q ↔ mw_WP d 110 49 [some (jR x), l1, l2] (jR x :: st) σ Q := WP_aload_n mq110 dd110_48 rfl
theorem dd110_49 : decode cX9_noteFailures 49 = .ok (.iload_n 2, 1) := by decide +kernel
theorem ww110_49 {d : Nat} {l0 l1 : Option mw_V} {x : Int} {st : List mw_V} {σ : mw_S} {Q : Option mw_V → mw_S → Prop} : mw_WP d 110 49 [l0, l1, some (jI x)] st σ Q ↔ mw_WP d 110 50 [l0, l1, some (jI x)] (jI x :: st) σ Q := WP_iload_n mq110 dd110_49 rfl
theorem dd110_50 : decode cX9_noteFailures 50 = .ok (.putfield 150, 3) := by decide +kernel
theorem ww110_50 {d : Nat} {l0 l1 l2 : Option mw_V} {v : Int} {st : List mw_V} {σ : mw_S} {Q : Option mw_V → mw_S → Prop} : mw_WP d 110 50 [l0, l1, l2] (jI v :: jR 22 :: st) σ Q ↔ mw_WP d 110 53 [l0, l1, l2] st (upS σ 22 5 v) Q := WP_putI (ci := 8) (k := 5) mq110 dd110_50 (by decide) rfl
theorem dd110_53 : decode cX9_noteFailures 53 = .ok (.iinc 2 1, 3) := by decide +kernel
theorem ww110_53 {d : Nat} {l0 l1 : Option mw_V} {x : Int} {st : List mw_V} {σ : mw_S} {Q : Option mw_V → mw_S → Prop} (h : mw_nlo l1 = true) : mw_WP d 110 53 [l0, l1, some (jI x)] st σ Q ↔ mw_WP d 110 56 [l0, l1, some (jI (w32 (x + (1))))] st σ Q := WP_iinc mq110 dd110_53 rfl (Nat.le_of_ble_eq_true rfl) (mw_nl_of (i := 1) rfl h) rfl
theorem dd110_56 : decode cX9_noteFailures 56 = .ok (.goto (-54), 3) := by decide +kernel
theorem ww110_56 {d : Nat} {l0 l1 l2 : Option mw_V} {st : List mw_V} {σ : mw_S} {Q : Option mw_V → mw_S → Prop} : mw_WP d 110 56 [l0, l1, l2] st σ Q ↔ mw_WP d 110 2 [l0, l1, l2] st σ Q := WP_goto mq110 dd110_56 (by decide)
theorem dd110_59 : decode cX9_noteFailures 59 = .ok (.return_, 1) := by decide +kernel
theorem ww110_59 {d : Nat} {l0 l1 l2 : Option mw_V} {σ : mw_S} {Q : Option mw_V → mw_S → Prop} : mw_WP d 110 59 [l0, l1, l2] [] σ Q ↔ Q none σ := WP_return mq110 dd110_59 rfl
theorem ee111 {d : Nat} {a : Nat} {a0 : Nat} {z1 : Int} {z2 : Int} {σ : mw_S} {Q : Option mw_V → mw_S → Prop} : mw_Call (d + 1) 111 [jR a, jR a0, jI z1, jI z2] σ Q ↔ mw_WP d 111 0 [some (jR a), some (jR a0), some (jI z1), some (jI z2), none, none, none, none, none] [] σ Q := CL_u mq111 (Nat.le_of_ble_eq_true rfl) rfl
theorem dd111_0 : decode cX9_spendDay 0 = .ok (.iload_n 2, 1) := by decide +kernel
theorem ww111_0 {d : Nat} {l0 l1 l3 l4 l5 l6 l7 l8 : Option mw_V} {x : Int} {st : List mw_V} {σ : mw_S} {Q : Option mw_V → mw_S → Prop} : mw_WP d 111 0 [l0, l1, some (jI x), l3, l4, l5, l6, l7, l8] st σ Q ↔ mw_WP d 111 1 [l0, l1, some (jI x), l3, l4, l5, l6, l7, l8] (jI x :: st) σ Q := WP_iload_n mq111 dd111_0 rfl
theorem dd111_1 : decode cX9_spendDay 1 = .ok (.istore 4, 2) := by decide +kernel
theorem ww111_1 {d : Nat} {l0 l1 l2 l3 l4 l5 l6 l7 l8 : Option mw_V} {x : Int} {st : List mw_V} {σ : mw_S} {Q : Option mw_V → mw_S → Prop} (h : mw_nlo l3 = true) : mw_WP d 111 1 [l0, l1, l2, l3, l4, l5, l6, l7, l8] (jI x :: st) σ Q ↔ mw_WP d 111 3 [l0, l1, l2, l3, some (jI x), l5, l6, l7, l8] st σ Q := WP_istore mq111 dd111_1 (Nat.le_of_ble_eq_true rfl) (mw_nl_of (i := 3) rfl h) rfl
theorem dd111_3 : decode cX9_spendDay 3 = .ok (.iconst 0, 1) := by decide +kernel
theorem ww111_3 {d : Nat} {l0 l1 l2 l3 l4 l5 l6 l7 l8 : Option mw_V} {st : List mw_V} {σ : mw_S} {Q : Option mw_V → mw_S → Prop} : mw_WP d 111 3 [l0, l1, l2, l3, l4, l5, l6, l7, l8] st σ Q ↔ mw_WP d 111 4 [l0, l1, l2, l3, l4, l5, l6, l7, l8] (jI (0) :: st) σ Q := WP_iconst mq111 dd111_3 (by decide)
theorem dd111_4 : decode cX9_spendDay 4 = .ok (.istore 5, 2) := by decide +kernel
theorem ww111_4 {d : Nat} {l0 l1 l2 l3 l4 l5 l6 l7 l8 : Option mw_V} {x : Int} {st : List mw_V} {σ : mw_S} {Q : Option mw_V → mw_S → Prop} (h : mw_nlo l4 = true) : mw_WP d 111 4 [l0, l1, l2, l3, l4, l5, l6, l7, l8] (jI x :: st) σ Q ↔ mw_WP d 111 6 [l0, l1, l2, l3, l4, some (jI x), l6, l7, l8] st σ Q := WP_istore mq111 dd111_4 (Nat.le_of_ble_eq_true rfl) (mw_nl_of (i := 4) rfl h) rfl
theorem dd111_6 : decode cX9_spendDay 6 = .ok (.iconst 0, 1) := by decide +kernel
theorem ww111_6 {d : Nat} {l0 l1 l2 l3 l4 l5 l6 l7 l8 : Option mw_V} {st : List mw_V} {σ : mw_S} {Q : Option mw_V → mw_S → Prop} : mw_WP d 111 6 [l0, l1, l2, l3, l4, l5, l6, l7, l8] st σ Q ↔ mw_WP d 111 7 [l0, l1, l2, l3, l4, l5, l6, l7, l8] (jI (0) :: st) σ Q := WP_iconst mq111 dd111_6 (by decide)
theorem dd111_7 : decode cX9_spendDay 7 = .ok (.istore 6, 2) := by decide +kernel
theorem ww111_7 {d : Nat} {l0 l1 l2 l3 l4 l5 l6 l7 l8 : Option mw_V} {x : Int} {st : List mw_V} {σ : mw_S} {Q : Option mw_V → mw_S → Prop} (h : mw_nlo l5 = true) : mw_WP d 111 7 [l0, l1, l2, l3, l4, l5, l6, l7, l8] (jI x :: st) σ Q ↔ mw_WP d 111 9 [l0, l1, l2, l3, l4, l5, some (jI x), l7, l8] st σ Q := WP_istore mq111 dd111_7 (Nat.le_of_ble_eq_true rfl) (mw_nl_of (i := 5) rfl h) rfl
theorem dd111_9 : decode cX9_spendDay 9 = .ok (.iload 6, 2) := by decide +kernel
theorem ww111_9 {d : Nat} {l0 l1 l2 l3 l4 l5 l7 l8 : Option mw_V} {x : Int} {st : List mw_V} {σ : mw_S} {Q : Option mw_V → mw_S → Prop} : mw_WP d 111 9 [l0, l1, l2, l3, l4, l5, some (jI x), l7, l8] st σ Q ↔ mw_WP d 111 11 [l0, l1, l2, l3, l4, l5, some (jI x), l7, l8] (jI x :: st) σ Q := WP_iload mq111 dd111_9 rfl
theorem dd111_11 : decode cX9_spendDay 11 = .ok (.iload_n 3, 1) := by decide +kernel
theorem ww111_11 {d : Nat} {l0 l1 l2 l4 l5 l6 l7 l8 : Option mw_V} {x : Int} {st : List mw_V} {σ : mw_S} {Q : Option mw_V → mw_S → Prop} : mw_WP d 111 11 [l0, l1, l2, some (jI x), l4, l5, l6, l7, l8] st σ Q ↔ mw_WP d 111 12 [l0, l1, l2, some (jI x), l4, l5, l6, l7, l8] (jI x :: st) σ Q := WP_iload_n mq111 dd111_11 rfl
theorem dd111_12 : decode cX9_spendDay 12 = .ok (.if_icmp .ge 76, 3) := by decide +kernel
theorem ww111_12 {d : Nat} {l0 l1 l2 l3 l4 l5 l6 l7 l8 : Option mw_V} {x y : Int} {st : List mw_V} {σ : mw_S} {Q : Option mw_V → mw_S → Prop} : mw_WP d 111 12 [l0, l1, l2, l3, l4, l5, l6, l7, l8] (jI y :: jI x :: st) σ Q ↔ (if y ≤ x then mw_WP d 111 88 [l0, l1, l2, l3, l4, l5, l6, l7, l8] st σ Q else mw_WP d 111 15 [l0, l1, l2, l3, l4, l5, l6, l7, l8] st σ Q) := WP_icmp_ge mq111 dd111_12 (by decide)
theorem dd111_15 : decode cX9_spendDay 15 = .ok (.iconst 0, 1) := by decide +kernel
theorem ww111_15 {d : Nat} {l0 l1 l2 l3 l4 l5 l6 l7 l8 : Option mw_V} {st : List mw_V} {σ : mw_S} {Q : Option mw_V → mw_S → Prop} : mw_WP d 111 15 [l0, l1, l2, l3, l4, l5, l6, l7, l8] st σ Q ↔ mw_WP d 111 16 [l0, l1, l2, l3, l4, l5, l6, l7, l8] (jI (0) :: st) σ Q := WP_iconst mq111 dd111_15 (by decide)
theorem dd111_16 : decode cX9_spendDay 16 = .ok (.istore 7, 2) := by decide +kernel
theorem ww111_16 {d : Nat} {l0 l1 l2 l3 l4 l5 l6 l7 l8 : Option mw_V} {x : Int} {st : List mw_V} {σ : mw_S} {Q : Option mw_V → mw_S → Prop} (h : mw_nlo l6 = true) : mw_WP d 111 16 [l0, l1, l2, l3, l4, l5, l6, l7, l8] (jI x :: st) σ Q ↔ mw_WP d 111 18 [l0, l1, l2, l3, l4, l5, l6, some (jI x), l8] st σ Q := WP_istore mq111 dd111_16 (Nat.le_of_ble_eq_true rfl) (mw_nl_of (i := 6) rfl h) rfl
theorem dd111_18 : decode cX9_spendDay 18 = .ok (.iconst 0, 1) := by decide +kernel
theorem ww111_18 {d : Nat} {l0 l1 l2 l3 l4 l5 l6 l7 l8 : Option mw_V} {st : List mw_V} {σ : mw_S} {Q : Option mw_V → mw_S → Prop} : mw_WP d 111 18 [l0, l1, l2, l3, l4, l5, l6, l7, l8] st σ Q ↔ mw_WP d 111 19 [l0, l1, l2, l3, l4, l5, l6, l7, l8] (jI (0) :: st) σ Q := WP_iconst mq111 dd111_18 (by decide)
theorem dd111_19 : decode cX9_spendDay 19 = .ok (.istore 8, 2) := by decide +kernel
theorem ww111_19 {d : Nat} {l0 l1 l2 l3 l4 l5 l6 l7 l8 : Option mw_V} {x : Int} {st : List mw_V} {σ : mw_S} {Q : Option mw_V → mw_S → Prop} (h : mw_nlo l7 = true) : mw_WP d 111 19 [l0, l1, l2, l3, l4, l5, l6, l7, l8] (jI x :: st) σ Q ↔ mw_WP d 111 21 [l0, l1, l2, l3, l4, l5, l6, l7, some (jI x)] st σ Q := WP_istore mq111 dd111_19 (Nat.le_of_ble_eq_true rfl) (mw_nl_of (i := 7) rfl h) rfl
theorem dd111_21 : decode cX9_spendDay 21 = .ok (.iload 8, 2) := by decide +kernel
theorem ww111_21 {d : Nat} {l0 l1 l2 l3 l4 l5 l6 l7 : Option mw_V} {x : Int} {st : List mw_V} {σ : mw_S} {Q : Option mw_V → mw_S → Prop} : mw_WP d 111 21 [l0, l1, l2, l3, l4, l5, l6, l7, some (jI x)] st σ Q ↔ mw_WP d 111 23 [l0, l1, l2, l3, l4, l5, l6, l7, some (jI x)] (jI x :: st) σ Q := WP_iload mq111 dd111_21 rfl
theorem dd111_23 : decode cX9_spendDay 23 = .ok (.aload_n 0, 1) := by decide +kernel
theorem ww111_23 {d : Nat} {l1 l2 l3 l4 l5 l6 l7 l8 : Option mw_V} {x : Nat} {st : List mw_V} {σ : mw_S} {Q : Option mw_V → mw_S → Prop} : mw_WP d 111 23 [some (jR x), l1, l2, l3, l4, l5, l6, l7, l8] st σ Q ↔ mw_WP d 111 24 [some (jR x), l1, l2, l3, l4, l5, l6, l7, l8] (jR x :: st) σ Q := WP_aload_n mq111 dd111_23 rfl
theorem dd111_24 : decode cX9_spendDay 24 = .ok (.getfield 18, 3) := by decide +kernel
theorem ww111_24 {d : Nat} {l0 l1 l2 l3 l4 l5 l6 l7 l8 : Option mw_V} {st : List mw_V} {σ : mw_S} {Q : Option mw_V → mw_S → Prop} : mw_WP d 111 24 [l0, l1, l2, l3, l4, l5, l6, l7, l8] (jR 22 :: st) σ Q ↔ mw_WP d 111 27 [l0, l1, l2, l3, l4, l5, l6, l7, l8] (jR 13 :: st) σ Q := WP_getR (ci := 8) (k := 0) mq111 dd111_24 (by decide) rfl
theorem dd111_27 : decode cX9_spendDay 27 = .ok (.getfield 25, 3) := by decide +kernel
theorem ww111_27i3 {d : Nat} {l0 l1 l2 l3 l4 l5 l6 l7 l8 : Option mw_V} {st : List mw_V} {σ : mw_S} {Q : Option mw_V → mw_S → Prop} : mw_WP d 111 27 [l0, l1, l2, l3, l4, l5, l6, l7, l8] (jR 3 :: st) σ Q ↔ mw_WP d 111 30 [l0, l1, l2, l3, l4, l5, l6, l7, l8] (jI (σ 3 1) :: st) σ Q := WP_getI (ci := 0) (k := 1) mq111 dd111_27 (by decide) (Or.inl rfl)
theorem ww111_27i13 {d : Nat} {l0 l1 l2 l3 l4 l5 l6 l7 l8 : Option mw_V} {st : List mw_V} {σ : mw_S} {Q : Option mw_V → mw_S → Prop} : mw_WP d 111 27 [l0, l1, l2, l3, l4, l5, l6, l7, l8] (jR 13 :: st) σ Q ↔ mw_WP d 111 30 [l0, l1, l2, l3, l4, l5, l6, l7, l8] (jI (σ 13 1) :: st) σ Q := WP_getI (ci := 0) (k := 1) mq111 dd111_27 (by decide) (Or.inl rfl)
theorem ww111_27i77 {d : Nat} {l0 l1 l2 l3 l4 l5 l6 l7 l8 : Option mw_V} {st : List mw_V} {σ : mw_S} {Q : Option mw_V → mw_S → Prop} : mw_WP d 111 27 [l0, l1, l2, l3, l4, l5, l6, l7, l8] (jR 77 :: st) σ Q ↔ mw_WP d 111 30 [l0, l1, l2, l3, l4, l5, l6, l7, l8] (jI (σ 77 1) :: st) σ Q := WP_getI (ci := 0) (k := 1) mq111 dd111_27 (by decide) (Or.inl rfl)
theorem ww111_27i88 {d : Nat} {l0 l1 l2 l3 l4 l5 l6 l7 l8 : Option mw_V} {st : List mw_V} {σ : mw_S} {Q : Option mw_V → mw_S → Prop} : mw_WP d 111 27 [l0, l1, l2, l3, l4, l5, l6, l7, l8] (jR 88 :: st) σ Q ↔ mw_WP d 111 30 [l0, l1, l2, l3, l4, l5, l6, l7, l8] (jI (σ 88 1) :: st) σ Q := WP_getI (ci := 0) (k := 1) mq111 dd111_27 (by decide) (Or.inl rfl)
theorem dd111_30 : decode cX9_spendDay 30 = .ok (.if_icmp .ge 40, 3) := by decide +kernel
theorem ww111_30 {d : Nat} {l0 l1 l2 l3 l4 l5 l6 l7 l8 : Option mw_V} {x y : Int} {st : List mw_V} {σ : mw_S} {Q : Option mw_V → mw_S → Prop} : mw_WP d 111 30 [l0, l1, l2, l3, l4, l5, l6, l7, l8] (jI y :: jI x :: st) σ Q ↔ (if y ≤ x then mw_WP d 111 70 [l0, l1, l2, l3, l4, l5, l6, l7, l8] st σ Q else mw_WP d 111 33 [l0, l1, l2, l3, l4, l5, l6, l7, l8] st σ Q) := WP_icmp_ge mq111 dd111_30 (by decide)
theorem dd111_33 : decode cX9_spendDay 33 = .ok (.ldc 173, 2) := by decide +kernel
theorem ww111_33 {d : Nat} {l0 l1 l2 l3 l4 l5 l6 l7 l8 : Option mw_V} {st : List mw_V} {σ : mw_S} {Q : Option mw_V → mw_S → Prop} : mw_WP d 111 33 [l0, l1, l2, l3, l4, l5, l6, l7, l8] st σ Q ↔ mw_WP d 111 35 [l0, l1, l2, l3, l4, l5, l6, l7, l8] (jI (1103515245) :: st) σ Q := WP_ldc (v := 1103515245) mq111 dd111_33 (by decide) (by decide)
theorem dd111_35 : decode cX9_spendDay 35 = .ok (.iload 4, 2) := by decide +kernel
theorem ww111_35 {d : Nat} {l0 l1 l2 l3 l5 l6 l7 l8 : Option mw_V} {x : Int} {st : List mw_V} {σ : mw_S} {Q : Option mw_V → mw_S → Prop} : mw_WP d 111 35 [l0, l1, l2, l3, some (jI x), l5, l6, l7, l8] st σ Q ↔ mw_WP d 111 37 [l0, l1, l2, l3, some (jI x), l5, l6, l7, l8] (jI x :: st) σ Q := WP_iload mq111 dd111_35 rfl
theorem dd111_37 : decode cX9_spendDay 37 = .ok (.imul, 1) := by decide +kernel
theorem ww111_37 {d : Nat} {l0 l1 l2 l3 l4 l5 l6 l7 l8 : Option mw_V} {x y : Int} {st : List mw_V} {σ : mw_S} {Q : Option mw_V → mw_S → Prop} : mw_WP d 111 37 [l0, l1, l2, l3, l4, l5, l6, l7, l8] (jI y :: jI x :: st) σ Q ↔ mw_WP d 111 38 [l0, l1, l2, l3, l4, l5, l6, l7, l8] (jI (w32 (x * y)) :: st) σ Q := WP_imul mq111 dd111_37
theorem dd111_38 : decode cX9_spendDay 38 = .ok (.sipush 12345, 3) := by decide +kernel
theorem ww111_38 {d : Nat} {l0 l1 l2 l3 l4 l5 l6 l7 l8 : Option mw_V} {st : List mw_V} {σ : mw_S} {Q : Option mw_V → mw_S → Prop} : mw_WP d 111 38 [l0, l1, l2, l3, l4, l5, l6, l7, l8] st σ Q ↔ mw_WP d 111 41 [l0, l1, l2, l3, l4, l5, l6, l7, l8] (jI (12345) :: st) σ Q := WP_sipush mq111 dd111_38 (by decide)
theorem dd111_41 : decode cX9_spendDay 41 = .ok (.iadd, 1) := by decide +kernel
theorem ww111_41 {d : Nat} {l0 l1 l2 l3 l4 l5 l6 l7 l8 : Option mw_V} {x y : Int} {st : List mw_V} {σ : mw_S} {Q : Option mw_V → mw_S → Prop} : mw_WP d 111 41 [l0, l1, l2, l3, l4, l5, l6, l7, l8] (jI y :: jI x :: st) σ Q ↔ mw_WP d 111 42 [l0, l1, l2, l3, l4, l5, l6, l7, l8] (jI (w32 (x + y)) :: st) σ Q := WP_iadd mq111 dd111_41
theorem dd111_42 : decode cX9_spendDay 42 = .ok (.istore 4, 2) := by decide +kernel
theorem ww111_42 {d : Nat} {l0 l1 l2 l3 l4 l5 l6 l7 l8 : Option mw_V} {x : Int} {st : List mw_V} {σ : mw_S} {Q : Option mw_V → mw_S → Prop} (h : mw_nlo l3 = true) : mw_WP d 111 42 [l0, l1, l2, l3, l4, l5, l6, l7, l8] (jI x :: st) σ Q ↔ mw_WP d 111 44 [l0, l1, l2, l3, some (jI x), l5, l6, l7, l8] st σ Q := WP_istore mq111 dd111_42 (Nat.le_of_ble_eq_true rfl) (mw_nl_of (i := 3) rfl h) rfl
theorem dd111_44 : decode cX9_spendDay 44 = .ok (.iload 7, 2) := by decide +kernel
theorem ww111_44 {d : Nat} {l0 l1 l2 l3 l4 l5 l6 l8 : Option mw_V} {x : Int} {st : List mw_V} {σ : mw_S} {Q : Option mw_V → mw_S → Prop} : mw_WP d 111 44 [l0, l1, l2, l3, l4, l5, l6, some (jI x), l8] st σ Q ↔ mw_WP d 111 46 [l0, l1, l2, l3, l4, l5, l6, some (jI x), l8] (jI x :: st) σ Q := WP_iload mq111 dd111_44 rfl
theorem dd111_46 : decode cX9_spendDay 46 = .ok (.iload 4, 2) := by decide +kernel
theorem ww111_46 {d : Nat} {l0 l1 l2 l3 l5 l6 l7 l8 : Option mw_V} {x : Int} {st : List mw_V} {σ : mw_S} {Q : Option mw_V → mw_S → Prop} : mw_WP d 111 46 [l0, l1, l2, l3, some (jI x), l5, l6, l7, l8] st σ Q ↔ mw_WP d 111 48 [l0, l1, l2, l3, some (jI x), l5, l6, l7, l8] (jI x :: st) σ Q := WP_iload mq111 dd111_46 rfl
theorem dd111_48 : decode cX9_spendDay 48 = .ok (.bipush 16, 2) := by decide +kernel
theorem ww111_48 {d : Nat} {l0 l1 l2 l3 l4 l5 l6 l7 l8 : Option mw_V} {st : List mw_V} {σ : mw_S} {Q : Option mw_V → mw_S → Prop} : mw_WP d 111 48 [l0, l1, l2, l3, l4, l5, l6, l7, l8] st σ Q ↔ mw_WP d 111 50 [l0, l1, l2, l3, l4, l5, l6, l7, l8] (jI (16) :: st) σ Q := WP_bipush mq111 dd111_48 (by decide)
theorem dd111_50 : decode cX9_spendDay 50 = .ok (.iushr, 1) := by decide +kernel
theorem ww111_50 {d : Nat} {l0 l1 l2 l3 l4 l5 l6 l7 l8 : Option mw_V} {x y : Int} {st : List mw_V} {σ : mw_S} {Q : Option mw_V → mw_S → Prop} : mw_WP d 111 50 [l0, l1, l2, l3, l4, l5, l6, l7, l8] (jI y :: jI x :: st) σ Q ↔ mw_WP d 111 51 [l0, l1, l2, l3, l4, l5, l6, l7, l8] (jI (zUshr x y) :: st) σ Q := WP_iushr mq111 dd111_50
theorem dd111_51 : decode cX9_spendDay 51 = .ok (.bipush 9, 2) := by decide +kernel
theorem ww111_51 {d : Nat} {l0 l1 l2 l3 l4 l5 l6 l7 l8 : Option mw_V} {st : List mw_V} {σ : mw_S} {Q : Option mw_V → mw_S → Prop} : mw_WP d 111 51 [l0, l1, l2, l3, l4, l5, l6, l7, l8] st σ Q ↔ mw_WP d 111 53 [l0, l1, l2, l3, l4, l5, l6, l7, l8] (jI (9) :: st) σ Q := WP_bipush mq111 dd111_51 (by decide)
theorem dd111_53 : decode cX9_spendDay 53 = .ok (.irem, 1) := by decide +kernel
theorem ww111_53 {d : Nat} {l0 l1 l2 l3 l4 l5 l6 l7 l8 : Option mw_V} {x y : Int} {st : List mw_V} {σ : mw_S} {Q : Option mw_V → mw_S → Prop} : mw_WP d 111 53 [l0, l1, l2, l3, l4, l5, l6, l7, l8] (jI y :: jI x :: st) σ Q ↔ (¬ i32 y = 0 ∧ mw_WP d 111 54 [l0, l1, l2, l3, l4, l5, l6, l7, l8] (jI (zRem x y) :: st) σ Q) := WP_irem mq111 dd111_53
theorem dd111_54 : decode cX9_spendDay 54 = .ok (.getstatic 22, 3) := by decide +kernel
theorem ww111_54 {d : Nat} {l0 l1 l2 l3 l4 l5 l6 l7 l8 : Option mw_V} {st : List mw_V} {σ : mw_S} {Q : Option mw_V → mw_S → Prop} : mw_WP d 111 54 [l0, l1, l2, l3, l4, l5, l6, l7, l8] st σ Q ↔ mw_WP d 111 57 [l0, l1, l2, l3, l4, l5, l6, l7, l8] (jR 3000 :: st) σ Q := WP_gets0 mq111 dd111_54 (by decide)
theorem dd111_57 : decode cX9_spendDay 57 = .ok (.iload 8, 2) := by decide +kernel
theorem ww111_57 {d : Nat} {l0 l1 l2 l3 l4 l5 l6 l7 : Option mw_V} {x : Int} {st : List mw_V} {σ : mw_S} {Q : Option mw_V → mw_S → Prop} : mw_WP d 111 57 [l0, l1, l2, l3, l4, l5, l6, l7, some (jI x)] st σ Q ↔ mw_WP d 111 59 [l0, l1, l2, l3, l4, l5, l6, l7, some (jI x)] (jI x :: st) σ Q := WP_iload mq111 dd111_57 rfl
theorem dd111_59 : decode cX9_spendDay 59 = .ok (.iaload, 1) := by decide +kernel
theorem ww111_59 {d : Nat} {l0 l1 l2 l3 l4 l5 l6 l7 l8 : Option mw_V} {z : Int} {a : Nat} {st : List mw_V} {σ : mw_S} {Q : Option mw_V → mw_S → Prop} : mw_WP d 111 59 [l0, l1, l2, l3, l4, l5, l6, l7, l8] (jI z :: jR a :: st) σ Q ↔ ((0 ≤ z ∧ z < mw_lenI a) ∧ mw_WP d 111 60 [l0, l1, l2, l3, l4, l5, l6, l7, l8] (jI (mw_rdI σ a z.toNat) :: st) σ Q) := WP_iaload mq111 dd111_59
theorem dd111_60 : decode cX9_spendDay 60 = .ok (.imul, 1) := by decide +kernel
theorem ww111_60 {d : Nat} {l0 l1 l2 l3 l4 l5 l6 l7 l8 : Option mw_V} {x y : Int} {st : List mw_V} {σ : mw_S} {Q : Option mw_V → mw_S → Prop} : mw_WP d 111 60 [l0, l1, l2, l3, l4, l5, l6, l7, l8] (jI y :: jI x :: st) σ Q ↔ mw_WP d 111 61 [l0, l1, l2, l3, l4, l5, l6, l7, l8] (jI (w32 (x * y)) :: st) σ Q := WP_imul mq111 dd111_60
theorem dd111_61 : decode cX9_spendDay 61 = .ok (.iadd, 1) := by decide +kernel
theorem ww111_61 {d : Nat} {l0 l1 l2 l3 l4 l5 l6 l7 l8 : Option mw_V} {x y : Int} {st : List mw_V} {σ : mw_S} {Q : Option mw_V → mw_S → Prop} : mw_WP d 111 61 [l0, l1, l2, l3, l4, l5, l6, l7, l8] (jI y :: jI x :: st) σ Q ↔ mw_WP d 111 62 [l0, l1, l2, l3, l4, l5, l6, l7, l8] (jI (w32 (x + y)) :: st) σ Q := WP_iadd mq111 dd111_61
theorem dd111_62 : decode cX9_spendDay 62 = .ok (.istore 7, 2) := by decide +kernel
theorem ww111_62 {d : Nat} {l0 l1 l2 l3 l4 l5 l6 l7 l8 : Option mw_V} {x : Int} {st : List mw_V} {σ : mw_S} {Q : Option mw_V → mw_S → Prop} (h : mw_nlo l6 = true) : mw_WP d 111 62 [l0, l1, l2, l3, l4, l5, l6, l7, l8] (jI x :: st) σ Q ↔ mw_WP d 111 64 [l0, l1, l2, l3, l4, l5, l6, some (jI x), l8] st σ Q := WP_istore mq111 dd111_62 (Nat.le_of_ble_eq_true rfl) (mw_nl_of (i := 6) rfl h) rfl
theorem dd111_64 : decode cX9_spendDay 64 = .ok (.iinc 8 1, 3) := by decide +kernel
theorem ww111_64 {d : Nat} {l0 l1 l2 l3 l4 l5 l6 l7 : Option mw_V} {x : Int} {st : List mw_V} {σ : mw_S} {Q : Option mw_V → mw_S → Prop} (h : mw_nlo l7 = true) : mw_WP d 111 64 [l0, l1, l2, l3, l4, l5, l6, l7, some (jI x)] st σ Q ↔ mw_WP d 111 67 [l0, l1, l2, l3, l4, l5, l6, l7, some (jI (w32 (x + (1))))] st σ Q := WP_iinc mq111 dd111_64 rfl (Nat.le_of_ble_eq_true rfl) (mw_nl_of (i := 7) rfl h) rfl
theorem dd111_67 : decode cX9_spendDay 67 = .ok (.goto (-46), 3) := by decide +kernel
theorem ww111_67 {d : Nat} {l0 l1 l2 l3 l4 l5 l6 l7 l8 : Option mw_V} {st : List mw_V} {σ : mw_S} {Q : Option mw_V → mw_S → Prop} : mw_WP d 111 67 [l0, l1, l2, l3, l4, l5, l6, l7, l8] st σ Q ↔ mw_WP d 111 21 [l0, l1, l2, l3, l4, l5, l6, l7, l8] st σ Q := WP_goto mq111 dd111_67 (by decide)
theorem dd111_70 : decode cX9_spendDay 70 = .ok (.iload 5, 2) := by decide +kernel
theorem ww111_70 {d : Nat} {l0 l1 l2 l3 l4 l6 l7 l8 : Option mw_V} {x : Int} {st : List mw_V} {σ : mw_S} {Q : Option mw_V → mw_S → Prop} : mw_WP d 111 70 [l0, l1, l2, l3, l4, some (jI x), l6, l7, l8] st σ Q ↔ mw_WP d 111 72 [l0, l1, l2, l3, l4, some (jI x), l6, l7, l8] (jI x :: st) σ Q := WP_iload mq111 dd111_70 rfl
theorem dd111_72 : decode cX9_spendDay 72 = .ok (.aload_n 0, 1) := by decide +kernel
theorem ww111_72 {d : Nat} {l1 l2 l3 l4 l5 l6 l7 l8 : Option mw_V} {x : Nat} {st : List mw_V} {σ : mw_S} {Q : Option mw_V → mw_S → Prop} : mw_WP d 111 72 [some (jR x), l1, l2, l3, l4, l5, l6, l7, l8] st σ Q ↔ mw_WP d 111 73 [some (jR x), l1, l2, l3, l4, l5, l6, l7, l8] (jR x :: st) σ Q := WP_aload_n mq111 dd111_72 rfl
theorem dd111_73 : decode cX9_spendDay 73 = .ok (.aload_n 1, 1) := by decide +kernel
theorem ww111_73 {d : Nat} {l0 l2 l3 l4 l5 l6 l7 l8 : Option mw_V} {x : Nat} {st : List mw_V} {σ : mw_S} {Q : Option mw_V → mw_S → Prop} : mw_WP d 111 73 [l0, some (jR x), l2, l3, l4, l5, l6, l7, l8] st σ Q ↔ mw_WP d 111 74 [l0, some (jR x), l2, l3, l4, l5, l6, l7, l8] (jR x :: st) σ Q := WP_aload_n mq111 dd111_73 rfl
theorem dd111_74 : decode cX9_spendDay 74 = .ok (.iload 7, 2) := by decide +kernel
theorem ww111_74 {d : Nat} {l0 l1 l2 l3 l4 l5 l6 l8 : Option mw_V} {x : Int} {st : List mw_V} {σ : mw_S} {Q : Option mw_V → mw_S → Prop} : mw_WP d 111 74 [l0, l1, l2, l3, l4, l5, l6, some (jI x), l8] st σ Q ↔ mw_WP d 111 76 [l0, l1, l2, l3, l4, l5, l6, some (jI x), l8] (jI x :: st) σ Q := WP_iload mq111 dd111_74 rfl
theorem dd111_76 : decode cX9_spendDay 76 = .ok (.invokevirtual 166, 3) := by decide +kernel
theorem ww111_76 {d : Nat} {l0 l1 l2 l3 l4 l5 l6 l7 l8 : Option mw_V} {v0 v1 : mw_V} {a : Nat} {st : List mw_V} {σ : mw_S} {Q : Option mw_V → mw_S → Prop} (hr : mw_rc a = 9) (h8 : (st.map mw_cat).sum ≤ 8) : mw_WP d 111 76 [l0, l1, l2, l3, l4, l5, l6, l7, l8] (v1 :: v0 :: jR a :: st) σ Q ↔ mw_Call d 88 [jR a, v0, v1] σ (fun r1 s1 => mw_WP d 111 79 [l0, l1, l2, l3, l4, l5, l6, l7, l8] (r1.toList ++ st) s1 Q) := WP_inv (as := [v1, v0]) mq111 dd111_76 (by decide) mq88 rfl hr h8
theorem dd111_79 : decode cX9_spendDay 79 = .ok (.iadd, 1) := by decide +kernel
theorem ww111_79 {d : Nat} {l0 l1 l2 l3 l4 l5 l6 l7 l8 : Option mw_V} {x y : Int} {st : List mw_V} {σ : mw_S} {Q : Option mw_V → mw_S → Prop} : mw_WP d 111 79 [l0, l1, l2, l3, l4, l5, l6, l7, l8] (jI y :: jI x :: st) σ Q ↔ mw_WP d 111 80 [l0, l1, l2, l3, l4, l5, l6, l7, l8] (jI (w32 (x + y)) :: st) σ Q := WP_iadd mq111 dd111_79
theorem dd111_80 : decode cX9_spendDay 80 = .ok (.istore 5, 2) := by decide +kernel
theorem ww111_80 {d : Nat} {l0 l1 l2 l3 l4 l5 l6 l7 l8 : Option mw_V} {x : Int} {st : List mw_V} {σ : mw_S} {Q : Option mw_V → mw_S → Prop} (h : mw_nlo l4 = true) : mw_WP d 111 80 [l0, l1, l2, l3, l4, l5, l6, l7, l8] (jI x :: st) σ Q ↔ mw_WP d 111 82 [l0, l1, l2, l3, l4, some (jI x), l6, l7, l8] st σ Q := WP_istore mq111 dd111_80 (Nat.le_of_ble_eq_true rfl) (mw_nl_of (i := 4) rfl h) rfl
theorem dd111_82 : decode cX9_spendDay 82 = .ok (.iinc 6 1, 3) := by decide +kernel
theorem ww111_82 {d : Nat} {l0 l1 l2 l3 l4 l5 l7 l8 : Option mw_V} {x : Int} {st : List mw_V} {σ : mw_S} {Q : Option mw_V → mw_S → Prop} (h : mw_nlo l5 = true) : mw_WP d 111 82 [l0, l1, l2, l3, l4, l5, some (jI x), l7, l8] st σ Q ↔ mw_WP d 111 85 [l0, l1, l2, l3, l4, l5, some (jI (w32 (x + (1)))), l7, l8] st σ Q := WP_iinc mq111 dd111_82 rfl (Nat.le_of_ble_eq_true rfl) (mw_nl_of (i := 5) rfl h) rfl
theorem dd111_85 : decode cX9_spendDay 85 = .ok (.goto (-76), 3) := by decide +kernel
theorem ww111_85 {d : Nat} {l0 l1 l2 l3 l4 l5 l6 l7 l8 : Option mw_V} {st : List mw_V} {σ : mw_S} {Q : Option mw_V → mw_S → Prop} : mw_WP d 111 85 [l0, l1, l2, l3, l4, l5, l6, l7, l8] st σ Q ↔ mw_WP d 111 9 [l0, l1, l2, l3, l4, l5, l6, l7, l8] st σ Q := WP_goto mq111 dd111_85 (by decide)
theorem dd111_88 : decode cX9_spendDay 88 = .ok (.iload 5, 2) := by decide +kernel
theorem ww111_88 {d : Nat} {l0 l1 l2 l3 l4 l6 l7 l8 : Option mw_V} {x : Int} {st : List mw_V} {σ : mw_S} {Q : Option mw_V → mw_S → Prop} : mw_WP d 111 88 [l0, l1, l2, l3, l4, some (jI x), l6, l7, l8] st σ Q ↔ mw_WP d 111 90 [l0, l1, l2, l3, l4, some (jI x), l6, l7, l8] (jI x :: st) σ Q := WP_iload mq111 dd111_88 rfl
theorem dd111_90 : decode cX9_spendDay 90 = .ok (.ireturn, 1) := by decide +kernel
theorem ww111_90 {d : Nat} {l0 l1 l2 l3 l4 l5 l6 l7 l8 : Option mw_V} {z : Int} {σ : mw_S} {Q : Option mw_V → mw_S → Prop} : mw_WP d 111 90 [l0, l1, l2, l3, l4, l5, l6, l7, l8] [jI z] σ Q ↔ Q (some (jI z)) σ := WP_ireturn (ty := .int) mq111 dd111_90 rfl rfl
