/-! 13.m0: rows that decode each instruction, and its rule -/
theorem ee170 {d : Nat} {z0 : Int} {z1 : Int} {z2 : Int} {σ : mw_S} {Q : Option mw_V → mw_S → Prop} : mw_Call (d + 1) 170 [jL z0, jL z1, jL z2] σ Q ↔ mw_WP d 170 0 [some (jL z0), none, some (jL z1), none, some (jL z2), none] [] σ Q := CL_u mq170 (Nat.le_of_ble_eq_true rfl) rfl
theorem dd170_0 : decode cX12_within 0 = .ok (.lload_n 0, 1) := by decide +kernel
theorem ww170_0 {d : Nat} {l1 l2 l3 l4 l5 : Option mw_V} {x : Int} {st : List mw_V} {σ : mw_S} {Q : Option mw_V → mw_S → Prop} : mw_WP d 170 0 [some (jL x), l1, l2, l3, l4, l5] st σ Q ↔ mw_WP d 170 1 [some (jL x), l1, l2, l3, l4, l5] (jL x :: st) σ Q := WP_lload_n mq170 dd170_0 rfl
theorem dd170_1 : decode cX12_within 1 = .ok (.lload_n 2, 1) := by decide +kernel
theorem ww170_1 {d : Nat} {l0 l1 l3 l4 l5 : Option mw_V} {x : Int} {st : List mw_V} {σ : mw_S} {Q : Option mw_V → mw_S → Prop} : mw_WP d 170 1 [l0, l1, some (jL x), l3, l4, l5] st σ Q ↔ mw_WP d 170 2 [l0, l1, some (jL x), l3, l4, l5] (jL x :: st) σ Q := WP_lload_n mq170 dd170_1 rfl
theorem dd170_2 : decode cX12_within 2 = .ok (.lcmp, 1) := by decide +kernel
theorem ww170_2 {d : Nat} {l0 l1 l2 l3 l4 l5 : Option mw_V} {x y : Int} {st : List mw_V} {σ : mw_S} {Q : Option mw_V → mw_S → Prop} : mw_WP d 170 2 [l0, l1, l2, l3, l4, l5] (jL y :: jL x :: st) σ Q ↔ mw_WP d 170 3 [l0, l1, l2, l3, l4, l5] (jI (yCmp x y) :: st) σ Q := WP_lcmp mq170 dd170_2
theorem dd170_3 : decode cX12_within 3 = .ok (.ifCond .lt 14, 3) := by decide +kernel
theorem ww170_3 {d : Nat} {l0 l1 l2 l3 l4 l5 : Option mw_V} {x : Int} {st : List mw_V} {σ : mw_S} {Q : Option mw_V → mw_S → Prop} : mw_WP d 170 3 [l0, l1, l2, l3, l4, l5] (jI x :: st) σ Q ↔ (if x < 0 then mw_WP d 170 17 [l0, l1, l2, l3, l4, l5] st σ Q else mw_WP d 170 6 [l0, l1, l2, l3, l4, l5] st σ Q) := WP_if_lt mq170 dd170_3 (by decide)
theorem dd170_6 : decode cX12_within 6 = .ok (.lload_n 0, 1) := by decide +kernel
theorem ww170_6 {d : Nat} {l1 l2 l3 l4 l5 : Option mw_V} {x : Int} {st : List mw_V} {σ : mw_S} {Q : Option mw_V → mw_S → Prop} : mw_WP d 170 6 [some (jL x), l1, l2, l3, l4, l5] st σ Q ↔ mw_WP d 170 7 [some (jL x), l1, l2, l3, l4, l5] (jL x :: st) σ Q := WP_lload_n mq170 dd170_6 rfl
theorem dd170_7 : decode cX12_within 7 = .ok (.lload 4, 2) := by decide +kernel
theorem ww170_7 {d : Nat} {l0 l1 l2 l3 l5 : Option mw_V} {x : Int} {st : List mw_V} {σ : mw_S} {Q : Option mw_V → mw_S → Prop} : mw_WP d 170 7 [l0, l1, l2, l3, some (jL x), l5] st σ Q ↔ mw_WP d 170 9 [l0, l1, l2, l3, some (jL x), l5] (jL x :: st) σ Q := WP_lload mq170 dd170_7 rfl
theorem dd170_9 : decode cX12_within 9 = .ok (.lcmp, 1) := by decide +kernel
theorem ww170_9 {d : Nat} {l0 l1 l2 l3 l4 l5 : Option mw_V} {x y : Int} {st : List mw_V} {σ : mw_S} {Q : Option mw_V → mw_S → Prop} : mw_WP d 170 9 [l0, l1, l2, l3, l4, l5] (jL y :: jL x :: st) σ Q ↔ mw_WP d 170 10 [l0, l1, l2, l3, l4, l5] (jI (yCmp x y) :: st) σ Q := WP_lcmp mq170 dd170_9
theorem dd170_10 : decode cX12_within 10 = .ok (.ifCond .gt 7, 3) := by decide +kernel
theorem ww170_10 {d : Nat} {l0 l1 l2 l3 l4 l5 : Option mw_V} {x : Int} {st : List mw_V} {σ : mw_S} {Q : Option mw_V → mw_S → Prop} : mw_WP d 170 10 [l0, l1, l2, l3, l4, l5] (jI x :: st) σ Q ↔ (if 0 < x then mw_WP d 170 17 [l0, l1, l2, l3, l4, l5] st σ Q else mw_WP d 170 13 [l0, l1, l2, l3, l4, l5] st σ Q) := WP_if_gt mq170 dd170_10 (by decide)
theorem dd170_13 : decode cX12_within 13 = .ok (.iconst 1, 1) := by decide +kernel
theorem ww170_13 {d : Nat} {l0 l1 l2 l3 l4 l5 : Option mw_V} {st : List mw_V} {σ : mw_S} {Q : Option mw_V → mw_S → Prop} : mw_WP d 170 13 [l0, l1, l2, l3, l4, l5] st σ Q ↔ mw_WP d 170 14 [l0, l1, l2, l3, l4, l5] (jI (1) :: st) σ Q := WP_iconst mq170 dd170_13 (by decide)
theorem dd170_14 : decode cX12_within 14 = .ok (.goto 4, 3) := by decide +kernel
theorem ww170_14 {d : Nat} {l0 l1 l2 l3 l4 l5 : Option mw_V} {st : List mw_V} {σ : mw_S} {Q : Option mw_V → mw_S → Prop} : mw_WP d 170 14 [l0, l1, l2, l3, l4, l5] st σ Q ↔ mw_WP d 170 18 [l0, l1, l2, l3, l4, l5] st σ Q := WP_goto mq170 dd170_14 (by decide)
theorem dd170_17 : decode cX12_within 17 = .ok (.iconst 0, 1) := by decide +kernel
theorem ww170_17 {d : Nat} {l0 l1 l2 l3 l4 l5 : Option mw_V} {st : List mw_V} {σ : mw_S} {Q : Option mw_V → mw_S → Prop} : mw_WP d 170 17 [l0, l1, l2, l3, l4, l5] st σ Q ↔ mw_WP d 170 18 [l0, l1, l2, l3, l4, l5] (jI (0) :: st) σ Q := WP_iconst mq170 dd170_17 (by decide)
theorem dd170_18 : decode cX12_within 18 = .ok (.ireturn, 1) := by decide +kernel
theorem ww170_18 {d : Nat} {l0 l1 l2 l3 l4 l5 : Option mw_V} {z : Int} {σ : mw_S} {Q : Option mw_V → mw_S → Prop} (h : z = 0 ∨ z = 1) : mw_WP d 170 18 [l0, l1, l2, l3, l4, l5] [jI z] σ Q ↔ Q (some (jI z)) σ := WP_ireturn (ty := .boolean) mq170 dd170_18 rfl (by rcases h with rfl | rfl <;> decide)
theorem ee171 {d : Nat} {a0 : Nat} {σ : mw_S} {Q : Option mw_V → mw_S → Prop} : mw_Call (d + 1) 171 [jR a0] σ Q ↔ mw_WP d 171 0 [some (jR a0), none] [] σ Q := CL_u mq171 (Nat.le_of_ble_eq_true rfl) rfl
theorem dd171_0 : decode cX12_plain 0 = .ok (.iconst 0, 1) := by decide +kernel
theorem ww171_0 {d : Nat} {l0 l1 : Option mw_V} {st : List mw_V} {σ : mw_S} {Q : Option mw_V → mw_S → Prop} : mw_WP d 171 0 [l0, l1] st σ Q ↔ mw_WP d 171 1 [l0, l1] (jI (0) :: st) σ Q := WP_iconst mq171 dd171_0 (by decide)
theorem dd171_1 : decode cX12_plain 1 = .ok (.istore_n 1, 1) := by decide +kernel
theorem ww171_1 {d : Nat} {l0 l1 : Option mw_V} {x : Int} {st : List mw_V} {σ : mw_S} {Q : Option mw_V → mw_S → Prop} (h : mw_nlo l0 = true) : mw_WP d 171 1 [l0, l1] (jI x :: st) σ Q ↔ mw_WP d 171 2 [l0, some (jI x)] st σ Q := WP_istore_n mq171 dd171_1 (Nat.le_of_ble_eq_true rfl) (mw_nl_of (i := 0) rfl h) rfl
theorem dd171_2 : decode cX12_plain 2 = .ok (.iload_n 1, 1) := by decide +kernel
theorem ww171_2 {d : Nat} {l0 : Option mw_V} {x : Int} {st : List mw_V} {σ : mw_S} {Q : Option mw_V → mw_S → Prop} : mw_WP d 171 2 [l0, some (jI x)] st σ Q ↔ mw_WP d 171 3 [l0, some (jI x)] (jI x :: st) σ Q := WP_iload_n mq171 dd171_2 rfl
theorem dd171_3 : decode cX12_plain 3 = .ok (.sipush 1460, 3) := by decide +kernel
theorem ww171_3 {d : Nat} {l0 l1 : Option mw_V} {st : List mw_V} {σ : mw_S} {Q : Option mw_V → mw_S → Prop} : mw_WP d 171 3 [l0, l1] st σ Q ↔ mw_WP d 171 6 [l0, l1] (jI (1460) :: st) σ Q := WP_sipush mq171 dd171_3 (by decide)
theorem dd171_6 : decode cX12_plain 6 = .ok (.if_icmp .ge 13, 3) := by decide +kernel
theorem ww171_6 {d : Nat} {l0 l1 : Option mw_V} {x y : Int} {st : List mw_V} {σ : mw_S} {Q : Option mw_V → mw_S → Prop} : mw_WP d 171 6 [l0, l1] (jI y :: jI x :: st) σ Q ↔ (if y ≤ x then mw_WP d 171 19 [l0, l1] st σ Q else mw_WP d 171 9 [l0, l1] st σ Q) := WP_icmp_ge mq171 dd171_6 (by decide)
theorem dd171_9 : decode cX12_plain 9 = .ok (.aload_n 0, 1) := by decide +kernel
theorem ww171_9 {d : Nat} {l1 : Option mw_V} {x : Nat} {st : List mw_V} {σ : mw_S} {Q : Option mw_V → mw_S → Prop} : mw_WP d 171 9 [some (jR x), l1] st σ Q ↔ mw_WP d 171 10 [some (jR x), l1] (jR x :: st) σ Q := WP_aload_n mq171 dd171_9 rfl
theorem dd171_10 : decode cX12_plain 10 = .ok (.iload_n 1, 1) := by decide +kernel
theorem ww171_10 {d : Nat} {l0 : Option mw_V} {x : Int} {st : List mw_V} {σ : mw_S} {Q : Option mw_V → mw_S → Prop} : mw_WP d 171 10 [l0, some (jI x)] st σ Q ↔ mw_WP d 171 11 [l0, some (jI x)] (jI x :: st) σ Q := WP_iload_n mq171 dd171_10 rfl
theorem dd171_11 : decode cX12_plain 11 = .ok (.iconst 0, 1) := by decide +kernel
theorem ww171_11 {d : Nat} {l0 l1 : Option mw_V} {st : List mw_V} {σ : mw_S} {Q : Option mw_V → mw_S → Prop} : mw_WP d 171 11 [l0, l1] st σ Q ↔ mw_WP d 171 12 [l0, l1] (jI (0) :: st) σ Q := WP_iconst mq171 dd171_11 (by decide)
theorem dd171_12 : decode cX12_plain 12 = .ok (.iastore, 1) := by decide +kernel
theorem ww171_12 {d : Nat} {l0 l1 : Option mw_V} {x z : Int} {a : Nat} {st : List mw_V} {σ : mw_S} {Q : Option mw_V → mw_S → Prop} : mw_WP d 171 12 [l0, l1] (jI x :: jI z :: jR a :: st) σ Q ↔ ((0 ≤ z ∧ z < mw_lenW 0 a) ∧ mw_WP d 171 13 [l0, l1] st (upS σ a z.toNat x) Q) := WP_iastore mq171 dd171_12
theorem dd171_13 : decode cX12_plain 13 = .ok (.iinc 1 1, 3) := by decide +kernel
theorem ww171_13 {d : Nat} {l0 : Option mw_V} {x : Int} {st : List mw_V} {σ : mw_S} {Q : Option mw_V → mw_S → Prop} (h : mw_nlo l0 = true) : mw_WP d 171 13 [l0, some (jI x)] st σ Q ↔ mw_WP d 171 16 [l0, some (jI (w32 (x + (1))))] st σ Q := WP_iinc mq171 dd171_13 rfl (Nat.le_of_ble_eq_true rfl) (mw_nl_of (i := 0) rfl h) rfl
theorem dd171_16 : decode cX12_plain 16 = .ok (.goto (-14), 3) := by decide +kernel
theorem ww171_16 {d : Nat} {l0 l1 : Option mw_V} {st : List mw_V} {σ : mw_S} {Q : Option mw_V → mw_S → Prop} : mw_WP d 171 16 [l0, l1] st σ Q ↔ mw_WP d 171 2 [l0, l1] st σ Q := WP_goto mq171 dd171_16 (by decide)
theorem dd171_19 : decode cX12_plain 19 = .ok (.aload_n 0, 1) := by decide +kernel
theorem ww171_19 {d : Nat} {l1 : Option mw_V} {x : Nat} {st : List mw_V} {σ : mw_S} {Q : Option mw_V → mw_S → Prop} : mw_WP d 171 19 [some (jR x), l1] st σ Q ↔ mw_WP d 171 20 [some (jR x), l1] (jR x :: st) σ Q := WP_aload_n mq171 dd171_19 rfl
theorem dd171_20 : decode cX12_plain 20 = .ok (.iconst 1, 1) := by decide +kernel
theorem ww171_20 {d : Nat} {l0 l1 : Option mw_V} {st : List mw_V} {σ : mw_S} {Q : Option mw_V → mw_S → Prop} : mw_WP d 171 20 [l0, l1] st σ Q ↔ mw_WP d 171 21 [l0, l1] (jI (1) :: st) σ Q := WP_iconst mq171 dd171_20 (by decide)
theorem dd171_21 : decode cX12_plain 21 = .ok (.iconst 5, 1) := by decide +kernel
theorem ww171_21 {d : Nat} {l0 l1 : Option mw_V} {st : List mw_V} {σ : mw_S} {Q : Option mw_V → mw_S → Prop} : mw_WP d 171 21 [l0, l1] st σ Q ↔ mw_WP d 171 22 [l0, l1] (jI (5) :: st) σ Q := WP_iconst mq171 dd171_21 (by decide)
theorem dd171_22 : decode cX12_plain 22 = .ok (.iastore, 1) := by decide +kernel
theorem ww171_22 {d : Nat} {l0 l1 : Option mw_V} {x z : Int} {a : Nat} {st : List mw_V} {σ : mw_S} {Q : Option mw_V → mw_S → Prop} : mw_WP d 171 22 [l0, l1] (jI x :: jI z :: jR a :: st) σ Q ↔ ((0 ≤ z ∧ z < mw_lenW 0 a) ∧ mw_WP d 171 23 [l0, l1] st (upS σ a z.toNat x) Q) := WP_iastore mq171 dd171_22
theorem dd171_23 : decode cX12_plain 23 = .ok (.iconst 0, 1) := by decide +kernel
theorem ww171_23 {d : Nat} {l0 l1 : Option mw_V} {st : List mw_V} {σ : mw_S} {Q : Option mw_V → mw_S → Prop} : mw_WP d 171 23 [l0, l1] st σ Q ↔ mw_WP d 171 24 [l0, l1] (jI (0) :: st) σ Q := WP_iconst mq171 dd171_23 (by decide)
theorem dd171_24 : decode cX12_plain 24 = .ok (.istore_n 1, 1) := by decide +kernel
theorem ww171_24 {d : Nat} {l0 l1 : Option mw_V} {x : Int} {st : List mw_V} {σ : mw_S} {Q : Option mw_V → mw_S → Prop} (h : mw_nlo l0 = true) : mw_WP d 171 24 [l0, l1] (jI x :: st) σ Q ↔ mw_WP d 171 25 [l0, some (jI x)] st σ Q := WP_istore_n mq171 dd171_24 (Nat.le_of_ble_eq_true rfl) (mw_nl_of (i := 0) rfl h) rfl
theorem dd171_25 : decode cX12_plain 25 = .ok (.iload_n 1, 1) := by decide +kernel
theorem ww171_25 {d : Nat} {l0 : Option mw_V} {x : Int} {st : List mw_V} {σ : mw_S} {Q : Option mw_V → mw_S → Prop} : mw_WP d 171 25 [l0, some (jI x)] st σ Q ↔ mw_WP d 171 26 [l0, some (jI x)] (jI x :: st) σ Q := WP_iload_n mq171 dd171_25 rfl
theorem dd171_26 : decode cX12_plain 26 = .ok (.iconst 3, 1) := by decide +kernel
theorem ww171_26 {d : Nat} {l0 l1 : Option mw_V} {st : List mw_V} {σ : mw_S} {Q : Option mw_V → mw_S → Prop} : mw_WP d 171 26 [l0, l1] st σ Q ↔ mw_WP d 171 27 [l0, l1] (jI (3) :: st) σ Q := WP_iconst mq171 dd171_26 (by decide)
theorem dd171_27 : decode cX12_plain 27 = .ok (.if_icmp .ge 23, 3) := by decide +kernel
theorem ww171_27 {d : Nat} {l0 l1 : Option mw_V} {x y : Int} {st : List mw_V} {σ : mw_S} {Q : Option mw_V → mw_S → Prop} : mw_WP d 171 27 [l0, l1] (jI y :: jI x :: st) σ Q ↔ (if y ≤ x then mw_WP d 171 50 [l0, l1] st σ Q else mw_WP d 171 30 [l0, l1] st σ Q) := WP_icmp_ge mq171 dd171_27 (by decide)
theorem dd171_30 : decode cX12_plain 30 = .ok (.aload_n 0, 1) := by decide +kernel
theorem ww171_30 {d : Nat} {l1 : Option mw_V} {x : Nat} {st : List mw_V} {σ : mw_S} {Q : Option mw_V → mw_S → Prop} : mw_WP d 171 30 [some (jR x), l1] st σ Q ↔ mw_WP d 171 31 [some (jR x), l1] (jR x :: st) σ Q := WP_aload_n mq171 dd171_30 rfl
theorem dd171_31 : decode cX12_plain 31 = .ok (.bipush 76, 2) := by decide +kernel
theorem ww171_31 {d : Nat} {l0 l1 : Option mw_V} {st : List mw_V} {σ : mw_S} {Q : Option mw_V → mw_S → Prop} : mw_WP d 171 31 [l0, l1] st σ Q ↔ mw_WP d 171 33 [l0, l1] (jI (76) :: st) σ Q := WP_bipush mq171 dd171_31 (by decide)
theorem dd171_33 : decode cX12_plain 33 = .ok (.iload_n 1, 1) := by decide +kernel
theorem ww171_33 {d : Nat} {l0 : Option mw_V} {x : Int} {st : List mw_V} {σ : mw_S} {Q : Option mw_V → mw_S → Prop} : mw_WP d 171 33 [l0, some (jI x)] st σ Q ↔ mw_WP d 171 34 [l0, some (jI x)] (jI x :: st) σ Q := WP_iload_n mq171 dd171_33 rfl
theorem dd171_34 : decode cX12_plain 34 = .ok (.iadd, 1) := by decide +kernel
theorem ww171_34 {d : Nat} {l0 l1 : Option mw_V} {x y : Int} {st : List mw_V} {σ : mw_S} {Q : Option mw_V → mw_S → Prop} : mw_WP d 171 34 [l0, l1] (jI y :: jI x :: st) σ Q ↔ mw_WP d 171 35 [l0, l1] (jI (w32 (x + y)) :: st) σ Q := WP_iadd mq171 dd171_34
theorem dd171_35 : decode cX12_plain 35 = .ok (.iconst (-1), 1) := by decide +kernel
theorem ww171_35 {d : Nat} {l0 l1 : Option mw_V} {st : List mw_V} {σ : mw_S} {Q : Option mw_V → mw_S → Prop} : mw_WP d 171 35 [l0, l1] st σ Q ↔ mw_WP d 171 36 [l0, l1] (jI (-1) :: st) σ Q := WP_iconst mq171 dd171_35 (by decide)
theorem dd171_36 : decode cX12_plain 36 = .ok (.iastore, 1) := by decide +kernel
theorem ww171_36 {d : Nat} {l0 l1 : Option mw_V} {x z : Int} {a : Nat} {st : List mw_V} {σ : mw_S} {Q : Option mw_V → mw_S → Prop} : mw_WP d 171 36 [l0, l1] (jI x :: jI z :: jR a :: st) σ Q ↔ ((0 ≤ z ∧ z < mw_lenW 0 a) ∧ mw_WP d 171 37 [l0, l1] st (upS σ a z.toNat x) Q) := WP_iastore mq171 dd171_36
theorem dd171_37 : decode cX12_plain 37 = .ok (.aload_n 0, 1) := by decide +kernel
theorem ww171_37 {d : Nat} {l1 : Option mw_V} {x : Nat} {st : List mw_V} {σ : mw_S} {Q : Option mw_V → mw_S → Prop} : mw_WP d 171 37 [some (jR x), l1] st σ Q ↔ mw_WP d 171 38 [some (jR x), l1] (jR x :: st) σ Q := WP_aload_n mq171 dd171_37 rfl
theorem dd171_38 : decode cX12_plain 38 = .ok (.bipush 82, 2) := by decide +kernel
theorem ww171_38 {d : Nat} {l0 l1 : Option mw_V} {st : List mw_V} {σ : mw_S} {Q : Option mw_V → mw_S → Prop} : mw_WP d 171 38 [l0, l1] st σ Q ↔ mw_WP d 171 40 [l0, l1] (jI (82) :: st) σ Q := WP_bipush mq171 dd171_38 (by decide)
theorem dd171_40 : decode cX12_plain 40 = .ok (.iload_n 1, 1) := by decide +kernel
theorem ww171_40 {d : Nat} {l0 : Option mw_V} {x : Int} {st : List mw_V} {σ : mw_S} {Q : Option mw_V → mw_S → Prop} : mw_WP d 171 40 [l0, some (jI x)] st σ Q ↔ mw_WP d 171 41 [l0, some (jI x)] (jI x :: st) σ Q := WP_iload_n mq171 dd171_40 rfl
theorem dd171_41 : decode cX12_plain 41 = .ok (.iadd, 1) := by decide +kernel
theorem ww171_41 {d : Nat} {l0 l1 : Option mw_V} {x y : Int} {st : List mw_V} {σ : mw_S} {Q : Option mw_V → mw_S → Prop} : mw_WP d 171 41 [l0, l1] (jI y :: jI x :: st) σ Q ↔ mw_WP d 171 42 [l0, l1] (jI (w32 (x + y)) :: st) σ Q := WP_iadd mq171 dd171_41
theorem dd171_42 : decode cX12_plain 42 = .ok (.iconst (-1), 1) := by decide +kernel
theorem ww171_42 {d : Nat} {l0 l1 : Option mw_V} {st : List mw_V} {σ : mw_S} {Q : Option mw_V → mw_S → Prop} : mw_WP d 171 42 [l0, l1] st σ Q ↔ mw_WP d 171 43 [l0, l1] (jI (-1) :: st) σ Q := WP_iconst mq171 dd171_42 (by decide)
theorem dd171_43 : decode cX12_plain 43 = .ok (.iastore, 1) := by decide +kernel
theorem ww171_43 {d : Nat} {l0 l1 : Option mw_V} {x z : Int} {a : Nat} {st : List mw_V} {σ : mw_S} {Q : Option mw_V → mw_S → Prop} : mw_WP d 171 43 [l0, l1] (jI x :: jI z :: jR a :: st) σ Q ↔ ((0 ≤ z ∧ z < mw_lenW 0 a) ∧ mw_WP d 171 44 [l0, l1] st (upS σ a z.toNat x) Q) := WP_iastore mq171 dd171_43
theorem dd171_44 : decode cX12_plain 44 = .ok (.iinc 1 1, 3) := by decide +kernel
theorem ww171_44 {d : Nat} {l0 : Option mw_V} {x : Int} {st : List mw_V} {σ : mw_S} {Q : Option mw_V → mw_S → Prop} (h : mw_nlo l0 = true) : mw_WP d 171 44 [l0, some (jI x)] st σ Q ↔ mw_WP d 171 47 [l0, some (jI (w32 (x + (1))))] st σ Q := WP_iinc mq171 dd171_44 rfl (Nat.le_of_ble_eq_true rfl) (mw_nl_of (i := 0) rfl h) rfl
theorem dd171_47 : decode cX12_plain 47 = .ok (.goto (-22), 3) := by decide +kernel
theorem ww171_47 {d : Nat} {l0 l1 : Option mw_V} {st : List mw_V} {σ : mw_S} {Q : Option mw_V → mw_S → Prop} : mw_WP d 171 47 [l0, l1] st σ Q ↔ mw_WP d 171 25 [l0, l1] st σ Q := WP_goto mq171 dd171_47 (by decide)
theorem dd171_50 : decode cX12_plain 50 = .ok (.return_, 1) := by decide +kernel
theorem ww171_50 {d : Nat} {l0 l1 : Option mw_V} {σ : mw_S} {Q : Option mw_V → mw_S → Prop} : mw_WP d 171 50 [l0, l1] [] σ Q ↔ Q none σ := WP_return mq171 dd171_50 rfl
theorem ee172 {d : Nat} {a : Nat} {z0 : Int} {z1 : Int} {z2 : Int} {z3 : Int} {z4 : Int} {σ : mw_S} {Q : Option mw_V → mw_S → Prop} : mw_Call (d + 1) 172 [jR a, jI z0, jI z1, jI z2, jI z3, jI z4] σ Q ↔ mw_WP d 172 0 [some (jR a), some (jI z0), some (jI z1), some (jI z2), some (jI z3), some (jI z4), none, none] [] σ Q := CL_u mq172 (Nat.le_of_ble_eq_true rfl) rfl
theorem dd172_0 : decode cX12_feed 0 = .ok (.aload_n 0, 1) := by decide +kernel
theorem ww172_0 {d : Nat} {l1 l2 l3 l4 l5 l6 l7 : Option mw_V} {x : Nat} {st : List mw_V} {σ : mw_S} {Q : Option mw_V → mw_S → Prop} : mw_WP d 172 0 [some (jR x), l1, l2, l3, l4, l5, l6, l7] st σ Q ↔ mw_WP d 172 1 [some (jR x), l1, l2, l3, l4, l5, l6, l7] (jR x :: st) σ Q := WP_aload_n mq172 dd172_0 rfl
theorem dd172_1 : decode cX12_feed 1 = .ok (.iconst 0, 1) := by decide +kernel
theorem ww172_1 {d : Nat} {l0 l1 l2 l3 l4 l5 l6 l7 : Option mw_V} {st : List mw_V} {σ : mw_S} {Q : Option mw_V → mw_S → Prop} : mw_WP d 172 1 [l0, l1, l2, l3, l4, l5, l6, l7] st σ Q ↔ mw_WP d 172 2 [l0, l1, l2, l3, l4, l5, l6, l7] (jI (0) :: st) σ Q := WP_iconst mq172 dd172_1 (by decide)
theorem dd172_2 : decode cX12_feed 2 = .ok (.putfield 1, 3) := by decide +kernel
theorem ww172_2 {d : Nat} {l0 l1 l2 l3 l4 l5 l6 l7 : Option mw_V} {v : Int} {st : List mw_V} {σ : mw_S} {Q : Option mw_V → mw_S → Prop} : mw_WP d 172 2 [l0, l1, l2, l3, l4, l5, l6, l7] (jI v :: jR 100 :: st) σ Q ↔ mw_WP d 172 5 [l0, l1, l2, l3, l4, l5, l6, l7] st (upS σ 100 0 v) Q := WP_putI (ci := 11) (k := 0) mq172 dd172_2 (by decide) rfl
theorem dd172_5 : decode cX12_feed 5 = .ok (.aload_n 0, 1) := by decide +kernel
theorem ww172_5 {d : Nat} {l1 l2 l3 l4 l5 l6 l7 : Option mw_V} {x : Nat} {st : List mw_V} {σ : mw_S} {Q : Option mw_V → mw_S → Prop} : mw_WP d 172 5 [some (jR x), l1, l2, l3, l4, l5, l6, l7] st σ Q ↔ mw_WP d 172 6 [some (jR x), l1, l2, l3, l4, l5, l6, l7] (jR x :: st) σ Q := WP_aload_n mq172 dd172_5 rfl
theorem dd172_6 : decode cX12_feed 6 = .ok (.getfield 97, 3) := by decide +kernel
theorem ww172_6 {d : Nat} {l0 l1 l2 l3 l4 l5 l6 l7 : Option mw_V} {st : List mw_V} {σ : mw_S} {Q : Option mw_V → mw_S → Prop} : mw_WP d 172 6 [l0, l1, l2, l3, l4, l5, l6, l7] (jR 100 :: st) σ Q ↔ mw_WP d 172 9 [l0, l1, l2, l3, l4, l5, l6, l7] (jI (σ 100 5) :: st) σ Q := WP_getI (ci := 11) (k := 5) mq172 dd172_6 (by decide) (Or.inl rfl)
theorem dd172_9 : decode cX12_feed 9 = .ok (.bipush 20, 2) := by decide +kernel
theorem ww172_9 {d : Nat} {l0 l1 l2 l3 l4 l5 l6 l7 : Option mw_V} {st : List mw_V} {σ : mw_S} {Q : Option mw_V → mw_S → Prop} : mw_WP d 172 9 [l0, l1, l2, l3, l4, l5, l6, l7] st σ Q ↔ mw_WP d 172 11 [l0, l1, l2, l3, l4, l5, l6, l7] (jI (20) :: st) σ Q := WP_bipush mq172 dd172_9 (by decide)
theorem dd172_11 : decode cX12_feed 11 = .ok (.iadd, 1) := by decide +kernel
theorem ww172_11 {d : Nat} {l0 l1 l2 l3 l4 l5 l6 l7 : Option mw_V} {x y : Int} {st : List mw_V} {σ : mw_S} {Q : Option mw_V → mw_S → Prop} : mw_WP d 172 11 [l0, l1, l2, l3, l4, l5, l6, l7] (jI y :: jI x :: st) σ Q ↔ mw_WP d 172 12 [l0, l1, l2, l3, l4, l5, l6, l7] (jI (w32 (x + y)) :: st) σ Q := WP_iadd mq172 dd172_11
theorem dd172_12 : decode cX12_feed 12 = .ok (.sipush 900, 3) := by decide +kernel
theorem ww172_12 {d : Nat} {l0 l1 l2 l3 l4 l5 l6 l7 : Option mw_V} {st : List mw_V} {σ : mw_S} {Q : Option mw_V → mw_S → Prop} : mw_WP d 172 12 [l0, l1, l2, l3, l4, l5, l6, l7] st σ Q ↔ mw_WP d 172 15 [l0, l1, l2, l3, l4, l5, l6, l7] (jI (900) :: st) σ Q := WP_sipush mq172 dd172_12 (by decide)
theorem dd172_15 : decode cX12_feed 15 = .ok (.if_icmp .le 6, 3) := by decide +kernel
theorem ww172_15 {d : Nat} {l0 l1 l2 l3 l4 l5 l6 l7 : Option mw_V} {x y : Int} {st : List mw_V} {σ : mw_S} {Q : Option mw_V → mw_S → Prop} : mw_WP d 172 15 [l0, l1, l2, l3, l4, l5, l6, l7] (jI y :: jI x :: st) σ Q ↔ (if x ≤ y then mw_WP d 172 21 [l0, l1, l2, l3, l4, l5, l6, l7] st σ Q else mw_WP d 172 18 [l0, l1, l2, l3, l4, l5, l6, l7] st σ Q) := WP_icmp_le mq172 dd172_15 (by decide)
theorem dd172_18 : decode cX12_feed 18 = .ok (.bipush (-5), 2) := by decide +kernel
theorem ww172_18 {d : Nat} {l0 l1 l2 l3 l4 l5 l6 l7 : Option mw_V} {st : List mw_V} {σ : mw_S} {Q : Option mw_V → mw_S → Prop} : mw_WP d 172 18 [l0, l1, l2, l3, l4, l5, l6, l7] st σ Q ↔ mw_WP d 172 20 [l0, l1, l2, l3, l4, l5, l6, l7] (jI (-5) :: st) σ Q := WP_bipush mq172 dd172_18 (by decide)
theorem dd172_20 : decode cX12_feed 20 = .ok (.ireturn, 1) := by decide +kernel
theorem ww172_20 {d : Nat} {l0 l1 l2 l3 l4 l5 l6 l7 : Option mw_V} {z : Int} {σ : mw_S} {Q : Option mw_V → mw_S → Prop} : mw_WP d 172 20 [l0, l1, l2, l3, l4, l5, l6, l7] [jI z] σ Q ↔ Q (some (jI z)) σ := WP_ireturn (ty := .int) mq172 dd172_20 rfl rfl
theorem dd172_21 : decode cX12_feed 21 = .ok (.iconst 0, 1) := by decide +kernel
theorem ww172_21 {d : Nat} {l0 l1 l2 l3 l4 l5 l6 l7 : Option mw_V} {st : List mw_V} {σ : mw_S} {Q : Option mw_V → mw_S → Prop} : mw_WP d 172 21 [l0, l1, l2, l3, l4, l5, l6, l7] st σ Q ↔ mw_WP d 172 22 [l0, l1, l2, l3, l4, l5, l6, l7] (jI (0) :: st) σ Q := WP_iconst mq172 dd172_21 (by decide)
theorem dd172_22 : decode cX12_feed 22 = .ok (.istore 6, 2) := by decide +kernel
theorem ww172_22 {d : Nat} {l0 l1 l2 l3 l4 l5 l6 l7 : Option mw_V} {x : Int} {st : List mw_V} {σ : mw_S} {Q : Option mw_V → mw_S → Prop} (h : mw_nlo l5 = true) : mw_WP d 172 22 [l0, l1, l2, l3, l4, l5, l6, l7] (jI x :: st) σ Q ↔ mw_WP d 172 24 [l0, l1, l2, l3, l4, l5, some (jI x), l7] st σ Q := WP_istore mq172 dd172_22 (Nat.le_of_ble_eq_true rfl) (mw_nl_of (i := 5) rfl h) rfl
theorem dd172_24 : decode cX12_feed 24 = .ok (.iload 6, 2) := by decide +kernel
theorem ww172_24 {d : Nat} {l0 l1 l2 l3 l4 l5 l7 : Option mw_V} {x : Int} {st : List mw_V} {σ : mw_S} {Q : Option mw_V → mw_S → Prop} : mw_WP d 172 24 [l0, l1, l2, l3, l4, l5, some (jI x), l7] st σ Q ↔ mw_WP d 172 26 [l0, l1, l2, l3, l4, l5, some (jI x), l7] (jI x :: st) σ Q := WP_iload mq172 dd172_24 rfl
theorem dd172_26 : decode cX12_feed 26 = .ok (.bipush 20, 2) := by decide +kernel
theorem ww172_26 {d : Nat} {l0 l1 l2 l3 l4 l5 l6 l7 : Option mw_V} {st : List mw_V} {σ : mw_S} {Q : Option mw_V → mw_S → Prop} : mw_WP d 172 26 [l0, l1, l2, l3, l4, l5, l6, l7] st σ Q ↔ mw_WP d 172 28 [l0, l1, l2, l3, l4, l5, l6, l7] (jI (20) :: st) σ Q := WP_bipush mq172 dd172_26 (by decide)
theorem dd172_28 : decode cX12_feed 28 = .ok (.if_icmp .ge 93, 3) := by decide +kernel
theorem ww172_28 {d : Nat} {l0 l1 l2 l3 l4 l5 l6 l7 : Option mw_V} {x y : Int} {st : List mw_V} {σ : mw_S} {Q : Option mw_V → mw_S → Prop} : mw_WP d 172 28 [l0, l1, l2, l3, l4, l5, l6, l7] (jI y :: jI x :: st) σ Q ↔ (if y ≤ x then mw_WP d 172 121 [l0, l1, l2, l3, l4, l5, l6, l7] st σ Q else mw_WP d 172 31 [l0, l1, l2, l3, l4, l5, l6, l7] st σ Q) := WP_icmp_ge mq172 dd172_28 (by decide)
theorem dd172_31 : decode cX12_feed 31 = .ok (.iload 6, 2) := by decide +kernel
theorem ww172_31 {d : Nat} {l0 l1 l2 l3 l4 l5 l7 : Option mw_V} {x : Int} {st : List mw_V} {σ : mw_S} {Q : Option mw_V → mw_S → Prop} : mw_WP d 172 31 [l0, l1, l2, l3, l4, l5, some (jI x), l7] st σ Q ↔ mw_WP d 172 33 [l0, l1, l2, l3, l4, l5, some (jI x), l7] (jI x :: st) σ Q := WP_iload mq172 dd172_31 rfl
theorem dd172_33 : decode cX12_feed 33 = .ok (.iconst 4, 1) := by decide +kernel
theorem ww172_33 {d : Nat} {l0 l1 l2 l3 l4 l5 l6 l7 : Option mw_V} {st : List mw_V} {σ : mw_S} {Q : Option mw_V → mw_S → Prop} : mw_WP d 172 33 [l0, l1, l2, l3, l4, l5, l6, l7] st σ Q ↔ mw_WP d 172 34 [l0, l1, l2, l3, l4, l5, l6, l7] (jI (4) :: st) σ Q := WP_iconst mq172 dd172_33 (by decide)
theorem dd172_34 : decode cX12_feed 34 = .ok (.if_icmp .ge 7, 3) := by decide +kernel
theorem ww172_34 {d : Nat} {l0 l1 l2 l3 l4 l5 l6 l7 : Option mw_V} {x y : Int} {st : List mw_V} {σ : mw_S} {Q : Option mw_V → mw_S → Prop} : mw_WP d 172 34 [l0, l1, l2, l3, l4, l5, l6, l7] (jI y :: jI x :: st) σ Q ↔ (if y ≤ x then mw_WP d 172 41 [l0, l1, l2, l3, l4, l5, l6, l7] st σ Q else mw_WP d 172 37 [l0, l1, l2, l3, l4, l5, l6, l7] st σ Q) := WP_icmp_ge mq172 dd172_34 (by decide)
theorem dd172_37 : decode cX12_feed 37 = .ok (.iload_n 1, 1) := by decide +kernel
theorem ww172_37 {d : Nat} {l0 l2 l3 l4 l5 l6 l7 : Option mw_V} {x : Int} {st : List mw_V} {σ : mw_S} {Q : Option mw_V → mw_S → Prop} : mw_WP d 172 37 [l0, some (jI x), l2, l3, l4, l5, l6, l7] st σ Q ↔ mw_WP d 172 38 [l0, some (jI x), l2, l3, l4, l5, l6, l7] (jI x :: st) σ Q := WP_iload_n mq172 dd172_37 rfl
theorem dd172_38 : decode cX12_feed 38 = .ok (.goto 39, 3) := by decide +kernel
theorem ww172_38 {d : Nat} {l0 l1 l2 l3 l4 l5 l6 l7 : Option mw_V} {st : List mw_V} {σ : mw_S} {Q : Option mw_V → mw_S → Prop} : mw_WP d 172 38 [l0, l1, l2, l3, l4, l5, l6, l7] st σ Q ↔ mw_WP d 172 77 [l0, l1, l2, l3, l4, l5, l6, l7] st σ Q := WP_goto mq172 dd172_38 (by decide)
theorem dd172_41 : decode cX12_feed 41 = .ok (.iload 6, 2) := by decide +kernel
theorem ww172_41 {d : Nat} {l0 l1 l2 l3 l4 l5 l7 : Option mw_V} {x : Int} {st : List mw_V} {σ : mw_S} {Q : Option mw_V → mw_S → Prop} : mw_WP d 172 41 [l0, l1, l2, l3, l4, l5, some (jI x), l7] st σ Q ↔ mw_WP d 172 43 [l0, l1, l2, l3, l4, l5, some (jI x), l7] (jI x :: st) σ Q := WP_iload mq172 dd172_41 rfl
theorem dd172_43 : decode cX12_feed 43 = .ok (.bipush 8, 2) := by decide +kernel
theorem ww172_43 {d : Nat} {l0 l1 l2 l3 l4 l5 l6 l7 : Option mw_V} {st : List mw_V} {σ : mw_S} {Q : Option mw_V → mw_S → Prop} : mw_WP d 172 43 [l0, l1, l2, l3, l4, l5, l6, l7] st σ Q ↔ mw_WP d 172 45 [l0, l1, l2, l3, l4, l5, l6, l7] (jI (8) :: st) σ Q := WP_bipush mq172 dd172_43 (by decide)
theorem dd172_45 : decode cX12_feed 45 = .ok (.if_icmp .ge 7, 3) := by decide +kernel
theorem ww172_45 {d : Nat} {l0 l1 l2 l3 l4 l5 l6 l7 : Option mw_V} {x y : Int} {st : List mw_V} {σ : mw_S} {Q : Option mw_V → mw_S → Prop} : mw_WP d 172 45 [l0, l1, l2, l3, l4, l5, l6, l7] (jI y :: jI x :: st) σ Q ↔ (if y ≤ x then mw_WP d 172 52 [l0, l1, l2, l3, l4, l5, l6, l7] st σ Q else mw_WP d 172 48 [l0, l1, l2, l3, l4, l5, l6, l7] st σ Q) := WP_icmp_ge mq172 dd172_45 (by decide)
theorem dd172_48 : decode cX12_feed 48 = .ok (.iload_n 2, 1) := by decide +kernel
theorem ww172_48 {d : Nat} {l0 l1 l3 l4 l5 l6 l7 : Option mw_V} {x : Int} {st : List mw_V} {σ : mw_S} {Q : Option mw_V → mw_S → Prop} : mw_WP d 172 48 [l0, l1, some (jI x), l3, l4, l5, l6, l7] st σ Q ↔ mw_WP d 172 49 [l0, l1, some (jI x), l3, l4, l5, l6, l7] (jI x :: st) σ Q := WP_iload_n mq172 dd172_48 rfl
theorem dd172_49 : decode cX12_feed 49 = .ok (.goto 28, 3) := by decide +kernel
theorem ww172_49 {d : Nat} {l0 l1 l2 l3 l4 l5 l6 l7 : Option mw_V} {st : List mw_V} {σ : mw_S} {Q : Option mw_V → mw_S → Prop} : mw_WP d 172 49 [l0, l1, l2, l3, l4, l5, l6, l7] st σ Q ↔ mw_WP d 172 77 [l0, l1, l2, l3, l4, l5, l6, l7] st σ Q := WP_goto mq172 dd172_49 (by decide)
theorem dd172_52 : decode cX12_feed 52 = .ok (.iload 6, 2) := by decide +kernel
theorem ww172_52 {d : Nat} {l0 l1 l2 l3 l4 l5 l7 : Option mw_V} {x : Int} {st : List mw_V} {σ : mw_S} {Q : Option mw_V → mw_S → Prop} : mw_WP d 172 52 [l0, l1, l2, l3, l4, l5, some (jI x), l7] st σ Q ↔ mw_WP d 172 54 [l0, l1, l2, l3, l4, l5, some (jI x), l7] (jI x :: st) σ Q := WP_iload mq172 dd172_52 rfl
theorem dd172_54 : decode cX12_feed 54 = .ok (.bipush 12, 2) := by decide +kernel
theorem ww172_54 {d : Nat} {l0 l1 l2 l3 l4 l5 l6 l7 : Option mw_V} {st : List mw_V} {σ : mw_S} {Q : Option mw_V → mw_S → Prop} : mw_WP d 172 54 [l0, l1, l2, l3, l4, l5, l6, l7] st σ Q ↔ mw_WP d 172 56 [l0, l1, l2, l3, l4, l5, l6, l7] (jI (12) :: st) σ Q := WP_bipush mq172 dd172_54 (by decide)
theorem dd172_56 : decode cX12_feed 56 = .ok (.if_icmp .ge 7, 3) := by decide +kernel
theorem ww172_56 {d : Nat} {l0 l1 l2 l3 l4 l5 l6 l7 : Option mw_V} {x y : Int} {st : List mw_V} {σ : mw_S} {Q : Option mw_V → mw_S → Prop} : mw_WP d 172 56 [l0, l1, l2, l3, l4, l5, l6, l7] (jI y :: jI x :: st) σ Q ↔ (if y ≤ x then mw_WP d 172 63 [l0, l1, l2, l3, l4, l5, l6, l7] st σ Q else mw_WP d 172 59 [l0, l1, l2, l3, l4, l5, l6, l7] st σ Q) := WP_icmp_ge mq172 dd172_56 (by decide)
theorem dd172_59 : decode cX12_feed 59 = .ok (.iload_n 3, 1) := by decide +kernel
theorem ww172_59 {d : Nat} {l0 l1 l2 l4 l5 l6 l7 : Option mw_V} {x : Int} {st : List mw_V} {σ : mw_S} {Q : Option mw_V → mw_S → Prop} : mw_WP d 172 59 [l0, l1, l2, some (jI x), l4, l5, l6, l7] st σ Q ↔ mw_WP d 172 60 [l0, l1, l2, some (jI x), l4, l5, l6, l7] (jI x :: st) σ Q := WP_iload_n mq172 dd172_59 rfl
theorem dd172_60 : decode cX12_feed 60 = .ok (.goto 17, 3) := by decide +kernel
theorem ww172_60 {d : Nat} {l0 l1 l2 l3 l4 l5 l6 l7 : Option mw_V} {st : List mw_V} {σ : mw_S} {Q : Option mw_V → mw_S → Prop} : mw_WP d 172 60 [l0, l1, l2, l3, l4, l5, l6, l7] st σ Q ↔ mw_WP d 172 77 [l0, l1, l2, l3, l4, l5, l6, l7] st σ Q := WP_goto mq172 dd172_60 (by decide)
theorem dd172_63 : decode cX12_feed 63 = .ok (.iload 6, 2) := by decide +kernel
theorem ww172_63 {d : Nat} {l0 l1 l2 l3 l4 l5 l7 : Option mw_V} {x : Int} {st : List mw_V} {σ : mw_S} {Q : Option mw_V → mw_S → Prop} : mw_WP d 172 63 [l0, l1, l2, l3, l4, l5, some (jI x), l7] st σ Q ↔ mw_WP d 172 65 [l0, l1, l2, l3, l4, l5, some (jI x), l7] (jI x :: st) σ Q := WP_iload mq172 dd172_63 rfl
theorem dd172_65 : decode cX12_feed 65 = .ok (.bipush 16, 2) := by decide +kernel
theorem ww172_65 {d : Nat} {l0 l1 l2 l3 l4 l5 l6 l7 : Option mw_V} {st : List mw_V} {σ : mw_S} {Q : Option mw_V → mw_S → Prop} : mw_WP d 172 65 [l0, l1, l2, l3, l4, l5, l6, l7] st σ Q ↔ mw_WP d 172 67 [l0, l1, l2, l3, l4, l5, l6, l7] (jI (16) :: st) σ Q := WP_bipush mq172 dd172_65 (by decide)
theorem dd172_67 : decode cX12_feed 67 = .ok (.if_icmp .ge 8, 3) := by decide +kernel
theorem ww172_67 {d : Nat} {l0 l1 l2 l3 l4 l5 l6 l7 : Option mw_V} {x y : Int} {st : List mw_V} {σ : mw_S} {Q : Option mw_V → mw_S → Prop} : mw_WP d 172 67 [l0, l1, l2, l3, l4, l5, l6, l7] (jI y :: jI x :: st) σ Q ↔ (if y ≤ x then mw_WP d 172 75 [l0, l1, l2, l3, l4, l5, l6, l7] st σ Q else mw_WP d 172 70 [l0, l1, l2, l3, l4, l5, l6, l7] st σ Q) := WP_icmp_ge mq172 dd172_67 (by decide)
theorem dd172_70 : decode cX12_feed 70 = .ok (.iload 4, 2) := by decide +kernel
theorem ww172_70 {d : Nat} {l0 l1 l2 l3 l5 l6 l7 : Option mw_V} {x : Int} {st : List mw_V} {σ : mw_S} {Q : Option mw_V → mw_S → Prop} : mw_WP d 172 70 [l0, l1, l2, l3, some (jI x), l5, l6, l7] st σ Q ↔ mw_WP d 172 72 [l0, l1, l2, l3, some (jI x), l5, l6, l7] (jI x :: st) σ Q := WP_iload mq172 dd172_70 rfl
theorem dd172_72 : decode cX12_feed 72 = .ok (.goto 5, 3) := by decide +kernel
theorem ww172_72 {d : Nat} {l0 l1 l2 l3 l4 l5 l6 l7 : Option mw_V} {st : List mw_V} {σ : mw_S} {Q : Option mw_V → mw_S → Prop} : mw_WP d 172 72 [l0, l1, l2, l3, l4, l5, l6, l7] st σ Q ↔ mw_WP d 172 77 [l0, l1, l2, l3, l4, l5, l6, l7] st σ Q := WP_goto mq172 dd172_72 (by decide)
theorem dd172_75 : decode cX12_feed 75 = .ok (.iload 5, 2) := by decide +kernel
theorem ww172_75 {d : Nat} {l0 l1 l2 l3 l4 l6 l7 : Option mw_V} {x : Int} {st : List mw_V} {σ : mw_S} {Q : Option mw_V → mw_S → Prop} : mw_WP d 172 75 [l0, l1, l2, l3, l4, some (jI x), l6, l7] st σ Q ↔ mw_WP d 172 77 [l0, l1, l2, l3, l4, some (jI x), l6, l7] (jI x :: st) σ Q := WP_iload mq172 dd172_75 rfl
theorem dd172_77 : decode cX12_feed 77 = .ok (.istore 7, 2) := by decide +kernel
theorem ww172_77 {d : Nat} {l0 l1 l2 l3 l4 l5 l6 l7 : Option mw_V} {x : Int} {st : List mw_V} {σ : mw_S} {Q : Option mw_V → mw_S → Prop} (h : mw_nlo l6 = true) : mw_WP d 172 77 [l0, l1, l2, l3, l4, l5, l6, l7] (jI x :: st) σ Q ↔ mw_WP d 172 79 [l0, l1, l2, l3, l4, l5, l6, some (jI x)] st σ Q := WP_istore mq172 dd172_77 (Nat.le_of_ble_eq_true rfl) (mw_nl_of (i := 6) rfl h) rfl
theorem dd172_79 : decode cX12_feed 79 = .ok (.aload_n 0, 1) := by decide +kernel
theorem ww172_79 {d : Nat} {l1 l2 l3 l4 l5 l6 l7 : Option mw_V} {x : Nat} {st : List mw_V} {σ : mw_S} {Q : Option mw_V → mw_S → Prop} : mw_WP d 172 79 [some (jR x), l1, l2, l3, l4, l5, l6, l7] st σ Q ↔ mw_WP d 172 80 [some (jR x), l1, l2, l3, l4, l5, l6, l7] (jR x :: st) σ Q := WP_aload_n mq172 dd172_79 rfl
theorem dd172_80 : decode cX12_feed 80 = .ok (.getfield 21, 3) := by decide +kernel
theorem ww172_80 {d : Nat} {l0 l1 l2 l3 l4 l5 l6 l7 : Option mw_V} {st : List mw_V} {σ : mw_S} {Q : Option mw_V → mw_S → Prop} : mw_WP d 172 80 [l0, l1, l2, l3, l4, l5, l6, l7] (jR 100 :: st) σ Q ↔ mw_WP d 172 83 [l0, l1, l2, l3, l4, l5, l6, l7] (jR 103 :: st) σ Q := WP_getR (ci := 11) (k := 3) mq172 dd172_80 (by decide) rfl
theorem dd172_83 : decode cX12_feed 83 = .ok (.aload_n 0, 1) := by decide +kernel
theorem ww172_83 {d : Nat} {l1 l2 l3 l4 l5 l6 l7 : Option mw_V} {x : Nat} {st : List mw_V} {σ : mw_S} {Q : Option mw_V → mw_S → Prop} : mw_WP d 172 83 [some (jR x), l1, l2, l3, l4, l5, l6, l7] st σ Q ↔ mw_WP d 172 84 [some (jR x), l1, l2, l3, l4, l5, l6, l7] (jR x :: st) σ Q := WP_aload_n mq172 dd172_83 rfl
theorem dd172_84 : decode cX12_feed 84 = .ok (.getfield 97, 3) := by decide +kernel
theorem ww172_84 {d : Nat} {l0 l1 l2 l3 l4 l5 l6 l7 : Option mw_V} {st : List mw_V} {σ : mw_S} {Q : Option mw_V → mw_S → Prop} : mw_WP d 172 84 [l0, l1, l2, l3, l4, l5, l6, l7] (jR 100 :: st) σ Q ↔ mw_WP d 172 87 [l0, l1, l2, l3, l4, l5, l6, l7] (jI (σ 100 5) :: st) σ Q := WP_getI (ci := 11) (k := 5) mq172 dd172_84 (by decide) (Or.inl rfl)
theorem dd172_87 : decode cX12_feed 87 = .ok (.iload 7, 2) := by decide +kernel
theorem ww172_87 {d : Nat} {l0 l1 l2 l3 l4 l5 l6 : Option mw_V} {x : Int} {st : List mw_V} {σ : mw_S} {Q : Option mw_V → mw_S → Prop} : mw_WP d 172 87 [l0, l1, l2, l3, l4, l5, l6, some (jI x)] st σ Q ↔ mw_WP d 172 89 [l0, l1, l2, l3, l4, l5, l6, some (jI x)] (jI x :: st) σ Q := WP_iload mq172 dd172_87 rfl
theorem dd172_89 : decode cX12_feed 89 = .ok (.bipush 24, 2) := by decide +kernel
theorem ww172_89 {d : Nat} {l0 l1 l2 l3 l4 l5 l6 l7 : Option mw_V} {st : List mw_V} {σ : mw_S} {Q : Option mw_V → mw_S → Prop} : mw_WP d 172 89 [l0, l1, l2, l3, l4, l5, l6, l7] st σ Q ↔ mw_WP d 172 91 [l0, l1, l2, l3, l4, l5, l6, l7] (jI (24) :: st) σ Q := WP_bipush mq172 dd172_89 (by decide)
theorem dd172_91 : decode cX12_feed 91 = .ok (.bipush 8, 2) := by decide +kernel
theorem ww172_91 {d : Nat} {l0 l1 l2 l3 l4 l5 l6 l7 : Option mw_V} {st : List mw_V} {σ : mw_S} {Q : Option mw_V → mw_S → Prop} : mw_WP d 172 91 [l0, l1, l2, l3, l4, l5, l6, l7] st σ Q ↔ mw_WP d 172 93 [l0, l1, l2, l3, l4, l5, l6, l7] (jI (8) :: st) σ Q := WP_bipush mq172 dd172_91 (by decide)
theorem dd172_93 : decode cX12_feed 93 = .ok (.iload 6, 2) := by decide +kernel
theorem ww172_93 {d : Nat} {l0 l1 l2 l3 l4 l5 l7 : Option mw_V} {x : Int} {st : List mw_V} {σ : mw_S} {Q : Option mw_V → mw_S → Prop} : mw_WP d 172 93 [l0, l1, l2, l3, l4, l5, some (jI x), l7] st σ Q ↔ mw_WP d 172 95 [l0, l1, l2, l3, l4, l5, some (jI x), l7] (jI x :: st) σ Q := WP_iload mq172 dd172_93 rfl
theorem dd172_95 : decode cX12_feed 95 = .ok (.iconst 4, 1) := by decide +kernel
theorem ww172_95 {d : Nat} {l0 l1 l2 l3 l4 l5 l6 l7 : Option mw_V} {st : List mw_V} {σ : mw_S} {Q : Option mw_V → mw_S → Prop} : mw_WP d 172 95 [l0, l1, l2, l3, l4, l5, l6, l7] st σ Q ↔ mw_WP d 172 96 [l0, l1, l2, l3, l4, l5, l6, l7] (jI (4) :: st) σ Q := WP_iconst mq172 dd172_95 (by decide)
theorem dd172_96 : decode cX12_feed 96 = .ok (.irem, 1) := by decide +kernel
theorem ww172_96 {d : Nat} {l0 l1 l2 l3 l4 l5 l6 l7 : Option mw_V} {x y : Int} {st : List mw_V} {σ : mw_S} {Q : Option mw_V → mw_S → Prop} : mw_WP d 172 96 [l0, l1, l2, l3, l4, l5, l6, l7] (jI y :: jI x :: st) σ Q ↔ (¬ i32 y = 0 ∧ mw_WP d 172 97 [l0, l1, l2, l3, l4, l5, l6, l7] (jI (zRem x y) :: st) σ Q) := WP_irem mq172 dd172_96
theorem dd172_97 : decode cX12_feed 97 = .ok (.imul, 1) := by decide +kernel
theorem ww172_97 {d : Nat} {l0 l1 l2 l3 l4 l5 l6 l7 : Option mw_V} {x y : Int} {st : List mw_V} {σ : mw_S} {Q : Option mw_V → mw_S → Prop} : mw_WP d 172 97 [l0, l1, l2, l3, l4, l5, l6, l7] (jI y :: jI x :: st) σ Q ↔ mw_WP d 172 98 [l0, l1, l2, l3, l4, l5, l6, l7] (jI (w32 (x * y)) :: st) σ Q := WP_imul mq172 dd172_97
theorem dd172_98 : decode cX12_feed 98 = .ok (.isub, 1) := by decide +kernel
theorem ww172_98 {d : Nat} {l0 l1 l2 l3 l4 l5 l6 l7 : Option mw_V} {x y : Int} {st : List mw_V} {σ : mw_S} {Q : Option mw_V → mw_S → Prop} : mw_WP d 172 98 [l0, l1, l2, l3, l4, l5, l6, l7] (jI y :: jI x :: st) σ Q ↔ mw_WP d 172 99 [l0, l1, l2, l3, l4, l5, l6, l7] (jI (w32 (x - y)) :: st) σ Q := WP_isub mq172 dd172_98
theorem dd172_99 : decode cX12_feed 99 = .ok (.ishr, 1) := by decide +kernel
theorem ww172_99 {d : Nat} {l0 l1 l2 l3 l4 l5 l6 l7 : Option mw_V} {x y : Int} {st : List mw_V} {σ : mw_S} {Q : Option mw_V → mw_S → Prop} : mw_WP d 172 99 [l0, l1, l2, l3, l4, l5, l6, l7] (jI y :: jI x :: st) σ Q ↔ mw_WP d 172 100 [l0, l1, l2, l3, l4, l5, l6, l7] (jI (zShr x y) :: st) σ Q := WP_ishr mq172 dd172_99
theorem dd172_100 : decode cX12_feed 100 = .ok (.sipush 255, 3) := by decide +kernel
theorem ww172_100 {d : Nat} {l0 l1 l2 l3 l4 l5 l6 l7 : Option mw_V} {st : List mw_V} {σ : mw_S} {Q : Option mw_V → mw_S → Prop} : mw_WP d 172 100 [l0, l1, l2, l3, l4, l5, l6, l7] st σ Q ↔ mw_WP d 172 103 [l0, l1, l2, l3, l4, l5, l6, l7] (jI (255) :: st) σ Q := WP_sipush mq172 dd172_100 (by decide)
theorem dd172_103 : decode cX12_feed 103 = .ok (.iand, 1) := by decide +kernel
theorem ww172_103 {d : Nat} {l0 l1 l2 l3 l4 l5 l6 l7 : Option mw_V} {x y : Int} {st : List mw_V} {σ : mw_S} {Q : Option mw_V → mw_S → Prop} : mw_WP d 172 103 [l0, l1, l2, l3, l4, l5, l6, l7] (jI y :: jI x :: st) σ Q ↔ mw_WP d 172 104 [l0, l1, l2, l3, l4, l5, l6, l7] (jI (zAnd x y) :: st) σ Q := WP_iand mq172 dd172_103
theorem dd172_104 : decode cX12_feed 104 = .ok (.iastore, 1) := by decide +kernel
theorem ww172_104 {d : Nat} {l0 l1 l2 l3 l4 l5 l6 l7 : Option mw_V} {x z : Int} {a : Nat} {st : List mw_V} {σ : mw_S} {Q : Option mw_V → mw_S → Prop} : mw_WP d 172 104 [l0, l1, l2, l3, l4, l5, l6, l7] (jI x :: jI z :: jR a :: st) σ Q ↔ ((0 ≤ z ∧ z < mw_lenW 0 a) ∧ mw_WP d 172 105 [l0, l1, l2, l3, l4, l5, l6, l7] st (upS σ a z.toNat x) Q) := WP_iastore mq172 dd172_104
theorem dd172_105 : decode cX12_feed 105 = .ok (.aload_n 0, 1) := by decide +kernel
theorem ww172_105 {d : Nat} {l1 l2 l3 l4 l5 l6 l7 : Option mw_V} {x : Nat} {st : List mw_V} {σ : mw_S} {Q : Option mw_V → mw_S → Prop} : mw_WP d 172 105 [some (jR x), l1, l2, l3, l4, l5, l6, l7] st σ Q ↔ mw_WP d 172 106 [some (jR x), l1, l2, l3, l4, l5, l6, l7] (jR x :: st) σ Q := WP_aload_n mq172 dd172_105 rfl
theorem dd172_106 : decode cX12_feed 106 = .ok (.dup, 1) := by decide +kernel
theorem ww172_106 {d : Nat} {l0 l1 l2 l3 l4 l5 l6 l7 : Option mw_V} {v : mw_V} {st : List mw_V} {σ : mw_S} {Q : Option mw_V → mw_S → Prop} (h : mw_cat v = 1) : mw_WP d 172 106 [l0, l1, l2, l3, l4, l5, l6, l7] (v :: st) σ Q ↔ mw_WP d 172 107 [l0, l1, l2, l3, l4, l5, l6, l7] (v :: v :: st) σ Q := WP_dup mq172 dd172_106 h
theorem dd172_107 : decode cX12_feed 107 = .ok (.getfield 97, 3) := by decide +kernel
theorem ww172_107 {d : Nat} {l0 l1 l2 l3 l4 l5 l6 l7 : Option mw_V} {st : List mw_V} {σ : mw_S} {Q : Option mw_V → mw_S → Prop} : mw_WP d 172 107 [l0, l1, l2, l3, l4, l5, l6, l7] (jR 100 :: st) σ Q ↔ mw_WP d 172 110 [l0, l1, l2, l3, l4, l5, l6, l7] (jI (σ 100 5) :: st) σ Q := WP_getI (ci := 11) (k := 5) mq172 dd172_107 (by decide) (Or.inl rfl)
theorem dd172_110 : decode cX12_feed 110 = .ok (.iconst 1, 1) := by decide +kernel
theorem ww172_110 {d : Nat} {l0 l1 l2 l3 l4 l5 l6 l7 : Option mw_V} {st : List mw_V} {σ : mw_S} {Q : Option mw_V → mw_S → Prop} : mw_WP d 172 110 [l0, l1, l2, l3, l4, l5, l6, l7] st σ Q ↔ mw_WP d 172 111 [l0, l1, l2, l3, l4, l5, l6, l7] (jI (1) :: st) σ Q := WP_iconst mq172 dd172_110 (by decide)
theorem dd172_111 : decode cX12_feed 111 = .ok (.iadd, 1) := by decide +kernel
theorem ww172_111 {d : Nat} {l0 l1 l2 l3 l4 l5 l6 l7 : Option mw_V} {x y : Int} {st : List mw_V} {σ : mw_S} {Q : Option mw_V → mw_S → Prop} : mw_WP d 172 111 [l0, l1, l2, l3, l4, l5, l6, l7] (jI y :: jI x :: st) σ Q ↔ mw_WP d 172 112 [l0, l1, l2, l3, l4, l5, l6, l7] (jI (w32 (x + y)) :: st) σ Q := WP_iadd mq172 dd172_111
theorem dd172_112 : decode cX12_feed 112 = .ok (.putfield 97, 3) := by decide +kernel
theorem ww172_112 {d : Nat} {l0 l1 l2 l3 l4 l5 l6 l7 : Option mw_V} {v : Int} {st : List mw_V} {σ : mw_S} {Q : Option mw_V → mw_S → Prop} : mw_WP d 172 112 [l0, l1, l2, l3, l4, l5, l6, l7] (jI v :: jR 100 :: st) σ Q ↔ mw_WP d 172 115 [l0, l1, l2, l3, l4, l5, l6, l7] st (upS σ 100 5 v) Q := WP_putI (ci := 11) (k := 5) mq172 dd172_112 (by decide) rfl
theorem dd172_115 : decode cX12_feed 115 = .ok (.iinc 6 1, 3) := by decide +kernel
theorem ww172_115 {d : Nat} {l0 l1 l2 l3 l4 l5 l7 : Option mw_V} {x : Int} {st : List mw_V} {σ : mw_S} {Q : Option mw_V → mw_S → Prop} (h : mw_nlo l5 = true) : mw_WP d 172 115 [l0, l1, l2, l3, l4, l5, some (jI x), l7] st σ Q ↔ mw_WP d 172 118 [l0, l1, l2, l3, l4, l5, some (jI (w32 (x + (1)))), l7] st σ Q := WP_iinc mq172 dd172_115 rfl (Nat.le_of_ble_eq_true rfl) (mw_nl_of (i := 5) rfl h) rfl
theorem dd172_118 : decode cX12_feed 118 = .ok (.goto (-94), 3) := by decide +kernel
theorem ww172_118 {d : Nat} {l0 l1 l2 l3 l4 l5 l6 l7 : Option mw_V} {st : List mw_V} {σ : mw_S} {Q : Option mw_V → mw_S → Prop} : mw_WP d 172 118 [l0, l1, l2, l3, l4, l5, l6, l7] st σ Q ↔ mw_WP d 172 24 [l0, l1, l2, l3, l4, l5, l6, l7] st σ Q := WP_goto mq172 dd172_118 (by decide)
theorem dd172_121 : decode cX12_feed 121 = .ok (.aload_n 0, 1) := by decide +kernel
theorem ww172_121 {d : Nat} {l1 l2 l3 l4 l5 l6 l7 : Option mw_V} {x : Nat} {st : List mw_V} {σ : mw_S} {Q : Option mw_V → mw_S → Prop} : mw_WP d 172 121 [some (jR x), l1, l2, l3, l4, l5, l6, l7] st σ Q ↔ mw_WP d 172 122 [some (jR x), l1, l2, l3, l4, l5, l6, l7] (jR x :: st) σ Q := WP_aload_n mq172 dd172_121 rfl
theorem dd172_122 : decode cX12_feed 122 = .ok (.getfield 97, 3) := by decide +kernel
theorem ww172_122 {d : Nat} {l0 l1 l2 l3 l4 l5 l6 l7 : Option mw_V} {st : List mw_V} {σ : mw_S} {Q : Option mw_V → mw_S → Prop} : mw_WP d 172 122 [l0, l1, l2, l3, l4, l5, l6, l7] (jR 100 :: st) σ Q ↔ mw_WP d 172 125 [l0, l1, l2, l3, l4, l5, l6, l7] (jI (σ 100 5) :: st) σ Q := WP_getI (ci := 11) (k := 5) mq172 dd172_122 (by decide) (Or.inl rfl)
theorem dd172_125 : decode cX12_feed 125 = .ok (.ireturn, 1) := by decide +kernel
theorem ww172_125 {d : Nat} {l0 l1 l2 l3 l4 l5 l6 l7 : Option mw_V} {z : Int} {σ : mw_S} {Q : Option mw_V → mw_S → Prop} : mw_WP d 172 125 [l0, l1, l2, l3, l4, l5, l6, l7] [jI z] σ Q ↔ Q (some (jI z)) σ := WP_ireturn (ty := .int) mq172 dd172_125 rfl rfl
theorem ee173 {d : Nat} {a : Nat} {z0 : Int} {σ : mw_S} {Q : Option mw_V → mw_S → Prop} : mw_Call (d + 1) 173 [jR a, jI z0] σ Q ↔ mw_WP d 173 0 [some (jR a), some (jI z0)] [] σ Q := CL_u mq173 (Nat.le_of_ble_eq_true rfl) rfl
theorem dd173_0 : decode cX12_see 0 = .ok (.iload_n 1, 1) := by decide +kernel
theorem ww173_0 {d : Nat} {l0 : Option mw_V} {x : Int} {st : List mw_V} {σ : mw_S} {Q : Option mw_V → mw_S → Prop} : mw_WP d 173 0 [l0, some (jI x)] st σ Q ↔ mw_WP d 173 1 [l0, some (jI x)] (jI x :: st) σ Q := WP_iload_n mq173 dd173_0 rfl
theorem dd173_1 : decode cX12_see 1 = .ok (.aload_n 0, 1) := by decide +kernel
theorem ww173_1 {d : Nat} {l1 : Option mw_V} {x : Nat} {st : List mw_V} {σ : mw_S} {Q : Option mw_V → mw_S → Prop} : mw_WP d 173 1 [some (jR x), l1] st σ Q ↔ mw_WP d 173 2 [some (jR x), l1] (jR x :: st) σ Q := WP_aload_n mq173 dd173_1 rfl
theorem dd173_2 : decode cX12_see 2 = .ok (.getfield 100, 3) := by decide +kernel
theorem ww173_2 {d : Nat} {l0 l1 : Option mw_V} {st : List mw_V} {σ : mw_S} {Q : Option mw_V → mw_S → Prop} : mw_WP d 173 2 [l0, l1] (jR 100 :: st) σ Q ↔ mw_WP d 173 5 [l0, l1] (jI (σ 100 8) :: st) σ Q := WP_getI (ci := 11) (k := 8) mq173 dd173_2 (by decide) (Or.inl rfl)
theorem dd173_5 : decode cX12_see 5 = .ok (.if_icmp .ge 12, 3) := by decide +kernel
theorem ww173_5 {d : Nat} {l0 l1 : Option mw_V} {x y : Int} {st : List mw_V} {σ : mw_S} {Q : Option mw_V → mw_S → Prop} : mw_WP d 173 5 [l0, l1] (jI y :: jI x :: st) σ Q ↔ (if y ≤ x then mw_WP d 173 17 [l0, l1] st σ Q else mw_WP d 173 8 [l0, l1] st σ Q) := WP_icmp_ge mq173 dd173_5 (by decide)
theorem dd173_8 : decode cX12_see 8 = .ok (.aload_n 0, 1) := by decide +kernel
theorem ww173_8 {d : Nat} {l1 : Option mw_V} {x : Nat} {st : List mw_V} {σ : mw_S} {Q : Option mw_V → mw_S → Prop} : mw_WP d 173 8 [some (jR x), l1] st σ Q ↔ mw_WP d 173 9 [some (jR x), l1] (jR x :: st) σ Q := WP_aload_n mq173 dd173_8 rfl
theorem dd173_9 : decode cX12_see 9 = .ok (.getfield 21, 3) := by decide +kernel
theorem ww173_9 {d : Nat} {l0 l1 : Option mw_V} {st : List mw_V} {σ : mw_S} {Q : Option mw_V → mw_S → Prop} : mw_WP d 173 9 [l0, l1] (jR 100 :: st) σ Q ↔ mw_WP d 173 12 [l0, l1] (jR 103 :: st) σ Q := WP_getR (ci := 11) (k := 3) mq173 dd173_9 (by decide) rfl
theorem dd173_12 : decode cX12_see 12 = .ok (.iload_n 1, 1) := by decide +kernel
theorem ww173_12 {d : Nat} {l0 : Option mw_V} {x : Int} {st : List mw_V} {σ : mw_S} {Q : Option mw_V → mw_S → Prop} : mw_WP d 173 12 [l0, some (jI x)] st σ Q ↔ mw_WP d 173 13 [l0, some (jI x)] (jI x :: st) σ Q := WP_iload_n mq173 dd173_12 rfl
theorem dd173_13 : decode cX12_see 13 = .ok (.iaload, 1) := by decide +kernel
theorem ww173_13 {d : Nat} {l0 l1 : Option mw_V} {z : Int} {a : Nat} {st : List mw_V} {σ : mw_S} {Q : Option mw_V → mw_S → Prop} : mw_WP d 173 13 [l0, l1] (jI z :: jR a :: st) σ Q ↔ ((0 ≤ z ∧ z < mw_lenI a) ∧ mw_WP d 173 14 [l0, l1] (jI (mw_rdI σ a z.toNat) :: st) σ Q) := WP_iaload mq173 dd173_13
theorem dd173_14 : decode cX12_see 14 = .ok (.goto 4, 3) := by decide +kernel
theorem ww173_14 {d : Nat} {l0 l1 : Option mw_V} {st : List mw_V} {σ : mw_S} {Q : Option mw_V → mw_S → Prop} : mw_WP d 173 14 [l0, l1] st σ Q ↔ mw_WP d 173 18 [l0, l1] st σ Q := WP_goto mq173 dd173_14 (by decide)
theorem dd173_17 : decode cX12_see 17 = .ok (.iconst (-1), 1) := by decide +kernel
theorem ww173_17 {d : Nat} {l0 l1 : Option mw_V} {st : List mw_V} {σ : mw_S} {Q : Option mw_V → mw_S → Prop} : mw_WP d 173 17 [l0, l1] st σ Q ↔ mw_WP d 173 18 [l0, l1] (jI (-1) :: st) σ Q := WP_iconst mq173 dd173_17 (by decide)
theorem dd173_18 : decode cX12_see 18 = .ok (.ireturn, 1) := by decide +kernel
theorem ww173_18 {d : Nat} {l0 l1 : Option mw_V} {z : Int} {σ : mw_S} {Q : Option mw_V → mw_S → Prop} : mw_WP d 173 18 [l0, l1] [jI z] σ Q ↔ Q (some (jI z)) σ := WP_ireturn (ty := .int) mq173 dd173_18 rfl rfl
theorem ee174 {d : Nat} {z0 : Int} {σ : mw_S} {Q : Option mw_V → mw_S → Prop} : mw_Call (d + 1) 174 [jI z0] σ Q ↔ mw_WP d 174 0 [some (jI z0)] [] σ Q := CL_u mq174 (Nat.le_of_ble_eq_true rfl) rfl
theorem dd174_0 : decode cX12_isSmall 0 = .ok (.iload_n 0, 1) := by decide +kernel
theorem ww174_0 {d : Nat} {x : Int} {st : List mw_V} {σ : mw_S} {Q : Option mw_V → mw_S → Prop} : mw_WP d 174 0 [some (jI x)] st σ Q ↔ mw_WP d 174 1 [some (jI x)] (jI x :: st) σ Q := WP_iload_n mq174 dd174_0 rfl
theorem dd174_1 : decode cX12_isSmall 1 = .ok (.bipush 97, 2) := by decide +kernel
theorem ww174_1 {d : Nat} {l0 : Option mw_V} {st : List mw_V} {σ : mw_S} {Q : Option mw_V → mw_S → Prop} : mw_WP d 174 1 [l0] st σ Q ↔ mw_WP d 174 3 [l0] (jI (97) :: st) σ Q := WP_bipush mq174 dd174_1 (by decide)
theorem dd174_3 : decode cX12_isSmall 3 = .ok (.if_icmp .lt 13, 3) := by decide +kernel
theorem ww174_3 {d : Nat} {l0 : Option mw_V} {x y : Int} {st : List mw_V} {σ : mw_S} {Q : Option mw_V → mw_S → Prop} : mw_WP d 174 3 [l0] (jI y :: jI x :: st) σ Q ↔ (if x < y then mw_WP d 174 16 [l0] st σ Q else mw_WP d 174 6 [l0] st σ Q) := WP_icmp_lt mq174 dd174_3 (by decide)
theorem dd174_6 : decode cX12_isSmall 6 = .ok (.iload_n 0, 1) := by decide +kernel
theorem ww174_6 {d : Nat} {x : Int} {st : List mw_V} {σ : mw_S} {Q : Option mw_V → mw_S → Prop} : mw_WP d 174 6 [some (jI x)] st σ Q ↔ mw_WP d 174 7 [some (jI x)] (jI x :: st) σ Q := WP_iload_n mq174 dd174_6 rfl
theorem dd174_7 : decode cX12_isSmall 7 = .ok (.bipush 122, 2) := by decide +kernel
theorem ww174_7 {d : Nat} {l0 : Option mw_V} {st : List mw_V} {σ : mw_S} {Q : Option mw_V → mw_S → Prop} : mw_WP d 174 7 [l0] st σ Q ↔ mw_WP d 174 9 [l0] (jI (122) :: st) σ Q := WP_bipush mq174 dd174_7 (by decide)
theorem dd174_9 : decode cX12_isSmall 9 = .ok (.if_icmp .gt 7, 3) := by decide +kernel
theorem ww174_9 {d : Nat} {l0 : Option mw_V} {x y : Int} {st : List mw_V} {σ : mw_S} {Q : Option mw_V → mw_S → Prop} : mw_WP d 174 9 [l0] (jI y :: jI x :: st) σ Q ↔ (if y < x then mw_WP d 174 16 [l0] st σ Q else mw_WP d 174 12 [l0] st σ Q) := WP_icmp_gt mq174 dd174_9 (by decide)
theorem dd174_12 : decode cX12_isSmall 12 = .ok (.iconst 1, 1) := by decide +kernel
theorem ww174_12 {d : Nat} {l0 : Option mw_V} {st : List mw_V} {σ : mw_S} {Q : Option mw_V → mw_S → Prop} : mw_WP d 174 12 [l0] st σ Q ↔ mw_WP d 174 13 [l0] (jI (1) :: st) σ Q := WP_iconst mq174 dd174_12 (by decide)
theorem dd174_13 : decode cX12_isSmall 13 = .ok (.goto 4, 3) := by decide +kernel
theorem ww174_13 {d : Nat} {l0 : Option mw_V} {st : List mw_V} {σ : mw_S} {Q : Option mw_V → mw_S → Prop} : mw_WP d 174 13 [l0] st σ Q ↔ mw_WP d 174 17 [l0] st σ Q := WP_goto mq174 dd174_13 (by decide)
theorem dd174_16 : decode cX12_isSmall 16 = .ok (.iconst 0, 1) := by decide +kernel
theorem ww174_16 {d : Nat} {l0 : Option mw_V} {st : List mw_V} {σ : mw_S} {Q : Option mw_V → mw_S → Prop} : mw_WP d 174 16 [l0] st σ Q ↔ mw_WP d 174 17 [l0] (jI (0) :: st) σ Q := WP_iconst mq174 dd174_16 (by decide)
theorem dd174_17 : decode cX12_isSmall 17 = .ok (.ireturn, 1) := by decide +kernel
theorem ww174_17 {d : Nat} {l0 : Option mw_V} {z : Int} {σ : mw_S} {Q : Option mw_V → mw_S → Prop} (h : z = 0 ∨ z = 1) : mw_WP d 174 17 [l0] [jI z] σ Q ↔ Q (some (jI z)) σ := WP_ireturn (ty := .boolean) mq174 dd174_17 rfl (by rcases h with rfl | rfl <;> decide)
theorem ee175 {d : Nat} {z0 : Int} {σ : mw_S} {Q : Option mw_V → mw_S → Prop} : mw_Call (d + 1) 175 [jI z0] σ Q ↔ mw_WP d 175 0 [some (jI z0)] [] σ Q := CL_u mq175 (Nat.le_of_ble_eq_true rfl) rfl
theorem dd175_0 : decode cX12_isDigit 0 = .ok (.iload_n 0, 1) := by decide +kernel
theorem ww175_0 {d : Nat} {x : Int} {st : List mw_V} {σ : mw_S} {Q : Option mw_V → mw_S → Prop} : mw_WP d 175 0 [some (jI x)] st σ Q ↔ mw_WP d 175 1 [some (jI x)] (jI x :: st) σ Q := WP_iload_n mq175 dd175_0 rfl
theorem dd175_1 : decode cX12_isDigit 1 = .ok (.bipush 48, 2) := by decide +kernel
theorem ww175_1 {d : Nat} {l0 : Option mw_V} {st : List mw_V} {σ : mw_S} {Q : Option mw_V → mw_S → Prop} : mw_WP d 175 1 [l0] st σ Q ↔ mw_WP d 175 3 [l0] (jI (48) :: st) σ Q := WP_bipush mq175 dd175_1 (by decide)
theorem dd175_3 : decode cX12_isDigit 3 = .ok (.if_icmp .lt 13, 3) := by decide +kernel
theorem ww175_3 {d : Nat} {l0 : Option mw_V} {x y : Int} {st : List mw_V} {σ : mw_S} {Q : Option mw_V → mw_S → Prop} : mw_WP d 175 3 [l0] (jI y :: jI x :: st) σ Q ↔ (if x < y then mw_WP d 175 16 [l0] st σ Q else mw_WP d 175 6 [l0] st σ Q) := WP_icmp_lt mq175 dd175_3 (by decide)
theorem dd175_6 : decode cX12_isDigit 6 = .ok (.iload_n 0, 1) := by decide +kernel
theorem ww175_6 {d : Nat} {x : Int} {st : List mw_V} {σ : mw_S} {Q : Option mw_V → mw_S → Prop} : mw_WP d 175 6 [some (jI x)] st σ Q ↔ mw_WP d 175 7 [some (jI x)] (jI x :: st) σ Q := WP_iload_n mq175 dd175_6 rfl
theorem dd175_7 : decode cX12_isDigit 7 = .ok (.bipush 57, 2) := by decide +kernel
theorem ww175_7 {d : Nat} {l0 : Option mw_V} {st : List mw_V} {σ : mw_S} {Q : Option mw_V → mw_S → Prop} : mw_WP d 175 7 [l0] st σ Q ↔ mw_WP d 175 9 [l0] (jI (57) :: st) σ Q := WP_bipush mq175 dd175_7 (by decide)
theorem dd175_9 : decode cX12_isDigit 9 = .ok (.if_icmp .gt 7, 3) := by decide +kernel
theorem ww175_9 {d : Nat} {l0 : Option mw_V} {x y : Int} {st : List mw_V} {σ : mw_S} {Q : Option mw_V → mw_S → Prop} : mw_WP d 175 9 [l0] (jI y :: jI x :: st) σ Q ↔ (if y < x then mw_WP d 175 16 [l0] st σ Q else mw_WP d 175 12 [l0] st σ Q) := WP_icmp_gt mq175 dd175_9 (by decide)
theorem dd175_12 : decode cX12_isDigit 12 = .ok (.iconst 1, 1) := by decide +kernel
theorem ww175_12 {d : Nat} {l0 : Option mw_V} {st : List mw_V} {σ : mw_S} {Q : Option mw_V → mw_S → Prop} : mw_WP d 175 12 [l0] st σ Q ↔ mw_WP d 175 13 [l0] (jI (1) :: st) σ Q := WP_iconst mq175 dd175_12 (by decide)
theorem dd175_13 : decode cX12_isDigit 13 = .ok (.goto 4, 3) := by decide +kernel
theorem ww175_13 {d : Nat} {l0 : Option mw_V} {st : List mw_V} {σ : mw_S} {Q : Option mw_V → mw_S → Prop} : mw_WP d 175 13 [l0] st σ Q ↔ mw_WP d 175 17 [l0] st σ Q := WP_goto mq175 dd175_13 (by decide)
theorem dd175_16 : decode cX12_isDigit 16 = .ok (.iconst 0, 1) := by decide +kernel
theorem ww175_16 {d : Nat} {l0 : Option mw_V} {st : List mw_V} {σ : mw_S} {Q : Option mw_V → mw_S → Prop} : mw_WP d 175 16 [l0] st σ Q ↔ mw_WP d 175 17 [l0] (jI (0) :: st) σ Q := WP_iconst mq175 dd175_16 (by decide)
theorem dd175_17 : decode cX12_isDigit 17 = .ok (.ireturn, 1) := by decide +kernel
theorem ww175_17 {d : Nat} {l0 : Option mw_V} {z : Int} {σ : mw_S} {Q : Option mw_V → mw_S → Prop} (h : z = 0 ∨ z = 1) : mw_WP d 175 17 [l0] [jI z] σ Q ↔ Q (some (jI z)) σ := WP_ireturn (ty := .boolean) mq175 dd175_17 rfl (by rcases h with rfl | rfl <;> decide)
theorem ee176 {d : Nat} {a : Nat} {σ : mw_S} {Q : Option mw_V → mw_S → Prop} : mw_Call (d + 1) 176 [jR a] σ Q ↔ mw_WP d 176 0 [some (jR a), none, none, none] [] σ Q := CL_u mq176 (Nat.le_of_ble_eq_true rfl) rfl
theorem dd176_0 : decode cX12_keyAt 0 = .ok (.iconst 0, 1) := by decide +kernel
theorem ww176_0 {d : Nat} {l0 l1 l2 l3 : Option mw_V} {st : List mw_V} {σ : mw_S} {Q : Option mw_V → mw_S → Prop} : mw_WP d 176 0 [l0, l1, l2, l3] st σ Q ↔ mw_WP d 176 1 [l0, l1, l2, l3] (jI (0) :: st) σ Q := WP_iconst mq176 dd176_0 (by decide)
theorem dd176_1 : decode cX12_keyAt 1 = .ok (.istore_n 1, 1) := by decide +kernel
theorem ww176_1 {d : Nat} {l0 l1 l2 l3 : Option mw_V} {x : Int} {st : List mw_V} {σ : mw_S} {Q : Option mw_V → mw_S → Prop} (h : mw_nlo l0 = true) : mw_WP d 176 1 [l0, l1, l2, l3] (jI x :: st) σ Q ↔ mw_WP d 176 2 [l0, some (jI x), l2, l3] st σ Q := WP_istore_n mq176 dd176_1 (Nat.le_of_ble_eq_true rfl) (mw_nl_of (i := 0) rfl h) rfl
theorem dd176_2 : decode cX12_keyAt 2 = .ok (.iconst 1, 1) := by decide +kernel
theorem ww176_2 {d : Nat} {l0 l1 l2 l3 : Option mw_V} {st : List mw_V} {σ : mw_S} {Q : Option mw_V → mw_S → Prop} : mw_WP d 176 2 [l0, l1, l2, l3] st σ Q ↔ mw_WP d 176 3 [l0, l1, l2, l3] (jI (1) :: st) σ Q := WP_iconst mq176 dd176_2 (by decide)
theorem dd176_3 : decode cX12_keyAt 3 = .ok (.istore_n 2, 1) := by decide +kernel
theorem ww176_3 {d : Nat} {l0 l1 l2 l3 : Option mw_V} {x : Int} {st : List mw_V} {σ : mw_S} {Q : Option mw_V → mw_S → Prop} (h : mw_nlo l1 = true) : mw_WP d 176 3 [l0, l1, l2, l3] (jI x :: st) σ Q ↔ mw_WP d 176 4 [l0, l1, some (jI x), l3] st σ Q := WP_istore_n mq176 dd176_3 (Nat.le_of_ble_eq_true rfl) (mw_nl_of (i := 1) rfl h) rfl
theorem dd176_4 : decode cX12_keyAt 4 = .ok (.iload_n 2, 1) := by decide +kernel
theorem ww176_4 {d : Nat} {l0 l1 l3 : Option mw_V} {x : Int} {st : List mw_V} {σ : mw_S} {Q : Option mw_V → mw_S → Prop} : mw_WP d 176 4 [l0, l1, some (jI x), l3] st σ Q ↔ mw_WP d 176 5 [l0, l1, some (jI x), l3] (jI x :: st) σ Q := WP_iload_n mq176 dd176_4 rfl
theorem dd176_5 : decode cX12_keyAt 5 = .ok (.ldc 103, 2) := by decide +kernel
theorem ww176_5 {d : Nat} {l0 l1 l2 l3 : Option mw_V} {st : List mw_V} {σ : mw_S} {Q : Option mw_V → mw_S → Prop} : mw_WP d 176 5 [l0, l1, l2, l3] st σ Q ↔ mw_WP d 176 7 [l0, l1, l2, l3] (jR 1026 :: st) σ Q := WP_ldcS (n := 26) mq176 dd176_5 (by decide) (by decide) rfl
theorem dd176_7 : decode cX12_keyAt 7 = .ok (.invokevirtual 105, 3) := by decide +kernel
theorem ww176_7 {d : Nat} {l0 l1 l2 l3 : Option mw_V} {a : Nat} {st : List mw_V} {σ : mw_S} {Q : Option mw_V → mw_S → Prop} (hr : mw_rc a = 50) (h8 : (st.map mw_cat).sum ≤ 8) : mw_WP d 176 7 [l0, l1, l2, l3] (jR a :: st) σ Q ↔ mw_Call d 284 [jR a] σ (fun r1 s1 => mw_WP d 176 10 [l0, l1, l2, l3] (r1.toList ++ st) s1 Q) := WP_inv (as := []) mq176 dd176_7 (by decide) mq284 rfl hr h8
theorem dd176_10 : decode cX12_keyAt 10 = .ok (.if_icmp .ge 113, 3) := by decide +kernel
theorem ww176_10 {d : Nat} {l0 l1 l2 l3 : Option mw_V} {x y : Int} {st : List mw_V} {σ : mw_S} {Q : Option mw_V → mw_S → Prop} : mw_WP d 176 10 [l0, l1, l2, l3] (jI y :: jI x :: st) σ Q ↔ (if y ≤ x then mw_WP d 176 123 [l0, l1, l2, l3] st σ Q else mw_WP d 176 13 [l0, l1, l2, l3] st σ Q) := WP_icmp_ge mq176 dd176_10 (by decide)
theorem dd176_13 : decode cX12_keyAt 13 = .ok (.iconst 0, 1) := by decide +kernel
theorem ww176_13 {d : Nat} {l0 l1 l2 l3 : Option mw_V} {st : List mw_V} {σ : mw_S} {Q : Option mw_V → mw_S → Prop} : mw_WP d 176 13 [l0, l1, l2, l3] st σ Q ↔ mw_WP d 176 14 [l0, l1, l2, l3] (jI (0) :: st) σ Q := WP_iconst mq176 dd176_13 (by decide)
theorem dd176_14 : decode cX12_keyAt 14 = .ok (.istore_n 3, 1) := by decide +kernel
theorem ww176_14 {d : Nat} {l0 l1 l2 l3 : Option mw_V} {x : Int} {st : List mw_V} {σ : mw_S} {Q : Option mw_V → mw_S → Prop} (h : mw_nlo l2 = true) : mw_WP d 176 14 [l0, l1, l2, l3] (jI x :: st) σ Q ↔ mw_WP d 176 15 [l0, l1, l2, some (jI x)] st σ Q := WP_istore_n mq176 dd176_14 (Nat.le_of_ble_eq_true rfl) (mw_nl_of (i := 2) rfl h) rfl
theorem dd176_15 : decode cX12_keyAt 15 = .ok (.ldc 103, 2) := by decide +kernel
theorem ww176_15 {d : Nat} {l0 l1 l2 l3 : Option mw_V} {st : List mw_V} {σ : mw_S} {Q : Option mw_V → mw_S → Prop} : mw_WP d 176 15 [l0, l1, l2, l3] st σ Q ↔ mw_WP d 176 17 [l0, l1, l2, l3] (jR 1026 :: st) σ Q := WP_ldcS (n := 26) mq176 dd176_15 (by decide) (by decide) rfl
theorem dd176_17 : decode cX12_keyAt 17 = .ok (.iload_n 2, 1) := by decide +kernel
theorem ww176_17 {d : Nat} {l0 l1 l3 : Option mw_V} {x : Int} {st : List mw_V} {σ : mw_S} {Q : Option mw_V → mw_S → Prop} : mw_WP d 176 17 [l0, l1, some (jI x), l3] st σ Q ↔ mw_WP d 176 18 [l0, l1, some (jI x), l3] (jI x :: st) σ Q := WP_iload_n mq176 dd176_17 rfl
theorem dd176_18 : decode cX12_keyAt 18 = .ok (.iload_n 3, 1) := by decide +kernel
theorem ww176_18 {d : Nat} {l0 l1 l2 : Option mw_V} {x : Int} {st : List mw_V} {σ : mw_S} {Q : Option mw_V → mw_S → Prop} : mw_WP d 176 18 [l0, l1, l2, some (jI x)] st σ Q ↔ mw_WP d 176 19 [l0, l1, l2, some (jI x)] (jI x :: st) σ Q := WP_iload_n mq176 dd176_18 rfl
theorem dd176_19 : decode cX12_keyAt 19 = .ok (.iadd, 1) := by decide +kernel
theorem ww176_19 {d : Nat} {l0 l1 l2 l3 : Option mw_V} {x y : Int} {st : List mw_V} {σ : mw_S} {Q : Option mw_V → mw_S → Prop} : mw_WP d 176 19 [l0, l1, l2, l3] (jI y :: jI x :: st) σ Q ↔ mw_WP d 176 20 [l0, l1, l2, l3] (jI (w32 (x + y)) :: st) σ Q := WP_iadd mq176 dd176_19
theorem dd176_20 : decode cX12_keyAt 20 = .ok (.invokevirtual 111, 3) := by decide +kernel
theorem ww176_20 {d : Nat} {l0 l1 l2 l3 : Option mw_V} {v0 : mw_V} {a : Nat} {st : List mw_V} {σ : mw_S} {Q : Option mw_V → mw_S → Prop} (hr : mw_rc a = 50) (h8 : (st.map mw_cat).sum ≤ 8) : mw_WP d 176 20 [l0, l1, l2, l3] (v0 :: jR a :: st) σ Q ↔ mw_Call d 285 [jR a, v0] σ (fun r1 s1 => mw_WP d 176 23 [l0, l1, l2, l3] (r1.toList ++ st) s1 Q) := WP_inv (as := [v0]) mq176 dd176_20 (by decide) mq285 rfl hr h8
theorem dd176_23 : decode cX12_keyAt 23 = .ok (.bipush 32, 2) := by decide +kernel
theorem ww176_23 {d : Nat} {l0 l1 l2 l3 : Option mw_V} {st : List mw_V} {σ : mw_S} {Q : Option mw_V → mw_S → Prop} : mw_WP d 176 23 [l0, l1, l2, l3] st σ Q ↔ mw_WP d 176 25 [l0, l1, l2, l3] (jI (32) :: st) σ Q := WP_bipush mq176 dd176_23 (by decide)
theorem dd176_25 : decode cX12_keyAt 25 = .ok (.if_icmp .eq 44, 3) := by decide +kernel
theorem ww176_25 {d : Nat} {l0 l1 l2 l3 : Option mw_V} {x y : Int} {st : List mw_V} {σ : mw_S} {Q : Option mw_V → mw_S → Prop} : mw_WP d 176 25 [l0, l1, l2, l3] (jI y :: jI x :: st) σ Q ↔ (if x = y then mw_WP d 176 69 [l0, l1, l2, l3] st σ Q else mw_WP d 176 28 [l0, l1, l2, l3] st σ Q) := WP_icmp_eq mq176 dd176_25 (by decide)
theorem dd176_28 : decode cX12_keyAt 28 = .ok (.aload_n 0, 1) := by decide +kernel
theorem ww176_28 {d : Nat} {l1 l2 l3 : Option mw_V} {x : Nat} {st : List mw_V} {σ : mw_S} {Q : Option mw_V → mw_S → Prop} : mw_WP d 176 28 [some (jR x), l1, l2, l3] st σ Q ↔ mw_WP d 176 29 [some (jR x), l1, l2, l3] (jR x :: st) σ Q := WP_aload_n mq176 dd176_28 rfl
theorem dd176_29 : decode cX12_keyAt 29 = .ok (.getfield 115, 3) := by decide +kernel
theorem ww176_29 {d : Nat} {l0 l1 l2 l3 : Option mw_V} {st : List mw_V} {σ : mw_S} {Q : Option mw_V → mw_S → Prop} : mw_WP d 176 29 [l0, l1, l2, l3] (jR 100 :: st) σ Q ↔ mw_WP d 176 32 [l0, l1, l2, l3] (jI (σ 100 6) :: st) σ Q := WP_getI (ci := 11) (k := 6) mq176 dd176_29 (by decide) (Or.inl rfl)
theorem dd176_32 : decode cX12_keyAt 32 = .ok (.iload_n 3, 1) := by decide +kernel
theorem ww176_32 {d : Nat} {l0 l1 l2 : Option mw_V} {x : Int} {st : List mw_V} {σ : mw_S} {Q : Option mw_V → mw_S → Prop} : mw_WP d 176 32 [l0, l1, l2, some (jI x)] st σ Q ↔ mw_WP d 176 33 [l0, l1, l2, some (jI x)] (jI x :: st) σ Q := WP_iload_n mq176 dd176_32 rfl
theorem dd176_33 : decode cX12_keyAt 33 = .ok (.iadd, 1) := by decide +kernel
theorem ww176_33 {d : Nat} {l0 l1 l2 l3 : Option mw_V} {x y : Int} {st : List mw_V} {σ : mw_S} {Q : Option mw_V → mw_S → Prop} : mw_WP d 176 33 [l0, l1, l2, l3] (jI y :: jI x :: st) σ Q ↔ mw_WP d 176 34 [l0, l1, l2, l3] (jI (w32 (x + y)) :: st) σ Q := WP_iadd mq176 dd176_33
theorem dd176_34 : decode cX12_keyAt 34 = .ok (.aload_n 0, 1) := by decide +kernel
theorem ww176_34 {d : Nat} {l1 l2 l3 : Option mw_V} {x : Nat} {st : List mw_V} {σ : mw_S} {Q : Option mw_V → mw_S → Prop} : mw_WP d 176 34 [some (jR x), l1, l2, l3] st σ Q ↔ mw_WP d 176 35 [some (jR x), l1, l2, l3] (jR x :: st) σ Q := WP_aload_n mq176 dd176_34 rfl
theorem dd176_35 : decode cX12_keyAt 35 = .ok (.getfield 118, 3) := by decide +kernel
theorem ww176_35 {d : Nat} {l0 l1 l2 l3 : Option mw_V} {st : List mw_V} {σ : mw_S} {Q : Option mw_V → mw_S → Prop} : mw_WP d 176 35 [l0, l1, l2, l3] (jR 100 :: st) σ Q ↔ mw_WP d 176 38 [l0, l1, l2, l3] (jI (σ 100 7) :: st) σ Q := WP_getI (ci := 11) (k := 7) mq176 dd176_35 (by decide) (Or.inl rfl)
theorem dd176_38 : decode cX12_keyAt 38 = .ok (.if_icmp .ge 31, 3) := by decide +kernel
theorem ww176_38 {d : Nat} {l0 l1 l2 l3 : Option mw_V} {x y : Int} {st : List mw_V} {σ : mw_S} {Q : Option mw_V → mw_S → Prop} : mw_WP d 176 38 [l0, l1, l2, l3] (jI y :: jI x :: st) σ Q ↔ (if y ≤ x then mw_WP d 176 69 [l0, l1, l2, l3] st σ Q else mw_WP d 176 41 [l0, l1, l2, l3] st σ Q) := WP_icmp_ge mq176 dd176_38 (by decide)
theorem dd176_41 : decode cX12_keyAt 41 = .ok (.aload_n 0, 1) := by decide +kernel
theorem ww176_41 {d : Nat} {l1 l2 l3 : Option mw_V} {x : Nat} {st : List mw_V} {σ : mw_S} {Q : Option mw_V → mw_S → Prop} : mw_WP d 176 41 [some (jR x), l1, l2, l3] st σ Q ↔ mw_WP d 176 42 [some (jR x), l1, l2, l3] (jR x :: st) σ Q := WP_aload_n mq176 dd176_41 rfl
theorem dd176_42 : decode cX12_keyAt 42 = .ok (.getfield 21, 3) := by decide +kernel
theorem ww176_42 {d : Nat} {l0 l1 l2 l3 : Option mw_V} {st : List mw_V} {σ : mw_S} {Q : Option mw_V → mw_S → Prop} : mw_WP d 176 42 [l0, l1, l2, l3] (jR 100 :: st) σ Q ↔ mw_WP d 176 45 [l0, l1, l2, l3] (jR 103 :: st) σ Q := WP_getR (ci := 11) (k := 3) mq176 dd176_42 (by decide) rfl
theorem dd176_45 : decode cX12_keyAt 45 = .ok (.aload_n 0, 1) := by decide +kernel
theorem ww176_45 {d : Nat} {l1 l2 l3 : Option mw_V} {x : Nat} {st : List mw_V} {σ : mw_S} {Q : Option mw_V → mw_S → Prop} : mw_WP d 176 45 [some (jR x), l1, l2, l3] st σ Q ↔ mw_WP d 176 46 [some (jR x), l1, l2, l3] (jR x :: st) σ Q := WP_aload_n mq176 dd176_45 rfl
theorem dd176_46 : decode cX12_keyAt 46 = .ok (.getfield 115, 3) := by decide +kernel
theorem ww176_46 {d : Nat} {l0 l1 l2 l3 : Option mw_V} {st : List mw_V} {σ : mw_S} {Q : Option mw_V → mw_S → Prop} : mw_WP d 176 46 [l0, l1, l2, l3] (jR 100 :: st) σ Q ↔ mw_WP d 176 49 [l0, l1, l2, l3] (jI (σ 100 6) :: st) σ Q := WP_getI (ci := 11) (k := 6) mq176 dd176_46 (by decide) (Or.inl rfl)
theorem dd176_49 : decode cX12_keyAt 49 = .ok (.iload_n 3, 1) := by decide +kernel
theorem ww176_49 {d : Nat} {l0 l1 l2 : Option mw_V} {x : Int} {st : List mw_V} {σ : mw_S} {Q : Option mw_V → mw_S → Prop} : mw_WP d 176 49 [l0, l1, l2, some (jI x)] st σ Q ↔ mw_WP d 176 50 [l0, l1, l2, some (jI x)] (jI x :: st) σ Q := WP_iload_n mq176 dd176_49 rfl
theorem dd176_50 : decode cX12_keyAt 50 = .ok (.iadd, 1) := by decide +kernel
theorem ww176_50 {d : Nat} {l0 l1 l2 l3 : Option mw_V} {x y : Int} {st : List mw_V} {σ : mw_S} {Q : Option mw_V → mw_S → Prop} : mw_WP d 176 50 [l0, l1, l2, l3] (jI y :: jI x :: st) σ Q ↔ mw_WP d 176 51 [l0, l1, l2, l3] (jI (w32 (x + y)) :: st) σ Q := WP_iadd mq176 dd176_50
theorem dd176_51 : decode cX12_keyAt 51 = .ok (.iaload, 1) := by decide +kernel
theorem ww176_51 {d : Nat} {l0 l1 l2 l3 : Option mw_V} {z : Int} {a : Nat} {st : List mw_V} {σ : mw_S} {Q : Option mw_V → mw_S → Prop} : mw_WP d 176 51 [l0, l1, l2, l3] (jI z :: jR a :: st) σ Q ↔ ((0 ≤ z ∧ z < mw_lenI a) ∧ mw_WP d 176 52 [l0, l1, l2, l3] (jI (mw_rdI σ a z.toNat) :: st) σ Q) := WP_iaload mq176 dd176_51
theorem dd176_52 : decode cX12_keyAt 52 = .ok (.ldc 103, 2) := by decide +kernel
theorem ww176_52 {d : Nat} {l0 l1 l2 l3 : Option mw_V} {st : List mw_V} {σ : mw_S} {Q : Option mw_V → mw_S → Prop} : mw_WP d 176 52 [l0, l1, l2, l3] st σ Q ↔ mw_WP d 176 54 [l0, l1, l2, l3] (jR 1026 :: st) σ Q := WP_ldcS (n := 26) mq176 dd176_52 (by decide) (by decide) rfl
theorem dd176_54 : decode cX12_keyAt 54 = .ok (.iload_n 2, 1) := by decide +kernel
theorem ww176_54 {d : Nat} {l0 l1 l3 : Option mw_V} {x : Int} {st : List mw_V} {σ : mw_S} {Q : Option mw_V → mw_S → Prop} : mw_WP d 176 54 [l0, l1, some (jI x), l3] st σ Q ↔ mw_WP d 176 55 [l0, l1, some (jI x), l3] (jI x :: st) σ Q := WP_iload_n mq176 dd176_54 rfl
theorem dd176_55 : decode cX12_keyAt 55 = .ok (.iload_n 3, 1) := by decide +kernel
theorem ww176_55 {d : Nat} {l0 l1 l2 : Option mw_V} {x : Int} {st : List mw_V} {σ : mw_S} {Q : Option mw_V → mw_S → Prop} : mw_WP d 176 55 [l0, l1, l2, some (jI x)] st σ Q ↔ mw_WP d 176 56 [l0, l1, l2, some (jI x)] (jI x :: st) σ Q := WP_iload_n mq176 dd176_55 rfl
theorem dd176_56 : decode cX12_keyAt 56 = .ok (.iadd, 1) := by decide +kernel
theorem ww176_56 {d : Nat} {l0 l1 l2 l3 : Option mw_V} {x y : Int} {st : List mw_V} {σ : mw_S} {Q : Option mw_V → mw_S → Prop} : mw_WP d 176 56 [l0, l1, l2, l3] (jI y :: jI x :: st) σ Q ↔ mw_WP d 176 57 [l0, l1, l2, l3] (jI (w32 (x + y)) :: st) σ Q := WP_iadd mq176 dd176_56
theorem dd176_57 : decode cX12_keyAt 57 = .ok (.invokevirtual 111, 3) := by decide +kernel
theorem ww176_57 {d : Nat} {l0 l1 l2 l3 : Option mw_V} {v0 : mw_V} {a : Nat} {st : List mw_V} {σ : mw_S} {Q : Option mw_V → mw_S → Prop} (hr : mw_rc a = 50) (h8 : (st.map mw_cat).sum ≤ 8) : mw_WP d 176 57 [l0, l1, l2, l3] (v0 :: jR a :: st) σ Q ↔ mw_Call d 285 [jR a, v0] σ (fun r1 s1 => mw_WP d 176 60 [l0, l1, l2, l3] (r1.toList ++ st) s1 Q) := WP_inv (as := [v0]) mq176 dd176_57 (by decide) mq285 rfl hr h8
theorem dd176_60 : decode cX12_keyAt 60 = .ok (.if_icmp .ne 9, 3) := by decide +kernel
theorem ww176_60 {d : Nat} {l0 l1 l2 l3 : Option mw_V} {x y : Int} {st : List mw_V} {σ : mw_S} {Q : Option mw_V → mw_S → Prop} : mw_WP d 176 60 [l0, l1, l2, l3] (jI y :: jI x :: st) σ Q ↔ (if ¬ x = y then mw_WP d 176 69 [l0, l1, l2, l3] st σ Q else mw_WP d 176 63 [l0, l1, l2, l3] st σ Q) := WP_icmp_ne mq176 dd176_60 (by decide)
theorem dd176_63 : decode cX12_keyAt 63 = .ok (.iinc 3 1, 3) := by decide +kernel
theorem ww176_63 {d : Nat} {l0 l1 l2 : Option mw_V} {x : Int} {st : List mw_V} {σ : mw_S} {Q : Option mw_V → mw_S → Prop} (h : mw_nlo l2 = true) : mw_WP d 176 63 [l0, l1, l2, some (jI x)] st σ Q ↔ mw_WP d 176 66 [l0, l1, l2, some (jI (w32 (x + (1))))] st σ Q := WP_iinc mq176 dd176_63 rfl (Nat.le_of_ble_eq_true rfl) (mw_nl_of (i := 2) rfl h) rfl
theorem dd176_66 : decode cX12_keyAt 66 = .ok (.goto (-51), 3) := by decide +kernel
theorem ww176_66 {d : Nat} {l0 l1 l2 l3 : Option mw_V} {st : List mw_V} {σ : mw_S} {Q : Option mw_V → mw_S → Prop} : mw_WP d 176 66 [l0, l1, l2, l3] st σ Q ↔ mw_WP d 176 15 [l0, l1, l2, l3] st σ Q := WP_goto mq176 dd176_66 (by decide)
theorem dd176_69 : decode cX12_keyAt 69 = .ok (.ldc 103, 2) := by decide +kernel
theorem ww176_69 {d : Nat} {l0 l1 l2 l3 : Option mw_V} {st : List mw_V} {σ : mw_S} {Q : Option mw_V → mw_S → Prop} : mw_WP d 176 69 [l0, l1, l2, l3] st σ Q ↔ mw_WP d 176 71 [l0, l1, l2, l3] (jR 1026 :: st) σ Q := WP_ldcS (n := 26) mq176 dd176_69 (by decide) (by decide) rfl
theorem dd176_71 : decode cX12_keyAt 71 = .ok (.iload_n 2, 1) := by decide +kernel
theorem ww176_71 {d : Nat} {l0 l1 l3 : Option mw_V} {x : Int} {st : List mw_V} {σ : mw_S} {Q : Option mw_V → mw_S → Prop} : mw_WP d 176 71 [l0, l1, some (jI x), l3] st σ Q ↔ mw_WP d 176 72 [l0, l1, some (jI x), l3] (jI x :: st) σ Q := WP_iload_n mq176 dd176_71 rfl
theorem dd176_72 : decode cX12_keyAt 72 = .ok (.iload_n 3, 1) := by decide +kernel
theorem ww176_72 {d : Nat} {l0 l1 l2 : Option mw_V} {x : Int} {st : List mw_V} {σ : mw_S} {Q : Option mw_V → mw_S → Prop} : mw_WP d 176 72 [l0, l1, l2, some (jI x)] st σ Q ↔ mw_WP d 176 73 [l0, l1, l2, some (jI x)] (jI x :: st) σ Q := WP_iload_n mq176 dd176_72 rfl
theorem dd176_73 : decode cX12_keyAt 73 = .ok (.iadd, 1) := by decide +kernel
theorem ww176_73 {d : Nat} {l0 l1 l2 l3 : Option mw_V} {x y : Int} {st : List mw_V} {σ : mw_S} {Q : Option mw_V → mw_S → Prop} : mw_WP d 176 73 [l0, l1, l2, l3] (jI y :: jI x :: st) σ Q ↔ mw_WP d 176 74 [l0, l1, l2, l3] (jI (w32 (x + y)) :: st) σ Q := WP_iadd mq176 dd176_73
theorem dd176_74 : decode cX12_keyAt 74 = .ok (.invokevirtual 111, 3) := by decide +kernel
theorem ww176_74 {d : Nat} {l0 l1 l2 l3 : Option mw_V} {v0 : mw_V} {a : Nat} {st : List mw_V} {σ : mw_S} {Q : Option mw_V → mw_S → Prop} (hr : mw_rc a = 50) (h8 : (st.map mw_cat).sum ≤ 8) : mw_WP d 176 74 [l0, l1, l2, l3] (v0 :: jR a :: st) σ Q ↔ mw_Call d 285 [jR a, v0] σ (fun r1 s1 => mw_WP d 176 77 [l0, l1, l2, l3] (r1.toList ++ st) s1 Q) := WP_inv (as := [v0]) mq176 dd176_74 (by decide) mq285 rfl hr h8
theorem dd176_77 : decode cX12_keyAt 77 = .ok (.bipush 32, 2) := by decide +kernel
theorem ww176_77 {d : Nat} {l0 l1 l2 l3 : Option mw_V} {st : List mw_V} {σ : mw_S} {Q : Option mw_V → mw_S → Prop} : mw_WP d 176 77 [l0, l1, l2, l3] st σ Q ↔ mw_WP d 176 79 [l0, l1, l2, l3] (jI (32) :: st) σ Q := WP_bipush mq176 dd176_77 (by decide)
theorem dd176_79 : decode cX12_keyAt 79 = .ok (.if_icmp .ne 18, 3) := by decide +kernel
theorem ww176_79 {d : Nat} {l0 l1 l2 l3 : Option mw_V} {x y : Int} {st : List mw_V} {σ : mw_S} {Q : Option mw_V → mw_S → Prop} : mw_WP d 176 79 [l0, l1, l2, l3] (jI y :: jI x :: st) σ Q ↔ (if ¬ x = y then mw_WP d 176 97 [l0, l1, l2, l3] st σ Q else mw_WP d 176 82 [l0, l1, l2, l3] st σ Q) := WP_icmp_ne mq176 dd176_79 (by decide)
theorem dd176_82 : decode cX12_keyAt 82 = .ok (.aload_n 0, 1) := by decide +kernel
theorem ww176_82 {d : Nat} {l1 l2 l3 : Option mw_V} {x : Nat} {st : List mw_V} {σ : mw_S} {Q : Option mw_V → mw_S → Prop} : mw_WP d 176 82 [some (jR x), l1, l2, l3] st σ Q ↔ mw_WP d 176 83 [some (jR x), l1, l2, l3] (jR x :: st) σ Q := WP_aload_n mq176 dd176_82 rfl
theorem dd176_83 : decode cX12_keyAt 83 = .ok (.getfield 115, 3) := by decide +kernel
theorem ww176_83 {d : Nat} {l0 l1 l2 l3 : Option mw_V} {st : List mw_V} {σ : mw_S} {Q : Option mw_V → mw_S → Prop} : mw_WP d 176 83 [l0, l1, l2, l3] (jR 100 :: st) σ Q ↔ mw_WP d 176 86 [l0, l1, l2, l3] (jI (σ 100 6) :: st) σ Q := WP_getI (ci := 11) (k := 6) mq176 dd176_83 (by decide) (Or.inl rfl)
theorem dd176_86 : decode cX12_keyAt 86 = .ok (.iload_n 3, 1) := by decide +kernel
theorem ww176_86 {d : Nat} {l0 l1 l2 : Option mw_V} {x : Int} {st : List mw_V} {σ : mw_S} {Q : Option mw_V → mw_S → Prop} : mw_WP d 176 86 [l0, l1, l2, some (jI x)] st σ Q ↔ mw_WP d 176 87 [l0, l1, l2, some (jI x)] (jI x :: st) σ Q := WP_iload_n mq176 dd176_86 rfl
theorem dd176_87 : decode cX12_keyAt 87 = .ok (.iadd, 1) := by decide +kernel
theorem ww176_87 {d : Nat} {l0 l1 l2 l3 : Option mw_V} {x y : Int} {st : List mw_V} {σ : mw_S} {Q : Option mw_V → mw_S → Prop} : mw_WP d 176 87 [l0, l1, l2, l3] (jI y :: jI x :: st) σ Q ↔ mw_WP d 176 88 [l0, l1, l2, l3] (jI (w32 (x + y)) :: st) σ Q := WP_iadd mq176 dd176_87
theorem dd176_88 : decode cX12_keyAt 88 = .ok (.aload_n 0, 1) := by decide +kernel
theorem ww176_88 {d : Nat} {l1 l2 l3 : Option mw_V} {x : Nat} {st : List mw_V} {σ : mw_S} {Q : Option mw_V → mw_S → Prop} : mw_WP d 176 88 [some (jR x), l1, l2, l3] st σ Q ↔ mw_WP d 176 89 [some (jR x), l1, l2, l3] (jR x :: st) σ Q := WP_aload_n mq176 dd176_88 rfl
theorem dd176_89 : decode cX12_keyAt 89 = .ok (.getfield 118, 3) := by decide +kernel
theorem ww176_89 {d : Nat} {l0 l1 l2 l3 : Option mw_V} {st : List mw_V} {σ : mw_S} {Q : Option mw_V → mw_S → Prop} : mw_WP d 176 89 [l0, l1, l2, l3] (jR 100 :: st) σ Q ↔ mw_WP d 176 92 [l0, l1, l2, l3] (jI (σ 100 7) :: st) σ Q := WP_getI (ci := 11) (k := 7) mq176 dd176_89 (by decide) (Or.inl rfl)
theorem dd176_92 : decode cX12_keyAt 92 = .ok (.if_icmp .ne 5, 3) := by decide +kernel
theorem ww176_92 {d : Nat} {l0 l1 l2 l3 : Option mw_V} {x y : Int} {st : List mw_V} {σ : mw_S} {Q : Option mw_V → mw_S → Prop} : mw_WP d 176 92 [l0, l1, l2, l3] (jI y :: jI x :: st) σ Q ↔ (if ¬ x = y then mw_WP d 176 97 [l0, l1, l2, l3] st σ Q else mw_WP d 176 95 [l0, l1, l2, l3] st σ Q) := WP_icmp_ne mq176 dd176_92 (by decide)
theorem dd176_95 : decode cX12_keyAt 95 = .ok (.iload_n 1, 1) := by decide +kernel
theorem ww176_95 {d : Nat} {l0 l2 l3 : Option mw_V} {x : Int} {st : List mw_V} {σ : mw_S} {Q : Option mw_V → mw_S → Prop} : mw_WP d 176 95 [l0, some (jI x), l2, l3] st σ Q ↔ mw_WP d 176 96 [l0, some (jI x), l2, l3] (jI x :: st) σ Q := WP_iload_n mq176 dd176_95 rfl
theorem dd176_96 : decode cX12_keyAt 96 = .ok (.ireturn, 1) := by decide +kernel
theorem ww176_96 {d : Nat} {l0 l1 l2 l3 : Option mw_V} {z : Int} {σ : mw_S} {Q : Option mw_V → mw_S → Prop} : mw_WP d 176 96 [l0, l1, l2, l3] [jI z] σ Q ↔ Q (some (jI z)) σ := WP_ireturn (ty := .int) mq176 dd176_96 rfl rfl
theorem dd176_97 : decode cX12_keyAt 97 = .ok (.ldc 103, 2) := by decide +kernel
theorem ww176_97 {d : Nat} {l0 l1 l2 l3 : Option mw_V} {st : List mw_V} {σ : mw_S} {Q : Option mw_V → mw_S → Prop} : mw_WP d 176 97 [l0, l1, l2, l3] st σ Q ↔ mw_WP d 176 99 [l0, l1, l2, l3] (jR 1026 :: st) σ Q := WP_ldcS (n := 26) mq176 dd176_97 (by decide) (by decide) rfl
theorem dd176_99 : decode cX12_keyAt 99 = .ok (.iload_n 2, 1) := by decide +kernel
theorem ww176_99 {d : Nat} {l0 l1 l3 : Option mw_V} {x : Int} {st : List mw_V} {σ : mw_S} {Q : Option mw_V → mw_S → Prop} : mw_WP d 176 99 [l0, l1, some (jI x), l3] st σ Q ↔ mw_WP d 176 100 [l0, l1, some (jI x), l3] (jI x :: st) σ Q := WP_iload_n mq176 dd176_99 rfl
theorem dd176_100 : decode cX12_keyAt 100 = .ok (.invokevirtual 111, 3) := by decide +kernel
theorem ww176_100 {d : Nat} {l0 l1 l2 l3 : Option mw_V} {v0 : mw_V} {a : Nat} {st : List mw_V} {σ : mw_S} {Q : Option mw_V → mw_S → Prop} (hr : mw_rc a = 50) (h8 : (st.map mw_cat).sum ≤ 8) : mw_WP d 176 100 [l0, l1, l2, l3] (v0 :: jR a :: st) σ Q ↔ mw_Call d 285 [jR a, v0] σ (fun r1 s1 => mw_WP d 176 103 [l0, l1, l2, l3] (r1.toList ++ st) s1 Q) := WP_inv (as := [v0]) mq176 dd176_100 (by decide) mq285 rfl hr h8
theorem dd176_103 : decode cX12_keyAt 103 = .ok (.bipush 32, 2) := by decide +kernel
theorem ww176_103 {d : Nat} {l0 l1 l2 l3 : Option mw_V} {st : List mw_V} {σ : mw_S} {Q : Option mw_V → mw_S → Prop} : mw_WP d 176 103 [l0, l1, l2, l3] st σ Q ↔ mw_WP d 176 105 [l0, l1, l2, l3] (jI (32) :: st) σ Q := WP_bipush mq176 dd176_103 (by decide)
theorem dd176_105 : decode cX12_keyAt 105 = .ok (.if_icmp .eq 9, 3) := by decide +kernel
theorem ww176_105 {d : Nat} {l0 l1 l2 l3 : Option mw_V} {x y : Int} {st : List mw_V} {σ : mw_S} {Q : Option mw_V → mw_S → Prop} : mw_WP d 176 105 [l0, l1, l2, l3] (jI y :: jI x :: st) σ Q ↔ (if x = y then mw_WP d 176 114 [l0, l1, l2, l3] st σ Q else mw_WP d 176 108 [l0, l1, l2, l3] st σ Q) := WP_icmp_eq mq176 dd176_105 (by decide)
theorem dd176_108 : decode cX12_keyAt 108 = .ok (.iinc 2 1, 3) := by decide +kernel
theorem ww176_108 {d : Nat} {l0 l1 l3 : Option mw_V} {x : Int} {st : List mw_V} {σ : mw_S} {Q : Option mw_V → mw_S → Prop} (h : mw_nlo l1 = true) : mw_WP d 176 108 [l0, l1, some (jI x), l3] st σ Q ↔ mw_WP d 176 111 [l0, l1, some (jI (w32 (x + (1)))), l3] st σ Q := WP_iinc mq176 dd176_108 rfl (Nat.le_of_ble_eq_true rfl) (mw_nl_of (i := 1) rfl h) rfl
theorem dd176_111 : decode cX12_keyAt 111 = .ok (.goto (-14), 3) := by decide +kernel
theorem ww176_111 {d : Nat} {l0 l1 l2 l3 : Option mw_V} {st : List mw_V} {σ : mw_S} {Q : Option mw_V → mw_S → Prop} : mw_WP d 176 111 [l0, l1, l2, l3] st σ Q ↔ mw_WP d 176 97 [l0, l1, l2, l3] st σ Q := WP_goto mq176 dd176_111 (by decide)
theorem dd176_114 : decode cX12_keyAt 114 = .ok (.iinc 2 1, 3) := by decide +kernel
theorem ww176_114 {d : Nat} {l0 l1 l3 : Option mw_V} {x : Int} {st : List mw_V} {σ : mw_S} {Q : Option mw_V → mw_S → Prop} (h : mw_nlo l1 = true) : mw_WP d 176 114 [l0, l1, some (jI x), l3] st σ Q ↔ mw_WP d 176 117 [l0, l1, some (jI (w32 (x + (1)))), l3] st σ Q := WP_iinc mq176 dd176_114 rfl (Nat.le_of_ble_eq_true rfl) (mw_nl_of (i := 1) rfl h) rfl
theorem dd176_117 : decode cX12_keyAt 117 = .ok (.iinc 1 1, 3) := by decide +kernel
theorem ww176_117 {d : Nat} {l0 l2 l3 : Option mw_V} {x : Int} {st : List mw_V} {σ : mw_S} {Q : Option mw_V → mw_S → Prop} (h : mw_nlo l0 = true) : mw_WP d 176 117 [l0, some (jI x), l2, l3] st σ Q ↔ mw_WP d 176 120 [l0, some (jI (w32 (x + (1)))), l2, l3] st σ Q := WP_iinc mq176 dd176_117 rfl (Nat.le_of_ble_eq_true rfl) (mw_nl_of (i := 0) rfl h) rfl
theorem dd176_120 : decode cX12_keyAt 120 = .ok (.goto (-116), 3) := by decide +kernel
theorem ww176_120 {d : Nat} {l0 l1 l2 l3 : Option mw_V} {st : List mw_V} {σ : mw_S} {Q : Option mw_V → mw_S → Prop} : mw_WP d 176 120 [l0, l1, l2, l3] st σ Q ↔ mw_WP d 176 4 [l0, l1, l2, l3] st σ Q := WP_goto mq176 dd176_120 (by decide)
theorem dd176_123 : decode cX12_keyAt 123 = .ok (.bipush 25, 2) := by decide +kernel
theorem ww176_123 {d : Nat} {l0 l1 l2 l3 : Option mw_V} {st : List mw_V} {σ : mw_S} {Q : Option mw_V → mw_S → Prop} : mw_WP d 176 123 [l0, l1, l2, l3] st σ Q ↔ mw_WP d 176 125 [l0, l1, l2, l3] (jI (25) :: st) σ Q := WP_bipush mq176 dd176_123 (by decide)
theorem dd176_125 : decode cX12_keyAt 125 = .ok (.ireturn, 1) := by decide +kernel
theorem ww176_125 {d : Nat} {l0 l1 l2 l3 : Option mw_V} {z : Int} {σ : mw_S} {Q : Option mw_V → mw_S → Prop} : mw_WP d 176 125 [l0, l1, l2, l3] [jI z] σ Q ↔ Q (some (jI z)) σ := WP_ireturn (ty := .int) mq176 dd176_125 rfl rfl
theorem ee177 {d : Nat} {a : Nat} {σ : mw_S} {Q : Option mw_V → mw_S → Prop} : mw_Call (d + 1) 177 [jR a] σ Q ↔ mw_WP d 177 0 [some (jR a), none] [] σ Q := CL_u mq177 (Nat.le_of_ble_eq_true rfl) rfl
theorem dd177_0 : decode cX12_next 0 = .ok (.aload_n 0, 1) := by decide +kernel
theorem ww177_0 {d : Nat} {l1 : Option mw_V} {x : Nat} {st : List mw_V} {σ : mw_S} {Q : Option mw_V → mw_S → Prop} : mw_WP d 177 0 [some (jR x), l1] st σ Q ↔ mw_WP d 177 1 [some (jR x), l1] (jR x :: st) σ Q := WP_aload_n mq177 dd177_0 rfl
theorem dd177_1 : decode cX12_next 1 = .ok (.aload_n 0, 1) := by decide +kernel
theorem ww177_1 {d : Nat} {l1 : Option mw_V} {x : Nat} {st : List mw_V} {σ : mw_S} {Q : Option mw_V → mw_S → Prop} : mw_WP d 177 1 [some (jR x), l1] st σ Q ↔ mw_WP d 177 2 [some (jR x), l1] (jR x :: st) σ Q := WP_aload_n mq177 dd177_1 rfl
theorem dd177_2 : decode cX12_next 2 = .ok (.getfield 118, 3) := by decide +kernel
theorem ww177_2 {d : Nat} {l0 l1 : Option mw_V} {st : List mw_V} {σ : mw_S} {Q : Option mw_V → mw_S → Prop} : mw_WP d 177 2 [l0, l1] (jR 100 :: st) σ Q ↔ mw_WP d 177 5 [l0, l1] (jI (σ 100 7) :: st) σ Q := WP_getI (ci := 11) (k := 7) mq177 dd177_2 (by decide) (Or.inl rfl)
theorem dd177_5 : decode cX12_next 5 = .ok (.putfield 115, 3) := by decide +kernel
theorem ww177_5 {d : Nat} {l0 l1 : Option mw_V} {v : Int} {st : List mw_V} {σ : mw_S} {Q : Option mw_V → mw_S → Prop} : mw_WP d 177 5 [l0, l1] (jI v :: jR 100 :: st) σ Q ↔ mw_WP d 177 8 [l0, l1] st (upS σ 100 6 v) Q := WP_putI (ci := 11) (k := 6) mq177 dd177_5 (by decide) rfl
theorem dd177_8 : decode cX12_next 8 = .ok (.aload_n 0, 1) := by decide +kernel
theorem ww177_8 {d : Nat} {l1 : Option mw_V} {x : Nat} {st : List mw_V} {σ : mw_S} {Q : Option mw_V → mw_S → Prop} : mw_WP d 177 8 [some (jR x), l1] st σ Q ↔ mw_WP d 177 9 [some (jR x), l1] (jR x :: st) σ Q := WP_aload_n mq177 dd177_8 rfl
theorem dd177_9 : decode cX12_next 9 = .ok (.aload_n 0, 1) := by decide +kernel
theorem ww177_9 {d : Nat} {l1 : Option mw_V} {x : Nat} {st : List mw_V} {σ : mw_S} {Q : Option mw_V → mw_S → Prop} : mw_WP d 177 9 [some (jR x), l1] st σ Q ↔ mw_WP d 177 10 [some (jR x), l1] (jR x :: st) σ Q := WP_aload_n mq177 dd177_9 rfl
theorem dd177_10 : decode cX12_next 10 = .ok (.getfield 115, 3) := by decide +kernel
theorem ww177_10 {d : Nat} {l0 l1 : Option mw_V} {st : List mw_V} {σ : mw_S} {Q : Option mw_V → mw_S → Prop} : mw_WP d 177 10 [l0, l1] (jR 100 :: st) σ Q ↔ mw_WP d 177 13 [l0, l1] (jI (σ 100 6) :: st) σ Q := WP_getI (ci := 11) (k := 6) mq177 dd177_10 (by decide) (Or.inl rfl)
theorem dd177_13 : decode cX12_next 13 = .ok (.invokevirtual 121, 3) := by decide +kernel
theorem ww177_13 {d : Nat} {l0 l1 : Option mw_V} {v0 : mw_V} {a : Nat} {st : List mw_V} {σ : mw_S} {Q : Option mw_V → mw_S → Prop} (hr : mw_rc a = 12) (h8 : (st.map mw_cat).sum ≤ 8) : mw_WP d 177 13 [l0, l1] (v0 :: jR a :: st) σ Q ↔ mw_Call d 173 [jR a, v0] σ (fun r1 s1 => mw_WP d 177 16 [l0, l1] (r1.toList ++ st) s1 Q) := WP_inv (as := [v0]) mq177 dd177_13 (by decide) mq173 rfl hr h8
theorem dd177_16 : decode cX12_next 16 = .ok (.bipush 10, 2) := by decide +kernel
theorem ww177_16 {d : Nat} {l0 l1 : Option mw_V} {st : List mw_V} {σ : mw_S} {Q : Option mw_V → mw_S → Prop} : mw_WP d 177 16 [l0, l1] st σ Q ↔ mw_WP d 177 18 [l0, l1] (jI (10) :: st) σ Q := WP_bipush mq177 dd177_16 (by decide)
theorem dd177_18 : decode cX12_next 18 = .ok (.if_icmp .eq 16, 3) := by decide +kernel
theorem ww177_18 {d : Nat} {l0 l1 : Option mw_V} {x y : Int} {st : List mw_V} {σ : mw_S} {Q : Option mw_V → mw_S → Prop} : mw_WP d 177 18 [l0, l1] (jI y :: jI x :: st) σ Q ↔ (if x = y then mw_WP d 177 34 [l0, l1] st σ Q else mw_WP d 177 21 [l0, l1] st σ Q) := WP_icmp_eq mq177 dd177_18 (by decide)
theorem dd177_21 : decode cX12_next 21 = .ok (.aload_n 0, 1) := by decide +kernel
theorem ww177_21 {d : Nat} {l1 : Option mw_V} {x : Nat} {st : List mw_V} {σ : mw_S} {Q : Option mw_V → mw_S → Prop} : mw_WP d 177 21 [some (jR x), l1] st σ Q ↔ mw_WP d 177 22 [some (jR x), l1] (jR x :: st) σ Q := WP_aload_n mq177 dd177_21 rfl
theorem dd177_22 : decode cX12_next 22 = .ok (.aload_n 0, 1) := by decide +kernel
theorem ww177_22 {d : Nat} {l1 : Option mw_V} {x : Nat} {st : List mw_V} {σ : mw_S} {Q : Option mw_V → mw_S → Prop} : mw_WP d 177 22 [some (jR x), l1] st σ Q ↔ mw_WP d 177 23 [some (jR x), l1] (jR x :: st) σ Q := WP_aload_n mq177 dd177_22 rfl
theorem dd177_23 : decode cX12_next 23 = .ok (.getfield 115, 3) := by decide +kernel
theorem ww177_23 {d : Nat} {l0 l1 : Option mw_V} {st : List mw_V} {σ : mw_S} {Q : Option mw_V → mw_S → Prop} : mw_WP d 177 23 [l0, l1] (jR 100 :: st) σ Q ↔ mw_WP d 177 26 [l0, l1] (jI (σ 100 6) :: st) σ Q := WP_getI (ci := 11) (k := 6) mq177 dd177_23 (by decide) (Or.inl rfl)
theorem dd177_26 : decode cX12_next 26 = .ok (.invokevirtual 121, 3) := by decide +kernel
theorem ww177_26 {d : Nat} {l0 l1 : Option mw_V} {v0 : mw_V} {a : Nat} {st : List mw_V} {σ : mw_S} {Q : Option mw_V → mw_S → Prop} (hr : mw_rc a = 12) (h8 : (st.map mw_cat).sum ≤ 8) : mw_WP d 177 26 [l0, l1] (v0 :: jR a :: st) σ Q ↔ mw_Call d 173 [jR a, v0] σ (fun r1 s1 => mw_WP d 177 29 [l0, l1] (r1.toList ++ st) s1 Q) := WP_inv (as := [v0]) mq177 dd177_26 (by decide) mq173 rfl hr h8
theorem dd177_29 : decode cX12_next 29 = .ok (.bipush 32, 2) := by decide +kernel
theorem ww177_29 {d : Nat} {l0 l1 : Option mw_V} {st : List mw_V} {σ : mw_S} {Q : Option mw_V → mw_S → Prop} : mw_WP d 177 29 [l0, l1] st σ Q ↔ mw_WP d 177 31 [l0, l1] (jI (32) :: st) σ Q := WP_bipush mq177 dd177_29 (by decide)
theorem dd177_31 : decode cX12_next 31 = .ok (.if_icmp .ne 16, 3) := by decide +kernel
theorem ww177_31 {d : Nat} {l0 l1 : Option mw_V} {x y : Int} {st : List mw_V} {σ : mw_S} {Q : Option mw_V → mw_S → Prop} : mw_WP d 177 31 [l0, l1] (jI y :: jI x :: st) σ Q ↔ (if ¬ x = y then mw_WP d 177 47 [l0, l1] st σ Q else mw_WP d 177 34 [l0, l1] st σ Q) := WP_icmp_ne mq177 dd177_31 (by decide)
theorem dd177_34 : decode cX12_next 34 = .ok (.aload_n 0, 1) := by decide +kernel
theorem ww177_34 {d : Nat} {l1 : Option mw_V} {x : Nat} {st : List mw_V} {σ : mw_S} {Q : Option mw_V → mw_S → Prop} : mw_WP d 177 34 [some (jR x), l1] st σ Q ↔ mw_WP d 177 35 [some (jR x), l1] (jR x :: st) σ Q := WP_aload_n mq177 dd177_34 rfl
theorem dd177_35 : decode cX12_next 35 = .ok (.dup, 1) := by decide +kernel
theorem ww177_35 {d : Nat} {l0 l1 : Option mw_V} {v : mw_V} {st : List mw_V} {σ : mw_S} {Q : Option mw_V → mw_S → Prop} (h : mw_cat v = 1) : mw_WP d 177 35 [l0, l1] (v :: st) σ Q ↔ mw_WP d 177 36 [l0, l1] (v :: v :: st) σ Q := WP_dup mq177 dd177_35 h
theorem dd177_36 : decode cX12_next 36 = .ok (.getfield 115, 3) := by decide +kernel
theorem ww177_36 {d : Nat} {l0 l1 : Option mw_V} {st : List mw_V} {σ : mw_S} {Q : Option mw_V → mw_S → Prop} : mw_WP d 177 36 [l0, l1] (jR 100 :: st) σ Q ↔ mw_WP d 177 39 [l0, l1] (jI (σ 100 6) :: st) σ Q := WP_getI (ci := 11) (k := 6) mq177 dd177_36 (by decide) (Or.inl rfl)
theorem dd177_39 : decode cX12_next 39 = .ok (.iconst 1, 1) := by decide +kernel
theorem ww177_39 {d : Nat} {l0 l1 : Option mw_V} {st : List mw_V} {σ : mw_S} {Q : Option mw_V → mw_S → Prop} : mw_WP d 177 39 [l0, l1] st σ Q ↔ mw_WP d 177 40 [l0, l1] (jI (1) :: st) σ Q := WP_iconst mq177 dd177_39 (by decide)
theorem dd177_40 : decode cX12_next 40 = .ok (.iadd, 1) := by decide +kernel
theorem ww177_40 {d : Nat} {l0 l1 : Option mw_V} {x y : Int} {st : List mw_V} {σ : mw_S} {Q : Option mw_V → mw_S → Prop} : mw_WP d 177 40 [l0, l1] (jI y :: jI x :: st) σ Q ↔ mw_WP d 177 41 [l0, l1] (jI (w32 (x + y)) :: st) σ Q := WP_iadd mq177 dd177_40
theorem dd177_41 : decode cX12_next 41 = .ok (.putfield 115, 3) := by decide +kernel
theorem ww177_41 {d : Nat} {l0 l1 : Option mw_V} {v : Int} {st : List mw_V} {σ : mw_S} {Q : Option mw_V → mw_S → Prop} : mw_WP d 177 41 [l0, l1] (jI v :: jR 100 :: st) σ Q ↔ mw_WP d 177 44 [l0, l1] st (upS σ 100 6 v) Q := WP_putI (ci := 11) (k := 6) mq177 dd177_41 (by decide) rfl
theorem dd177_44 : decode cX12_next 44 = .ok (.goto (-36), 3) := by decide +kernel
theorem ww177_44 {d : Nat} {l0 l1 : Option mw_V} {st : List mw_V} {σ : mw_S} {Q : Option mw_V → mw_S → Prop} : mw_WP d 177 44 [l0, l1] st σ Q ↔ mw_WP d 177 8 [l0, l1] st σ Q := WP_goto mq177 dd177_44 (by decide)
theorem dd177_47 : decode cX12_next 47 = .ok (.aload_n 0, 1) := by decide +kernel
theorem ww177_47 {d : Nat} {l1 : Option mw_V} {x : Nat} {st : List mw_V} {σ : mw_S} {Q : Option mw_V → mw_S → Prop} : mw_WP d 177 47 [some (jR x), l1] st σ Q ↔ mw_WP d 177 48 [some (jR x), l1] (jR x :: st) σ Q := WP_aload_n mq177 dd177_47 rfl
theorem dd177_48 : decode cX12_next 48 = .ok (.aload_n 0, 1) := by decide +kernel
theorem ww177_48 {d : Nat} {l1 : Option mw_V} {x : Nat} {st : List mw_V} {σ : mw_S} {Q : Option mw_V → mw_S → Prop} : mw_WP d 177 48 [some (jR x), l1] st σ Q ↔ mw_WP d 177 49 [some (jR x), l1] (jR x :: st) σ Q := WP_aload_n mq177 dd177_48 rfl
theorem dd177_49 : decode cX12_next 49 = .ok (.getfield 115, 3) := by decide +kernel
theorem ww177_49 {d : Nat} {l0 l1 : Option mw_V} {st : List mw_V} {σ : mw_S} {Q : Option mw_V → mw_S → Prop} : mw_WP d 177 49 [l0, l1] (jR 100 :: st) σ Q ↔ mw_WP d 177 52 [l0, l1] (jI (σ 100 6) :: st) σ Q := WP_getI (ci := 11) (k := 6) mq177 dd177_49 (by decide) (Or.inl rfl)
theorem dd177_52 : decode cX12_next 52 = .ok (.putfield 118, 3) := by decide +kernel
theorem ww177_52 {d : Nat} {l0 l1 : Option mw_V} {v : Int} {st : List mw_V} {σ : mw_S} {Q : Option mw_V → mw_S → Prop} : mw_WP d 177 52 [l0, l1] (jI v :: jR 100 :: st) σ Q ↔ mw_WP d 177 55 [l0, l1] st (upS σ 100 7 v) Q := WP_putI (ci := 11) (k := 7) mq177 dd177_52 (by decide) rfl
theorem dd177_55 : decode cX12_next 55 = .ok (.aload_n 0, 1) := by decide +kernel
theorem ww177_55 {d : Nat} {l1 : Option mw_V} {x : Nat} {st : List mw_V} {σ : mw_S} {Q : Option mw_V → mw_S → Prop} : mw_WP d 177 55 [some (jR x), l1] st σ Q ↔ mw_WP d 177 56 [some (jR x), l1] (jR x :: st) σ Q := WP_aload_n mq177 dd177_55 rfl
theorem dd177_56 : decode cX12_next 56 = .ok (.getfield 115, 3) := by decide +kernel
theorem ww177_56 {d : Nat} {l0 l1 : Option mw_V} {st : List mw_V} {σ : mw_S} {Q : Option mw_V → mw_S → Prop} : mw_WP d 177 56 [l0, l1] (jR 100 :: st) σ Q ↔ mw_WP d 177 59 [l0, l1] (jI (σ 100 6) :: st) σ Q := WP_getI (ci := 11) (k := 6) mq177 dd177_56 (by decide) (Or.inl rfl)
theorem dd177_59 : decode cX12_next 59 = .ok (.aload_n 0, 1) := by decide +kernel
theorem ww177_59 {d : Nat} {l1 : Option mw_V} {x : Nat} {st : List mw_V} {σ : mw_S} {Q : Option mw_V → mw_S → Prop} : mw_WP d 177 59 [some (jR x), l1] st σ Q ↔ mw_WP d 177 60 [some (jR x), l1] (jR x :: st) σ Q := WP_aload_n mq177 dd177_59 rfl
theorem dd177_60 : decode cX12_next 60 = .ok (.getfield 100, 3) := by decide +kernel
theorem ww177_60 {d : Nat} {l0 l1 : Option mw_V} {st : List mw_V} {σ : mw_S} {Q : Option mw_V → mw_S → Prop} : mw_WP d 177 60 [l0, l1] (jR 100 :: st) σ Q ↔ mw_WP d 177 63 [l0, l1] (jI (σ 100 8) :: st) σ Q := WP_getI (ci := 11) (k := 8) mq177 dd177_60 (by decide) (Or.inl rfl)
theorem dd177_63 : decode cX12_next 63 = .ok (.if_icmp .lt 12, 3) := by decide +kernel
theorem ww177_63 {d : Nat} {l0 l1 : Option mw_V} {x y : Int} {st : List mw_V} {σ : mw_S} {Q : Option mw_V → mw_S → Prop} : mw_WP d 177 63 [l0, l1] (jI y :: jI x :: st) σ Q ↔ (if x < y then mw_WP d 177 75 [l0, l1] st σ Q else mw_WP d 177 66 [l0, l1] st σ Q) := WP_icmp_lt mq177 dd177_63 (by decide)
theorem dd177_66 : decode cX12_next 66 = .ok (.aload_n 0, 1) := by decide +kernel
theorem ww177_66 {d : Nat} {l1 : Option mw_V} {x : Nat} {st : List mw_V} {σ : mw_S} {Q : Option mw_V → mw_S → Prop} : mw_WP d 177 66 [some (jR x), l1] st σ Q ↔ mw_WP d 177 67 [some (jR x), l1] (jR x :: st) σ Q := WP_aload_n mq177 dd177_66 rfl
theorem dd177_67 : decode cX12_next 67 = .ok (.bipush 27, 2) := by decide +kernel
theorem ww177_67 {d : Nat} {l0 l1 : Option mw_V} {st : List mw_V} {σ : mw_S} {Q : Option mw_V → mw_S → Prop} : mw_WP d 177 67 [l0, l1] st σ Q ↔ mw_WP d 177 69 [l0, l1] (jI (27) :: st) σ Q := WP_bipush mq177 dd177_67 (by decide)
theorem dd177_69 : decode cX12_next 69 = .ok (.putfield 125, 3) := by decide +kernel
theorem ww177_69 {d : Nat} {l0 l1 : Option mw_V} {v : Int} {st : List mw_V} {σ : mw_S} {Q : Option mw_V → mw_S → Prop} : mw_WP d 177 69 [l0, l1] (jI v :: jR 100 :: st) σ Q ↔ mw_WP d 177 72 [l0, l1] st (upS σ 100 9 v) Q := WP_putI (ci := 11) (k := 9) mq177 dd177_69 (by decide) rfl
theorem dd177_72 : decode cX12_next 72 = .ok (.goto 222, 3) := by decide +kernel
theorem ww177_72 {d : Nat} {l0 l1 : Option mw_V} {st : List mw_V} {σ : mw_S} {Q : Option mw_V → mw_S → Prop} : mw_WP d 177 72 [l0, l1] st σ Q ↔ mw_WP d 177 294 [l0, l1] st σ Q := WP_goto mq177 dd177_72 (by decide)
theorem dd177_75 : decode cX12_next 75 = .ok (.aload_n 0, 1) := by decide +kernel
theorem ww177_75 {d : Nat} {l1 : Option mw_V} {x : Nat} {st : List mw_V} {σ : mw_S} {Q : Option mw_V → mw_S → Prop} : mw_WP d 177 75 [some (jR x), l1] st σ Q ↔ mw_WP d 177 76 [some (jR x), l1] (jR x :: st) σ Q := WP_aload_n mq177 dd177_75 rfl
theorem dd177_76 : decode cX12_next 76 = .ok (.aload_n 0, 1) := by decide +kernel
theorem ww177_76 {d : Nat} {l1 : Option mw_V} {x : Nat} {st : List mw_V} {σ : mw_S} {Q : Option mw_V → mw_S → Prop} : mw_WP d 177 76 [some (jR x), l1] st σ Q ↔ mw_WP d 177 77 [some (jR x), l1] (jR x :: st) σ Q := WP_aload_n mq177 dd177_76 rfl
theorem dd177_77 : decode cX12_next 77 = .ok (.getfield 115, 3) := by decide +kernel
theorem ww177_77 {d : Nat} {l0 l1 : Option mw_V} {st : List mw_V} {σ : mw_S} {Q : Option mw_V → mw_S → Prop} : mw_WP d 177 77 [l0, l1] (jR 100 :: st) σ Q ↔ mw_WP d 177 80 [l0, l1] (jI (σ 100 6) :: st) σ Q := WP_getI (ci := 11) (k := 6) mq177 dd177_77 (by decide) (Or.inl rfl)
theorem dd177_80 : decode cX12_next 80 = .ok (.invokevirtual 121, 3) := by decide +kernel
theorem ww177_80 {d : Nat} {l0 l1 : Option mw_V} {v0 : mw_V} {a : Nat} {st : List mw_V} {σ : mw_S} {Q : Option mw_V → mw_S → Prop} (hr : mw_rc a = 12) (h8 : (st.map mw_cat).sum ≤ 8) : mw_WP d 177 80 [l0, l1] (v0 :: jR a :: st) σ Q ↔ mw_Call d 173 [jR a, v0] σ (fun r1 s1 => mw_WP d 177 83 [l0, l1] (r1.toList ++ st) s1 Q) := WP_inv (as := [v0]) mq177 dd177_80 (by decide) mq173 rfl hr h8
theorem dd177_83 : decode cX12_next 83 = .ok (.invokestatic 128, 3) := by decide +kernel
theorem ww177_83 {d : Nat} {l0 l1 : Option mw_V} {v0 : mw_V} {st : List mw_V} {σ : mw_S} {Q : Option mw_V → mw_S → Prop} (h8 : (st.map mw_cat).sum ≤ 8) : mw_WP d 177 83 [l0, l1] (v0 :: st) σ Q ↔ mw_Call d 174 [v0] σ (fun r1 s1 => mw_WP d 177 86 [l0, l1] (r1.toList ++ st) s1 Q) := WP_invs (as := [v0]) mq177 dd177_83 (by decide) mq174 rfl rfl h8
theorem dd177_86 : decode cX12_next 86 = .ok (.ifCond .eq 41, 3) := by decide +kernel
theorem ww177_86 {d : Nat} {l0 l1 : Option mw_V} {x : Int} {st : List mw_V} {σ : mw_S} {Q : Option mw_V → mw_S → Prop} : mw_WP d 177 86 [l0, l1] (jI x :: st) σ Q ↔ (if x = 0 then mw_WP d 177 127 [l0, l1] st σ Q else mw_WP d 177 89 [l0, l1] st σ Q) := WP_if_eq mq177 dd177_86 (by decide)
theorem dd177_89 : decode cX12_next 89 = .ok (.aload_n 0, 1) := by decide +kernel
theorem ww177_89 {d : Nat} {l1 : Option mw_V} {x : Nat} {st : List mw_V} {σ : mw_S} {Q : Option mw_V → mw_S → Prop} : mw_WP d 177 89 [some (jR x), l1] st σ Q ↔ mw_WP d 177 90 [some (jR x), l1] (jR x :: st) σ Q := WP_aload_n mq177 dd177_89 rfl
theorem dd177_90 : decode cX12_next 90 = .ok (.aload_n 0, 1) := by decide +kernel
theorem ww177_90 {d : Nat} {l1 : Option mw_V} {x : Nat} {st : List mw_V} {σ : mw_S} {Q : Option mw_V → mw_S → Prop} : mw_WP d 177 90 [some (jR x), l1] st σ Q ↔ mw_WP d 177 91 [some (jR x), l1] (jR x :: st) σ Q := WP_aload_n mq177 dd177_90 rfl
theorem dd177_91 : decode cX12_next 91 = .ok (.getfield 118, 3) := by decide +kernel
theorem ww177_91 {d : Nat} {l0 l1 : Option mw_V} {st : List mw_V} {σ : mw_S} {Q : Option mw_V → mw_S → Prop} : mw_WP d 177 91 [l0, l1] (jR 100 :: st) σ Q ↔ mw_WP d 177 94 [l0, l1] (jI (σ 100 7) :: st) σ Q := WP_getI (ci := 11) (k := 7) mq177 dd177_91 (by decide) (Or.inl rfl)
theorem dd177_94 : decode cX12_next 94 = .ok (.invokevirtual 121, 3) := by decide +kernel
theorem ww177_94 {d : Nat} {l0 l1 : Option mw_V} {v0 : mw_V} {a : Nat} {st : List mw_V} {σ : mw_S} {Q : Option mw_V → mw_S → Prop} (hr : mw_rc a = 12) (h8 : (st.map mw_cat).sum ≤ 8) : mw_WP d 177 94 [l0, l1] (v0 :: jR a :: st) σ Q ↔ mw_Call d 173 [jR a, v0] σ (fun r1 s1 => mw_WP d 177 97 [l0, l1] (r1.toList ++ st) s1 Q) := WP_inv (as := [v0]) mq177 dd177_94 (by decide) mq173 rfl hr h8
theorem dd177_97 : decode cX12_next 97 = .ok (.invokestatic 128, 3) := by decide +kernel
theorem ww177_97 {d : Nat} {l0 l1 : Option mw_V} {v0 : mw_V} {st : List mw_V} {σ : mw_S} {Q : Option mw_V → mw_S → Prop} (h8 : (st.map mw_cat).sum ≤ 8) : mw_WP d 177 97 [l0, l1] (v0 :: st) σ Q ↔ mw_Call d 174 [v0] σ (fun r1 s1 => mw_WP d 177 100 [l0, l1] (r1.toList ++ st) s1 Q) := WP_invs (as := [v0]) mq177 dd177_97 (by decide) mq174 rfl rfl h8
theorem dd177_100 : decode cX12_next 100 = .ok (.ifCond .eq 16, 3) := by decide +kernel
theorem ww177_100 {d : Nat} {l0 l1 : Option mw_V} {x : Int} {st : List mw_V} {σ : mw_S} {Q : Option mw_V → mw_S → Prop} : mw_WP d 177 100 [l0, l1] (jI x :: st) σ Q ↔ (if x = 0 then mw_WP d 177 116 [l0, l1] st σ Q else mw_WP d 177 103 [l0, l1] st σ Q) := WP_if_eq mq177 dd177_100 (by decide)
theorem dd177_103 : decode cX12_next 103 = .ok (.aload_n 0, 1) := by decide +kernel
theorem ww177_103 {d : Nat} {l1 : Option mw_V} {x : Nat} {st : List mw_V} {σ : mw_S} {Q : Option mw_V → mw_S → Prop} : mw_WP d 177 103 [some (jR x), l1] st σ Q ↔ mw_WP d 177 104 [some (jR x), l1] (jR x :: st) σ Q := WP_aload_n mq177 dd177_103 rfl
theorem dd177_104 : decode cX12_next 104 = .ok (.dup, 1) := by decide +kernel
theorem ww177_104 {d : Nat} {l0 l1 : Option mw_V} {v : mw_V} {st : List mw_V} {σ : mw_S} {Q : Option mw_V → mw_S → Prop} (h : mw_cat v = 1) : mw_WP d 177 104 [l0, l1] (v :: st) σ Q ↔ mw_WP d 177 105 [l0, l1] (v :: v :: st) σ Q := WP_dup mq177 dd177_104 h
theorem dd177_105 : decode cX12_next 105 = .ok (.getfield 118, 3) := by decide +kernel
theorem ww177_105 {d : Nat} {l0 l1 : Option mw_V} {st : List mw_V} {σ : mw_S} {Q : Option mw_V → mw_S → Prop} : mw_WP d 177 105 [l0, l1] (jR 100 :: st) σ Q ↔ mw_WP d 177 108 [l0, l1] (jI (σ 100 7) :: st) σ Q := WP_getI (ci := 11) (k := 7) mq177 dd177_105 (by decide) (Or.inl rfl)
theorem dd177_108 : decode cX12_next 108 = .ok (.iconst 1, 1) := by decide +kernel
theorem ww177_108 {d : Nat} {l0 l1 : Option mw_V} {st : List mw_V} {σ : mw_S} {Q : Option mw_V → mw_S → Prop} : mw_WP d 177 108 [l0, l1] st σ Q ↔ mw_WP d 177 109 [l0, l1] (jI (1) :: st) σ Q := WP_iconst mq177 dd177_108 (by decide)
theorem dd177_109 : decode cX12_next 109 = .ok (.iadd, 1) := by decide +kernel
theorem ww177_109 {d : Nat} {l0 l1 : Option mw_V} {x y : Int} {st : List mw_V} {σ : mw_S} {Q : Option mw_V → mw_S → Prop} : mw_WP d 177 109 [l0, l1] (jI y :: jI x :: st) σ Q ↔ mw_WP d 177 110 [l0, l1] (jI (w32 (x + y)) :: st) σ Q := WP_iadd mq177 dd177_109
theorem dd177_110 : decode cX12_next 110 = .ok (.putfield 118, 3) := by decide +kernel
theorem ww177_110 {d : Nat} {l0 l1 : Option mw_V} {v : Int} {st : List mw_V} {σ : mw_S} {Q : Option mw_V → mw_S → Prop} : mw_WP d 177 110 [l0, l1] (jI v :: jR 100 :: st) σ Q ↔ mw_WP d 177 113 [l0, l1] st (upS σ 100 7 v) Q := WP_putI (ci := 11) (k := 7) mq177 dd177_110 (by decide) rfl
theorem dd177_113 : decode cX12_next 113 = .ok (.goto (-24), 3) := by decide +kernel
theorem ww177_113 {d : Nat} {l0 l1 : Option mw_V} {st : List mw_V} {σ : mw_S} {Q : Option mw_V → mw_S → Prop} : mw_WP d 177 113 [l0, l1] st σ Q ↔ mw_WP d 177 89 [l0, l1] st σ Q := WP_goto mq177 dd177_113 (by decide)
theorem dd177_116 : decode cX12_next 116 = .ok (.aload_n 0, 1) := by decide +kernel
theorem ww177_116 {d : Nat} {l1 : Option mw_V} {x : Nat} {st : List mw_V} {σ : mw_S} {Q : Option mw_V → mw_S → Prop} : mw_WP d 177 116 [some (jR x), l1] st σ Q ↔ mw_WP d 177 117 [some (jR x), l1] (jR x :: st) σ Q := WP_aload_n mq177 dd177_116 rfl
theorem dd177_117 : decode cX12_next 117 = .ok (.aload_n 0, 1) := by decide +kernel
theorem ww177_117 {d : Nat} {l1 : Option mw_V} {x : Nat} {st : List mw_V} {σ : mw_S} {Q : Option mw_V → mw_S → Prop} : mw_WP d 177 117 [some (jR x), l1] st σ Q ↔ mw_WP d 177 118 [some (jR x), l1] (jR x :: st) σ Q := WP_aload_n mq177 dd177_117 rfl
theorem dd177_118 : decode cX12_next 118 = .ok (.invokevirtual 132, 3) := by decide +kernel
theorem ww177_118 {d : Nat} {l0 l1 : Option mw_V} {a : Nat} {st : List mw_V} {σ : mw_S} {Q : Option mw_V → mw_S → Prop} (hr : mw_rc a = 12) (h8 : (st.map mw_cat).sum ≤ 8) : mw_WP d 177 118 [l0, l1] (jR a :: st) σ Q ↔ mw_Call d 176 [jR a] σ (fun r1 s1 => mw_WP d 177 121 [l0, l1] (r1.toList ++ st) s1 Q) := WP_inv (as := []) mq177 dd177_118 (by decide) mq176 rfl hr h8
theorem dd177_121 : decode cX12_next 121 = .ok (.putfield 125, 3) := by decide +kernel
theorem ww177_121 {d : Nat} {l0 l1 : Option mw_V} {v : Int} {st : List mw_V} {σ : mw_S} {Q : Option mw_V → mw_S → Prop} : mw_WP d 177 121 [l0, l1] (jI v :: jR 100 :: st) σ Q ↔ mw_WP d 177 124 [l0, l1] st (upS σ 100 9 v) Q := WP_putI (ci := 11) (k := 9) mq177 dd177_121 (by decide) rfl
theorem dd177_124 : decode cX12_next 124 = .ok (.goto 170, 3) := by decide +kernel
theorem ww177_124 {d : Nat} {l0 l1 : Option mw_V} {st : List mw_V} {σ : mw_S} {Q : Option mw_V → mw_S → Prop} : mw_WP d 177 124 [l0, l1] st σ Q ↔ mw_WP d 177 294 [l0, l1] st σ Q := WP_goto mq177 dd177_124 (by decide)
theorem dd177_127 : decode cX12_next 127 = .ok (.aload_n 0, 1) := by decide +kernel
theorem ww177_127 {d : Nat} {l1 : Option mw_V} {x : Nat} {st : List mw_V} {σ : mw_S} {Q : Option mw_V → mw_S → Prop} : mw_WP d 177 127 [some (jR x), l1] st σ Q ↔ mw_WP d 177 128 [some (jR x), l1] (jR x :: st) σ Q := WP_aload_n mq177 dd177_127 rfl
theorem dd177_128 : decode cX12_next 128 = .ok (.aload_n 0, 1) := by decide +kernel
theorem ww177_128 {d : Nat} {l1 : Option mw_V} {x : Nat} {st : List mw_V} {σ : mw_S} {Q : Option mw_V → mw_S → Prop} : mw_WP d 177 128 [some (jR x), l1] st σ Q ↔ mw_WP d 177 129 [some (jR x), l1] (jR x :: st) σ Q := WP_aload_n mq177 dd177_128 rfl
theorem dd177_129 : decode cX12_next 129 = .ok (.getfield 115, 3) := by decide +kernel
theorem ww177_129 {d : Nat} {l0 l1 : Option mw_V} {st : List mw_V} {σ : mw_S} {Q : Option mw_V → mw_S → Prop} : mw_WP d 177 129 [l0, l1] (jR 100 :: st) σ Q ↔ mw_WP d 177 132 [l0, l1] (jI (σ 100 6) :: st) σ Q := WP_getI (ci := 11) (k := 6) mq177 dd177_129 (by decide) (Or.inl rfl)
theorem dd177_132 : decode cX12_next 132 = .ok (.invokevirtual 121, 3) := by decide +kernel
theorem ww177_132 {d : Nat} {l0 l1 : Option mw_V} {v0 : mw_V} {a : Nat} {st : List mw_V} {σ : mw_S} {Q : Option mw_V → mw_S → Prop} (hr : mw_rc a = 12) (h8 : (st.map mw_cat).sum ≤ 8) : mw_WP d 177 132 [l0, l1] (v0 :: jR a :: st) σ Q ↔ mw_Call d 173 [jR a, v0] σ (fun r1 s1 => mw_WP d 177 135 [l0, l1] (r1.toList ++ st) s1 Q) := WP_inv (as := [v0]) mq177 dd177_132 (by decide) mq173 rfl hr h8
theorem dd177_135 : decode cX12_next 135 = .ok (.invokestatic 135, 3) := by decide +kernel
theorem ww177_135 {d : Nat} {l0 l1 : Option mw_V} {v0 : mw_V} {st : List mw_V} {σ : mw_S} {Q : Option mw_V → mw_S → Prop} (h8 : (st.map mw_cat).sum ≤ 8) : mw_WP d 177 135 [l0, l1] (v0 :: st) σ Q ↔ mw_Call d 175 [v0] σ (fun r1 s1 => mw_WP d 177 138 [l0, l1] (r1.toList ++ st) s1 Q) := WP_invs (as := [v0]) mq177 dd177_135 (by decide) mq175 rfl rfl h8
theorem dd177_138 : decode cX12_next 138 = .ok (.ifCond .eq 98, 3) := by decide +kernel
theorem ww177_138 {d : Nat} {l0 l1 : Option mw_V} {x : Int} {st : List mw_V} {σ : mw_S} {Q : Option mw_V → mw_S → Prop} : mw_WP d 177 138 [l0, l1] (jI x :: st) σ Q ↔ (if x = 0 then mw_WP d 177 236 [l0, l1] st σ Q else mw_WP d 177 141 [l0, l1] st σ Q) := WP_if_eq mq177 dd177_138 (by decide)
theorem dd177_141 : decode cX12_next 141 = .ok (.aload_n 0, 1) := by decide +kernel
theorem ww177_141 {d : Nat} {l1 : Option mw_V} {x : Nat} {st : List mw_V} {σ : mw_S} {Q : Option mw_V → mw_S → Prop} : mw_WP d 177 141 [some (jR x), l1] st σ Q ↔ mw_WP d 177 142 [some (jR x), l1] (jR x :: st) σ Q := WP_aload_n mq177 dd177_141 rfl
theorem dd177_142 : decode cX12_next 142 = .ok (.iconst 0, 1) := by decide +kernel
theorem ww177_142 {d : Nat} {l0 l1 : Option mw_V} {st : List mw_V} {σ : mw_S} {Q : Option mw_V → mw_S → Prop} : mw_WP d 177 142 [l0, l1] st σ Q ↔ mw_WP d 177 143 [l0, l1] (jI (0) :: st) σ Q := WP_iconst mq177 dd177_142 (by decide)
theorem dd177_143 : decode cX12_next 143 = .ok (.putfield 138, 3) := by decide +kernel
theorem ww177_143 {d : Nat} {l0 l1 : Option mw_V} {v : Int} {st : List mw_V} {σ : mw_S} {Q : Option mw_V → mw_S → Prop} : mw_WP d 177 143 [l0, l1] (jI v :: jR 100 :: st) σ Q ↔ mw_WP d 177 146 [l0, l1] st (upS σ 100 10 v) Q := WP_putI (ci := 11) (k := 10) mq177 dd177_143 (by decide) rfl
theorem dd177_146 : decode cX12_next 146 = .ok (.aload_n 0, 1) := by decide +kernel
theorem ww177_146 {d : Nat} {l1 : Option mw_V} {x : Nat} {st : List mw_V} {σ : mw_S} {Q : Option mw_V → mw_S → Prop} : mw_WP d 177 146 [some (jR x), l1] st σ Q ↔ mw_WP d 177 147 [some (jR x), l1] (jR x :: st) σ Q := WP_aload_n mq177 dd177_146 rfl
theorem dd177_147 : decode cX12_next 147 = .ok (.aload_n 0, 1) := by decide +kernel
theorem ww177_147 {d : Nat} {l1 : Option mw_V} {x : Nat} {st : List mw_V} {σ : mw_S} {Q : Option mw_V → mw_S → Prop} : mw_WP d 177 147 [some (jR x), l1] st σ Q ↔ mw_WP d 177 148 [some (jR x), l1] (jR x :: st) σ Q := WP_aload_n mq177 dd177_147 rfl
theorem dd177_148 : decode cX12_next 148 = .ok (.getfield 118, 3) := by decide +kernel
theorem ww177_148 {d : Nat} {l0 l1 : Option mw_V} {st : List mw_V} {σ : mw_S} {Q : Option mw_V → mw_S → Prop} : mw_WP d 177 148 [l0, l1] (jR 100 :: st) σ Q ↔ mw_WP d 177 151 [l0, l1] (jI (σ 100 7) :: st) σ Q := WP_getI (ci := 11) (k := 7) mq177 dd177_148 (by decide) (Or.inl rfl)
theorem dd177_151 : decode cX12_next 151 = .ok (.invokevirtual 121, 3) := by decide +kernel
theorem ww177_151 {d : Nat} {l0 l1 : Option mw_V} {v0 : mw_V} {a : Nat} {st : List mw_V} {σ : mw_S} {Q : Option mw_V → mw_S → Prop} (hr : mw_rc a = 12) (h8 : (st.map mw_cat).sum ≤ 8) : mw_WP d 177 151 [l0, l1] (v0 :: jR a :: st) σ Q ↔ mw_Call d 173 [jR a, v0] σ (fun r1 s1 => mw_WP d 177 154 [l0, l1] (r1.toList ++ st) s1 Q) := WP_inv (as := [v0]) mq177 dd177_151 (by decide) mq173 rfl hr h8
theorem dd177_154 : decode cX12_next 154 = .ok (.invokestatic 135, 3) := by decide +kernel
theorem ww177_154 {d : Nat} {l0 l1 : Option mw_V} {v0 : mw_V} {st : List mw_V} {σ : mw_S} {Q : Option mw_V → mw_S → Prop} (h8 : (st.map mw_cat).sum ≤ 8) : mw_WP d 177 154 [l0, l1] (v0 :: st) σ Q ↔ mw_Call d 175 [v0] σ (fun r1 s1 => mw_WP d 177 157 [l0, l1] (r1.toList ++ st) s1 Q) := WP_invs (as := [v0]) mq177 dd177_154 (by decide) mq175 rfl rfl h8
theorem dd177_157 : decode cX12_next 157 = .ok (.ifCond .eq 52, 3) := by decide +kernel
theorem ww177_157 {d : Nat} {l0 l1 : Option mw_V} {x : Int} {st : List mw_V} {σ : mw_S} {Q : Option mw_V → mw_S → Prop} : mw_WP d 177 157 [l0, l1] (jI x :: st) σ Q ↔ (if x = 0 then mw_WP d 177 209 [l0, l1] st σ Q else mw_WP d 177 160 [l0, l1] st σ Q) := WP_if_eq mq177 dd177_157 (by decide)
theorem dd177_160 : decode cX12_next 160 = .ok (.aload_n 0, 1) := by decide +kernel
theorem ww177_160 {d : Nat} {l1 : Option mw_V} {x : Nat} {st : List mw_V} {σ : mw_S} {Q : Option mw_V → mw_S → Prop} : mw_WP d 177 160 [some (jR x), l1] st σ Q ↔ mw_WP d 177 161 [some (jR x), l1] (jR x :: st) σ Q := WP_aload_n mq177 dd177_160 rfl
theorem dd177_161 : decode cX12_next 161 = .ok (.getfield 118, 3) := by decide +kernel
theorem ww177_161 {d : Nat} {l0 l1 : Option mw_V} {st : List mw_V} {σ : mw_S} {Q : Option mw_V → mw_S → Prop} : mw_WP d 177 161 [l0, l1] (jR 100 :: st) σ Q ↔ mw_WP d 177 164 [l0, l1] (jI (σ 100 7) :: st) σ Q := WP_getI (ci := 11) (k := 7) mq177 dd177_161 (by decide) (Or.inl rfl)
theorem dd177_164 : decode cX12_next 164 = .ok (.aload_n 0, 1) := by decide +kernel
theorem ww177_164 {d : Nat} {l1 : Option mw_V} {x : Nat} {st : List mw_V} {σ : mw_S} {Q : Option mw_V → mw_S → Prop} : mw_WP d 177 164 [some (jR x), l1] st σ Q ↔ mw_WP d 177 165 [some (jR x), l1] (jR x :: st) σ Q := WP_aload_n mq177 dd177_164 rfl
theorem dd177_165 : decode cX12_next 165 = .ok (.getfield 115, 3) := by decide +kernel
theorem ww177_165 {d : Nat} {l0 l1 : Option mw_V} {st : List mw_V} {σ : mw_S} {Q : Option mw_V → mw_S → Prop} : mw_WP d 177 165 [l0, l1] (jR 100 :: st) σ Q ↔ mw_WP d 177 168 [l0, l1] (jI (σ 100 6) :: st) σ Q := WP_getI (ci := 11) (k := 6) mq177 dd177_165 (by decide) (Or.inl rfl)
theorem dd177_168 : decode cX12_next 168 = .ok (.isub, 1) := by decide +kernel
theorem ww177_168 {d : Nat} {l0 l1 : Option mw_V} {x y : Int} {st : List mw_V} {σ : mw_S} {Q : Option mw_V → mw_S → Prop} : mw_WP d 177 168 [l0, l1] (jI y :: jI x :: st) σ Q ↔ mw_WP d 177 169 [l0, l1] (jI (w32 (x - y)) :: st) σ Q := WP_isub mq177 dd177_168
theorem dd177_169 : decode cX12_next 169 = .ok (.iconst 3, 1) := by decide +kernel
theorem ww177_169 {d : Nat} {l0 l1 : Option mw_V} {st : List mw_V} {σ : mw_S} {Q : Option mw_V → mw_S → Prop} : mw_WP d 177 169 [l0, l1] st σ Q ↔ mw_WP d 177 170 [l0, l1] (jI (3) :: st) σ Q := WP_iconst mq177 dd177_169 (by decide)
theorem dd177_170 : decode cX12_next 170 = .ok (.if_icmp .ge 26, 3) := by decide +kernel
theorem ww177_170 {d : Nat} {l0 l1 : Option mw_V} {x y : Int} {st : List mw_V} {σ : mw_S} {Q : Option mw_V → mw_S → Prop} : mw_WP d 177 170 [l0, l1] (jI y :: jI x :: st) σ Q ↔ (if y ≤ x then mw_WP d 177 196 [l0, l1] st σ Q else mw_WP d 177 173 [l0, l1] st σ Q) := WP_icmp_ge mq177 dd177_170 (by decide)
theorem dd177_173 : decode cX12_next 173 = .ok (.aload_n 0, 1) := by decide +kernel
theorem ww177_173 {d : Nat} {l1 : Option mw_V} {x : Nat} {st : List mw_V} {σ : mw_S} {Q : Option mw_V → mw_S → Prop} : mw_WP d 177 173 [some (jR x), l1] st σ Q ↔ mw_WP d 177 174 [some (jR x), l1] (jR x :: st) σ Q := WP_aload_n mq177 dd177_173 rfl
theorem dd177_174 : decode cX12_next 174 = .ok (.bipush 10, 2) := by decide +kernel
theorem ww177_174 {d : Nat} {l0 l1 : Option mw_V} {st : List mw_V} {σ : mw_S} {Q : Option mw_V → mw_S → Prop} : mw_WP d 177 174 [l0, l1] st σ Q ↔ mw_WP d 177 176 [l0, l1] (jI (10) :: st) σ Q := WP_bipush mq177 dd177_174 (by decide)
theorem dd177_176 : decode cX12_next 176 = .ok (.aload_n 0, 1) := by decide +kernel
theorem ww177_176 {d : Nat} {l1 : Option mw_V} {x : Nat} {st : List mw_V} {σ : mw_S} {Q : Option mw_V → mw_S → Prop} : mw_WP d 177 176 [some (jR x), l1] st σ Q ↔ mw_WP d 177 177 [some (jR x), l1] (jR x :: st) σ Q := WP_aload_n mq177 dd177_176 rfl
theorem dd177_177 : decode cX12_next 177 = .ok (.getfield 138, 3) := by decide +kernel
theorem ww177_177 {d : Nat} {l0 l1 : Option mw_V} {st : List mw_V} {σ : mw_S} {Q : Option mw_V → mw_S → Prop} : mw_WP d 177 177 [l0, l1] (jR 100 :: st) σ Q ↔ mw_WP d 177 180 [l0, l1] (jI (σ 100 10) :: st) σ Q := WP_getI (ci := 11) (k := 10) mq177 dd177_177 (by decide) (Or.inl rfl)
theorem dd177_180 : decode cX12_next 180 = .ok (.imul, 1) := by decide +kernel
theorem ww177_180 {d : Nat} {l0 l1 : Option mw_V} {x y : Int} {st : List mw_V} {σ : mw_S} {Q : Option mw_V → mw_S → Prop} : mw_WP d 177 180 [l0, l1] (jI y :: jI x :: st) σ Q ↔ mw_WP d 177 181 [l0, l1] (jI (w32 (x * y)) :: st) σ Q := WP_imul mq177 dd177_180
theorem dd177_181 : decode cX12_next 181 = .ok (.aload_n 0, 1) := by decide +kernel
theorem ww177_181 {d : Nat} {l1 : Option mw_V} {x : Nat} {st : List mw_V} {σ : mw_S} {Q : Option mw_V → mw_S → Prop} : mw_WP d 177 181 [some (jR x), l1] st σ Q ↔ mw_WP d 177 182 [some (jR x), l1] (jR x :: st) σ Q := WP_aload_n mq177 dd177_181 rfl
theorem dd177_182 : decode cX12_next 182 = .ok (.aload_n 0, 1) := by decide +kernel
theorem ww177_182 {d : Nat} {l1 : Option mw_V} {x : Nat} {st : List mw_V} {σ : mw_S} {Q : Option mw_V → mw_S → Prop} : mw_WP d 177 182 [some (jR x), l1] st σ Q ↔ mw_WP d 177 183 [some (jR x), l1] (jR x :: st) σ Q := WP_aload_n mq177 dd177_182 rfl
theorem dd177_183 : decode cX12_next 183 = .ok (.getfield 118, 3) := by decide +kernel
theorem ww177_183 {d : Nat} {l0 l1 : Option mw_V} {st : List mw_V} {σ : mw_S} {Q : Option mw_V → mw_S → Prop} : mw_WP d 177 183 [l0, l1] (jR 100 :: st) σ Q ↔ mw_WP d 177 186 [l0, l1] (jI (σ 100 7) :: st) σ Q := WP_getI (ci := 11) (k := 7) mq177 dd177_183 (by decide) (Or.inl rfl)
theorem dd177_186 : decode cX12_next 186 = .ok (.invokevirtual 121, 3) := by decide +kernel
theorem ww177_186 {d : Nat} {l0 l1 : Option mw_V} {v0 : mw_V} {a : Nat} {st : List mw_V} {σ : mw_S} {Q : Option mw_V → mw_S → Prop} (hr : mw_rc a = 12) (h8 : (st.map mw_cat).sum ≤ 8) : mw_WP d 177 186 [l0, l1] (v0 :: jR a :: st) σ Q ↔ mw_Call d 173 [jR a, v0] σ (fun r1 s1 => mw_WP d 177 189 [l0, l1] (r1.toList ++ st) s1 Q) := WP_inv (as := [v0]) mq177 dd177_186 (by decide) mq173 rfl hr h8
theorem dd177_189 : decode cX12_next 189 = .ok (.iadd, 1) := by decide +kernel
theorem ww177_189 {d : Nat} {l0 l1 : Option mw_V} {x y : Int} {st : List mw_V} {σ : mw_S} {Q : Option mw_V → mw_S → Prop} : mw_WP d 177 189 [l0, l1] (jI y :: jI x :: st) σ Q ↔ mw_WP d 177 190 [l0, l1] (jI (w32 (x + y)) :: st) σ Q := WP_iadd mq177 dd177_189
theorem dd177_190 : decode cX12_next 190 = .ok (.bipush 48, 2) := by decide +kernel
theorem ww177_190 {d : Nat} {l0 l1 : Option mw_V} {st : List mw_V} {σ : mw_S} {Q : Option mw_V → mw_S → Prop} : mw_WP d 177 190 [l0, l1] st σ Q ↔ mw_WP d 177 192 [l0, l1] (jI (48) :: st) σ Q := WP_bipush mq177 dd177_190 (by decide)
theorem dd177_192 : decode cX12_next 192 = .ok (.isub, 1) := by decide +kernel
theorem ww177_192 {d : Nat} {l0 l1 : Option mw_V} {x y : Int} {st : List mw_V} {σ : mw_S} {Q : Option mw_V → mw_S → Prop} : mw_WP d 177 192 [l0, l1] (jI y :: jI x :: st) σ Q ↔ mw_WP d 177 193 [l0, l1] (jI (w32 (x - y)) :: st) σ Q := WP_isub mq177 dd177_192
theorem dd177_193 : decode cX12_next 193 = .ok (.putfield 138, 3) := by decide +kernel
theorem ww177_193 {d : Nat} {l0 l1 : Option mw_V} {v : Int} {st : List mw_V} {σ : mw_S} {Q : Option mw_V → mw_S → Prop} : mw_WP d 177 193 [l0, l1] (jI v :: jR 100 :: st) σ Q ↔ mw_WP d 177 196 [l0, l1] st (upS σ 100 10 v) Q := WP_putI (ci := 11) (k := 10) mq177 dd177_193 (by decide) rfl
theorem dd177_196 : decode cX12_next 196 = .ok (.aload_n 0, 1) := by decide +kernel
theorem ww177_196 {d : Nat} {l1 : Option mw_V} {x : Nat} {st : List mw_V} {σ : mw_S} {Q : Option mw_V → mw_S → Prop} : mw_WP d 177 196 [some (jR x), l1] st σ Q ↔ mw_WP d 177 197 [some (jR x), l1] (jR x :: st) σ Q := WP_aload_n mq177 dd177_196 rfl
theorem dd177_197 : decode cX12_next 197 = .ok (.dup, 1) := by decide +kernel
theorem ww177_197 {d : Nat} {l0 l1 : Option mw_V} {v : mw_V} {st : List mw_V} {σ : mw_S} {Q : Option mw_V → mw_S → Prop} (h : mw_cat v = 1) : mw_WP d 177 197 [l0, l1] (v :: st) σ Q ↔ mw_WP d 177 198 [l0, l1] (v :: v :: st) σ Q := WP_dup mq177 dd177_197 h
theorem dd177_198 : decode cX12_next 198 = .ok (.getfield 118, 3) := by decide +kernel
theorem ww177_198 {d : Nat} {l0 l1 : Option mw_V} {st : List mw_V} {σ : mw_S} {Q : Option mw_V → mw_S → Prop} : mw_WP d 177 198 [l0, l1] (jR 100 :: st) σ Q ↔ mw_WP d 177 201 [l0, l1] (jI (σ 100 7) :: st) σ Q := WP_getI (ci := 11) (k := 7) mq177 dd177_198 (by decide) (Or.inl rfl)
theorem dd177_201 : decode cX12_next 201 = .ok (.iconst 1, 1) := by decide +kernel
theorem ww177_201 {d : Nat} {l0 l1 : Option mw_V} {st : List mw_V} {σ : mw_S} {Q : Option mw_V → mw_S → Prop} : mw_WP d 177 201 [l0, l1] st σ Q ↔ mw_WP d 177 202 [l0, l1] (jI (1) :: st) σ Q := WP_iconst mq177 dd177_201 (by decide)
theorem dd177_202 : decode cX12_next 202 = .ok (.iadd, 1) := by decide +kernel
theorem ww177_202 {d : Nat} {l0 l1 : Option mw_V} {x y : Int} {st : List mw_V} {σ : mw_S} {Q : Option mw_V → mw_S → Prop} : mw_WP d 177 202 [l0, l1] (jI y :: jI x :: st) σ Q ↔ mw_WP d 177 203 [l0, l1] (jI (w32 (x + y)) :: st) σ Q := WP_iadd mq177 dd177_202
theorem dd177_203 : decode cX12_next 203 = .ok (.putfield 118, 3) := by decide +kernel
theorem ww177_203 {d : Nat} {l0 l1 : Option mw_V} {v : Int} {st : List mw_V} {σ : mw_S} {Q : Option mw_V → mw_S → Prop} : mw_WP d 177 203 [l0, l1] (jI v :: jR 100 :: st) σ Q ↔ mw_WP d 177 206 [l0, l1] st (upS σ 100 7 v) Q := WP_putI (ci := 11) (k := 7) mq177 dd177_203 (by decide) rfl
theorem dd177_206 : decode cX12_next 206 = .ok (.goto (-60), 3) := by decide +kernel
theorem ww177_206 {d : Nat} {l0 l1 : Option mw_V} {st : List mw_V} {σ : mw_S} {Q : Option mw_V → mw_S → Prop} : mw_WP d 177 206 [l0, l1] st σ Q ↔ mw_WP d 177 146 [l0, l1] st σ Q := WP_goto mq177 dd177_206 (by decide)
theorem dd177_209 : decode cX12_next 209 = .ok (.aload_n 0, 1) := by decide +kernel
theorem ww177_209 {d : Nat} {l1 : Option mw_V} {x : Nat} {st : List mw_V} {σ : mw_S} {Q : Option mw_V → mw_S → Prop} : mw_WP d 177 209 [some (jR x), l1] st σ Q ↔ mw_WP d 177 210 [some (jR x), l1] (jR x :: st) σ Q := WP_aload_n mq177 dd177_209 rfl
theorem dd177_210 : decode cX12_next 210 = .ok (.aload_n 0, 1) := by decide +kernel
theorem ww177_210 {d : Nat} {l1 : Option mw_V} {x : Nat} {st : List mw_V} {σ : mw_S} {Q : Option mw_V → mw_S → Prop} : mw_WP d 177 210 [some (jR x), l1] st σ Q ↔ mw_WP d 177 211 [some (jR x), l1] (jR x :: st) σ Q := WP_aload_n mq177 dd177_210 rfl
theorem dd177_211 : decode cX12_next 211 = .ok (.getfield 118, 3) := by decide +kernel
theorem ww177_211 {d : Nat} {l0 l1 : Option mw_V} {st : List mw_V} {σ : mw_S} {Q : Option mw_V → mw_S → Prop} : mw_WP d 177 211 [l0, l1] (jR 100 :: st) σ Q ↔ mw_WP d 177 214 [l0, l1] (jI (σ 100 7) :: st) σ Q := WP_getI (ci := 11) (k := 7) mq177 dd177_211 (by decide) (Or.inl rfl)
theorem dd177_214 : decode cX12_next 214 = .ok (.aload_n 0, 1) := by decide +kernel
theorem ww177_214 {d : Nat} {l1 : Option mw_V} {x : Nat} {st : List mw_V} {σ : mw_S} {Q : Option mw_V → mw_S → Prop} : mw_WP d 177 214 [some (jR x), l1] st σ Q ↔ mw_WP d 177 215 [some (jR x), l1] (jR x :: st) σ Q := WP_aload_n mq177 dd177_214 rfl
theorem dd177_215 : decode cX12_next 215 = .ok (.getfield 115, 3) := by decide +kernel
theorem ww177_215 {d : Nat} {l0 l1 : Option mw_V} {st : List mw_V} {σ : mw_S} {Q : Option mw_V → mw_S → Prop} : mw_WP d 177 215 [l0, l1] (jR 100 :: st) σ Q ↔ mw_WP d 177 218 [l0, l1] (jI (σ 100 6) :: st) σ Q := WP_getI (ci := 11) (k := 6) mq177 dd177_215 (by decide) (Or.inl rfl)
theorem dd177_218 : decode cX12_next 218 = .ok (.isub, 1) := by decide +kernel
theorem ww177_218 {d : Nat} {l0 l1 : Option mw_V} {x y : Int} {st : List mw_V} {σ : mw_S} {Q : Option mw_V → mw_S → Prop} : mw_WP d 177 218 [l0, l1] (jI y :: jI x :: st) σ Q ↔ mw_WP d 177 219 [l0, l1] (jI (w32 (x - y)) :: st) σ Q := WP_isub mq177 dd177_218
theorem dd177_219 : decode cX12_next 219 = .ok (.iconst 3, 1) := by decide +kernel
theorem ww177_219 {d : Nat} {l0 l1 : Option mw_V} {st : List mw_V} {σ : mw_S} {Q : Option mw_V → mw_S → Prop} : mw_WP d 177 219 [l0, l1] st σ Q ↔ mw_WP d 177 220 [l0, l1] (jI (3) :: st) σ Q := WP_iconst mq177 dd177_219 (by decide)
theorem dd177_220 : decode cX12_next 220 = .ok (.if_icmp .le 8, 3) := by decide +kernel
theorem ww177_220 {d : Nat} {l0 l1 : Option mw_V} {x y : Int} {st : List mw_V} {σ : mw_S} {Q : Option mw_V → mw_S → Prop} : mw_WP d 177 220 [l0, l1] (jI y :: jI x :: st) σ Q ↔ (if x ≤ y then mw_WP d 177 228 [l0, l1] st σ Q else mw_WP d 177 223 [l0, l1] st σ Q) := WP_icmp_le mq177 dd177_220 (by decide)
theorem dd177_223 : decode cX12_next 223 = .ok (.bipush 28, 2) := by decide +kernel
theorem ww177_223 {d : Nat} {l0 l1 : Option mw_V} {st : List mw_V} {σ : mw_S} {Q : Option mw_V → mw_S → Prop} : mw_WP d 177 223 [l0, l1] st σ Q ↔ mw_WP d 177 225 [l0, l1] (jI (28) :: st) σ Q := WP_bipush mq177 dd177_223 (by decide)
theorem dd177_225 : decode cX12_next 225 = .ok (.goto 5, 3) := by decide +kernel
theorem ww177_225 {d : Nat} {l0 l1 : Option mw_V} {st : List mw_V} {σ : mw_S} {Q : Option mw_V → mw_S → Prop} : mw_WP d 177 225 [l0, l1] st σ Q ↔ mw_WP d 177 230 [l0, l1] st σ Q := WP_goto mq177 dd177_225 (by decide)
theorem dd177_228 : decode cX12_next 228 = .ok (.bipush 26, 2) := by decide +kernel
theorem ww177_228 {d : Nat} {l0 l1 : Option mw_V} {st : List mw_V} {σ : mw_S} {Q : Option mw_V → mw_S → Prop} : mw_WP d 177 228 [l0, l1] st σ Q ↔ mw_WP d 177 230 [l0, l1] (jI (26) :: st) σ Q := WP_bipush mq177 dd177_228 (by decide)
theorem dd177_230 : decode cX12_next 230 = .ok (.putfield 125, 3) := by decide +kernel
theorem ww177_230 {d : Nat} {l0 l1 : Option mw_V} {v : Int} {st : List mw_V} {σ : mw_S} {Q : Option mw_V → mw_S → Prop} : mw_WP d 177 230 [l0, l1] (jI v :: jR 100 :: st) σ Q ↔ mw_WP d 177 233 [l0, l1] st (upS σ 100 9 v) Q := WP_putI (ci := 11) (k := 9) mq177 dd177_230 (by decide) rfl
theorem dd177_233 : decode cX12_next 233 = .ok (.goto 61, 3) := by decide +kernel
theorem ww177_233 {d : Nat} {l0 l1 : Option mw_V} {st : List mw_V} {σ : mw_S} {Q : Option mw_V → mw_S → Prop} : mw_WP d 177 233 [l0, l1] st σ Q ↔ mw_WP d 177 294 [l0, l1] st σ Q := WP_goto mq177 dd177_233 (by decide)
theorem dd177_236 : decode cX12_next 236 = .ok (.aload_n 0, 1) := by decide +kernel
theorem ww177_236 {d : Nat} {l1 : Option mw_V} {x : Nat} {st : List mw_V} {σ : mw_S} {Q : Option mw_V → mw_S → Prop} : mw_WP d 177 236 [some (jR x), l1] st σ Q ↔ mw_WP d 177 237 [some (jR x), l1] (jR x :: st) σ Q := WP_aload_n mq177 dd177_236 rfl
theorem dd177_237 : decode cX12_next 237 = .ok (.dup, 1) := by decide +kernel
theorem ww177_237 {d : Nat} {l0 l1 : Option mw_V} {v : mw_V} {st : List mw_V} {σ : mw_S} {Q : Option mw_V → mw_S → Prop} (h : mw_cat v = 1) : mw_WP d 177 237 [l0, l1] (v :: st) σ Q ↔ mw_WP d 177 238 [l0, l1] (v :: v :: st) σ Q := WP_dup mq177 dd177_237 h
theorem dd177_238 : decode cX12_next 238 = .ok (.getfield 118, 3) := by decide +kernel
theorem ww177_238 {d : Nat} {l0 l1 : Option mw_V} {st : List mw_V} {σ : mw_S} {Q : Option mw_V → mw_S → Prop} : mw_WP d 177 238 [l0, l1] (jR 100 :: st) σ Q ↔ mw_WP d 177 241 [l0, l1] (jI (σ 100 7) :: st) σ Q := WP_getI (ci := 11) (k := 7) mq177 dd177_238 (by decide) (Or.inl rfl)
theorem dd177_241 : decode cX12_next 241 = .ok (.iconst 1, 1) := by decide +kernel
theorem ww177_241 {d : Nat} {l0 l1 : Option mw_V} {st : List mw_V} {σ : mw_S} {Q : Option mw_V → mw_S → Prop} : mw_WP d 177 241 [l0, l1] st σ Q ↔ mw_WP d 177 242 [l0, l1] (jI (1) :: st) σ Q := WP_iconst mq177 dd177_241 (by decide)
theorem dd177_242 : decode cX12_next 242 = .ok (.iadd, 1) := by decide +kernel
theorem ww177_242 {d : Nat} {l0 l1 : Option mw_V} {x y : Int} {st : List mw_V} {σ : mw_S} {Q : Option mw_V → mw_S → Prop} : mw_WP d 177 242 [l0, l1] (jI y :: jI x :: st) σ Q ↔ mw_WP d 177 243 [l0, l1] (jI (w32 (x + y)) :: st) σ Q := WP_iadd mq177 dd177_242
theorem dd177_243 : decode cX12_next 243 = .ok (.putfield 118, 3) := by decide +kernel
theorem ww177_243 {d : Nat} {l0 l1 : Option mw_V} {v : Int} {st : List mw_V} {σ : mw_S} {Q : Option mw_V → mw_S → Prop} : mw_WP d 177 243 [l0, l1] (jI v :: jR 100 :: st) σ Q ↔ mw_WP d 177 246 [l0, l1] st (upS σ 100 7 v) Q := WP_putI (ci := 11) (k := 7) mq177 dd177_243 (by decide) rfl
theorem dd177_246 : decode cX12_next 246 = .ok (.aload_n 0, 1) := by decide +kernel
theorem ww177_246 {d : Nat} {l1 : Option mw_V} {x : Nat} {st : List mw_V} {σ : mw_S} {Q : Option mw_V → mw_S → Prop} : mw_WP d 177 246 [some (jR x), l1] st σ Q ↔ mw_WP d 177 247 [some (jR x), l1] (jR x :: st) σ Q := WP_aload_n mq177 dd177_246 rfl
theorem dd177_247 : decode cX12_next 247 = .ok (.bipush 28, 2) := by decide +kernel
theorem ww177_247 {d : Nat} {l0 l1 : Option mw_V} {st : List mw_V} {σ : mw_S} {Q : Option mw_V → mw_S → Prop} : mw_WP d 177 247 [l0, l1] st σ Q ↔ mw_WP d 177 249 [l0, l1] (jI (28) :: st) σ Q := WP_bipush mq177 dd177_247 (by decide)
theorem dd177_249 : decode cX12_next 249 = .ok (.putfield 125, 3) := by decide +kernel
theorem ww177_249 {d : Nat} {l0 l1 : Option mw_V} {v : Int} {st : List mw_V} {σ : mw_S} {Q : Option mw_V → mw_S → Prop} : mw_WP d 177 249 [l0, l1] (jI v :: jR 100 :: st) σ Q ↔ mw_WP d 177 252 [l0, l1] st (upS σ 100 9 v) Q := WP_putI (ci := 11) (k := 9) mq177 dd177_249 (by decide) rfl
theorem dd177_252 : decode cX12_next 252 = .ok (.iconst 0, 1) := by decide +kernel
theorem ww177_252 {d : Nat} {l0 l1 : Option mw_V} {st : List mw_V} {σ : mw_S} {Q : Option mw_V → mw_S → Prop} : mw_WP d 177 252 [l0, l1] st σ Q ↔ mw_WP d 177 253 [l0, l1] (jI (0) :: st) σ Q := WP_iconst mq177 dd177_252 (by decide)
theorem dd177_253 : decode cX12_next 253 = .ok (.istore_n 1, 1) := by decide +kernel
theorem ww177_253 {d : Nat} {l0 l1 : Option mw_V} {x : Int} {st : List mw_V} {σ : mw_S} {Q : Option mw_V → mw_S → Prop} (h : mw_nlo l0 = true) : mw_WP d 177 253 [l0, l1] (jI x :: st) σ Q ↔ mw_WP d 177 254 [l0, some (jI x)] st σ Q := WP_istore_n mq177 dd177_253 (Nat.le_of_ble_eq_true rfl) (mw_nl_of (i := 0) rfl h) rfl
theorem dd177_254 : decode cX12_next 254 = .ok (.iload_n 1, 1) := by decide +kernel
theorem ww177_254 {d : Nat} {l0 : Option mw_V} {x : Int} {st : List mw_V} {σ : mw_S} {Q : Option mw_V → mw_S → Prop} : mw_WP d 177 254 [l0, some (jI x)] st σ Q ↔ mw_WP d 177 255 [l0, some (jI x)] (jI x :: st) σ Q := WP_iload_n mq177 dd177_254 rfl
theorem dd177_255 : decode cX12_next 255 = .ok (.ldc 141, 2) := by decide +kernel
theorem ww177_255 {d : Nat} {l0 l1 : Option mw_V} {st : List mw_V} {σ : mw_S} {Q : Option mw_V → mw_S → Prop} : mw_WP d 177 255 [l0, l1] st σ Q ↔ mw_WP d 177 257 [l0, l1] (jR 1027 :: st) σ Q := WP_ldcS (n := 27) mq177 dd177_255 (by decide) (by decide) rfl
theorem dd177_257 : decode cX12_next 257 = .ok (.invokevirtual 105, 3) := by decide +kernel
theorem ww177_257 {d : Nat} {l0 l1 : Option mw_V} {a : Nat} {st : List mw_V} {σ : mw_S} {Q : Option mw_V → mw_S → Prop} (hr : mw_rc a = 50) (h8 : (st.map mw_cat).sum ≤ 8) : mw_WP d 177 257 [l0, l1] (jR a :: st) σ Q ↔ mw_Call d 284 [jR a] σ (fun r1 s1 => mw_WP d 177 260 [l0, l1] (r1.toList ++ st) s1 Q) := WP_inv (as := []) mq177 dd177_257 (by decide) mq284 rfl hr h8
theorem dd177_260 : decode cX12_next 260 = .ok (.if_icmp .ge 34, 3) := by decide +kernel
theorem ww177_260 {d : Nat} {l0 l1 : Option mw_V} {x y : Int} {st : List mw_V} {σ : mw_S} {Q : Option mw_V → mw_S → Prop} : mw_WP d 177 260 [l0, l1] (jI y :: jI x :: st) σ Q ↔ (if y ≤ x then mw_WP d 177 294 [l0, l1] st σ Q else mw_WP d 177 263 [l0, l1] st σ Q) := WP_icmp_ge mq177 dd177_260 (by decide)
theorem dd177_263 : decode cX12_next 263 = .ok (.aload_n 0, 1) := by decide +kernel
theorem ww177_263 {d : Nat} {l1 : Option mw_V} {x : Nat} {st : List mw_V} {σ : mw_S} {Q : Option mw_V → mw_S → Prop} : mw_WP d 177 263 [some (jR x), l1] st σ Q ↔ mw_WP d 177 264 [some (jR x), l1] (jR x :: st) σ Q := WP_aload_n mq177 dd177_263 rfl
theorem dd177_264 : decode cX12_next 264 = .ok (.aload_n 0, 1) := by decide +kernel
theorem ww177_264 {d : Nat} {l1 : Option mw_V} {x : Nat} {st : List mw_V} {σ : mw_S} {Q : Option mw_V → mw_S → Prop} : mw_WP d 177 264 [some (jR x), l1] st σ Q ↔ mw_WP d 177 265 [some (jR x), l1] (jR x :: st) σ Q := WP_aload_n mq177 dd177_264 rfl
theorem dd177_265 : decode cX12_next 265 = .ok (.getfield 115, 3) := by decide +kernel
theorem ww177_265 {d : Nat} {l0 l1 : Option mw_V} {st : List mw_V} {σ : mw_S} {Q : Option mw_V → mw_S → Prop} : mw_WP d 177 265 [l0, l1] (jR 100 :: st) σ Q ↔ mw_WP d 177 268 [l0, l1] (jI (σ 100 6) :: st) σ Q := WP_getI (ci := 11) (k := 6) mq177 dd177_265 (by decide) (Or.inl rfl)
theorem dd177_268 : decode cX12_next 268 = .ok (.invokevirtual 121, 3) := by decide +kernel
theorem ww177_268 {d : Nat} {l0 l1 : Option mw_V} {v0 : mw_V} {a : Nat} {st : List mw_V} {σ : mw_S} {Q : Option mw_V → mw_S → Prop} (hr : mw_rc a = 12) (h8 : (st.map mw_cat).sum ≤ 8) : mw_WP d 177 268 [l0, l1] (v0 :: jR a :: st) σ Q ↔ mw_Call d 173 [jR a, v0] σ (fun r1 s1 => mw_WP d 177 271 [l0, l1] (r1.toList ++ st) s1 Q) := WP_inv (as := [v0]) mq177 dd177_268 (by decide) mq173 rfl hr h8
theorem dd177_271 : decode cX12_next 271 = .ok (.ldc 141, 2) := by decide +kernel
theorem ww177_271 {d : Nat} {l0 l1 : Option mw_V} {st : List mw_V} {σ : mw_S} {Q : Option mw_V → mw_S → Prop} : mw_WP d 177 271 [l0, l1] st σ Q ↔ mw_WP d 177 273 [l0, l1] (jR 1027 :: st) σ Q := WP_ldcS (n := 27) mq177 dd177_271 (by decide) (by decide) rfl
theorem dd177_273 : decode cX12_next 273 = .ok (.iload_n 1, 1) := by decide +kernel
theorem ww177_273 {d : Nat} {l0 : Option mw_V} {x : Int} {st : List mw_V} {σ : mw_S} {Q : Option mw_V → mw_S → Prop} : mw_WP d 177 273 [l0, some (jI x)] st σ Q ↔ mw_WP d 177 274 [l0, some (jI x)] (jI x :: st) σ Q := WP_iload_n mq177 dd177_273 rfl
theorem dd177_274 : decode cX12_next 274 = .ok (.invokevirtual 111, 3) := by decide +kernel
theorem ww177_274 {d : Nat} {l0 l1 : Option mw_V} {v0 : mw_V} {a : Nat} {st : List mw_V} {σ : mw_S} {Q : Option mw_V → mw_S → Prop} (hr : mw_rc a = 50) (h8 : (st.map mw_cat).sum ≤ 8) : mw_WP d 177 274 [l0, l1] (v0 :: jR a :: st) σ Q ↔ mw_Call d 285 [jR a, v0] σ (fun r1 s1 => mw_WP d 177 277 [l0, l1] (r1.toList ++ st) s1 Q) := WP_inv (as := [v0]) mq177 dd177_274 (by decide) mq285 rfl hr h8
theorem dd177_277 : decode cX12_next 277 = .ok (.if_icmp .ne 11, 3) := by decide +kernel
theorem ww177_277 {d : Nat} {l0 l1 : Option mw_V} {x y : Int} {st : List mw_V} {σ : mw_S} {Q : Option mw_V → mw_S → Prop} : mw_WP d 177 277 [l0, l1] (jI y :: jI x :: st) σ Q ↔ (if ¬ x = y then mw_WP d 177 288 [l0, l1] st σ Q else mw_WP d 177 280 [l0, l1] st σ Q) := WP_icmp_ne mq177 dd177_277 (by decide)
theorem dd177_280 : decode cX12_next 280 = .ok (.aload_n 0, 1) := by decide +kernel
theorem ww177_280 {d : Nat} {l1 : Option mw_V} {x : Nat} {st : List mw_V} {σ : mw_S} {Q : Option mw_V → mw_S → Prop} : mw_WP d 177 280 [some (jR x), l1] st σ Q ↔ mw_WP d 177 281 [some (jR x), l1] (jR x :: st) σ Q := WP_aload_n mq177 dd177_280 rfl
theorem dd177_281 : decode cX12_next 281 = .ok (.bipush 30, 2) := by decide +kernel
theorem ww177_281 {d : Nat} {l0 l1 : Option mw_V} {st : List mw_V} {σ : mw_S} {Q : Option mw_V → mw_S → Prop} : mw_WP d 177 281 [l0, l1] st σ Q ↔ mw_WP d 177 283 [l0, l1] (jI (30) :: st) σ Q := WP_bipush mq177 dd177_281 (by decide)
theorem dd177_283 : decode cX12_next 283 = .ok (.iload_n 1, 1) := by decide +kernel
theorem ww177_283 {d : Nat} {l0 : Option mw_V} {x : Int} {st : List mw_V} {σ : mw_S} {Q : Option mw_V → mw_S → Prop} : mw_WP d 177 283 [l0, some (jI x)] st σ Q ↔ mw_WP d 177 284 [l0, some (jI x)] (jI x :: st) σ Q := WP_iload_n mq177 dd177_283 rfl
theorem dd177_284 : decode cX12_next 284 = .ok (.iadd, 1) := by decide +kernel
theorem ww177_284 {d : Nat} {l0 l1 : Option mw_V} {x y : Int} {st : List mw_V} {σ : mw_S} {Q : Option mw_V → mw_S → Prop} : mw_WP d 177 284 [l0, l1] (jI y :: jI x :: st) σ Q ↔ mw_WP d 177 285 [l0, l1] (jI (w32 (x + y)) :: st) σ Q := WP_iadd mq177 dd177_284
theorem dd177_285 : decode cX12_next 285 = .ok (.putfield 125, 3) := by decide +kernel
theorem ww177_285 {d : Nat} {l0 l1 : Option mw_V} {v : Int} {st : List mw_V} {σ : mw_S} {Q : Option mw_V → mw_S → Prop} : mw_WP d 177 285 [l0, l1] (jI v :: jR 100 :: st) σ Q ↔ mw_WP d 177 288 [l0, l1] st (upS σ 100 9 v) Q := WP_putI (ci := 11) (k := 9) mq177 dd177_285 (by decide) rfl
theorem dd177_288 : decode cX12_next 288 = .ok (.iinc 1 1, 3) := by decide +kernel
theorem ww177_288 {d : Nat} {l0 : Option mw_V} {x : Int} {st : List mw_V} {σ : mw_S} {Q : Option mw_V → mw_S → Prop} (h : mw_nlo l0 = true) : mw_WP d 177 288 [l0, some (jI x)] st σ Q ↔ mw_WP d 177 291 [l0, some (jI (w32 (x + (1))))] st σ Q := WP_iinc mq177 dd177_288 rfl (Nat.le_of_ble_eq_true rfl) (mw_nl_of (i := 0) rfl h) rfl
theorem dd177_291 : decode cX12_next 291 = .ok (.goto (-37), 3) := by decide +kernel
theorem ww177_291 {d : Nat} {l0 l1 : Option mw_V} {st : List mw_V} {σ : mw_S} {Q : Option mw_V → mw_S → Prop} : mw_WP d 177 291 [l0, l1] st σ Q ↔ mw_WP d 177 254 [l0, l1] st σ Q := WP_goto mq177 dd177_291 (by decide)
theorem dd177_294 : decode cX12_next 294 = .ok (.return_, 1) := by decide +kernel
theorem ww177_294 {d : Nat} {l0 l1 : Option mw_V} {σ : mw_S} {Q : Option mw_V → mw_S → Prop} : mw_WP d 177 294 [l0, l1] [] σ Q ↔ Q none σ := WP_return mq177 dd177_294 rfl
theorem ee178 {d : Nat} {a : Nat} {z0 : Int} {σ : mw_S} {Q : Option mw_V → mw_S → Prop} : mw_Call (d + 1) 178 [jR a, jI z0] σ Q ↔ mw_WP d 178 0 [some (jR a), some (jI z0)] [] σ Q := CL_u mq178 (Nat.le_of_ble_eq_true rfl) rfl
theorem dd178_0 : decode cX12_fails 0 = .ok (.aload_n 0, 1) := by decide +kernel
theorem ww178_0 {d : Nat} {l1 : Option mw_V} {x : Nat} {st : List mw_V} {σ : mw_S} {Q : Option mw_V → mw_S → Prop} : mw_WP d 178 0 [some (jR x), l1] st σ Q ↔ mw_WP d 178 1 [some (jR x), l1] (jR x :: st) σ Q := WP_aload_n mq178 dd178_0 rfl
theorem dd178_1 : decode cX12_fails 1 = .ok (.getfield 143, 3) := by decide +kernel
theorem ww178_1 {d : Nat} {l0 l1 : Option mw_V} {st : List mw_V} {σ : mw_S} {Q : Option mw_V → mw_S → Prop} : mw_WP d 178 1 [l0, l1] (jR 100 :: st) σ Q ↔ mw_WP d 178 4 [l0, l1] (jI (σ 100 11) :: st) σ Q := WP_getI (ci := 11) (k := 11) mq178 dd178_1 (by decide) (Or.inl rfl)
theorem dd178_4 : decode cX12_fails 4 = .ok (.ifCond .eq 4, 3) := by decide +kernel
theorem ww178_4 {d : Nat} {l0 l1 : Option mw_V} {x : Int} {st : List mw_V} {σ : mw_S} {Q : Option mw_V → mw_S → Prop} : mw_WP d 178 4 [l0, l1] (jI x :: st) σ Q ↔ (if x = 0 then mw_WP d 178 8 [l0, l1] st σ Q else mw_WP d 178 7 [l0, l1] st σ Q) := WP_if_eq mq178 dd178_4 (by decide)
theorem dd178_7 : decode cX12_fails 7 = .ok (.return_, 1) := by decide +kernel
theorem ww178_7 {d : Nat} {l0 l1 : Option mw_V} {σ : mw_S} {Q : Option mw_V → mw_S → Prop} : mw_WP d 178 7 [l0, l1] [] σ Q ↔ Q none σ := WP_return mq178 dd178_7 rfl
theorem dd178_8 : decode cX12_fails 8 = .ok (.aload_n 0, 1) := by decide +kernel
theorem ww178_8 {d : Nat} {l1 : Option mw_V} {x : Nat} {st : List mw_V} {σ : mw_S} {Q : Option mw_V → mw_S → Prop} : mw_WP d 178 8 [some (jR x), l1] st σ Q ↔ mw_WP d 178 9 [some (jR x), l1] (jR x :: st) σ Q := WP_aload_n mq178 dd178_8 rfl
theorem dd178_9 : decode cX12_fails 9 = .ok (.aload_n 0, 1) := by decide +kernel
theorem ww178_9 {d : Nat} {l1 : Option mw_V} {x : Nat} {st : List mw_V} {σ : mw_S} {Q : Option mw_V → mw_S → Prop} : mw_WP d 178 9 [some (jR x), l1] st σ Q ↔ mw_WP d 178 10 [some (jR x), l1] (jR x :: st) σ Q := WP_aload_n mq178 dd178_9 rfl
theorem dd178_10 : decode cX12_fails 10 = .ok (.getfield 125, 3) := by decide +kernel
theorem ww178_10 {d : Nat} {l0 l1 : Option mw_V} {st : List mw_V} {σ : mw_S} {Q : Option mw_V → mw_S → Prop} : mw_WP d 178 10 [l0, l1] (jR 100 :: st) σ Q ↔ mw_WP d 178 13 [l0, l1] (jI (σ 100 9) :: st) σ Q := WP_getI (ci := 11) (k := 9) mq178 dd178_10 (by decide) (Or.inl rfl)
theorem dd178_13 : decode cX12_fails 13 = .ok (.bipush 28, 2) := by decide +kernel
theorem ww178_13 {d : Nat} {l0 l1 : Option mw_V} {st : List mw_V} {σ : mw_S} {Q : Option mw_V → mw_S → Prop} : mw_WP d 178 13 [l0, l1] st σ Q ↔ mw_WP d 178 15 [l0, l1] (jI (28) :: st) σ Q := WP_bipush mq178 dd178_13 (by decide)
theorem dd178_15 : decode cX12_fails 15 = .ok (.if_icmp .ne 7, 3) := by decide +kernel
theorem ww178_15 {d : Nat} {l0 l1 : Option mw_V} {x y : Int} {st : List mw_V} {σ : mw_S} {Q : Option mw_V → mw_S → Prop} : mw_WP d 178 15 [l0, l1] (jI y :: jI x :: st) σ Q ↔ (if ¬ x = y then mw_WP d 178 22 [l0, l1] st σ Q else mw_WP d 178 18 [l0, l1] st σ Q) := WP_icmp_ne mq178 dd178_15 (by decide)
theorem dd178_18 : decode cX12_fails 18 = .ok (.iconst 1, 1) := by decide +kernel
theorem ww178_18 {d : Nat} {l0 l1 : Option mw_V} {st : List mw_V} {σ : mw_S} {Q : Option mw_V → mw_S → Prop} : mw_WP d 178 18 [l0, l1] st σ Q ↔ mw_WP d 178 19 [l0, l1] (jI (1) :: st) σ Q := WP_iconst mq178 dd178_18 (by decide)
theorem dd178_19 : decode cX12_fails 19 = .ok (.goto 4, 3) := by decide +kernel
theorem ww178_19 {d : Nat} {l0 l1 : Option mw_V} {st : List mw_V} {σ : mw_S} {Q : Option mw_V → mw_S → Prop} : mw_WP d 178 19 [l0, l1] st σ Q ↔ mw_WP d 178 23 [l0, l1] st σ Q := WP_goto mq178 dd178_19 (by decide)
theorem dd178_22 : decode cX12_fails 22 = .ok (.iload_n 1, 1) := by decide +kernel
theorem ww178_22 {d : Nat} {l0 : Option mw_V} {x : Int} {st : List mw_V} {σ : mw_S} {Q : Option mw_V → mw_S → Prop} : mw_WP d 178 22 [l0, some (jI x)] st σ Q ↔ mw_WP d 178 23 [l0, some (jI x)] (jI x :: st) σ Q := WP_iload_n mq178 dd178_22 rfl
theorem dd178_23 : decode cX12_fails 23 = .ok (.putfield 143, 3) := by decide +kernel
theorem ww178_23 {d : Nat} {l0 l1 : Option mw_V} {v : Int} {st : List mw_V} {σ : mw_S} {Q : Option mw_V → mw_S → Prop} : mw_WP d 178 23 [l0, l1] (jI v :: jR 100 :: st) σ Q ↔ mw_WP d 178 26 [l0, l1] st (upS σ 100 11 v) Q := WP_putI (ci := 11) (k := 11) mq178 dd178_23 (by decide) rfl
theorem dd178_26 : decode cX12_fails 26 = .ok (.aload_n 0, 1) := by decide +kernel
theorem ww178_26 {d : Nat} {l1 : Option mw_V} {x : Nat} {st : List mw_V} {σ : mw_S} {Q : Option mw_V → mw_S → Prop} : mw_WP d 178 26 [some (jR x), l1] st σ Q ↔ mw_WP d 178 27 [some (jR x), l1] (jR x :: st) σ Q := WP_aload_n mq178 dd178_26 rfl
theorem dd178_27 : decode cX12_fails 27 = .ok (.aload_n 0, 1) := by decide +kernel
theorem ww178_27 {d : Nat} {l1 : Option mw_V} {x : Nat} {st : List mw_V} {σ : mw_S} {Q : Option mw_V → mw_S → Prop} : mw_WP d 178 27 [some (jR x), l1] st σ Q ↔ mw_WP d 178 28 [some (jR x), l1] (jR x :: st) σ Q := WP_aload_n mq178 dd178_27 rfl
theorem dd178_28 : decode cX12_fails 28 = .ok (.getfield 115, 3) := by decide +kernel
theorem ww178_28 {d : Nat} {l0 l1 : Option mw_V} {st : List mw_V} {σ : mw_S} {Q : Option mw_V → mw_S → Prop} : mw_WP d 178 28 [l0, l1] (jR 100 :: st) σ Q ↔ mw_WP d 178 31 [l0, l1] (jI (σ 100 6) :: st) σ Q := WP_getI (ci := 11) (k := 6) mq178 dd178_28 (by decide) (Or.inl rfl)
theorem dd178_31 : decode cX12_fails 31 = .ok (.putfield 146, 3) := by decide +kernel
theorem ww178_31 {d : Nat} {l0 l1 : Option mw_V} {v : Int} {st : List mw_V} {σ : mw_S} {Q : Option mw_V → mw_S → Prop} : mw_WP d 178 31 [l0, l1] (jI v :: jR 100 :: st) σ Q ↔ mw_WP d 178 34 [l0, l1] st (upS σ 100 12 v) Q := WP_putI (ci := 11) (k := 12) mq178 dd178_31 (by decide) rfl
theorem dd178_34 : decode cX12_fails 34 = .ok (.return_, 1) := by decide +kernel
theorem ww178_34 {d : Nat} {l0 l1 : Option mw_V} {σ : mw_S} {Q : Option mw_V → mw_S → Prop} : mw_WP d 178 34 [l0, l1] [] σ Q ↔ Q none σ := WP_return mq178 dd178_34 rfl
theorem ee179 {d : Nat} {a : Nat} {z0 : Int} {σ : mw_S} {Q : Option mw_V → mw_S → Prop} : mw_Call (d + 1) 179 [jR a, jI z0] σ Q ↔ mw_WP d 179 0 [some (jR a), some (jI z0)] [] σ Q := CL_u mq179 (Nat.le_of_ble_eq_true rfl) rfl
theorem dd179_0 : decode cX12_is 0 = .ok (.aload_n 0, 1) := by decide +kernel
theorem ww179_0 {d : Nat} {l1 : Option mw_V} {x : Nat} {st : List mw_V} {σ : mw_S} {Q : Option mw_V → mw_S → Prop} : mw_WP d 179 0 [some (jR x), l1] st σ Q ↔ mw_WP d 179 1 [some (jR x), l1] (jR x :: st) σ Q := WP_aload_n mq179 dd179_0 rfl
theorem dd179_1 : decode cX12_is 1 = .ok (.getfield 143, 3) := by decide +kernel
theorem ww179_1 {d : Nat} {l0 l1 : Option mw_V} {st : List mw_V} {σ : mw_S} {Q : Option mw_V → mw_S → Prop} : mw_WP d 179 1 [l0, l1] (jR 100 :: st) σ Q ↔ mw_WP d 179 4 [l0, l1] (jI (σ 100 11) :: st) σ Q := WP_getI (ci := 11) (k := 11) mq179 dd179_1 (by decide) (Or.inl rfl)
theorem dd179_4 : decode cX12_is 4 = .ok (.ifCond .ne 15, 3) := by decide +kernel
theorem ww179_4 {d : Nat} {l0 l1 : Option mw_V} {x : Int} {st : List mw_V} {σ : mw_S} {Q : Option mw_V → mw_S → Prop} : mw_WP d 179 4 [l0, l1] (jI x :: st) σ Q ↔ (if ¬ x = 0 then mw_WP d 179 19 [l0, l1] st σ Q else mw_WP d 179 7 [l0, l1] st σ Q) := WP_if_ne mq179 dd179_4 (by decide)
theorem dd179_7 : decode cX12_is 7 = .ok (.aload_n 0, 1) := by decide +kernel
theorem ww179_7 {d : Nat} {l1 : Option mw_V} {x : Nat} {st : List mw_V} {σ : mw_S} {Q : Option mw_V → mw_S → Prop} : mw_WP d 179 7 [some (jR x), l1] st σ Q ↔ mw_WP d 179 8 [some (jR x), l1] (jR x :: st) σ Q := WP_aload_n mq179 dd179_7 rfl
theorem dd179_8 : decode cX12_is 8 = .ok (.getfield 125, 3) := by decide +kernel
theorem ww179_8 {d : Nat} {l0 l1 : Option mw_V} {st : List mw_V} {σ : mw_S} {Q : Option mw_V → mw_S → Prop} : mw_WP d 179 8 [l0, l1] (jR 100 :: st) σ Q ↔ mw_WP d 179 11 [l0, l1] (jI (σ 100 9) :: st) σ Q := WP_getI (ci := 11) (k := 9) mq179 dd179_8 (by decide) (Or.inl rfl)
theorem dd179_11 : decode cX12_is 11 = .ok (.iload_n 1, 1) := by decide +kernel
theorem ww179_11 {d : Nat} {l0 : Option mw_V} {x : Int} {st : List mw_V} {σ : mw_S} {Q : Option mw_V → mw_S → Prop} : mw_WP d 179 11 [l0, some (jI x)] st σ Q ↔ mw_WP d 179 12 [l0, some (jI x)] (jI x :: st) σ Q := WP_iload_n mq179 dd179_11 rfl
theorem dd179_12 : decode cX12_is 12 = .ok (.if_icmp .ne 7, 3) := by decide +kernel
theorem ww179_12 {d : Nat} {l0 l1 : Option mw_V} {x y : Int} {st : List mw_V} {σ : mw_S} {Q : Option mw_V → mw_S → Prop} : mw_WP d 179 12 [l0, l1] (jI y :: jI x :: st) σ Q ↔ (if ¬ x = y then mw_WP d 179 19 [l0, l1] st σ Q else mw_WP d 179 15 [l0, l1] st σ Q) := WP_icmp_ne mq179 dd179_12 (by decide)
theorem dd179_15 : decode cX12_is 15 = .ok (.iconst 1, 1) := by decide +kernel
theorem ww179_15 {d : Nat} {l0 l1 : Option mw_V} {st : List mw_V} {σ : mw_S} {Q : Option mw_V → mw_S → Prop} : mw_WP d 179 15 [l0, l1] st σ Q ↔ mw_WP d 179 16 [l0, l1] (jI (1) :: st) σ Q := WP_iconst mq179 dd179_15 (by decide)
theorem dd179_16 : decode cX12_is 16 = .ok (.goto 4, 3) := by decide +kernel
theorem ww179_16 {d : Nat} {l0 l1 : Option mw_V} {st : List mw_V} {σ : mw_S} {Q : Option mw_V → mw_S → Prop} : mw_WP d 179 16 [l0, l1] st σ Q ↔ mw_WP d 179 20 [l0, l1] st σ Q := WP_goto mq179 dd179_16 (by decide)
theorem dd179_19 : decode cX12_is 19 = .ok (.iconst 0, 1) := by decide +kernel
theorem ww179_19 {d : Nat} {l0 l1 : Option mw_V} {st : List mw_V} {σ : mw_S} {Q : Option mw_V → mw_S → Prop} : mw_WP d 179 19 [l0, l1] st σ Q ↔ mw_WP d 179 20 [l0, l1] (jI (0) :: st) σ Q := WP_iconst mq179 dd179_19 (by decide)
theorem dd179_20 : decode cX12_is 20 = .ok (.ireturn, 1) := by decide +kernel
theorem ww179_20 {d : Nat} {l0 l1 : Option mw_V} {z : Int} {σ : mw_S} {Q : Option mw_V → mw_S → Prop} (h : z = 0 ∨ z = 1) : mw_WP d 179 20 [l0, l1] [jI z] σ Q ↔ Q (some (jI z)) σ := WP_ireturn (ty := .boolean) mq179 dd179_20 rfl (by rcases h with rfl | rfl <;> decide)
theorem ee180 {d : Nat} {a : Nat} {z0 : Int} {σ : mw_S} {Q : Option mw_V → mw_S → Prop} : mw_Call (d + 1) 180 [jR a, jI z0] σ Q ↔ mw_WP d 180 0 [some (jR a), some (jI z0)] [] σ Q := CL_u mq180 (Nat.le_of_ble_eq_true rfl) rfl
theorem dd180_0 : decode cX12_eats 0 = .ok (.aload_n 0, 1) := by decide +kernel
theorem ww180_0 {d : Nat} {l1 : Option mw_V} {x : Nat} {st : List mw_V} {σ : mw_S} {Q : Option mw_V → mw_S → Prop} : mw_WP d 180 0 [some (jR x), l1] st σ Q ↔ mw_WP d 180 1 [some (jR x), l1] (jR x :: st) σ Q := WP_aload_n mq180 dd180_0 rfl
theorem dd180_1 : decode cX12_eats 1 = .ok (.iload_n 1, 1) := by decide +kernel
theorem ww180_1 {d : Nat} {l0 : Option mw_V} {x : Int} {st : List mw_V} {σ : mw_S} {Q : Option mw_V → mw_S → Prop} : mw_WP d 180 1 [l0, some (jI x)] st σ Q ↔ mw_WP d 180 2 [l0, some (jI x)] (jI x :: st) σ Q := WP_iload_n mq180 dd180_1 rfl
theorem dd180_2 : decode cX12_eats 2 = .ok (.invokevirtual 149, 3) := by decide +kernel
theorem ww180_2 {d : Nat} {l0 l1 : Option mw_V} {v0 : mw_V} {a : Nat} {st : List mw_V} {σ : mw_S} {Q : Option mw_V → mw_S → Prop} (hr : mw_rc a = 12) (h8 : (st.map mw_cat).sum ≤ 8) : mw_WP d 180 2 [l0, l1] (v0 :: jR a :: st) σ Q ↔ mw_Call d 179 [jR a, v0] σ (fun r1 s1 => mw_WP d 180 5 [l0, l1] (r1.toList ++ st) s1 Q) := WP_inv (as := [v0]) mq180 dd180_2 (by decide) mq179 rfl hr h8
theorem dd180_5 : decode cX12_eats 5 = .ok (.ifCond .ne 5, 3) := by decide +kernel
theorem ww180_5 {d : Nat} {l0 l1 : Option mw_V} {x : Int} {st : List mw_V} {σ : mw_S} {Q : Option mw_V → mw_S → Prop} : mw_WP d 180 5 [l0, l1] (jI x :: st) σ Q ↔ (if ¬ x = 0 then mw_WP d 180 10 [l0, l1] st σ Q else mw_WP d 180 8 [l0, l1] st σ Q) := WP_if_ne mq180 dd180_5 (by decide)
theorem dd180_8 : decode cX12_eats 8 = .ok (.iconst 0, 1) := by decide +kernel
theorem ww180_8 {d : Nat} {l0 l1 : Option mw_V} {st : List mw_V} {σ : mw_S} {Q : Option mw_V → mw_S → Prop} : mw_WP d 180 8 [l0, l1] st σ Q ↔ mw_WP d 180 9 [l0, l1] (jI (0) :: st) σ Q := WP_iconst mq180 dd180_8 (by decide)
theorem dd180_9 : decode cX12_eats 9 = .ok (.ireturn, 1) := by decide +kernel
theorem ww180_9 {d : Nat} {l0 l1 : Option mw_V} {z : Int} {σ : mw_S} {Q : Option mw_V → mw_S → Prop} (h : z = 0 ∨ z = 1) : mw_WP d 180 9 [l0, l1] [jI z] σ Q ↔ Q (some (jI z)) σ := WP_ireturn (ty := .boolean) mq180 dd180_9 rfl (by rcases h with rfl | rfl <;> decide)
theorem dd180_10 : decode cX12_eats 10 = .ok (.aload_n 0, 1) := by decide +kernel
theorem ww180_10 {d : Nat} {l1 : Option mw_V} {x : Nat} {st : List mw_V} {σ : mw_S} {Q : Option mw_V → mw_S → Prop} : mw_WP d 180 10 [some (jR x), l1] st σ Q ↔ mw_WP d 180 11 [some (jR x), l1] (jR x :: st) σ Q := WP_aload_n mq180 dd180_10 rfl
theorem dd180_11 : decode cX12_eats 11 = .ok (.invokevirtual 152, 3) := by decide +kernel
theorem ww180_11 {d : Nat} {l0 l1 : Option mw_V} {a : Nat} {st : List mw_V} {σ : mw_S} {Q : Option mw_V → mw_S → Prop} (hr : mw_rc a = 12) (h8 : (st.map mw_cat).sum ≤ 8) : mw_WP d 180 11 [l0, l1] (jR a :: st) σ Q ↔ mw_Call d 177 [jR a] σ (fun r1 s1 => mw_WP d 180 14 [l0, l1] (r1.toList ++ st) s1 Q) := WP_inv (as := []) mq180 dd180_11 (by decide) mq177 rfl hr h8
theorem dd180_14 : decode cX12_eats 14 = .ok (.iconst 1, 1) := by decide +kernel
theorem ww180_14 {d : Nat} {l0 l1 : Option mw_V} {st : List mw_V} {σ : mw_S} {Q : Option mw_V → mw_S → Prop} : mw_WP d 180 14 [l0, l1] st σ Q ↔ mw_WP d 180 15 [l0, l1] (jI (1) :: st) σ Q := WP_iconst mq180 dd180_14 (by decide)
theorem dd180_15 : decode cX12_eats 15 = .ok (.ireturn, 1) := by decide +kernel
theorem ww180_15 {d : Nat} {l0 l1 : Option mw_V} {z : Int} {σ : mw_S} {Q : Option mw_V → mw_S → Prop} (h : z = 0 ∨ z = 1) : mw_WP d 180 15 [l0, l1] [jI z] σ Q ↔ Q (some (jI z)) σ := WP_ireturn (ty := .boolean) mq180 dd180_15 rfl (by rcases h with rfl | rfl <;> decide)
theorem ee181 {d : Nat} {a : Nat} {z0 : Int} {z1 : Int} {σ : mw_S} {Q : Option mw_V → mw_S → Prop} : mw_Call (d + 1) 181 [jR a, jI z0, jI z1] σ Q ↔ mw_WP d 181 0 [some (jR a), some (jI z0), some (jI z1), none] [] σ Q := CL_u mq181 (Nat.le_of_ble_eq_true rfl) rfl
theorem dd181_0 : decode cX12_takes 0 = .ok (.aload_n 0, 1) := by decide +kernel
theorem ww181_0 {d : Nat} {l1 l2 l3 : Option mw_V} {x : Nat} {st : List mw_V} {σ : mw_S} {Q : Option mw_V → mw_S → Prop} : mw_WP d 181 0 [some (jR x), l1, l2, l3] st σ Q ↔ mw_WP d 181 1 [some (jR x), l1, l2, l3] (jR x :: st) σ Q := WP_aload_n mq181 dd181_0 rfl
theorem dd181_1 : decode cX12_takes 1 = .ok (.bipush 26, 2) := by decide +kernel
theorem ww181_1 {d : Nat} {l0 l1 l2 l3 : Option mw_V} {st : List mw_V} {σ : mw_S} {Q : Option mw_V → mw_S → Prop} : mw_WP d 181 1 [l0, l1, l2, l3] st σ Q ↔ mw_WP d 181 3 [l0, l1, l2, l3] (jI (26) :: st) σ Q := WP_bipush mq181 dd181_1 (by decide)
theorem dd181_3 : decode cX12_takes 3 = .ok (.invokevirtual 149, 3) := by decide +kernel
theorem ww181_3 {d : Nat} {l0 l1 l2 l3 : Option mw_V} {v0 : mw_V} {a : Nat} {st : List mw_V} {σ : mw_S} {Q : Option mw_V → mw_S → Prop} (hr : mw_rc a = 12) (h8 : (st.map mw_cat).sum ≤ 8) : mw_WP d 181 3 [l0, l1, l2, l3] (v0 :: jR a :: st) σ Q ↔ mw_Call d 179 [jR a, v0] σ (fun r1 s1 => mw_WP d 181 6 [l0, l1, l2, l3] (r1.toList ++ st) s1 Q) := WP_inv (as := [v0]) mq181 dd181_3 (by decide) mq179 rfl hr h8
theorem dd181_6 : decode cX12_takes 6 = .ok (.ifCond .ne 11, 3) := by decide +kernel
theorem ww181_6 {d : Nat} {l0 l1 l2 l3 : Option mw_V} {x : Int} {st : List mw_V} {σ : mw_S} {Q : Option mw_V → mw_S → Prop} : mw_WP d 181 6 [l0, l1, l2, l3] (jI x :: st) σ Q ↔ (if ¬ x = 0 then mw_WP d 181 17 [l0, l1, l2, l3] st σ Q else mw_WP d 181 9 [l0, l1, l2, l3] st σ Q) := WP_if_ne mq181 dd181_6 (by decide)
theorem dd181_9 : decode cX12_takes 9 = .ok (.aload_n 0, 1) := by decide +kernel
theorem ww181_9 {d : Nat} {l1 l2 l3 : Option mw_V} {x : Nat} {st : List mw_V} {σ : mw_S} {Q : Option mw_V → mw_S → Prop} : mw_WP d 181 9 [some (jR x), l1, l2, l3] st σ Q ↔ mw_WP d 181 10 [some (jR x), l1, l2, l3] (jR x :: st) σ Q := WP_aload_n mq181 dd181_9 rfl
theorem dd181_10 : decode cX12_takes 10 = .ok (.iconst 2, 1) := by decide +kernel
theorem ww181_10 {d : Nat} {l0 l1 l2 l3 : Option mw_V} {st : List mw_V} {σ : mw_S} {Q : Option mw_V → mw_S → Prop} : mw_WP d 181 10 [l0, l1, l2, l3] st σ Q ↔ mw_WP d 181 11 [l0, l1, l2, l3] (jI (2) :: st) σ Q := WP_iconst mq181 dd181_10 (by decide)
theorem dd181_11 : decode cX12_takes 11 = .ok (.invokevirtual 155, 3) := by decide +kernel
theorem ww181_11 {d : Nat} {l0 l1 l2 l3 : Option mw_V} {v0 : mw_V} {a : Nat} {st : List mw_V} {σ : mw_S} {Q : Option mw_V → mw_S → Prop} (hr : mw_rc a = 12) (h8 : (st.map mw_cat).sum ≤ 8) : mw_WP d 181 11 [l0, l1, l2, l3] (v0 :: jR a :: st) σ Q ↔ mw_Call d 178 [jR a, v0] σ (fun r1 s1 => mw_WP d 181 14 [l0, l1, l2, l3] (r1.toList ++ st) s1 Q) := WP_inv (as := [v0]) mq181 dd181_11 (by decide) mq178 rfl hr h8
theorem dd181_14 : decode cX12_takes 14 = .ok (.goto 23, 3) := by decide +kernel
theorem ww181_14 {d : Nat} {l0 l1 l2 l3 : Option mw_V} {st : List mw_V} {σ : mw_S} {Q : Option mw_V → mw_S → Prop} : mw_WP d 181 14 [l0, l1, l2, l3] st σ Q ↔ mw_WP d 181 37 [l0, l1, l2, l3] st σ Q := WP_goto mq181 dd181_14 (by decide)
theorem dd181_17 : decode cX12_takes 17 = .ok (.aload_n 0, 1) := by decide +kernel
theorem ww181_17 {d : Nat} {l1 l2 l3 : Option mw_V} {x : Nat} {st : List mw_V} {σ : mw_S} {Q : Option mw_V → mw_S → Prop} : mw_WP d 181 17 [some (jR x), l1, l2, l3] st σ Q ↔ mw_WP d 181 18 [some (jR x), l1, l2, l3] (jR x :: st) σ Q := WP_aload_n mq181 dd181_17 rfl
theorem dd181_18 : decode cX12_takes 18 = .ok (.getfield 138, 3) := by decide +kernel
theorem ww181_18 {d : Nat} {l0 l1 l2 l3 : Option mw_V} {st : List mw_V} {σ : mw_S} {Q : Option mw_V → mw_S → Prop} : mw_WP d 181 18 [l0, l1, l2, l3] (jR 100 :: st) σ Q ↔ mw_WP d 181 21 [l0, l1, l2, l3] (jI (σ 100 10) :: st) σ Q := WP_getI (ci := 11) (k := 10) mq181 dd181_18 (by decide) (Or.inl rfl)
theorem dd181_21 : decode cX12_takes 21 = .ok (.i2l, 1) := by decide +kernel
theorem ww181_21 {d : Nat} {l0 l1 l2 l3 : Option mw_V} {x : Int} {st : List mw_V} {σ : mw_S} {Q : Option mw_V → mw_S → Prop} : mw_WP d 181 21 [l0, l1, l2, l3] (jI x :: st) σ Q ↔ mw_WP d 181 22 [l0, l1, l2, l3] (jL (yL x) :: st) σ Q := WP_i2l mq181 dd181_21
theorem dd181_22 : decode cX12_takes 22 = .ok (.iload_n 1, 1) := by decide +kernel
theorem ww181_22 {d : Nat} {l0 l2 l3 : Option mw_V} {x : Int} {st : List mw_V} {σ : mw_S} {Q : Option mw_V → mw_S → Prop} : mw_WP d 181 22 [l0, some (jI x), l2, l3] st σ Q ↔ mw_WP d 181 23 [l0, some (jI x), l2, l3] (jI x :: st) σ Q := WP_iload_n mq181 dd181_22 rfl
theorem dd181_23 : decode cX12_takes 23 = .ok (.i2l, 1) := by decide +kernel
theorem ww181_23 {d : Nat} {l0 l1 l2 l3 : Option mw_V} {x : Int} {st : List mw_V} {σ : mw_S} {Q : Option mw_V → mw_S → Prop} : mw_WP d 181 23 [l0, l1, l2, l3] (jI x :: st) σ Q ↔ mw_WP d 181 24 [l0, l1, l2, l3] (jL (yL x) :: st) σ Q := WP_i2l mq181 dd181_23
theorem dd181_24 : decode cX12_takes 24 = .ok (.iload_n 2, 1) := by decide +kernel
theorem ww181_24 {d : Nat} {l0 l1 l3 : Option mw_V} {x : Int} {st : List mw_V} {σ : mw_S} {Q : Option mw_V → mw_S → Prop} : mw_WP d 181 24 [l0, l1, some (jI x), l3] st σ Q ↔ mw_WP d 181 25 [l0, l1, some (jI x), l3] (jI x :: st) σ Q := WP_iload_n mq181 dd181_24 rfl
theorem dd181_25 : decode cX12_takes 25 = .ok (.i2l, 1) := by decide +kernel
theorem ww181_25 {d : Nat} {l0 l1 l2 l3 : Option mw_V} {x : Int} {st : List mw_V} {σ : mw_S} {Q : Option mw_V → mw_S → Prop} : mw_WP d 181 25 [l0, l1, l2, l3] (jI x :: st) σ Q ↔ mw_WP d 181 26 [l0, l1, l2, l3] (jL (yL x) :: st) σ Q := WP_i2l mq181 dd181_25
theorem dd181_26 : decode cX12_takes 26 = .ok (.invokestatic 159, 3) := by decide +kernel
theorem ww181_26 {d : Nat} {l0 l1 l2 l3 : Option mw_V} {v0 v1 v2 : mw_V} {st : List mw_V} {σ : mw_S} {Q : Option mw_V → mw_S → Prop} (h8 : (st.map mw_cat).sum ≤ 8) : mw_WP d 181 26 [l0, l1, l2, l3] (v2 :: v1 :: v0 :: st) σ Q ↔ mw_Call d 170 [v0, v1, v2] σ (fun r1 s1 => mw_WP d 181 29 [l0, l1, l2, l3] (r1.toList ++ st) s1 Q) := WP_invs (as := [v2, v1, v0]) mq181 dd181_26 (by decide) mq170 rfl rfl h8
theorem dd181_29 : decode cX12_takes 29 = .ok (.ifCond .ne 8, 3) := by decide +kernel
theorem ww181_29 {d : Nat} {l0 l1 l2 l3 : Option mw_V} {x : Int} {st : List mw_V} {σ : mw_S} {Q : Option mw_V → mw_S → Prop} : mw_WP d 181 29 [l0, l1, l2, l3] (jI x :: st) σ Q ↔ (if ¬ x = 0 then mw_WP d 181 37 [l0, l1, l2, l3] st σ Q else mw_WP d 181 32 [l0, l1, l2, l3] st σ Q) := WP_if_ne mq181 dd181_29 (by decide)
theorem dd181_32 : decode cX12_takes 32 = .ok (.aload_n 0, 1) := by decide +kernel
theorem ww181_32 {d : Nat} {l1 l2 l3 : Option mw_V} {x : Nat} {st : List mw_V} {σ : mw_S} {Q : Option mw_V → mw_S → Prop} : mw_WP d 181 32 [some (jR x), l1, l2, l3] st σ Q ↔ mw_WP d 181 33 [some (jR x), l1, l2, l3] (jR x :: st) σ Q := WP_aload_n mq181 dd181_32 rfl
theorem dd181_33 : decode cX12_takes 33 = .ok (.iconst 3, 1) := by decide +kernel
theorem ww181_33 {d : Nat} {l0 l1 l2 l3 : Option mw_V} {st : List mw_V} {σ : mw_S} {Q : Option mw_V → mw_S → Prop} : mw_WP d 181 33 [l0, l1, l2, l3] st σ Q ↔ mw_WP d 181 34 [l0, l1, l2, l3] (jI (3) :: st) σ Q := WP_iconst mq181 dd181_33 (by decide)
theorem dd181_34 : decode cX12_takes 34 = .ok (.invokevirtual 155, 3) := by decide +kernel
theorem ww181_34 {d : Nat} {l0 l1 l2 l3 : Option mw_V} {v0 : mw_V} {a : Nat} {st : List mw_V} {σ : mw_S} {Q : Option mw_V → mw_S → Prop} (hr : mw_rc a = 12) (h8 : (st.map mw_cat).sum ≤ 8) : mw_WP d 181 34 [l0, l1, l2, l3] (v0 :: jR a :: st) σ Q ↔ mw_Call d 178 [jR a, v0] σ (fun r1 s1 => mw_WP d 181 37 [l0, l1, l2, l3] (r1.toList ++ st) s1 Q) := WP_inv (as := [v0]) mq181 dd181_34 (by decide) mq178 rfl hr h8
theorem dd181_37 : decode cX12_takes 37 = .ok (.aload_n 0, 1) := by decide +kernel
theorem ww181_37 {d : Nat} {l1 l2 l3 : Option mw_V} {x : Nat} {st : List mw_V} {σ : mw_S} {Q : Option mw_V → mw_S → Prop} : mw_WP d 181 37 [some (jR x), l1, l2, l3] st σ Q ↔ mw_WP d 181 38 [some (jR x), l1, l2, l3] (jR x :: st) σ Q := WP_aload_n mq181 dd181_37 rfl
theorem dd181_38 : decode cX12_takes 38 = .ok (.getfield 138, 3) := by decide +kernel
theorem ww181_38 {d : Nat} {l0 l1 l2 l3 : Option mw_V} {st : List mw_V} {σ : mw_S} {Q : Option mw_V → mw_S → Prop} : mw_WP d 181 38 [l0, l1, l2, l3] (jR 100 :: st) σ Q ↔ mw_WP d 181 41 [l0, l1, l2, l3] (jI (σ 100 10) :: st) σ Q := WP_getI (ci := 11) (k := 10) mq181 dd181_38 (by decide) (Or.inl rfl)
theorem dd181_41 : decode cX12_takes 41 = .ok (.istore_n 3, 1) := by decide +kernel
theorem ww181_41 {d : Nat} {l0 l1 l2 l3 : Option mw_V} {x : Int} {st : List mw_V} {σ : mw_S} {Q : Option mw_V → mw_S → Prop} (h : mw_nlo l2 = true) : mw_WP d 181 41 [l0, l1, l2, l3] (jI x :: st) σ Q ↔ mw_WP d 181 42 [l0, l1, l2, some (jI x)] st σ Q := WP_istore_n mq181 dd181_41 (Nat.le_of_ble_eq_true rfl) (mw_nl_of (i := 2) rfl h) rfl
theorem dd181_42 : decode cX12_takes 42 = .ok (.aload_n 0, 1) := by decide +kernel
theorem ww181_42 {d : Nat} {l1 l2 l3 : Option mw_V} {x : Nat} {st : List mw_V} {σ : mw_S} {Q : Option mw_V → mw_S → Prop} : mw_WP d 181 42 [some (jR x), l1, l2, l3] st σ Q ↔ mw_WP d 181 43 [some (jR x), l1, l2, l3] (jR x :: st) σ Q := WP_aload_n mq181 dd181_42 rfl
theorem dd181_43 : decode cX12_takes 43 = .ok (.getfield 143, 3) := by decide +kernel
theorem ww181_43 {d : Nat} {l0 l1 l2 l3 : Option mw_V} {st : List mw_V} {σ : mw_S} {Q : Option mw_V → mw_S → Prop} : mw_WP d 181 43 [l0, l1, l2, l3] (jR 100 :: st) σ Q ↔ mw_WP d 181 46 [l0, l1, l2, l3] (jI (σ 100 11) :: st) σ Q := WP_getI (ci := 11) (k := 11) mq181 dd181_43 (by decide) (Or.inl rfl)
theorem dd181_46 : decode cX12_takes 46 = .ok (.ifCond .ne 7, 3) := by decide +kernel
theorem ww181_46 {d : Nat} {l0 l1 l2 l3 : Option mw_V} {x : Int} {st : List mw_V} {σ : mw_S} {Q : Option mw_V → mw_S → Prop} : mw_WP d 181 46 [l0, l1, l2, l3] (jI x :: st) σ Q ↔ (if ¬ x = 0 then mw_WP d 181 53 [l0, l1, l2, l3] st σ Q else mw_WP d 181 49 [l0, l1, l2, l3] st σ Q) := WP_if_ne mq181 dd181_46 (by decide)
theorem dd181_49 : decode cX12_takes 49 = .ok (.aload_n 0, 1) := by decide +kernel
theorem ww181_49 {d : Nat} {l1 l2 l3 : Option mw_V} {x : Nat} {st : List mw_V} {σ : mw_S} {Q : Option mw_V → mw_S → Prop} : mw_WP d 181 49 [some (jR x), l1, l2, l3] st σ Q ↔ mw_WP d 181 50 [some (jR x), l1, l2, l3] (jR x :: st) σ Q := WP_aload_n mq181 dd181_49 rfl
theorem dd181_50 : decode cX12_takes 50 = .ok (.invokevirtual 152, 3) := by decide +kernel
theorem ww181_50 {d : Nat} {l0 l1 l2 l3 : Option mw_V} {a : Nat} {st : List mw_V} {σ : mw_S} {Q : Option mw_V → mw_S → Prop} (hr : mw_rc a = 12) (h8 : (st.map mw_cat).sum ≤ 8) : mw_WP d 181 50 [l0, l1, l2, l3] (jR a :: st) σ Q ↔ mw_Call d 177 [jR a] σ (fun r1 s1 => mw_WP d 181 53 [l0, l1, l2, l3] (r1.toList ++ st) s1 Q) := WP_inv (as := []) mq181 dd181_50 (by decide) mq177 rfl hr h8
theorem dd181_53 : decode cX12_takes 53 = .ok (.iload_n 3, 1) := by decide +kernel
theorem ww181_53 {d : Nat} {l0 l1 l2 : Option mw_V} {x : Int} {st : List mw_V} {σ : mw_S} {Q : Option mw_V → mw_S → Prop} : mw_WP d 181 53 [l0, l1, l2, some (jI x)] st σ Q ↔ mw_WP d 181 54 [l0, l1, l2, some (jI x)] (jI x :: st) σ Q := WP_iload_n mq181 dd181_53 rfl
theorem dd181_54 : decode cX12_takes 54 = .ok (.ireturn, 1) := by decide +kernel
theorem ww181_54 {d : Nat} {l0 l1 l2 l3 : Option mw_V} {z : Int} {σ : mw_S} {Q : Option mw_V → mw_S → Prop} : mw_WP d 181 54 [l0, l1, l2, l3] [jI z] σ Q ↔ Q (some (jI z)) σ := WP_ireturn (ty := .int) mq181 dd181_54 rfl rfl
theorem ee182 {d : Nat} {z0 : Int} {z1 : Int} {σ : mw_S} {Q : Option mw_V → mw_S → Prop} : mw_Call (d + 1) 182 [jL z0, jI z1] σ Q ↔ mw_WP d 182 0 [some (jL z0), none, some (jI z1)] [] σ Q := CL_u mq182 (Nat.le_of_ble_eq_true rfl) rfl
theorem dd182_0 : decode cX12_isIn 0 = .ok (.lload_n 0, 1) := by decide +kernel
theorem ww182_0 {d : Nat} {l1 l2 : Option mw_V} {x : Int} {st : List mw_V} {σ : mw_S} {Q : Option mw_V → mw_S → Prop} : mw_WP d 182 0 [some (jL x), l1, l2] st σ Q ↔ mw_WP d 182 1 [some (jL x), l1, l2] (jL x :: st) σ Q := WP_lload_n mq182 dd182_0 rfl
theorem dd182_1 : decode cX12_isIn 1 = .ok (.iload_n 2, 1) := by decide +kernel
theorem ww182_1 {d : Nat} {l0 l1 : Option mw_V} {x : Int} {st : List mw_V} {σ : mw_S} {Q : Option mw_V → mw_S → Prop} : mw_WP d 182 1 [l0, l1, some (jI x)] st σ Q ↔ mw_WP d 182 2 [l0, l1, some (jI x)] (jI x :: st) σ Q := WP_iload_n mq182 dd182_1 rfl
theorem dd182_2 : decode cX12_isIn 2 = .ok (.lshr, 1) := by decide +kernel
theorem ww182_2 {d : Nat} {l0 l1 l2 : Option mw_V} {x y : Int} {st : List mw_V} {σ : mw_S} {Q : Option mw_V → mw_S → Prop} : mw_WP d 182 2 [l0, l1, l2] (jI y :: jL x :: st) σ Q ↔ mw_WP d 182 3 [l0, l1, l2] (jL (yShr x y) :: st) σ Q := WP_lshr mq182 dd182_2
theorem dd182_3 : decode cX12_isIn 3 = .ok (.lconst 1, 1) := by decide +kernel
theorem ww182_3 {d : Nat} {l0 l1 l2 : Option mw_V} {st : List mw_V} {σ : mw_S} {Q : Option mw_V → mw_S → Prop} : mw_WP d 182 3 [l0, l1, l2] st σ Q ↔ mw_WP d 182 4 [l0, l1, l2] (jL (1) :: st) σ Q := WP_lconst mq182 dd182_3 (by decide)
theorem dd182_4 : decode cX12_isIn 4 = .ok (.land, 1) := by decide +kernel
theorem ww182_4 {d : Nat} {l0 l1 l2 : Option mw_V} {x y : Int} {st : List mw_V} {σ : mw_S} {Q : Option mw_V → mw_S → Prop} : mw_WP d 182 4 [l0, l1, l2] (jL y :: jL x :: st) σ Q ↔ mw_WP d 182 5 [l0, l1, l2] (jL (yAnd x y) :: st) σ Q := WP_land mq182 dd182_4
theorem dd182_5 : decode cX12_isIn 5 = .ok (.lconst 1, 1) := by decide +kernel
theorem ww182_5 {d : Nat} {l0 l1 l2 : Option mw_V} {st : List mw_V} {σ : mw_S} {Q : Option mw_V → mw_S → Prop} : mw_WP d 182 5 [l0, l1, l2] st σ Q ↔ mw_WP d 182 6 [l0, l1, l2] (jL (1) :: st) σ Q := WP_lconst mq182 dd182_5 (by decide)
theorem dd182_6 : decode cX12_isIn 6 = .ok (.lcmp, 1) := by decide +kernel
theorem ww182_6 {d : Nat} {l0 l1 l2 : Option mw_V} {x y : Int} {st : List mw_V} {σ : mw_S} {Q : Option mw_V → mw_S → Prop} : mw_WP d 182 6 [l0, l1, l2] (jL y :: jL x :: st) σ Q ↔ mw_WP d 182 7 [l0, l1, l2] (jI (yCmp x y) :: st) σ Q := WP_lcmp mq182 dd182_6
theorem dd182_7 : decode cX12_isIn 7 = .ok (.ifCond .ne 7, 3) := by decide +kernel
theorem ww182_7 {d : Nat} {l0 l1 l2 : Option mw_V} {x : Int} {st : List mw_V} {σ : mw_S} {Q : Option mw_V → mw_S → Prop} : mw_WP d 182 7 [l0, l1, l2] (jI x :: st) σ Q ↔ (if ¬ x = 0 then mw_WP d 182 14 [l0, l1, l2] st σ Q else mw_WP d 182 10 [l0, l1, l2] st σ Q) := WP_if_ne mq182 dd182_7 (by decide)
theorem dd182_10 : decode cX12_isIn 10 = .ok (.iconst 1, 1) := by decide +kernel
theorem ww182_10 {d : Nat} {l0 l1 l2 : Option mw_V} {st : List mw_V} {σ : mw_S} {Q : Option mw_V → mw_S → Prop} : mw_WP d 182 10 [l0, l1, l2] st σ Q ↔ mw_WP d 182 11 [l0, l1, l2] (jI (1) :: st) σ Q := WP_iconst mq182 dd182_10 (by decide)
theorem dd182_11 : decode cX12_isIn 11 = .ok (.goto 4, 3) := by decide +kernel
theorem ww182_11 {d : Nat} {l0 l1 l2 : Option mw_V} {st : List mw_V} {σ : mw_S} {Q : Option mw_V → mw_S → Prop} : mw_WP d 182 11 [l0, l1, l2] st σ Q ↔ mw_WP d 182 15 [l0, l1, l2] st σ Q := WP_goto mq182 dd182_11 (by decide)
theorem dd182_14 : decode cX12_isIn 14 = .ok (.iconst 0, 1) := by decide +kernel
theorem ww182_14 {d : Nat} {l0 l1 l2 : Option mw_V} {st : List mw_V} {σ : mw_S} {Q : Option mw_V → mw_S → Prop} : mw_WP d 182 14 [l0, l1, l2] st σ Q ↔ mw_WP d 182 15 [l0, l1, l2] (jI (0) :: st) σ Q := WP_iconst mq182 dd182_14 (by decide)
theorem dd182_15 : decode cX12_isIn 15 = .ok (.ireturn, 1) := by decide +kernel
theorem ww182_15 {d : Nat} {l0 l1 l2 : Option mw_V} {z : Int} {σ : mw_S} {Q : Option mw_V → mw_S → Prop} (h : z = 0 ∨ z = 1) : mw_WP d 182 15 [l0, l1, l2] [jI z] σ Q ↔ Q (some (jI z)) σ := WP_ireturn (ty := .boolean) mq182 dd182_15 rfl (by rcases h with rfl | rfl <;> decide)
theorem ee183 {d : Nat} {a : Nat} {σ : mw_S} {Q : Option mw_V → mw_S → Prop} : mw_Call (d + 1) 183 [jR a] σ Q ↔ mw_WP d 183 0 [some (jR a), none, none, none] [] σ Q := CL_u mq183 (Nat.le_of_ble_eq_true rfl) rfl
theorem dd183_0 : decode cX12_readPerson 0 = .ok (.aload_n 0, 1) := by decide +kernel
theorem ww183_0 {d : Nat} {l1 l2 l3 : Option mw_V} {x : Nat} {st : List mw_V} {σ : mw_S} {Q : Option mw_V → mw_S → Prop} : mw_WP d 183 0 [some (jR x), l1, l2, l3] st σ Q ↔ mw_WP d 183 1 [some (jR x), l1, l2, l3] (jR x :: st) σ Q := WP_aload_n mq183 dd183_0 rfl
theorem dd183_1 : decode cX12_readPerson 1 = .ok (.getfield 24, 3) := by decide +kernel
theorem ww183_1 {d : Nat} {l0 l1 l2 l3 : Option mw_V} {st : List mw_V} {σ : mw_S} {Q : Option mw_V → mw_S → Prop} : mw_WP d 183 1 [l0, l1, l2, l3] (jR 100 :: st) σ Q ↔ mw_WP d 183 4 [l0, l1, l2, l3] (jR 104 :: st) σ Q := WP_getR (ci := 11) (k := 4) mq183 dd183_1 (by decide) rfl
theorem dd183_4 : decode cX12_readPerson 4 = .ok (.iconst 2, 1) := by decide +kernel
theorem ww183_4 {d : Nat} {l0 l1 l2 l3 : Option mw_V} {st : List mw_V} {σ : mw_S} {Q : Option mw_V → mw_S → Prop} : mw_WP d 183 4 [l0, l1, l2, l3] st σ Q ↔ mw_WP d 183 5 [l0, l1, l2, l3] (jI (2) :: st) σ Q := WP_iconst mq183 dd183_4 (by decide)
theorem dd183_5 : decode cX12_readPerson 5 = .ok (.iaload, 1) := by decide +kernel
theorem ww183_5 {d : Nat} {l0 l1 l2 l3 : Option mw_V} {z : Int} {a : Nat} {st : List mw_V} {σ : mw_S} {Q : Option mw_V → mw_S → Prop} : mw_WP d 183 5 [l0, l1, l2, l3] (jI z :: jR a :: st) σ Q ↔ ((0 ≤ z ∧ z < mw_lenI a) ∧ mw_WP d 183 6 [l0, l1, l2, l3] (jI (mw_rdI σ a z.toNat) :: st) σ Q) := WP_iaload mq183 dd183_5
theorem dd183_6 : decode cX12_readPerson 6 = .ok (.istore_n 1, 1) := by decide +kernel
theorem ww183_6 {d : Nat} {l0 l1 l2 l3 : Option mw_V} {x : Int} {st : List mw_V} {σ : mw_S} {Q : Option mw_V → mw_S → Prop} (h : mw_nlo l0 = true) : mw_WP d 183 6 [l0, l1, l2, l3] (jI x :: st) σ Q ↔ mw_WP d 183 7 [l0, some (jI x), l2, l3] st σ Q := WP_istore_n mq183 dd183_6 (Nat.le_of_ble_eq_true rfl) (mw_nl_of (i := 0) rfl h) rfl
theorem dd183_7 : decode cX12_readPerson 7 = .ok (.iload_n 1, 1) := by decide +kernel
theorem ww183_7 {d : Nat} {l0 l2 l3 : Option mw_V} {x : Int} {st : List mw_V} {σ : mw_S} {Q : Option mw_V → mw_S → Prop} : mw_WP d 183 7 [l0, some (jI x), l2, l3] st σ Q ↔ mw_WP d 183 8 [l0, some (jI x), l2, l3] (jI x :: st) σ Q := WP_iload_n mq183 dd183_7 rfl
theorem dd183_8 : decode cX12_readPerson 8 = .ok (.iconst 3, 1) := by decide +kernel
theorem ww183_8 {d : Nat} {l0 l1 l2 l3 : Option mw_V} {st : List mw_V} {σ : mw_S} {Q : Option mw_V → mw_S → Prop} : mw_WP d 183 8 [l0, l1, l2, l3] st σ Q ↔ mw_WP d 183 9 [l0, l1, l2, l3] (jI (3) :: st) σ Q := WP_iconst mq183 dd183_8 (by decide)
theorem dd183_9 : decode cX12_readPerson 9 = .ok (.if_icmp .ne 8, 3) := by decide +kernel
theorem ww183_9 {d : Nat} {l0 l1 l2 l3 : Option mw_V} {x y : Int} {st : List mw_V} {σ : mw_S} {Q : Option mw_V → mw_S → Prop} : mw_WP d 183 9 [l0, l1, l2, l3] (jI y :: jI x :: st) σ Q ↔ (if ¬ x = y then mw_WP d 183 17 [l0, l1, l2, l3] st σ Q else mw_WP d 183 12 [l0, l1, l2, l3] st σ Q) := WP_icmp_ne mq183 dd183_9 (by decide)
theorem dd183_12 : decode cX12_readPerson 12 = .ok (.aload_n 0, 1) := by decide +kernel
theorem ww183_12 {d : Nat} {l1 l2 l3 : Option mw_V} {x : Nat} {st : List mw_V} {σ : mw_S} {Q : Option mw_V → mw_S → Prop} : mw_WP d 183 12 [some (jR x), l1, l2, l3] st σ Q ↔ mw_WP d 183 13 [some (jR x), l1, l2, l3] (jR x :: st) σ Q := WP_aload_n mq183 dd183_12 rfl
theorem dd183_13 : decode cX12_readPerson 13 = .ok (.iconst 4, 1) := by decide +kernel
theorem ww183_13 {d : Nat} {l0 l1 l2 l3 : Option mw_V} {st : List mw_V} {σ : mw_S} {Q : Option mw_V → mw_S → Prop} : mw_WP d 183 13 [l0, l1, l2, l3] st σ Q ↔ mw_WP d 183 14 [l0, l1, l2, l3] (jI (4) :: st) σ Q := WP_iconst mq183 dd183_13 (by decide)
theorem dd183_14 : decode cX12_readPerson 14 = .ok (.invokevirtual 155, 3) := by decide +kernel
theorem ww183_14 {d : Nat} {l0 l1 l2 l3 : Option mw_V} {v0 : mw_V} {a : Nat} {st : List mw_V} {σ : mw_S} {Q : Option mw_V → mw_S → Prop} (hr : mw_rc a = 12) (h8 : (st.map mw_cat).sum ≤ 8) : mw_WP d 183 14 [l0, l1, l2, l3] (v0 :: jR a :: st) σ Q ↔ mw_Call d 178 [jR a, v0] σ (fun r1 s1 => mw_WP d 183 17 [l0, l1, l2, l3] (r1.toList ++ st) s1 Q) := WP_inv (as := [v0]) mq183 dd183_14 (by decide) mq178 rfl hr h8
theorem dd183_17 : decode cX12_readPerson 17 = .ok (.aload_n 0, 1) := by decide +kernel
theorem ww183_17 {d : Nat} {l1 l2 l3 : Option mw_V} {x : Nat} {st : List mw_V} {σ : mw_S} {Q : Option mw_V → mw_S → Prop} : mw_WP d 183 17 [some (jR x), l1, l2, l3] st σ Q ↔ mw_WP d 183 18 [some (jR x), l1, l2, l3] (jR x :: st) σ Q := WP_aload_n mq183 dd183_17 rfl
theorem dd183_18 : decode cX12_readPerson 18 = .ok (.getfield 143, 3) := by decide +kernel
theorem ww183_18 {d : Nat} {l0 l1 l2 l3 : Option mw_V} {st : List mw_V} {σ : mw_S} {Q : Option mw_V → mw_S → Prop} : mw_WP d 183 18 [l0, l1, l2, l3] (jR 100 :: st) σ Q ↔ mw_WP d 183 21 [l0, l1, l2, l3] (jI (σ 100 11) :: st) σ Q := WP_getI (ci := 11) (k := 11) mq183 dd183_18 (by decide) (Or.inl rfl)
theorem dd183_21 : decode cX12_readPerson 21 = .ok (.ifCond .eq 4, 3) := by decide +kernel
theorem ww183_21 {d : Nat} {l0 l1 l2 l3 : Option mw_V} {x : Int} {st : List mw_V} {σ : mw_S} {Q : Option mw_V → mw_S → Prop} : mw_WP d 183 21 [l0, l1, l2, l3] (jI x :: st) σ Q ↔ (if x = 0 then mw_WP d 183 25 [l0, l1, l2, l3] st σ Q else mw_WP d 183 24 [l0, l1, l2, l3] st σ Q) := WP_if_eq mq183 dd183_21 (by decide)
theorem dd183_24 : decode cX12_readPerson 24 = .ok (.return_, 1) := by decide +kernel
theorem ww183_24 {d : Nat} {l0 l1 l2 l3 : Option mw_V} {σ : mw_S} {Q : Option mw_V → mw_S → Prop} : mw_WP d 183 24 [l0, l1, l2, l3] [] σ Q ↔ Q none σ := WP_return mq183 dd183_24 rfl
theorem dd183_25 : decode cX12_readPerson 25 = .ok (.aload_n 0, 1) := by decide +kernel
theorem ww183_25 {d : Nat} {l1 l2 l3 : Option mw_V} {x : Nat} {st : List mw_V} {σ : mw_S} {Q : Option mw_V → mw_S → Prop} : mw_WP d 183 25 [some (jR x), l1, l2, l3] st σ Q ↔ mw_WP d 183 26 [some (jR x), l1, l2, l3] (jR x :: st) σ Q := WP_aload_n mq183 dd183_25 rfl
theorem dd183_26 : decode cX12_readPerson 26 = .ok (.invokevirtual 152, 3) := by decide +kernel
theorem ww183_26 {d : Nat} {l0 l1 l2 l3 : Option mw_V} {a : Nat} {st : List mw_V} {σ : mw_S} {Q : Option mw_V → mw_S → Prop} (hr : mw_rc a = 12) (h8 : (st.map mw_cat).sum ≤ 8) : mw_WP d 183 26 [l0, l1, l2, l3] (jR a :: st) σ Q ↔ mw_Call d 177 [jR a] σ (fun r1 s1 => mw_WP d 183 29 [l0, l1, l2, l3] (r1.toList ++ st) s1 Q) := WP_inv (as := []) mq183 dd183_26 (by decide) mq177 rfl hr h8
theorem dd183_29 : decode cX12_readPerson 29 = .ok (.aload_n 0, 1) := by decide +kernel
theorem ww183_29 {d : Nat} {l1 l2 l3 : Option mw_V} {x : Nat} {st : List mw_V} {σ : mw_S} {Q : Option mw_V → mw_S → Prop} : mw_WP d 183 29 [some (jR x), l1, l2, l3] st σ Q ↔ mw_WP d 183 30 [some (jR x), l1, l2, l3] (jR x :: st) σ Q := WP_aload_n mq183 dd183_29 rfl
theorem dd183_30 : decode cX12_readPerson 30 = .ok (.iconst 0, 1) := by decide +kernel
theorem ww183_30 {d : Nat} {l0 l1 l2 l3 : Option mw_V} {st : List mw_V} {σ : mw_S} {Q : Option mw_V → mw_S → Prop} : mw_WP d 183 30 [l0, l1, l2, l3] st σ Q ↔ mw_WP d 183 31 [l0, l1, l2, l3] (jI (0) :: st) σ Q := WP_iconst mq183 dd183_30 (by decide)
theorem dd183_31 : decode cX12_readPerson 31 = .ok (.aload_n 0, 1) := by decide +kernel
theorem ww183_31 {d : Nat} {l1 l2 l3 : Option mw_V} {x : Nat} {st : List mw_V} {σ : mw_S} {Q : Option mw_V → mw_S → Prop} : mw_WP d 183 31 [some (jR x), l1, l2, l3] st σ Q ↔ mw_WP d 183 32 [some (jR x), l1, l2, l3] (jR x :: st) σ Q := WP_aload_n mq183 dd183_31 rfl
theorem dd183_32 : decode cX12_readPerson 32 = .ok (.getfield 24, 3) := by decide +kernel
theorem ww183_32 {d : Nat} {l0 l1 l2 l3 : Option mw_V} {st : List mw_V} {σ : mw_S} {Q : Option mw_V → mw_S → Prop} : mw_WP d 183 32 [l0, l1, l2, l3] (jR 100 :: st) σ Q ↔ mw_WP d 183 35 [l0, l1, l2, l3] (jR 104 :: st) σ Q := WP_getR (ci := 11) (k := 4) mq183 dd183_32 (by decide) rfl
theorem dd183_35 : decode cX12_readPerson 35 = .ok (.iconst 1, 1) := by decide +kernel
theorem ww183_35 {d : Nat} {l0 l1 l2 l3 : Option mw_V} {st : List mw_V} {σ : mw_S} {Q : Option mw_V → mw_S → Prop} : mw_WP d 183 35 [l0, l1, l2, l3] st σ Q ↔ mw_WP d 183 36 [l0, l1, l2, l3] (jI (1) :: st) σ Q := WP_iconst mq183 dd183_35 (by decide)
theorem dd183_36 : decode cX12_readPerson 36 = .ok (.iaload, 1) := by decide +kernel
theorem ww183_36 {d : Nat} {l0 l1 l2 l3 : Option mw_V} {z : Int} {a : Nat} {st : List mw_V} {σ : mw_S} {Q : Option mw_V → mw_S → Prop} : mw_WP d 183 36 [l0, l1, l2, l3] (jI z :: jR a :: st) σ Q ↔ ((0 ≤ z ∧ z < mw_lenI a) ∧ mw_WP d 183 37 [l0, l1, l2, l3] (jI (mw_rdI σ a z.toNat) :: st) σ Q) := WP_iaload mq183 dd183_36
theorem dd183_37 : decode cX12_readPerson 37 = .ok (.iconst 1, 1) := by decide +kernel
theorem ww183_37 {d : Nat} {l0 l1 l2 l3 : Option mw_V} {st : List mw_V} {σ : mw_S} {Q : Option mw_V → mw_S → Prop} : mw_WP d 183 37 [l0, l1, l2, l3] st σ Q ↔ mw_WP d 183 38 [l0, l1, l2, l3] (jI (1) :: st) σ Q := WP_iconst mq183 dd183_37 (by decide)
theorem dd183_38 : decode cX12_readPerson 38 = .ok (.isub, 1) := by decide +kernel
theorem ww183_38 {d : Nat} {l0 l1 l2 l3 : Option mw_V} {x y : Int} {st : List mw_V} {σ : mw_S} {Q : Option mw_V → mw_S → Prop} : mw_WP d 183 38 [l0, l1, l2, l3] (jI y :: jI x :: st) σ Q ↔ mw_WP d 183 39 [l0, l1, l2, l3] (jI (w32 (x - y)) :: st) σ Q := WP_isub mq183 dd183_38
theorem dd183_39 : decode cX12_readPerson 39 = .ok (.invokevirtual 163, 3) := by decide +kernel
theorem ww183_39 {d : Nat} {l0 l1 l2 l3 : Option mw_V} {v0 v1 : mw_V} {a : Nat} {st : List mw_V} {σ : mw_S} {Q : Option mw_V → mw_S → Prop} (hr : mw_rc a = 12) (h8 : (st.map mw_cat).sum ≤ 8) : mw_WP d 183 39 [l0, l1, l2, l3] (v1 :: v0 :: jR a :: st) σ Q ↔ mw_Call d 181 [jR a, v0, v1] σ (fun r1 s1 => mw_WP d 183 42 [l0, l1, l2, l3] (r1.toList ++ st) s1 Q) := WP_inv (as := [v1, v0]) mq183 dd183_39 (by decide) mq181 rfl hr h8
theorem dd183_42 : decode cX12_readPerson 42 = .ok (.istore_n 2, 1) := by decide +kernel
theorem ww183_42 {d : Nat} {l0 l1 l2 l3 : Option mw_V} {x : Int} {st : List mw_V} {σ : mw_S} {Q : Option mw_V → mw_S → Prop} (h : mw_nlo l1 = true) : mw_WP d 183 42 [l0, l1, l2, l3] (jI x :: st) σ Q ↔ mw_WP d 183 43 [l0, l1, some (jI x), l3] st σ Q := WP_istore_n mq183 dd183_42 (Nat.le_of_ble_eq_true rfl) (mw_nl_of (i := 1) rfl h) rfl
theorem dd183_43 : decode cX12_readPerson 43 = .ok (.aload_n 0, 1) := by decide +kernel
theorem ww183_43 {d : Nat} {l1 l2 l3 : Option mw_V} {x : Nat} {st : List mw_V} {σ : mw_S} {Q : Option mw_V → mw_S → Prop} : mw_WP d 183 43 [some (jR x), l1, l2, l3] st σ Q ↔ mw_WP d 183 44 [some (jR x), l1, l2, l3] (jR x :: st) σ Q := WP_aload_n mq183 dd183_43 rfl
theorem dd183_44 : decode cX12_readPerson 44 = .ok (.bipush 11, 2) := by decide +kernel
theorem ww183_44 {d : Nat} {l0 l1 l2 l3 : Option mw_V} {st : List mw_V} {σ : mw_S} {Q : Option mw_V → mw_S → Prop} : mw_WP d 183 44 [l0, l1, l2, l3] st σ Q ↔ mw_WP d 183 46 [l0, l1, l2, l3] (jI (11) :: st) σ Q := WP_bipush mq183 dd183_44 (by decide)
theorem dd183_46 : decode cX12_readPerson 46 = .ok (.invokevirtual 167, 3) := by decide +kernel
theorem ww183_46 {d : Nat} {l0 l1 l2 l3 : Option mw_V} {v0 : mw_V} {a : Nat} {st : List mw_V} {σ : mw_S} {Q : Option mw_V → mw_S → Prop} (hr : mw_rc a = 12) (h8 : (st.map mw_cat).sum ≤ 8) : mw_WP d 183 46 [l0, l1, l2, l3] (v0 :: jR a :: st) σ Q ↔ mw_Call d 180 [jR a, v0] σ (fun r1 s1 => mw_WP d 183 49 [l0, l1, l2, l3] (r1.toList ++ st) s1 Q) := WP_inv (as := [v0]) mq183 dd183_46 (by decide) mq180 rfl hr h8
theorem dd183_49 : decode cX12_readPerson 49 = .ok (.ifCond .eq 12, 3) := by decide +kernel
theorem ww183_49 {d : Nat} {l0 l1 l2 l3 : Option mw_V} {x : Int} {st : List mw_V} {σ : mw_S} {Q : Option mw_V → mw_S → Prop} : mw_WP d 183 49 [l0, l1, l2, l3] (jI x :: st) σ Q ↔ (if x = 0 then mw_WP d 183 61 [l0, l1, l2, l3] st σ Q else mw_WP d 183 52 [l0, l1, l2, l3] st σ Q) := WP_if_eq mq183 dd183_49 (by decide)
theorem dd183_52 : decode cX12_readPerson 52 = .ok (.aload_n 0, 1) := by decide +kernel
theorem ww183_52 {d : Nat} {l1 l2 l3 : Option mw_V} {x : Nat} {st : List mw_V} {σ : mw_S} {Q : Option mw_V → mw_S → Prop} : mw_WP d 183 52 [some (jR x), l1, l2, l3] st σ Q ↔ mw_WP d 183 53 [some (jR x), l1, l2, l3] (jR x :: st) σ Q := WP_aload_n mq183 dd183_52 rfl
theorem dd183_53 : decode cX12_readPerson 53 = .ok (.iconst 0, 1) := by decide +kernel
theorem ww183_53 {d : Nat} {l0 l1 l2 l3 : Option mw_V} {st : List mw_V} {σ : mw_S} {Q : Option mw_V → mw_S → Prop} : mw_WP d 183 53 [l0, l1, l2, l3] st σ Q ↔ mw_WP d 183 54 [l0, l1, l2, l3] (jI (0) :: st) σ Q := WP_iconst mq183 dd183_53 (by decide)
theorem dd183_54 : decode cX12_readPerson 54 = .ok (.iconst 4, 1) := by decide +kernel
theorem ww183_54 {d : Nat} {l0 l1 l2 l3 : Option mw_V} {st : List mw_V} {σ : mw_S} {Q : Option mw_V → mw_S → Prop} : mw_WP d 183 54 [l0, l1, l2, l3] st σ Q ↔ mw_WP d 183 55 [l0, l1, l2, l3] (jI (4) :: st) σ Q := WP_iconst mq183 dd183_54 (by decide)
theorem dd183_55 : decode cX12_readPerson 55 = .ok (.invokevirtual 163, 3) := by decide +kernel
theorem ww183_55 {d : Nat} {l0 l1 l2 l3 : Option mw_V} {v0 v1 : mw_V} {a : Nat} {st : List mw_V} {σ : mw_S} {Q : Option mw_V → mw_S → Prop} (hr : mw_rc a = 12) (h8 : (st.map mw_cat).sum ≤ 8) : mw_WP d 183 55 [l0, l1, l2, l3] (v1 :: v0 :: jR a :: st) σ Q ↔ mw_Call d 181 [jR a, v0, v1] σ (fun r1 s1 => mw_WP d 183 58 [l0, l1, l2, l3] (r1.toList ++ st) s1 Q) := WP_inv (as := [v1, v0]) mq183 dd183_55 (by decide) mq181 rfl hr h8
theorem dd183_58 : decode cX12_readPerson 58 = .ok (.goto 4, 3) := by decide +kernel
theorem ww183_58 {d : Nat} {l0 l1 l2 l3 : Option mw_V} {st : List mw_V} {σ : mw_S} {Q : Option mw_V → mw_S → Prop} : mw_WP d 183 58 [l0, l1, l2, l3] st σ Q ↔ mw_WP d 183 62 [l0, l1, l2, l3] st σ Q := WP_goto mq183 dd183_58 (by decide)
theorem dd183_61 : decode cX12_readPerson 61 = .ok (.iconst 1, 1) := by decide +kernel
theorem ww183_61 {d : Nat} {l0 l1 l2 l3 : Option mw_V} {st : List mw_V} {σ : mw_S} {Q : Option mw_V → mw_S → Prop} : mw_WP d 183 61 [l0, l1, l2, l3] st σ Q ↔ mw_WP d 183 62 [l0, l1, l2, l3] (jI (1) :: st) σ Q := WP_iconst mq183 dd183_61 (by decide)
theorem dd183_62 : decode cX12_readPerson 62 = .ok (.istore_n 3, 1) := by decide +kernel
theorem ww183_62 {d : Nat} {l0 l1 l2 l3 : Option mw_V} {x : Int} {st : List mw_V} {σ : mw_S} {Q : Option mw_V → mw_S → Prop} (h : mw_nlo l2 = true) : mw_WP d 183 62 [l0, l1, l2, l3] (jI x :: st) σ Q ↔ mw_WP d 183 63 [l0, l1, l2, some (jI x)] st σ Q := WP_istore_n mq183 dd183_62 (Nat.le_of_ble_eq_true rfl) (mw_nl_of (i := 2) rfl h) rfl
theorem dd183_63 : decode cX12_readPerson 63 = .ok (.aload_n 0, 1) := by decide +kernel
theorem ww183_63 {d : Nat} {l1 l2 l3 : Option mw_V} {x : Nat} {st : List mw_V} {σ : mw_S} {Q : Option mw_V → mw_S → Prop} : mw_WP d 183 63 [some (jR x), l1, l2, l3] st σ Q ↔ mw_WP d 183 64 [some (jR x), l1, l2, l3] (jR x :: st) σ Q := WP_aload_n mq183 dd183_63 rfl
theorem dd183_64 : decode cX12_readPerson 64 = .ok (.getfield 143, 3) := by decide +kernel
theorem ww183_64 {d : Nat} {l0 l1 l2 l3 : Option mw_V} {st : List mw_V} {σ : mw_S} {Q : Option mw_V → mw_S → Prop} : mw_WP d 183 64 [l0, l1, l2, l3] (jR 100 :: st) σ Q ↔ mw_WP d 183 67 [l0, l1, l2, l3] (jI (σ 100 11) :: st) σ Q := WP_getI (ci := 11) (k := 11) mq183 dd183_64 (by decide) (Or.inl rfl)
theorem dd183_67 : decode cX12_readPerson 67 = .ok (.ifCond .eq 4, 3) := by decide +kernel
theorem ww183_67 {d : Nat} {l0 l1 l2 l3 : Option mw_V} {x : Int} {st : List mw_V} {σ : mw_S} {Q : Option mw_V → mw_S → Prop} : mw_WP d 183 67 [l0, l1, l2, l3] (jI x :: st) σ Q ↔ (if x = 0 then mw_WP d 183 71 [l0, l1, l2, l3] st σ Q else mw_WP d 183 70 [l0, l1, l2, l3] st σ Q) := WP_if_eq mq183 dd183_67 (by decide)
theorem dd183_70 : decode cX12_readPerson 70 = .ok (.return_, 1) := by decide +kernel
theorem ww183_70 {d : Nat} {l0 l1 l2 l3 : Option mw_V} {σ : mw_S} {Q : Option mw_V → mw_S → Prop} : mw_WP d 183 70 [l0, l1, l2, l3] [] σ Q ↔ Q none σ := WP_return mq183 dd183_70 rfl
theorem dd183_71 : decode cX12_readPerson 71 = .ok (.aload_n 0, 1) := by decide +kernel
theorem ww183_71 {d : Nat} {l1 l2 l3 : Option mw_V} {x : Nat} {st : List mw_V} {σ : mw_S} {Q : Option mw_V → mw_S → Prop} : mw_WP d 183 71 [some (jR x), l1, l2, l3] st σ Q ↔ mw_WP d 183 72 [some (jR x), l1, l2, l3] (jR x :: st) σ Q := WP_aload_n mq183 dd183_71 rfl
theorem dd183_72 : decode cX12_readPerson 72 = .ok (.getfield 24, 3) := by decide +kernel
theorem ww183_72 {d : Nat} {l0 l1 l2 l3 : Option mw_V} {st : List mw_V} {σ : mw_S} {Q : Option mw_V → mw_S → Prop} : mw_WP d 183 72 [l0, l1, l2, l3] (jR 100 :: st) σ Q ↔ mw_WP d 183 75 [l0, l1, l2, l3] (jR 104 :: st) σ Q := WP_getR (ci := 11) (k := 4) mq183 dd183_72 (by decide) rfl
theorem dd183_75 : decode cX12_readPerson 75 = .ok (.bipush 41, 2) := by decide +kernel
theorem ww183_75 {d : Nat} {l0 l1 l2 l3 : Option mw_V} {st : List mw_V} {σ : mw_S} {Q : Option mw_V → mw_S → Prop} : mw_WP d 183 75 [l0, l1, l2, l3] st σ Q ↔ mw_WP d 183 77 [l0, l1, l2, l3] (jI (41) :: st) σ Q := WP_bipush mq183 dd183_75 (by decide)
theorem dd183_77 : decode cX12_readPerson 77 = .ok (.iload_n 1, 1) := by decide +kernel
theorem ww183_77 {d : Nat} {l0 l2 l3 : Option mw_V} {x : Int} {st : List mw_V} {σ : mw_S} {Q : Option mw_V → mw_S → Prop} : mw_WP d 183 77 [l0, some (jI x), l2, l3] st σ Q ↔ mw_WP d 183 78 [l0, some (jI x), l2, l3] (jI x :: st) σ Q := WP_iload_n mq183 dd183_77 rfl
theorem dd183_78 : decode cX12_readPerson 78 = .ok (.iadd, 1) := by decide +kernel
theorem ww183_78 {d : Nat} {l0 l1 l2 l3 : Option mw_V} {x y : Int} {st : List mw_V} {σ : mw_S} {Q : Option mw_V → mw_S → Prop} : mw_WP d 183 78 [l0, l1, l2, l3] (jI y :: jI x :: st) σ Q ↔ mw_WP d 183 79 [l0, l1, l2, l3] (jI (w32 (x + y)) :: st) σ Q := WP_iadd mq183 dd183_78
theorem dd183_79 : decode cX12_readPerson 79 = .ok (.iload_n 2, 1) := by decide +kernel
theorem ww183_79 {d : Nat} {l0 l1 l3 : Option mw_V} {x : Int} {st : List mw_V} {σ : mw_S} {Q : Option mw_V → mw_S → Prop} : mw_WP d 183 79 [l0, l1, some (jI x), l3] st σ Q ↔ mw_WP d 183 80 [l0, l1, some (jI x), l3] (jI x :: st) σ Q := WP_iload_n mq183 dd183_79 rfl
theorem dd183_80 : decode cX12_readPerson 80 = .ok (.iastore, 1) := by decide +kernel
theorem ww183_80 {d : Nat} {l0 l1 l2 l3 : Option mw_V} {x z : Int} {a : Nat} {st : List mw_V} {σ : mw_S} {Q : Option mw_V → mw_S → Prop} : mw_WP d 183 80 [l0, l1, l2, l3] (jI x :: jI z :: jR a :: st) σ Q ↔ ((0 ≤ z ∧ z < mw_lenW 0 a) ∧ mw_WP d 183 81 [l0, l1, l2, l3] st (upS σ a z.toNat x) Q) := WP_iastore mq183 dd183_80
theorem dd183_81 : decode cX12_readPerson 81 = .ok (.aload_n 0, 1) := by decide +kernel
theorem ww183_81 {d : Nat} {l1 l2 l3 : Option mw_V} {x : Nat} {st : List mw_V} {σ : mw_S} {Q : Option mw_V → mw_S → Prop} : mw_WP d 183 81 [some (jR x), l1, l2, l3] st σ Q ↔ mw_WP d 183 82 [some (jR x), l1, l2, l3] (jR x :: st) σ Q := WP_aload_n mq183 dd183_81 rfl
theorem dd183_82 : decode cX12_readPerson 82 = .ok (.getfield 24, 3) := by decide +kernel
theorem ww183_82 {d : Nat} {l0 l1 l2 l3 : Option mw_V} {st : List mw_V} {σ : mw_S} {Q : Option mw_V → mw_S → Prop} : mw_WP d 183 82 [l0, l1, l2, l3] (jR 100 :: st) σ Q ↔ mw_WP d 183 85 [l0, l1, l2, l3] (jR 104 :: st) σ Q := WP_getR (ci := 11) (k := 4) mq183 dd183_82 (by decide) rfl
theorem dd183_85 : decode cX12_readPerson 85 = .ok (.bipush 44, 2) := by decide +kernel
theorem ww183_85 {d : Nat} {l0 l1 l2 l3 : Option mw_V} {st : List mw_V} {σ : mw_S} {Q : Option mw_V → mw_S → Prop} : mw_WP d 183 85 [l0, l1, l2, l3] st σ Q ↔ mw_WP d 183 87 [l0, l1, l2, l3] (jI (44) :: st) σ Q := WP_bipush mq183 dd183_85 (by decide)
theorem dd183_87 : decode cX12_readPerson 87 = .ok (.iload_n 1, 1) := by decide +kernel
theorem ww183_87 {d : Nat} {l0 l2 l3 : Option mw_V} {x : Int} {st : List mw_V} {σ : mw_S} {Q : Option mw_V → mw_S → Prop} : mw_WP d 183 87 [l0, some (jI x), l2, l3] st σ Q ↔ mw_WP d 183 88 [l0, some (jI x), l2, l3] (jI x :: st) σ Q := WP_iload_n mq183 dd183_87 rfl
theorem dd183_88 : decode cX12_readPerson 88 = .ok (.iadd, 1) := by decide +kernel
theorem ww183_88 {d : Nat} {l0 l1 l2 l3 : Option mw_V} {x y : Int} {st : List mw_V} {σ : mw_S} {Q : Option mw_V → mw_S → Prop} : mw_WP d 183 88 [l0, l1, l2, l3] (jI y :: jI x :: st) σ Q ↔ mw_WP d 183 89 [l0, l1, l2, l3] (jI (w32 (x + y)) :: st) σ Q := WP_iadd mq183 dd183_88
theorem dd183_89 : decode cX12_readPerson 89 = .ok (.iload_n 2, 1) := by decide +kernel
theorem ww183_89 {d : Nat} {l0 l1 l3 : Option mw_V} {x : Int} {st : List mw_V} {σ : mw_S} {Q : Option mw_V → mw_S → Prop} : mw_WP d 183 89 [l0, l1, some (jI x), l3] st σ Q ↔ mw_WP d 183 90 [l0, l1, some (jI x), l3] (jI x :: st) σ Q := WP_iload_n mq183 dd183_89 rfl
theorem dd183_90 : decode cX12_readPerson 90 = .ok (.iastore, 1) := by decide +kernel
theorem ww183_90 {d : Nat} {l0 l1 l2 l3 : Option mw_V} {x z : Int} {a : Nat} {st : List mw_V} {σ : mw_S} {Q : Option mw_V → mw_S → Prop} : mw_WP d 183 90 [l0, l1, l2, l3] (jI x :: jI z :: jR a :: st) σ Q ↔ ((0 ≤ z ∧ z < mw_lenW 0 a) ∧ mw_WP d 183 91 [l0, l1, l2, l3] st (upS σ a z.toNat x) Q) := WP_iastore mq183 dd183_90
theorem dd183_91 : decode cX12_readPerson 91 = .ok (.aload_n 0, 1) := by decide +kernel
theorem ww183_91 {d : Nat} {l1 l2 l3 : Option mw_V} {x : Nat} {st : List mw_V} {σ : mw_S} {Q : Option mw_V → mw_S → Prop} : mw_WP d 183 91 [some (jR x), l1, l2, l3] st σ Q ↔ mw_WP d 183 92 [some (jR x), l1, l2, l3] (jR x :: st) σ Q := WP_aload_n mq183 dd183_91 rfl
theorem dd183_92 : decode cX12_readPerson 92 = .ok (.getfield 24, 3) := by decide +kernel
theorem ww183_92 {d : Nat} {l0 l1 l2 l3 : Option mw_V} {st : List mw_V} {σ : mw_S} {Q : Option mw_V → mw_S → Prop} : mw_WP d 183 92 [l0, l1, l2, l3] (jR 100 :: st) σ Q ↔ mw_WP d 183 95 [l0, l1, l2, l3] (jR 104 :: st) σ Q := WP_getR (ci := 11) (k := 4) mq183 dd183_92 (by decide) rfl
theorem dd183_95 : decode cX12_readPerson 95 = .ok (.bipush 6, 2) := by decide +kernel
theorem ww183_95 {d : Nat} {l0 l1 l2 l3 : Option mw_V} {st : List mw_V} {σ : mw_S} {Q : Option mw_V → mw_S → Prop} : mw_WP d 183 95 [l0, l1, l2, l3] st σ Q ↔ mw_WP d 183 97 [l0, l1, l2, l3] (jI (6) :: st) σ Q := WP_bipush mq183 dd183_95 (by decide)
theorem dd183_97 : decode cX12_readPerson 97 = .ok (.iload_n 1, 1) := by decide +kernel
theorem ww183_97 {d : Nat} {l0 l2 l3 : Option mw_V} {x : Int} {st : List mw_V} {σ : mw_S} {Q : Option mw_V → mw_S → Prop} : mw_WP d 183 97 [l0, some (jI x), l2, l3] st σ Q ↔ mw_WP d 183 98 [l0, some (jI x), l2, l3] (jI x :: st) σ Q := WP_iload_n mq183 dd183_97 rfl
theorem dd183_98 : decode cX12_readPerson 98 = .ok (.iadd, 1) := by decide +kernel
theorem ww183_98 {d : Nat} {l0 l1 l2 l3 : Option mw_V} {x y : Int} {st : List mw_V} {σ : mw_S} {Q : Option mw_V → mw_S → Prop} : mw_WP d 183 98 [l0, l1, l2, l3] (jI y :: jI x :: st) σ Q ↔ mw_WP d 183 99 [l0, l1, l2, l3] (jI (w32 (x + y)) :: st) σ Q := WP_iadd mq183 dd183_98
theorem dd183_99 : decode cX12_readPerson 99 = .ok (.iload_n 3, 1) := by decide +kernel
theorem ww183_99 {d : Nat} {l0 l1 l2 : Option mw_V} {x : Int} {st : List mw_V} {σ : mw_S} {Q : Option mw_V → mw_S → Prop} : mw_WP d 183 99 [l0, l1, l2, some (jI x)] st σ Q ↔ mw_WP d 183 100 [l0, l1, l2, some (jI x)] (jI x :: st) σ Q := WP_iload_n mq183 dd183_99 rfl
theorem dd183_100 : decode cX12_readPerson 100 = .ok (.iastore, 1) := by decide +kernel
theorem ww183_100 {d : Nat} {l0 l1 l2 l3 : Option mw_V} {x z : Int} {a : Nat} {st : List mw_V} {σ : mw_S} {Q : Option mw_V → mw_S → Prop} : mw_WP d 183 100 [l0, l1, l2, l3] (jI x :: jI z :: jR a :: st) σ Q ↔ ((0 ≤ z ∧ z < mw_lenW 0 a) ∧ mw_WP d 183 101 [l0, l1, l2, l3] st (upS σ a z.toNat x) Q) := WP_iastore mq183 dd183_100
theorem dd183_101 : decode cX12_readPerson 101 = .ok (.aload_n 0, 1) := by decide +kernel
theorem ww183_101 {d : Nat} {l1 l2 l3 : Option mw_V} {x : Nat} {st : List mw_V} {σ : mw_S} {Q : Option mw_V → mw_S → Prop} : mw_WP d 183 101 [some (jR x), l1, l2, l3] st σ Q ↔ mw_WP d 183 102 [some (jR x), l1, l2, l3] (jR x :: st) σ Q := WP_aload_n mq183 dd183_101 rfl
theorem dd183_102 : decode cX12_readPerson 102 = .ok (.getfield 24, 3) := by decide +kernel
theorem ww183_102 {d : Nat} {l0 l1 l2 l3 : Option mw_V} {st : List mw_V} {σ : mw_S} {Q : Option mw_V → mw_S → Prop} : mw_WP d 183 102 [l0, l1, l2, l3] (jR 100 :: st) σ Q ↔ mw_WP d 183 105 [l0, l1, l2, l3] (jR 104 :: st) σ Q := WP_getR (ci := 11) (k := 4) mq183 dd183_102 (by decide) rfl
theorem dd183_105 : decode cX12_readPerson 105 = .ok (.iconst 2, 1) := by decide +kernel
theorem ww183_105 {d : Nat} {l0 l1 l2 l3 : Option mw_V} {st : List mw_V} {σ : mw_S} {Q : Option mw_V → mw_S → Prop} : mw_WP d 183 105 [l0, l1, l2, l3] st σ Q ↔ mw_WP d 183 106 [l0, l1, l2, l3] (jI (2) :: st) σ Q := WP_iconst mq183 dd183_105 (by decide)
theorem dd183_106 : decode cX12_readPerson 106 = .ok (.dup2, 1) := by decide +kernel
theorem ww183_106 {d : Nat} {l0 l1 l2 l3 : Option mw_V} {v w : mw_V} {st : List mw_V} {σ : mw_S} {Q : Option mw_V → mw_S → Prop} (h : mw_cat v = 1) (h2 : mw_cat w = 1) : mw_WP d 183 106 [l0, l1, l2, l3] (v :: w :: st) σ Q ↔ mw_WP d 183 107 [l0, l1, l2, l3] (v :: w :: v :: w :: st) σ Q := WP_dup2 mq183 dd183_106 h h2
theorem dd183_107 : decode cX12_readPerson 107 = .ok (.iaload, 1) := by decide +kernel
theorem ww183_107 {d : Nat} {l0 l1 l2 l3 : Option mw_V} {z : Int} {a : Nat} {st : List mw_V} {σ : mw_S} {Q : Option mw_V → mw_S → Prop} : mw_WP d 183 107 [l0, l1, l2, l3] (jI z :: jR a :: st) σ Q ↔ ((0 ≤ z ∧ z < mw_lenI a) ∧ mw_WP d 183 108 [l0, l1, l2, l3] (jI (mw_rdI σ a z.toNat) :: st) σ Q) := WP_iaload mq183 dd183_107
theorem dd183_108 : decode cX12_readPerson 108 = .ok (.iconst 1, 1) := by decide +kernel
theorem ww183_108 {d : Nat} {l0 l1 l2 l3 : Option mw_V} {st : List mw_V} {σ : mw_S} {Q : Option mw_V → mw_S → Prop} : mw_WP d 183 108 [l0, l1, l2, l3] st σ Q ↔ mw_WP d 183 109 [l0, l1, l2, l3] (jI (1) :: st) σ Q := WP_iconst mq183 dd183_108 (by decide)
theorem dd183_109 : decode cX12_readPerson 109 = .ok (.iadd, 1) := by decide +kernel
theorem ww183_109 {d : Nat} {l0 l1 l2 l3 : Option mw_V} {x y : Int} {st : List mw_V} {σ : mw_S} {Q : Option mw_V → mw_S → Prop} : mw_WP d 183 109 [l0, l1, l2, l3] (jI y :: jI x :: st) σ Q ↔ mw_WP d 183 110 [l0, l1, l2, l3] (jI (w32 (x + y)) :: st) σ Q := WP_iadd mq183 dd183_109
theorem dd183_110 : decode cX12_readPerson 110 = .ok (.iastore, 1) := by decide +kernel
theorem ww183_110 {d : Nat} {l0 l1 l2 l3 : Option mw_V} {x z : Int} {a : Nat} {st : List mw_V} {σ : mw_S} {Q : Option mw_V → mw_S → Prop} : mw_WP d 183 110 [l0, l1, l2, l3] (jI x :: jI z :: jR a :: st) σ Q ↔ ((0 ≤ z ∧ z < mw_lenW 0 a) ∧ mw_WP d 183 111 [l0, l1, l2, l3] st (upS σ a z.toNat x) Q) := WP_iastore mq183 dd183_110
theorem dd183_111 : decode cX12_readPerson 111 = .ok (.aload_n 0, 1) := by decide +kernel
theorem ww183_111 {d : Nat} {l1 l2 l3 : Option mw_V} {x : Nat} {st : List mw_V} {σ : mw_S} {Q : Option mw_V → mw_S → Prop} : mw_WP d 183 111 [some (jR x), l1, l2, l3] st σ Q ↔ mw_WP d 183 112 [some (jR x), l1, l2, l3] (jR x :: st) σ Q := WP_aload_n mq183 dd183_111 rfl
theorem dd183_112 : decode cX12_readPerson 112 = .ok (.iconst 1, 1) := by decide +kernel
theorem ww183_112 {d : Nat} {l0 l1 l2 l3 : Option mw_V} {st : List mw_V} {σ : mw_S} {Q : Option mw_V → mw_S → Prop} : mw_WP d 183 112 [l0, l1, l2, l3] st σ Q ↔ mw_WP d 183 113 [l0, l1, l2, l3] (jI (1) :: st) σ Q := WP_iconst mq183 dd183_112 (by decide)
theorem dd183_113 : decode cX12_readPerson 113 = .ok (.putfield 170, 3) := by decide +kernel
theorem ww183_113 {d : Nat} {l0 l1 l2 l3 : Option mw_V} {v : Int} {st : List mw_V} {σ : mw_S} {Q : Option mw_V → mw_S → Prop} : mw_WP d 183 113 [l0, l1, l2, l3] (jI v :: jR 100 :: st) σ Q ↔ ((v = 0 ∨ v = 1) ∧ mw_WP d 183 116 [l0, l1, l2, l3] st (upS σ 100 15 v) Q) := WP_putZ (ci := 11) (k := 15) mq183 dd183_113 (by decide) rfl
theorem dd183_116 : decode cX12_readPerson 116 = .ok (.return_, 1) := by decide +kernel
theorem ww183_116 {d : Nat} {l0 l1 l2 l3 : Option mw_V} {σ : mw_S} {Q : Option mw_V → mw_S → Prop} : mw_WP d 183 116 [l0, l1, l2, l3] [] σ Q ↔ Q none σ := WP_return mq183 dd183_116 rfl
theorem ee184 {d : Nat} {a : Nat} {σ : mw_S} {Q : Option mw_V → mw_S → Prop} : mw_Call (d + 1) 184 [jR a] σ Q ↔ mw_WP d 184 0 [some (jR a), none, none] [] σ Q := CL_u mq184 (Nat.le_of_ble_eq_true rfl) rfl
theorem dd184_0 : decode cX12_readThing 0 = .ok (.aload_n 0, 1) := by decide +kernel
theorem ww184_0 {d : Nat} {l1 l2 : Option mw_V} {x : Nat} {st : List mw_V} {σ : mw_S} {Q : Option mw_V → mw_S → Prop} : mw_WP d 184 0 [some (jR x), l1, l2] st σ Q ↔ mw_WP d 184 1 [some (jR x), l1, l2] (jR x :: st) σ Q := WP_aload_n mq184 dd184_0 rfl
theorem dd184_1 : decode cX12_readThing 1 = .ok (.getfield 24, 3) := by decide +kernel
theorem ww184_1 {d : Nat} {l0 l1 l2 : Option mw_V} {st : List mw_V} {σ : mw_S} {Q : Option mw_V → mw_S → Prop} : mw_WP d 184 1 [l0, l1, l2] (jR 100 :: st) σ Q ↔ mw_WP d 184 4 [l0, l1, l2] (jR 104 :: st) σ Q := WP_getR (ci := 11) (k := 4) mq184 dd184_1 (by decide) rfl
theorem dd184_4 : decode cX12_readThing 4 = .ok (.iconst 3, 1) := by decide +kernel
theorem ww184_4 {d : Nat} {l0 l1 l2 : Option mw_V} {st : List mw_V} {σ : mw_S} {Q : Option mw_V → mw_S → Prop} : mw_WP d 184 4 [l0, l1, l2] st σ Q ↔ mw_WP d 184 5 [l0, l1, l2] (jI (3) :: st) σ Q := WP_iconst mq184 dd184_4 (by decide)
theorem dd184_5 : decode cX12_readThing 5 = .ok (.iaload, 1) := by decide +kernel
theorem ww184_5 {d : Nat} {l0 l1 l2 : Option mw_V} {z : Int} {a : Nat} {st : List mw_V} {σ : mw_S} {Q : Option mw_V → mw_S → Prop} : mw_WP d 184 5 [l0, l1, l2] (jI z :: jR a :: st) σ Q ↔ ((0 ≤ z ∧ z < mw_lenI a) ∧ mw_WP d 184 6 [l0, l1, l2] (jI (mw_rdI σ a z.toNat) :: st) σ Q) := WP_iaload mq184 dd184_5
theorem dd184_6 : decode cX12_readThing 6 = .ok (.istore_n 1, 1) := by decide +kernel
theorem ww184_6 {d : Nat} {l0 l1 l2 : Option mw_V} {x : Int} {st : List mw_V} {σ : mw_S} {Q : Option mw_V → mw_S → Prop} (h : mw_nlo l0 = true) : mw_WP d 184 6 [l0, l1, l2] (jI x :: st) σ Q ↔ mw_WP d 184 7 [l0, some (jI x), l2] st σ Q := WP_istore_n mq184 dd184_6 (Nat.le_of_ble_eq_true rfl) (mw_nl_of (i := 0) rfl h) rfl
theorem dd184_7 : decode cX12_readThing 7 = .ok (.iload_n 1, 1) := by decide +kernel
theorem ww184_7 {d : Nat} {l0 l2 : Option mw_V} {x : Int} {st : List mw_V} {σ : mw_S} {Q : Option mw_V → mw_S → Prop} : mw_WP d 184 7 [l0, some (jI x), l2] st σ Q ↔ mw_WP d 184 8 [l0, some (jI x), l2] (jI x :: st) σ Q := WP_iload_n mq184 dd184_7 rfl
theorem dd184_8 : decode cX12_readThing 8 = .ok (.iconst 4, 1) := by decide +kernel
theorem ww184_8 {d : Nat} {l0 l1 l2 : Option mw_V} {st : List mw_V} {σ : mw_S} {Q : Option mw_V → mw_S → Prop} : mw_WP d 184 8 [l0, l1, l2] st σ Q ↔ mw_WP d 184 9 [l0, l1, l2] (jI (4) :: st) σ Q := WP_iconst mq184 dd184_8 (by decide)
theorem dd184_9 : decode cX12_readThing 9 = .ok (.if_icmp .ne 8, 3) := by decide +kernel
theorem ww184_9 {d : Nat} {l0 l1 l2 : Option mw_V} {x y : Int} {st : List mw_V} {σ : mw_S} {Q : Option mw_V → mw_S → Prop} : mw_WP d 184 9 [l0, l1, l2] (jI y :: jI x :: st) σ Q ↔ (if ¬ x = y then mw_WP d 184 17 [l0, l1, l2] st σ Q else mw_WP d 184 12 [l0, l1, l2] st σ Q) := WP_icmp_ne mq184 dd184_9 (by decide)
theorem dd184_12 : decode cX12_readThing 12 = .ok (.aload_n 0, 1) := by decide +kernel
theorem ww184_12 {d : Nat} {l1 l2 : Option mw_V} {x : Nat} {st : List mw_V} {σ : mw_S} {Q : Option mw_V → mw_S → Prop} : mw_WP d 184 12 [some (jR x), l1, l2] st σ Q ↔ mw_WP d 184 13 [some (jR x), l1, l2] (jR x :: st) σ Q := WP_aload_n mq184 dd184_12 rfl
theorem dd184_13 : decode cX12_readThing 13 = .ok (.iconst 4, 1) := by decide +kernel
theorem ww184_13 {d : Nat} {l0 l1 l2 : Option mw_V} {st : List mw_V} {σ : mw_S} {Q : Option mw_V → mw_S → Prop} : mw_WP d 184 13 [l0, l1, l2] st σ Q ↔ mw_WP d 184 14 [l0, l1, l2] (jI (4) :: st) σ Q := WP_iconst mq184 dd184_13 (by decide)
theorem dd184_14 : decode cX12_readThing 14 = .ok (.invokevirtual 155, 3) := by decide +kernel
theorem ww184_14 {d : Nat} {l0 l1 l2 : Option mw_V} {v0 : mw_V} {a : Nat} {st : List mw_V} {σ : mw_S} {Q : Option mw_V → mw_S → Prop} (hr : mw_rc a = 12) (h8 : (st.map mw_cat).sum ≤ 8) : mw_WP d 184 14 [l0, l1, l2] (v0 :: jR a :: st) σ Q ↔ mw_Call d 178 [jR a, v0] σ (fun r1 s1 => mw_WP d 184 17 [l0, l1, l2] (r1.toList ++ st) s1 Q) := WP_inv (as := [v0]) mq184 dd184_14 (by decide) mq178 rfl hr h8
theorem dd184_17 : decode cX12_readThing 17 = .ok (.aload_n 0, 1) := by decide +kernel
theorem ww184_17 {d : Nat} {l1 l2 : Option mw_V} {x : Nat} {st : List mw_V} {σ : mw_S} {Q : Option mw_V → mw_S → Prop} : mw_WP d 184 17 [some (jR x), l1, l2] st σ Q ↔ mw_WP d 184 18 [some (jR x), l1, l2] (jR x :: st) σ Q := WP_aload_n mq184 dd184_17 rfl
theorem dd184_18 : decode cX12_readThing 18 = .ok (.getfield 143, 3) := by decide +kernel
theorem ww184_18 {d : Nat} {l0 l1 l2 : Option mw_V} {st : List mw_V} {σ : mw_S} {Q : Option mw_V → mw_S → Prop} : mw_WP d 184 18 [l0, l1, l2] (jR 100 :: st) σ Q ↔ mw_WP d 184 21 [l0, l1, l2] (jI (σ 100 11) :: st) σ Q := WP_getI (ci := 11) (k := 11) mq184 dd184_18 (by decide) (Or.inl rfl)
theorem dd184_21 : decode cX12_readThing 21 = .ok (.ifCond .eq 4, 3) := by decide +kernel
theorem ww184_21 {d : Nat} {l0 l1 l2 : Option mw_V} {x : Int} {st : List mw_V} {σ : mw_S} {Q : Option mw_V → mw_S → Prop} : mw_WP d 184 21 [l0, l1, l2] (jI x :: st) σ Q ↔ (if x = 0 then mw_WP d 184 25 [l0, l1, l2] st σ Q else mw_WP d 184 24 [l0, l1, l2] st σ Q) := WP_if_eq mq184 dd184_21 (by decide)
theorem dd184_24 : decode cX12_readThing 24 = .ok (.return_, 1) := by decide +kernel
theorem ww184_24 {d : Nat} {l0 l1 l2 : Option mw_V} {σ : mw_S} {Q : Option mw_V → mw_S → Prop} : mw_WP d 184 24 [l0, l1, l2] [] σ Q ↔ Q none σ := WP_return mq184 dd184_24 rfl
theorem dd184_25 : decode cX12_readThing 25 = .ok (.aload_n 0, 1) := by decide +kernel
theorem ww184_25 {d : Nat} {l1 l2 : Option mw_V} {x : Nat} {st : List mw_V} {σ : mw_S} {Q : Option mw_V → mw_S → Prop} : mw_WP d 184 25 [some (jR x), l1, l2] st σ Q ↔ mw_WP d 184 26 [some (jR x), l1, l2] (jR x :: st) σ Q := WP_aload_n mq184 dd184_25 rfl
theorem dd184_26 : decode cX12_readThing 26 = .ok (.invokevirtual 152, 3) := by decide +kernel
theorem ww184_26 {d : Nat} {l0 l1 l2 : Option mw_V} {a : Nat} {st : List mw_V} {σ : mw_S} {Q : Option mw_V → mw_S → Prop} (hr : mw_rc a = 12) (h8 : (st.map mw_cat).sum ≤ 8) : mw_WP d 184 26 [l0, l1, l2] (jR a :: st) σ Q ↔ mw_Call d 177 [jR a] σ (fun r1 s1 => mw_WP d 184 29 [l0, l1, l2] (r1.toList ++ st) s1 Q) := WP_inv (as := []) mq184 dd184_26 (by decide) mq177 rfl hr h8
theorem dd184_29 : decode cX12_readThing 29 = .ok (.aload_n 0, 1) := by decide +kernel
theorem ww184_29 {d : Nat} {l1 l2 : Option mw_V} {x : Nat} {st : List mw_V} {σ : mw_S} {Q : Option mw_V → mw_S → Prop} : mw_WP d 184 29 [some (jR x), l1, l2] st σ Q ↔ mw_WP d 184 30 [some (jR x), l1, l2] (jR x :: st) σ Q := WP_aload_n mq184 dd184_29 rfl
theorem dd184_30 : decode cX12_readThing 30 = .ok (.iconst 0, 1) := by decide +kernel
theorem ww184_30 {d : Nat} {l0 l1 l2 : Option mw_V} {st : List mw_V} {σ : mw_S} {Q : Option mw_V → mw_S → Prop} : mw_WP d 184 30 [l0, l1, l2] st σ Q ↔ mw_WP d 184 31 [l0, l1, l2] (jI (0) :: st) σ Q := WP_iconst mq184 dd184_30 (by decide)
theorem dd184_31 : decode cX12_readThing 31 = .ok (.aload_n 0, 1) := by decide +kernel
theorem ww184_31 {d : Nat} {l1 l2 : Option mw_V} {x : Nat} {st : List mw_V} {σ : mw_S} {Q : Option mw_V → mw_S → Prop} : mw_WP d 184 31 [some (jR x), l1, l2] st σ Q ↔ mw_WP d 184 32 [some (jR x), l1, l2] (jR x :: st) σ Q := WP_aload_n mq184 dd184_31 rfl
theorem dd184_32 : decode cX12_readThing 32 = .ok (.getfield 24, 3) := by decide +kernel
theorem ww184_32 {d : Nat} {l0 l1 l2 : Option mw_V} {st : List mw_V} {σ : mw_S} {Q : Option mw_V → mw_S → Prop} : mw_WP d 184 32 [l0, l1, l2] (jR 100 :: st) σ Q ↔ mw_WP d 184 35 [l0, l1, l2] (jR 104 :: st) σ Q := WP_getR (ci := 11) (k := 4) mq184 dd184_32 (by decide) rfl
theorem dd184_35 : decode cX12_readThing 35 = .ok (.iconst 1, 1) := by decide +kernel
theorem ww184_35 {d : Nat} {l0 l1 l2 : Option mw_V} {st : List mw_V} {σ : mw_S} {Q : Option mw_V → mw_S → Prop} : mw_WP d 184 35 [l0, l1, l2] st σ Q ↔ mw_WP d 184 36 [l0, l1, l2] (jI (1) :: st) σ Q := WP_iconst mq184 dd184_35 (by decide)
theorem dd184_36 : decode cX12_readThing 36 = .ok (.iaload, 1) := by decide +kernel
theorem ww184_36 {d : Nat} {l0 l1 l2 : Option mw_V} {z : Int} {a : Nat} {st : List mw_V} {σ : mw_S} {Q : Option mw_V → mw_S → Prop} : mw_WP d 184 36 [l0, l1, l2] (jI z :: jR a :: st) σ Q ↔ ((0 ≤ z ∧ z < mw_lenI a) ∧ mw_WP d 184 37 [l0, l1, l2] (jI (mw_rdI σ a z.toNat) :: st) σ Q) := WP_iaload mq184 dd184_36
theorem dd184_37 : decode cX12_readThing 37 = .ok (.iconst 1, 1) := by decide +kernel
theorem ww184_37 {d : Nat} {l0 l1 l2 : Option mw_V} {st : List mw_V} {σ : mw_S} {Q : Option mw_V → mw_S → Prop} : mw_WP d 184 37 [l0, l1, l2] st σ Q ↔ mw_WP d 184 38 [l0, l1, l2] (jI (1) :: st) σ Q := WP_iconst mq184 dd184_37 (by decide)
theorem dd184_38 : decode cX12_readThing 38 = .ok (.isub, 1) := by decide +kernel
theorem ww184_38 {d : Nat} {l0 l1 l2 : Option mw_V} {x y : Int} {st : List mw_V} {σ : mw_S} {Q : Option mw_V → mw_S → Prop} : mw_WP d 184 38 [l0, l1, l2] (jI y :: jI x :: st) σ Q ↔ mw_WP d 184 39 [l0, l1, l2] (jI (w32 (x - y)) :: st) σ Q := WP_isub mq184 dd184_38
theorem dd184_39 : decode cX12_readThing 39 = .ok (.invokevirtual 163, 3) := by decide +kernel
theorem ww184_39 {d : Nat} {l0 l1 l2 : Option mw_V} {v0 v1 : mw_V} {a : Nat} {st : List mw_V} {σ : mw_S} {Q : Option mw_V → mw_S → Prop} (hr : mw_rc a = 12) (h8 : (st.map mw_cat).sum ≤ 8) : mw_WP d 184 39 [l0, l1, l2] (v1 :: v0 :: jR a :: st) σ Q ↔ mw_Call d 181 [jR a, v0, v1] σ (fun r1 s1 => mw_WP d 184 42 [l0, l1, l2] (r1.toList ++ st) s1 Q) := WP_inv (as := [v1, v0]) mq184 dd184_39 (by decide) mq181 rfl hr h8
theorem dd184_42 : decode cX12_readThing 42 = .ok (.istore_n 2, 1) := by decide +kernel
theorem ww184_42 {d : Nat} {l0 l1 l2 : Option mw_V} {x : Int} {st : List mw_V} {σ : mw_S} {Q : Option mw_V → mw_S → Prop} (h : mw_nlo l1 = true) : mw_WP d 184 42 [l0, l1, l2] (jI x :: st) σ Q ↔ mw_WP d 184 43 [l0, l1, some (jI x)] st σ Q := WP_istore_n mq184 dd184_42 (Nat.le_of_ble_eq_true rfl) (mw_nl_of (i := 1) rfl h) rfl
theorem dd184_43 : decode cX12_readThing 43 = .ok (.aload_n 0, 1) := by decide +kernel
theorem ww184_43 {d : Nat} {l1 l2 : Option mw_V} {x : Nat} {st : List mw_V} {σ : mw_S} {Q : Option mw_V → mw_S → Prop} : mw_WP d 184 43 [some (jR x), l1, l2] st σ Q ↔ mw_WP d 184 44 [some (jR x), l1, l2] (jR x :: st) σ Q := WP_aload_n mq184 dd184_43 rfl
theorem dd184_44 : decode cX12_readThing 44 = .ok (.bipush 13, 2) := by decide +kernel
theorem ww184_44 {d : Nat} {l0 l1 l2 : Option mw_V} {st : List mw_V} {σ : mw_S} {Q : Option mw_V → mw_S → Prop} : mw_WP d 184 44 [l0, l1, l2] st σ Q ↔ mw_WP d 184 46 [l0, l1, l2] (jI (13) :: st) σ Q := WP_bipush mq184 dd184_44 (by decide)
theorem dd184_46 : decode cX12_readThing 46 = .ok (.invokevirtual 167, 3) := by decide +kernel
theorem ww184_46 {d : Nat} {l0 l1 l2 : Option mw_V} {v0 : mw_V} {a : Nat} {st : List mw_V} {σ : mw_S} {Q : Option mw_V → mw_S → Prop} (hr : mw_rc a = 12) (h8 : (st.map mw_cat).sum ≤ 8) : mw_WP d 184 46 [l0, l1, l2] (v0 :: jR a :: st) σ Q ↔ mw_Call d 180 [jR a, v0] σ (fun r1 s1 => mw_WP d 184 49 [l0, l1, l2] (r1.toList ++ st) s1 Q) := WP_inv (as := [v0]) mq184 dd184_46 (by decide) mq180 rfl hr h8
theorem dd184_49 : decode cX12_readThing 49 = .ok (.ifCond .eq 6, 3) := by decide +kernel
theorem ww184_49 {d : Nat} {l0 l1 l2 : Option mw_V} {x : Int} {st : List mw_V} {σ : mw_S} {Q : Option mw_V → mw_S → Prop} : mw_WP d 184 49 [l0, l1, l2] (jI x :: st) σ Q ↔ (if x = 0 then mw_WP d 184 55 [l0, l1, l2] st σ Q else mw_WP d 184 52 [l0, l1, l2] st σ Q) := WP_if_eq mq184 dd184_49 (by decide)
theorem dd184_52 : decode cX12_readThing 52 = .ok (.iinc 2 10, 3) := by decide +kernel
theorem ww184_52 {d : Nat} {l0 l1 : Option mw_V} {x : Int} {st : List mw_V} {σ : mw_S} {Q : Option mw_V → mw_S → Prop} (h : mw_nlo l1 = true) : mw_WP d 184 52 [l0, l1, some (jI x)] st σ Q ↔ mw_WP d 184 55 [l0, l1, some (jI (w32 (x + (10))))] st σ Q := WP_iinc mq184 dd184_52 rfl (Nat.le_of_ble_eq_true rfl) (mw_nl_of (i := 1) rfl h) rfl
theorem dd184_55 : decode cX12_readThing 55 = .ok (.aload_n 0, 1) := by decide +kernel
theorem ww184_55 {d : Nat} {l1 l2 : Option mw_V} {x : Nat} {st : List mw_V} {σ : mw_S} {Q : Option mw_V → mw_S → Prop} : mw_WP d 184 55 [some (jR x), l1, l2] st σ Q ↔ mw_WP d 184 56 [some (jR x), l1, l2] (jR x :: st) σ Q := WP_aload_n mq184 dd184_55 rfl
theorem dd184_56 : decode cX12_readThing 56 = .ok (.getfield 143, 3) := by decide +kernel
theorem ww184_56 {d : Nat} {l0 l1 l2 : Option mw_V} {st : List mw_V} {σ : mw_S} {Q : Option mw_V → mw_S → Prop} : mw_WP d 184 56 [l0, l1, l2] (jR 100 :: st) σ Q ↔ mw_WP d 184 59 [l0, l1, l2] (jI (σ 100 11) :: st) σ Q := WP_getI (ci := 11) (k := 11) mq184 dd184_56 (by decide) (Or.inl rfl)
theorem dd184_59 : decode cX12_readThing 59 = .ok (.ifCond .eq 4, 3) := by decide +kernel
theorem ww184_59 {d : Nat} {l0 l1 l2 : Option mw_V} {x : Int} {st : List mw_V} {σ : mw_S} {Q : Option mw_V → mw_S → Prop} : mw_WP d 184 59 [l0, l1, l2] (jI x :: st) σ Q ↔ (if x = 0 then mw_WP d 184 63 [l0, l1, l2] st σ Q else mw_WP d 184 62 [l0, l1, l2] st σ Q) := WP_if_eq mq184 dd184_59 (by decide)
theorem dd184_62 : decode cX12_readThing 62 = .ok (.return_, 1) := by decide +kernel
theorem ww184_62 {d : Nat} {l0 l1 l2 : Option mw_V} {σ : mw_S} {Q : Option mw_V → mw_S → Prop} : mw_WP d 184 62 [l0, l1, l2] [] σ Q ↔ Q none σ := WP_return mq184 dd184_62 rfl
theorem dd184_63 : decode cX12_readThing 63 = .ok (.aload_n 0, 1) := by decide +kernel
theorem ww184_63 {d : Nat} {l1 l2 : Option mw_V} {x : Nat} {st : List mw_V} {σ : mw_S} {Q : Option mw_V → mw_S → Prop} : mw_WP d 184 63 [some (jR x), l1, l2] st σ Q ↔ mw_WP d 184 64 [some (jR x), l1, l2] (jR x :: st) σ Q := WP_aload_n mq184 dd184_63 rfl
theorem dd184_64 : decode cX12_readThing 64 = .ok (.getfield 24, 3) := by decide +kernel
theorem ww184_64 {d : Nat} {l0 l1 l2 : Option mw_V} {st : List mw_V} {σ : mw_S} {Q : Option mw_V → mw_S → Prop} : mw_WP d 184 64 [l0, l1, l2] (jR 100 :: st) σ Q ↔ mw_WP d 184 67 [l0, l1, l2] (jR 104 :: st) σ Q := WP_getR (ci := 11) (k := 4) mq184 dd184_64 (by decide) rfl
theorem dd184_67 : decode cX12_readThing 67 = .ok (.bipush 50, 2) := by decide +kernel
theorem ww184_67 {d : Nat} {l0 l1 l2 : Option mw_V} {st : List mw_V} {σ : mw_S} {Q : Option mw_V → mw_S → Prop} : mw_WP d 184 67 [l0, l1, l2] st σ Q ↔ mw_WP d 184 69 [l0, l1, l2] (jI (50) :: st) σ Q := WP_bipush mq184 dd184_67 (by decide)
theorem dd184_69 : decode cX12_readThing 69 = .ok (.iload_n 1, 1) := by decide +kernel
theorem ww184_69 {d : Nat} {l0 l2 : Option mw_V} {x : Int} {st : List mw_V} {σ : mw_S} {Q : Option mw_V → mw_S → Prop} : mw_WP d 184 69 [l0, some (jI x), l2] st σ Q ↔ mw_WP d 184 70 [l0, some (jI x), l2] (jI x :: st) σ Q := WP_iload_n mq184 dd184_69 rfl
theorem dd184_70 : decode cX12_readThing 70 = .ok (.iadd, 1) := by decide +kernel
theorem ww184_70 {d : Nat} {l0 l1 l2 : Option mw_V} {x y : Int} {st : List mw_V} {σ : mw_S} {Q : Option mw_V → mw_S → Prop} : mw_WP d 184 70 [l0, l1, l2] (jI y :: jI x :: st) σ Q ↔ mw_WP d 184 71 [l0, l1, l2] (jI (w32 (x + y)) :: st) σ Q := WP_iadd mq184 dd184_70
theorem dd184_71 : decode cX12_readThing 71 = .ok (.iload_n 2, 1) := by decide +kernel
theorem ww184_71 {d : Nat} {l0 l1 : Option mw_V} {x : Int} {st : List mw_V} {σ : mw_S} {Q : Option mw_V → mw_S → Prop} : mw_WP d 184 71 [l0, l1, some (jI x)] st σ Q ↔ mw_WP d 184 72 [l0, l1, some (jI x)] (jI x :: st) σ Q := WP_iload_n mq184 dd184_71 rfl
theorem dd184_72 : decode cX12_readThing 72 = .ok (.iastore, 1) := by decide +kernel
theorem ww184_72 {d : Nat} {l0 l1 l2 : Option mw_V} {x z : Int} {a : Nat} {st : List mw_V} {σ : mw_S} {Q : Option mw_V → mw_S → Prop} : mw_WP d 184 72 [l0, l1, l2] (jI x :: jI z :: jR a :: st) σ Q ↔ ((0 ≤ z ∧ z < mw_lenW 0 a) ∧ mw_WP d 184 73 [l0, l1, l2] st (upS σ a z.toNat x) Q) := WP_iastore mq184 dd184_72
theorem dd184_73 : decode cX12_readThing 73 = .ok (.aload_n 0, 1) := by decide +kernel
theorem ww184_73 {d : Nat} {l1 l2 : Option mw_V} {x : Nat} {st : List mw_V} {σ : mw_S} {Q : Option mw_V → mw_S → Prop} : mw_WP d 184 73 [some (jR x), l1, l2] st σ Q ↔ mw_WP d 184 74 [some (jR x), l1, l2] (jR x :: st) σ Q := WP_aload_n mq184 dd184_73 rfl
theorem dd184_74 : decode cX12_readThing 74 = .ok (.getfield 24, 3) := by decide +kernel
theorem ww184_74 {d : Nat} {l0 l1 l2 : Option mw_V} {st : List mw_V} {σ : mw_S} {Q : Option mw_V → mw_S → Prop} : mw_WP d 184 74 [l0, l1, l2] (jR 100 :: st) σ Q ↔ mw_WP d 184 77 [l0, l1, l2] (jR 104 :: st) σ Q := WP_getR (ci := 11) (k := 4) mq184 dd184_74 (by decide) rfl
theorem dd184_77 : decode cX12_readThing 77 = .ok (.iconst 3, 1) := by decide +kernel
theorem ww184_77 {d : Nat} {l0 l1 l2 : Option mw_V} {st : List mw_V} {σ : mw_S} {Q : Option mw_V → mw_S → Prop} : mw_WP d 184 77 [l0, l1, l2] st σ Q ↔ mw_WP d 184 78 [l0, l1, l2] (jI (3) :: st) σ Q := WP_iconst mq184 dd184_77 (by decide)
theorem dd184_78 : decode cX12_readThing 78 = .ok (.dup2, 1) := by decide +kernel
theorem ww184_78 {d : Nat} {l0 l1 l2 : Option mw_V} {v w : mw_V} {st : List mw_V} {σ : mw_S} {Q : Option mw_V → mw_S → Prop} (h : mw_cat v = 1) (h2 : mw_cat w = 1) : mw_WP d 184 78 [l0, l1, l2] (v :: w :: st) σ Q ↔ mw_WP d 184 79 [l0, l1, l2] (v :: w :: v :: w :: st) σ Q := WP_dup2 mq184 dd184_78 h h2
theorem dd184_79 : decode cX12_readThing 79 = .ok (.iaload, 1) := by decide +kernel
theorem ww184_79 {d : Nat} {l0 l1 l2 : Option mw_V} {z : Int} {a : Nat} {st : List mw_V} {σ : mw_S} {Q : Option mw_V → mw_S → Prop} : mw_WP d 184 79 [l0, l1, l2] (jI z :: jR a :: st) σ Q ↔ ((0 ≤ z ∧ z < mw_lenI a) ∧ mw_WP d 184 80 [l0, l1, l2] (jI (mw_rdI σ a z.toNat) :: st) σ Q) := WP_iaload mq184 dd184_79
theorem dd184_80 : decode cX12_readThing 80 = .ok (.iconst 1, 1) := by decide +kernel
theorem ww184_80 {d : Nat} {l0 l1 l2 : Option mw_V} {st : List mw_V} {σ : mw_S} {Q : Option mw_V → mw_S → Prop} : mw_WP d 184 80 [l0, l1, l2] st σ Q ↔ mw_WP d 184 81 [l0, l1, l2] (jI (1) :: st) σ Q := WP_iconst mq184 dd184_80 (by decide)
theorem dd184_81 : decode cX12_readThing 81 = .ok (.iadd, 1) := by decide +kernel
theorem ww184_81 {d : Nat} {l0 l1 l2 : Option mw_V} {x y : Int} {st : List mw_V} {σ : mw_S} {Q : Option mw_V → mw_S → Prop} : mw_WP d 184 81 [l0, l1, l2] (jI y :: jI x :: st) σ Q ↔ mw_WP d 184 82 [l0, l1, l2] (jI (w32 (x + y)) :: st) σ Q := WP_iadd mq184 dd184_81
theorem dd184_82 : decode cX12_readThing 82 = .ok (.iastore, 1) := by decide +kernel
theorem ww184_82 {d : Nat} {l0 l1 l2 : Option mw_V} {x z : Int} {a : Nat} {st : List mw_V} {σ : mw_S} {Q : Option mw_V → mw_S → Prop} : mw_WP d 184 82 [l0, l1, l2] (jI x :: jI z :: jR a :: st) σ Q ↔ ((0 ≤ z ∧ z < mw_lenW 0 a) ∧ mw_WP d 184 83 [l0, l1, l2] st (upS σ a z.toNat x) Q) := WP_iastore mq184 dd184_82
theorem dd184_83 : decode cX12_readThing 83 = .ok (.aload_n 0, 1) := by decide +kernel
theorem ww184_83 {d : Nat} {l1 l2 : Option mw_V} {x : Nat} {st : List mw_V} {σ : mw_S} {Q : Option mw_V → mw_S → Prop} : mw_WP d 184 83 [some (jR x), l1, l2] st σ Q ↔ mw_WP d 184 84 [some (jR x), l1, l2] (jR x :: st) σ Q := WP_aload_n mq184 dd184_83 rfl
theorem dd184_84 : decode cX12_readThing 84 = .ok (.iconst 1, 1) := by decide +kernel
theorem ww184_84 {d : Nat} {l0 l1 l2 : Option mw_V} {st : List mw_V} {σ : mw_S} {Q : Option mw_V → mw_S → Prop} : mw_WP d 184 84 [l0, l1, l2] st σ Q ↔ mw_WP d 184 85 [l0, l1, l2] (jI (1) :: st) σ Q := WP_iconst mq184 dd184_84 (by decide)
theorem dd184_85 : decode cX12_readThing 85 = .ok (.putfield 170, 3) := by decide +kernel
theorem ww184_85 {d : Nat} {l0 l1 l2 : Option mw_V} {v : Int} {st : List mw_V} {σ : mw_S} {Q : Option mw_V → mw_S → Prop} : mw_WP d 184 85 [l0, l1, l2] (jI v :: jR 100 :: st) σ Q ↔ ((v = 0 ∨ v = 1) ∧ mw_WP d 184 88 [l0, l1, l2] st (upS σ 100 15 v) Q) := WP_putZ (ci := 11) (k := 15) mq184 dd184_85 (by decide) rfl
theorem dd184_88 : decode cX12_readThing 88 = .ok (.return_, 1) := by decide +kernel
theorem ww184_88 {d : Nat} {l0 l1 l2 : Option mw_V} {σ : mw_S} {Q : Option mw_V → mw_S → Prop} : mw_WP d 184 88 [l0, l1, l2] [] σ Q ↔ Q none σ := WP_return mq184 dd184_88 rfl
theorem ee185 {d : Nat} {a : Nat} {z0 : Int} {σ : mw_S} {Q : Option mw_V → mw_S → Prop} : mw_Call (d + 1) 185 [jR a, jI z0] σ Q ↔ mw_WP d 185 0 [some (jR a), some (jI z0)] [] σ Q := CL_u mq185 (Nat.le_of_ble_eq_true rfl) rfl
theorem dd185_0 : decode cX12_codes 0 = .ok (.aload_n 0, 1) := by decide +kernel
theorem ww185_0 {d : Nat} {l1 : Option mw_V} {x : Nat} {st : List mw_V} {σ : mw_S} {Q : Option mw_V → mw_S → Prop} : mw_WP d 185 0 [some (jR x), l1] st σ Q ↔ mw_WP d 185 1 [some (jR x), l1] (jR x :: st) σ Q := WP_aload_n mq185 dd185_0 rfl
theorem dd185_1 : decode cX12_codes 1 = .ok (.getfield 143, 3) := by decide +kernel
theorem ww185_1 {d : Nat} {l0 l1 : Option mw_V} {st : List mw_V} {σ : mw_S} {Q : Option mw_V → mw_S → Prop} : mw_WP d 185 1 [l0, l1] (jR 100 :: st) σ Q ↔ mw_WP d 185 4 [l0, l1] (jI (σ 100 11) :: st) σ Q := WP_getI (ci := 11) (k := 11) mq185 dd185_1 (by decide) (Or.inl rfl)
theorem dd185_4 : decode cX12_codes 4 = .ok (.ifCond .eq 4, 3) := by decide +kernel
theorem ww185_4 {d : Nat} {l0 l1 : Option mw_V} {x : Int} {st : List mw_V} {σ : mw_S} {Q : Option mw_V → mw_S → Prop} : mw_WP d 185 4 [l0, l1] (jI x :: st) σ Q ↔ (if x = 0 then mw_WP d 185 8 [l0, l1] st σ Q else mw_WP d 185 7 [l0, l1] st σ Q) := WP_if_eq mq185 dd185_4 (by decide)
theorem dd185_7 : decode cX12_codes 7 = .ok (.return_, 1) := by decide +kernel
theorem ww185_7 {d : Nat} {l0 l1 : Option mw_V} {σ : mw_S} {Q : Option mw_V → mw_S → Prop} : mw_WP d 185 7 [l0, l1] [] σ Q ↔ Q none σ := WP_return mq185 dd185_7 rfl
theorem dd185_8 : decode cX12_codes 8 = .ok (.aload_n 0, 1) := by decide +kernel
theorem ww185_8 {d : Nat} {l1 : Option mw_V} {x : Nat} {st : List mw_V} {σ : mw_S} {Q : Option mw_V → mw_S → Prop} : mw_WP d 185 8 [some (jR x), l1] st σ Q ↔ mw_WP d 185 9 [some (jR x), l1] (jR x :: st) σ Q := WP_aload_n mq185 dd185_8 rfl
theorem dd185_9 : decode cX12_codes 9 = .ok (.getfield 24, 3) := by decide +kernel
theorem ww185_9 {d : Nat} {l0 l1 : Option mw_V} {st : List mw_V} {σ : mw_S} {Q : Option mw_V → mw_S → Prop} : mw_WP d 185 9 [l0, l1] (jR 100 :: st) σ Q ↔ mw_WP d 185 12 [l0, l1] (jR 104 :: st) σ Q := WP_getR (ci := 11) (k := 4) mq185 dd185_9 (by decide) rfl
theorem dd185_12 : decode cX12_codes 12 = .ok (.sipush 560, 3) := by decide +kernel
theorem ww185_12 {d : Nat} {l0 l1 : Option mw_V} {st : List mw_V} {σ : mw_S} {Q : Option mw_V → mw_S → Prop} : mw_WP d 185 12 [l0, l1] st σ Q ↔ mw_WP d 185 15 [l0, l1] (jI (560) :: st) σ Q := WP_sipush mq185 dd185_12 (by decide)
theorem dd185_15 : decode cX12_codes 15 = .ok (.aload_n 0, 1) := by decide +kernel
theorem ww185_15 {d : Nat} {l1 : Option mw_V} {x : Nat} {st : List mw_V} {σ : mw_S} {Q : Option mw_V → mw_S → Prop} : mw_WP d 185 15 [some (jR x), l1] st σ Q ↔ mw_WP d 185 16 [some (jR x), l1] (jR x :: st) σ Q := WP_aload_n mq185 dd185_15 rfl
theorem dd185_16 : decode cX12_codes 16 = .ok (.getfield 24, 3) := by decide +kernel
theorem ww185_16 {d : Nat} {l0 l1 : Option mw_V} {st : List mw_V} {σ : mw_S} {Q : Option mw_V → mw_S → Prop} : mw_WP d 185 16 [l0, l1] (jR 100 :: st) σ Q ↔ mw_WP d 185 19 [l0, l1] (jR 104 :: st) σ Q := WP_getR (ci := 11) (k := 4) mq185 dd185_16 (by decide) rfl
theorem dd185_19 : decode cX12_codes 19 = .ok (.sipush 559, 3) := by decide +kernel
theorem ww185_19 {d : Nat} {l0 l1 : Option mw_V} {st : List mw_V} {σ : mw_S} {Q : Option mw_V → mw_S → Prop} : mw_WP d 185 19 [l0, l1] st σ Q ↔ mw_WP d 185 22 [l0, l1] (jI (559) :: st) σ Q := WP_sipush mq185 dd185_19 (by decide)
theorem dd185_22 : decode cX12_codes 22 = .ok (.iaload, 1) := by decide +kernel
theorem ww185_22 {d : Nat} {l0 l1 : Option mw_V} {z : Int} {a : Nat} {st : List mw_V} {σ : mw_S} {Q : Option mw_V → mw_S → Prop} : mw_WP d 185 22 [l0, l1] (jI z :: jR a :: st) σ Q ↔ ((0 ≤ z ∧ z < mw_lenI a) ∧ mw_WP d 185 23 [l0, l1] (jI (mw_rdI σ a z.toNat) :: st) σ Q) := WP_iaload mq185 dd185_22
theorem dd185_23 : decode cX12_codes 23 = .ok (.iadd, 1) := by decide +kernel
theorem ww185_23 {d : Nat} {l0 l1 : Option mw_V} {x y : Int} {st : List mw_V} {σ : mw_S} {Q : Option mw_V → mw_S → Prop} : mw_WP d 185 23 [l0, l1] (jI y :: jI x :: st) σ Q ↔ mw_WP d 185 24 [l0, l1] (jI (w32 (x + y)) :: st) σ Q := WP_iadd mq185 dd185_23
theorem dd185_24 : decode cX12_codes 24 = .ok (.iload_n 1, 1) := by decide +kernel
theorem ww185_24 {d : Nat} {l0 : Option mw_V} {x : Int} {st : List mw_V} {σ : mw_S} {Q : Option mw_V → mw_S → Prop} : mw_WP d 185 24 [l0, some (jI x)] st σ Q ↔ mw_WP d 185 25 [l0, some (jI x)] (jI x :: st) σ Q := WP_iload_n mq185 dd185_24 rfl
theorem dd185_25 : decode cX12_codes 25 = .ok (.iastore, 1) := by decide +kernel
theorem ww185_25 {d : Nat} {l0 l1 : Option mw_V} {x z : Int} {a : Nat} {st : List mw_V} {σ : mw_S} {Q : Option mw_V → mw_S → Prop} : mw_WP d 185 25 [l0, l1] (jI x :: jI z :: jR a :: st) σ Q ↔ ((0 ≤ z ∧ z < mw_lenW 0 a) ∧ mw_WP d 185 26 [l0, l1] st (upS σ a z.toNat x) Q) := WP_iastore mq185 dd185_25
theorem dd185_26 : decode cX12_codes 26 = .ok (.aload_n 0, 1) := by decide +kernel
theorem ww185_26 {d : Nat} {l1 : Option mw_V} {x : Nat} {st : List mw_V} {σ : mw_S} {Q : Option mw_V → mw_S → Prop} : mw_WP d 185 26 [some (jR x), l1] st σ Q ↔ mw_WP d 185 27 [some (jR x), l1] (jR x :: st) σ Q := WP_aload_n mq185 dd185_26 rfl
theorem dd185_27 : decode cX12_codes 27 = .ok (.getfield 24, 3) := by decide +kernel
theorem ww185_27 {d : Nat} {l0 l1 : Option mw_V} {st : List mw_V} {σ : mw_S} {Q : Option mw_V → mw_S → Prop} : mw_WP d 185 27 [l0, l1] (jR 100 :: st) σ Q ↔ mw_WP d 185 30 [l0, l1] (jR 104 :: st) σ Q := WP_getR (ci := 11) (k := 4) mq185 dd185_27 (by decide) rfl
theorem dd185_30 : decode cX12_codes 30 = .ok (.sipush 559, 3) := by decide +kernel
theorem ww185_30 {d : Nat} {l0 l1 : Option mw_V} {st : List mw_V} {σ : mw_S} {Q : Option mw_V → mw_S → Prop} : mw_WP d 185 30 [l0, l1] st σ Q ↔ mw_WP d 185 33 [l0, l1] (jI (559) :: st) σ Q := WP_sipush mq185 dd185_30 (by decide)
theorem dd185_33 : decode cX12_codes 33 = .ok (.dup2, 1) := by decide +kernel
theorem ww185_33 {d : Nat} {l0 l1 : Option mw_V} {v w : mw_V} {st : List mw_V} {σ : mw_S} {Q : Option mw_V → mw_S → Prop} (h : mw_cat v = 1) (h2 : mw_cat w = 1) : mw_WP d 185 33 [l0, l1] (v :: w :: st) σ Q ↔ mw_WP d 185 34 [l0, l1] (v :: w :: v :: w :: st) σ Q := WP_dup2 mq185 dd185_33 h h2
theorem dd185_34 : decode cX12_codes 34 = .ok (.iaload, 1) := by decide +kernel
theorem ww185_34 {d : Nat} {l0 l1 : Option mw_V} {z : Int} {a : Nat} {st : List mw_V} {σ : mw_S} {Q : Option mw_V → mw_S → Prop} : mw_WP d 185 34 [l0, l1] (jI z :: jR a :: st) σ Q ↔ ((0 ≤ z ∧ z < mw_lenI a) ∧ mw_WP d 185 35 [l0, l1] (jI (mw_rdI σ a z.toNat) :: st) σ Q) := WP_iaload mq185 dd185_34
theorem dd185_35 : decode cX12_codes 35 = .ok (.iconst 1, 1) := by decide +kernel
theorem ww185_35 {d : Nat} {l0 l1 : Option mw_V} {st : List mw_V} {σ : mw_S} {Q : Option mw_V → mw_S → Prop} : mw_WP d 185 35 [l0, l1] st σ Q ↔ mw_WP d 185 36 [l0, l1] (jI (1) :: st) σ Q := WP_iconst mq185 dd185_35 (by decide)
theorem dd185_36 : decode cX12_codes 36 = .ok (.iadd, 1) := by decide +kernel
theorem ww185_36 {d : Nat} {l0 l1 : Option mw_V} {x y : Int} {st : List mw_V} {σ : mw_S} {Q : Option mw_V → mw_S → Prop} : mw_WP d 185 36 [l0, l1] (jI y :: jI x :: st) σ Q ↔ mw_WP d 185 37 [l0, l1] (jI (w32 (x + y)) :: st) σ Q := WP_iadd mq185 dd185_36
theorem dd185_37 : decode cX12_codes 37 = .ok (.iastore, 1) := by decide +kernel
theorem ww185_37 {d : Nat} {l0 l1 : Option mw_V} {x z : Int} {a : Nat} {st : List mw_V} {σ : mw_S} {Q : Option mw_V → mw_S → Prop} : mw_WP d 185 37 [l0, l1] (jI x :: jI z :: jR a :: st) σ Q ↔ ((0 ≤ z ∧ z < mw_lenW 0 a) ∧ mw_WP d 185 38 [l0, l1] st (upS σ a z.toNat x) Q) := WP_iastore mq185 dd185_37
theorem dd185_38 : decode cX12_codes 38 = .ok (.return_, 1) := by decide +kernel
theorem ww185_38 {d : Nat} {l0 l1 : Option mw_V} {σ : mw_S} {Q : Option mw_V → mw_S → Prop} : mw_WP d 185 38 [l0, l1] [] σ Q ↔ Q none σ := WP_return mq185 dd185_38 rfl
theorem ee186 {d : Nat} {a : Nat} {z0 : Int} {σ : mw_S} {Q : Option mw_V → mw_S → Prop} : mw_Call (d + 1) 186 [jR a, jI z0] σ Q ↔ mw_WP d 186 0 [some (jR a), some (jI z0)] [] σ Q := CL_u mq186 (Nat.le_of_ble_eq_true rfl) rfl
theorem dd186_0 : decode cX12_goesIn 0 = .ok (.iload_n 1, 1) := by decide +kernel
theorem ww186_0 {d : Nat} {l0 : Option mw_V} {x : Int} {st : List mw_V} {σ : mw_S} {Q : Option mw_V → mw_S → Prop} : mw_WP d 186 0 [l0, some (jI x)] st σ Q ↔ mw_WP d 186 1 [l0, some (jI x)] (jI x :: st) σ Q := WP_iload_n mq186 dd186_0 rfl
theorem dd186_1 : decode cX12_goesIn 1 = .ok (.bipush 6, 2) := by decide +kernel
theorem ww186_1 {d : Nat} {l0 l1 : Option mw_V} {st : List mw_V} {σ : mw_S} {Q : Option mw_V → mw_S → Prop} : mw_WP d 186 1 [l0, l1] st σ Q ↔ mw_WP d 186 3 [l0, l1] (jI (6) :: st) σ Q := WP_bipush mq186 dd186_1 (by decide)
theorem dd186_3 : decode cX12_goesIn 3 = .ok (.if_icmp .ne 8, 3) := by decide +kernel
theorem ww186_3 {d : Nat} {l0 l1 : Option mw_V} {x y : Int} {st : List mw_V} {σ : mw_S} {Q : Option mw_V → mw_S → Prop} : mw_WP d 186 3 [l0, l1] (jI y :: jI x :: st) σ Q ↔ (if ¬ x = y then mw_WP d 186 11 [l0, l1] st σ Q else mw_WP d 186 6 [l0, l1] st σ Q) := WP_icmp_ne mq186 dd186_3 (by decide)
theorem dd186_6 : decode cX12_goesIn 6 = .ok (.aload_n 0, 1) := by decide +kernel
theorem ww186_6 {d : Nat} {l1 : Option mw_V} {x : Nat} {st : List mw_V} {σ : mw_S} {Q : Option mw_V → mw_S → Prop} : mw_WP d 186 6 [some (jR x), l1] st σ Q ↔ mw_WP d 186 7 [some (jR x), l1] (jR x :: st) σ Q := WP_aload_n mq186 dd186_6 rfl
theorem dd186_7 : decode cX12_goesIn 7 = .ok (.iconst 4, 1) := by decide +kernel
theorem ww186_7 {d : Nat} {l0 l1 : Option mw_V} {st : List mw_V} {σ : mw_S} {Q : Option mw_V → mw_S → Prop} : mw_WP d 186 7 [l0, l1] st σ Q ↔ mw_WP d 186 8 [l0, l1] (jI (4) :: st) σ Q := WP_iconst mq186 dd186_7 (by decide)
theorem dd186_8 : decode cX12_goesIn 8 = .ok (.invokevirtual 155, 3) := by decide +kernel
theorem ww186_8 {d : Nat} {l0 l1 : Option mw_V} {v0 : mw_V} {a : Nat} {st : List mw_V} {σ : mw_S} {Q : Option mw_V → mw_S → Prop} (hr : mw_rc a = 12) (h8 : (st.map mw_cat).sum ≤ 8) : mw_WP d 186 8 [l0, l1] (v0 :: jR a :: st) σ Q ↔ mw_Call d 178 [jR a, v0] σ (fun r1 s1 => mw_WP d 186 11 [l0, l1] (r1.toList ++ st) s1 Q) := WP_inv (as := [v0]) mq186 dd186_8 (by decide) mq178 rfl hr h8
theorem dd186_11 : decode cX12_goesIn 11 = .ok (.aload_n 0, 1) := by decide +kernel
theorem ww186_11 {d : Nat} {l1 : Option mw_V} {x : Nat} {st : List mw_V} {σ : mw_S} {Q : Option mw_V → mw_S → Prop} : mw_WP d 186 11 [some (jR x), l1] st σ Q ↔ mw_WP d 186 12 [some (jR x), l1] (jR x :: st) σ Q := WP_aload_n mq186 dd186_11 rfl
theorem dd186_12 : decode cX12_goesIn 12 = .ok (.getfield 143, 3) := by decide +kernel
theorem ww186_12 {d : Nat} {l0 l1 : Option mw_V} {st : List mw_V} {σ : mw_S} {Q : Option mw_V → mw_S → Prop} : mw_WP d 186 12 [l0, l1] (jR 100 :: st) σ Q ↔ mw_WP d 186 15 [l0, l1] (jI (σ 100 11) :: st) σ Q := WP_getI (ci := 11) (k := 11) mq186 dd186_12 (by decide) (Or.inl rfl)
theorem dd186_15 : decode cX12_goesIn 15 = .ok (.ifCond .ne 7, 3) := by decide +kernel
theorem ww186_15 {d : Nat} {l0 l1 : Option mw_V} {x : Int} {st : List mw_V} {σ : mw_S} {Q : Option mw_V → mw_S → Prop} : mw_WP d 186 15 [l0, l1] (jI x :: st) σ Q ↔ (if ¬ x = 0 then mw_WP d 186 22 [l0, l1] st σ Q else mw_WP d 186 18 [l0, l1] st σ Q) := WP_if_ne mq186 dd186_15 (by decide)
theorem dd186_18 : decode cX12_goesIn 18 = .ok (.aload_n 0, 1) := by decide +kernel
theorem ww186_18 {d : Nat} {l1 : Option mw_V} {x : Nat} {st : List mw_V} {σ : mw_S} {Q : Option mw_V → mw_S → Prop} : mw_WP d 186 18 [some (jR x), l1] st σ Q ↔ mw_WP d 186 19 [some (jR x), l1] (jR x :: st) σ Q := WP_aload_n mq186 dd186_18 rfl
theorem dd186_19 : decode cX12_goesIn 19 = .ok (.invokevirtual 152, 3) := by decide +kernel
theorem ww186_19 {d : Nat} {l0 l1 : Option mw_V} {a : Nat} {st : List mw_V} {σ : mw_S} {Q : Option mw_V → mw_S → Prop} (hr : mw_rc a = 12) (h8 : (st.map mw_cat).sum ≤ 8) : mw_WP d 186 19 [l0, l1] (jR a :: st) σ Q ↔ mw_Call d 177 [jR a] σ (fun r1 s1 => mw_WP d 186 22 [l0, l1] (r1.toList ++ st) s1 Q) := WP_inv (as := []) mq186 dd186_19 (by decide) mq177 rfl hr h8
theorem dd186_22 : decode cX12_goesIn 22 = .ok (.aload_n 0, 1) := by decide +kernel
theorem ww186_22 {d : Nat} {l1 : Option mw_V} {x : Nat} {st : List mw_V} {σ : mw_S} {Q : Option mw_V → mw_S → Prop} : mw_WP d 186 22 [some (jR x), l1] st σ Q ↔ mw_WP d 186 23 [some (jR x), l1] (jR x :: st) σ Q := WP_aload_n mq186 dd186_22 rfl
theorem dd186_23 : decode cX12_goesIn 23 = .ok (.getfield 143, 3) := by decide +kernel
theorem ww186_23 {d : Nat} {l0 l1 : Option mw_V} {st : List mw_V} {σ : mw_S} {Q : Option mw_V → mw_S → Prop} : mw_WP d 186 23 [l0, l1] (jR 100 :: st) σ Q ↔ mw_WP d 186 26 [l0, l1] (jI (σ 100 11) :: st) σ Q := WP_getI (ci := 11) (k := 11) mq186 dd186_23 (by decide) (Or.inl rfl)
theorem dd186_26 : decode cX12_goesIn 26 = .ok (.ifCond .ne 7, 3) := by decide +kernel
theorem ww186_26 {d : Nat} {l0 l1 : Option mw_V} {x : Int} {st : List mw_V} {σ : mw_S} {Q : Option mw_V → mw_S → Prop} : mw_WP d 186 26 [l0, l1] (jI x :: st) σ Q ↔ (if ¬ x = 0 then mw_WP d 186 33 [l0, l1] st σ Q else mw_WP d 186 29 [l0, l1] st σ Q) := WP_if_ne mq186 dd186_26 (by decide)
theorem dd186_29 : decode cX12_goesIn 29 = .ok (.iconst 1, 1) := by decide +kernel
theorem ww186_29 {d : Nat} {l0 l1 : Option mw_V} {st : List mw_V} {σ : mw_S} {Q : Option mw_V → mw_S → Prop} : mw_WP d 186 29 [l0, l1] st σ Q ↔ mw_WP d 186 30 [l0, l1] (jI (1) :: st) σ Q := WP_iconst mq186 dd186_29 (by decide)
theorem dd186_30 : decode cX12_goesIn 30 = .ok (.goto 4, 3) := by decide +kernel
theorem ww186_30 {d : Nat} {l0 l1 : Option mw_V} {st : List mw_V} {σ : mw_S} {Q : Option mw_V → mw_S → Prop} : mw_WP d 186 30 [l0, l1] st σ Q ↔ mw_WP d 186 34 [l0, l1] st σ Q := WP_goto mq186 dd186_30 (by decide)
theorem dd186_33 : decode cX12_goesIn 33 = .ok (.iconst 0, 1) := by decide +kernel
theorem ww186_33 {d : Nat} {l0 l1 : Option mw_V} {st : List mw_V} {σ : mw_S} {Q : Option mw_V → mw_S → Prop} : mw_WP d 186 33 [l0, l1] st σ Q ↔ mw_WP d 186 34 [l0, l1] (jI (0) :: st) σ Q := WP_iconst mq186 dd186_33 (by decide)
theorem dd186_34 : decode cX12_goesIn 34 = .ok (.ireturn, 1) := by decide +kernel
theorem ww186_34 {d : Nat} {l0 l1 : Option mw_V} {z : Int} {σ : mw_S} {Q : Option mw_V → mw_S → Prop} (h : z = 0 ∨ z = 1) : mw_WP d 186 34 [l0, l1] [jI z] σ Q ↔ Q (some (jI z)) σ := WP_ireturn (ty := .boolean) mq186 dd186_34 rfl (by rcases h with rfl | rfl <;> decide)
theorem ee187 {d : Nat} {a : Nat} {z0 : Int} {σ : mw_S} {Q : Option mw_V → mw_S → Prop} : mw_Call (d + 1) 187 [jR a, jI z0] σ Q ↔ mw_WP d 187 0 [some (jR a), some (jI z0)] [] σ Q := CL_u mq187 (Nat.le_of_ble_eq_true rfl) rfl
theorem dd187_0 : decode cX12_readAtom 0 = .ok (.aload_n 0, 1) := by decide +kernel
theorem ww187_0 {d : Nat} {l1 : Option mw_V} {x : Nat} {st : List mw_V} {σ : mw_S} {Q : Option mw_V → mw_S → Prop} : mw_WP d 187 0 [some (jR x), l1] st σ Q ↔ mw_WP d 187 1 [some (jR x), l1] (jR x :: st) σ Q := WP_aload_n mq187 dd187_0 rfl
theorem dd187_1 : decode cX12_readAtom 1 = .ok (.bipush 26, 2) := by decide +kernel
theorem ww187_1 {d : Nat} {l0 l1 : Option mw_V} {st : List mw_V} {σ : mw_S} {Q : Option mw_V → mw_S → Prop} : mw_WP d 187 1 [l0, l1] st σ Q ↔ mw_WP d 187 3 [l0, l1] (jI (26) :: st) σ Q := WP_bipush mq187 dd187_1 (by decide)
theorem dd187_3 : decode cX12_readAtom 3 = .ok (.invokevirtual 149, 3) := by decide +kernel
theorem ww187_3 {d : Nat} {l0 l1 : Option mw_V} {v0 : mw_V} {a : Nat} {st : List mw_V} {σ : mw_S} {Q : Option mw_V → mw_S → Prop} (hr : mw_rc a = 12) (h8 : (st.map mw_cat).sum ≤ 8) : mw_WP d 187 3 [l0, l1] (v0 :: jR a :: st) σ Q ↔ mw_Call d 179 [jR a, v0] σ (fun r1 s1 => mw_WP d 187 6 [l0, l1] (r1.toList ++ st) s1 Q) := WP_inv (as := [v0]) mq187 dd187_3 (by decide) mq179 rfl hr h8
theorem dd187_6 : decode cX12_readAtom 6 = .ok (.ifCond .eq 18, 3) := by decide +kernel
theorem ww187_6 {d : Nat} {l0 l1 : Option mw_V} {x : Int} {st : List mw_V} {σ : mw_S} {Q : Option mw_V → mw_S → Prop} : mw_WP d 187 6 [l0, l1] (jI x :: st) σ Q ↔ (if x = 0 then mw_WP d 187 24 [l0, l1] st σ Q else mw_WP d 187 9 [l0, l1] st σ Q) := WP_if_eq mq187 dd187_6 (by decide)
theorem dd187_9 : decode cX12_readAtom 9 = .ok (.aload_n 0, 1) := by decide +kernel
theorem ww187_9 {d : Nat} {l1 : Option mw_V} {x : Nat} {st : List mw_V} {σ : mw_S} {Q : Option mw_V → mw_S → Prop} : mw_WP d 187 9 [some (jR x), l1] st σ Q ↔ mw_WP d 187 10 [some (jR x), l1] (jR x :: st) σ Q := WP_aload_n mq187 dd187_9 rfl
theorem dd187_10 : decode cX12_readAtom 10 = .ok (.aload_n 0, 1) := by decide +kernel
theorem ww187_10 {d : Nat} {l1 : Option mw_V} {x : Nat} {st : List mw_V} {σ : mw_S} {Q : Option mw_V → mw_S → Prop} : mw_WP d 187 10 [some (jR x), l1] st σ Q ↔ mw_WP d 187 11 [some (jR x), l1] (jR x :: st) σ Q := WP_aload_n mq187 dd187_10 rfl
theorem dd187_11 : decode cX12_readAtom 11 = .ok (.getfield 138, 3) := by decide +kernel
theorem ww187_11 {d : Nat} {l0 l1 : Option mw_V} {st : List mw_V} {σ : mw_S} {Q : Option mw_V → mw_S → Prop} : mw_WP d 187 11 [l0, l1] (jR 100 :: st) σ Q ↔ mw_WP d 187 14 [l0, l1] (jI (σ 100 10) :: st) σ Q := WP_getI (ci := 11) (k := 10) mq187 dd187_11 (by decide) (Or.inl rfl)
theorem dd187_14 : decode cX12_readAtom 14 = .ok (.invokevirtual 174, 3) := by decide +kernel
theorem ww187_14 {d : Nat} {l0 l1 : Option mw_V} {v0 : mw_V} {a : Nat} {st : List mw_V} {σ : mw_S} {Q : Option mw_V → mw_S → Prop} (hr : mw_rc a = 12) (h8 : (st.map mw_cat).sum ≤ 8) : mw_WP d 187 14 [l0, l1] (v0 :: jR a :: st) σ Q ↔ mw_Call d 185 [jR a, v0] σ (fun r1 s1 => mw_WP d 187 17 [l0, l1] (r1.toList ++ st) s1 Q) := WP_inv (as := [v0]) mq187 dd187_14 (by decide) mq185 rfl hr h8
theorem dd187_17 : decode cX12_readAtom 17 = .ok (.aload_n 0, 1) := by decide +kernel
theorem ww187_17 {d : Nat} {l1 : Option mw_V} {x : Nat} {st : List mw_V} {σ : mw_S} {Q : Option mw_V → mw_S → Prop} : mw_WP d 187 17 [some (jR x), l1] st σ Q ↔ mw_WP d 187 18 [some (jR x), l1] (jR x :: st) σ Q := WP_aload_n mq187 dd187_17 rfl
theorem dd187_18 : decode cX12_readAtom 18 = .ok (.invokevirtual 152, 3) := by decide +kernel
theorem ww187_18 {d : Nat} {l0 l1 : Option mw_V} {a : Nat} {st : List mw_V} {σ : mw_S} {Q : Option mw_V → mw_S → Prop} (hr : mw_rc a = 12) (h8 : (st.map mw_cat).sum ≤ 8) : mw_WP d 187 18 [l0, l1] (jR a :: st) σ Q ↔ mw_Call d 177 [jR a] σ (fun r1 s1 => mw_WP d 187 21 [l0, l1] (r1.toList ++ st) s1 Q) := WP_inv (as := []) mq187 dd187_18 (by decide) mq177 rfl hr h8
theorem dd187_21 : decode cX12_readAtom 21 = .ok (.goto 115, 3) := by decide +kernel
theorem ww187_21 {d : Nat} {l0 l1 : Option mw_V} {st : List mw_V} {σ : mw_S} {Q : Option mw_V → mw_S → Prop} : mw_WP d 187 21 [l0, l1] st σ Q ↔ mw_WP d 187 136 [l0, l1] st σ Q := WP_goto mq187 dd187_21 (by decide)
theorem dd187_24 : decode cX12_readAtom 24 = .ok (.aload_n 0, 1) := by decide +kernel
theorem ww187_24 {d : Nat} {l1 : Option mw_V} {x : Nat} {st : List mw_V} {σ : mw_S} {Q : Option mw_V → mw_S → Prop} : mw_WP d 187 24 [some (jR x), l1] st σ Q ↔ mw_WP d 187 25 [some (jR x), l1] (jR x :: st) σ Q := WP_aload_n mq187 dd187_24 rfl
theorem dd187_25 : decode cX12_readAtom 25 = .ok (.bipush 11, 2) := by decide +kernel
theorem ww187_25 {d : Nat} {l0 l1 : Option mw_V} {st : List mw_V} {σ : mw_S} {Q : Option mw_V → mw_S → Prop} : mw_WP d 187 25 [l0, l1] st σ Q ↔ mw_WP d 187 27 [l0, l1] (jI (11) :: st) σ Q := WP_bipush mq187 dd187_25 (by decide)
theorem dd187_27 : decode cX12_readAtom 27 = .ok (.invokevirtual 167, 3) := by decide +kernel
theorem ww187_27 {d : Nat} {l0 l1 : Option mw_V} {v0 : mw_V} {a : Nat} {st : List mw_V} {σ : mw_S} {Q : Option mw_V → mw_S → Prop} (hr : mw_rc a = 12) (h8 : (st.map mw_cat).sum ≤ 8) : mw_WP d 187 27 [l0, l1] (v0 :: jR a :: st) σ Q ↔ mw_Call d 180 [jR a, v0] σ (fun r1 s1 => mw_WP d 187 30 [l0, l1] (r1.toList ++ st) s1 Q) := WP_inv (as := [v0]) mq187 dd187_27 (by decide) mq180 rfl hr h8
theorem dd187_30 : decode cX12_readAtom 30 = .ok (.ifCond .eq 13, 3) := by decide +kernel
theorem ww187_30 {d : Nat} {l0 l1 : Option mw_V} {x : Int} {st : List mw_V} {σ : mw_S} {Q : Option mw_V → mw_S → Prop} : mw_WP d 187 30 [l0, l1] (jI x :: st) σ Q ↔ (if x = 0 then mw_WP d 187 43 [l0, l1] st σ Q else mw_WP d 187 33 [l0, l1] st σ Q) := WP_if_eq mq187 dd187_30 (by decide)
theorem dd187_33 : decode cX12_readAtom 33 = .ok (.aload_n 0, 1) := by decide +kernel
theorem ww187_33 {d : Nat} {l1 : Option mw_V} {x : Nat} {st : List mw_V} {σ : mw_S} {Q : Option mw_V → mw_S → Prop} : mw_WP d 187 33 [some (jR x), l1] st σ Q ↔ mw_WP d 187 34 [some (jR x), l1] (jR x :: st) σ Q := WP_aload_n mq187 dd187_33 rfl
theorem dd187_34 : decode cX12_readAtom 34 = .ok (.sipush 1005, 3) := by decide +kernel
theorem ww187_34 {d : Nat} {l0 l1 : Option mw_V} {st : List mw_V} {σ : mw_S} {Q : Option mw_V → mw_S → Prop} : mw_WP d 187 34 [l0, l1] st σ Q ↔ mw_WP d 187 37 [l0, l1] (jI (1005) :: st) σ Q := WP_sipush mq187 dd187_34 (by decide)
theorem dd187_37 : decode cX12_readAtom 37 = .ok (.invokevirtual 174, 3) := by decide +kernel
theorem ww187_37 {d : Nat} {l0 l1 : Option mw_V} {v0 : mw_V} {a : Nat} {st : List mw_V} {σ : mw_S} {Q : Option mw_V → mw_S → Prop} (hr : mw_rc a = 12) (h8 : (st.map mw_cat).sum ≤ 8) : mw_WP d 187 37 [l0, l1] (v0 :: jR a :: st) σ Q ↔ mw_Call d 185 [jR a, v0] σ (fun r1 s1 => mw_WP d 187 40 [l0, l1] (r1.toList ++ st) s1 Q) := WP_inv (as := [v0]) mq187 dd187_37 (by decide) mq185 rfl hr h8
theorem dd187_40 : decode cX12_readAtom 40 = .ok (.goto 96, 3) := by decide +kernel
theorem ww187_40 {d : Nat} {l0 l1 : Option mw_V} {st : List mw_V} {σ : mw_S} {Q : Option mw_V → mw_S → Prop} : mw_WP d 187 40 [l0, l1] st σ Q ↔ mw_WP d 187 136 [l0, l1] st σ Q := WP_goto mq187 dd187_40 (by decide)
theorem dd187_43 : decode cX12_readAtom 43 = .ok (.aload_n 0, 1) := by decide +kernel
theorem ww187_43 {d : Nat} {l1 : Option mw_V} {x : Nat} {st : List mw_V} {σ : mw_S} {Q : Option mw_V → mw_S → Prop} : mw_WP d 187 43 [some (jR x), l1] st σ Q ↔ mw_WP d 187 44 [some (jR x), l1] (jR x :: st) σ Q := WP_aload_n mq187 dd187_43 rfl
theorem dd187_44 : decode cX12_readAtom 44 = .ok (.getfield 143, 3) := by decide +kernel
theorem ww187_44 {d : Nat} {l0 l1 : Option mw_V} {st : List mw_V} {σ : mw_S} {Q : Option mw_V → mw_S → Prop} : mw_WP d 187 44 [l0, l1] (jR 100 :: st) σ Q ↔ mw_WP d 187 47 [l0, l1] (jI (σ 100 11) :: st) σ Q := WP_getI (ci := 11) (k := 11) mq187 dd187_44 (by decide) (Or.inl rfl)
theorem dd187_47 : decode cX12_readAtom 47 = .ok (.ifCond .ne 42, 3) := by decide +kernel
theorem ww187_47 {d : Nat} {l0 l1 : Option mw_V} {x : Int} {st : List mw_V} {σ : mw_S} {Q : Option mw_V → mw_S → Prop} : mw_WP d 187 47 [l0, l1] (jI x :: st) σ Q ↔ (if ¬ x = 0 then mw_WP d 187 89 [l0, l1] st σ Q else mw_WP d 187 50 [l0, l1] st σ Q) := WP_if_ne mq187 dd187_47 (by decide)
theorem dd187_50 : decode cX12_readAtom 50 = .ok (.aload_n 0, 1) := by decide +kernel
theorem ww187_50 {d : Nat} {l1 : Option mw_V} {x : Nat} {st : List mw_V} {σ : mw_S} {Q : Option mw_V → mw_S → Prop} : mw_WP d 187 50 [some (jR x), l1] st σ Q ↔ mw_WP d 187 51 [some (jR x), l1] (jR x :: st) σ Q := WP_aload_n mq187 dd187_50 rfl
theorem dd187_51 : decode cX12_readAtom 51 = .ok (.getfield 125, 3) := by decide +kernel
theorem ww187_51 {d : Nat} {l0 l1 : Option mw_V} {st : List mw_V} {σ : mw_S} {Q : Option mw_V → mw_S → Prop} : mw_WP d 187 51 [l0, l1] (jR 100 :: st) σ Q ↔ mw_WP d 187 54 [l0, l1] (jI (σ 100 9) :: st) σ Q := WP_getI (ci := 11) (k := 9) mq187 dd187_51 (by decide) (Or.inl rfl)
theorem dd187_54 : decode cX12_readAtom 54 = .ok (.i2l, 1) := by decide +kernel
theorem ww187_54 {d : Nat} {l0 l1 : Option mw_V} {x : Int} {st : List mw_V} {σ : mw_S} {Q : Option mw_V → mw_S → Prop} : mw_WP d 187 54 [l0, l1] (jI x :: st) σ Q ↔ mw_WP d 187 55 [l0, l1] (jL (yL x) :: st) σ Q := WP_i2l mq187 dd187_54
theorem dd187_55 : decode cX12_readAtom 55 = .ok (.ldc2_w 177, 3) := by decide +kernel
theorem ww187_55 {d : Nat} {l0 l1 : Option mw_V} {st : List mw_V} {σ : mw_S} {Q : Option mw_V → mw_S → Prop} : mw_WP d 187 55 [l0, l1] st σ Q ↔ mw_WP d 187 58 [l0, l1] (jL (20) :: st) σ Q := WP_ldc2_w (v := 20) mq187 dd187_55 (by decide) (by decide)
theorem dd187_58 : decode cX12_readAtom 58 = .ok (.ldc2_w 179, 3) := by decide +kernel
theorem ww187_58 {d : Nat} {l0 l1 : Option mw_V} {st : List mw_V} {σ : mw_S} {Q : Option mw_V → mw_S → Prop} : mw_WP d 187 58 [l0, l1] st σ Q ↔ mw_WP d 187 61 [l0, l1] (jL (24) :: st) σ Q := WP_ldc2_w (v := 24) mq187 dd187_58 (by decide) (by decide)
theorem dd187_61 : decode cX12_readAtom 61 = .ok (.invokestatic 159, 3) := by decide +kernel
theorem ww187_61 {d : Nat} {l0 l1 : Option mw_V} {v0 v1 v2 : mw_V} {st : List mw_V} {σ : mw_S} {Q : Option mw_V → mw_S → Prop} (h8 : (st.map mw_cat).sum ≤ 8) : mw_WP d 187 61 [l0, l1] (v2 :: v1 :: v0 :: st) σ Q ↔ mw_Call d 170 [v0, v1, v2] σ (fun r1 s1 => mw_WP d 187 64 [l0, l1] (r1.toList ++ st) s1 Q) := WP_invs (as := [v2, v1, v0]) mq187 dd187_61 (by decide) mq170 rfl rfl h8
theorem dd187_64 : decode cX12_readAtom 64 = .ok (.ifCond .eq 25, 3) := by decide +kernel
theorem ww187_64 {d : Nat} {l0 l1 : Option mw_V} {x : Int} {st : List mw_V} {σ : mw_S} {Q : Option mw_V → mw_S → Prop} : mw_WP d 187 64 [l0, l1] (jI x :: st) σ Q ↔ (if x = 0 then mw_WP d 187 89 [l0, l1] st σ Q else mw_WP d 187 67 [l0, l1] st σ Q) := WP_if_eq mq187 dd187_64 (by decide)
theorem dd187_67 : decode cX12_readAtom 67 = .ok (.aload_n 0, 1) := by decide +kernel
theorem ww187_67 {d : Nat} {l1 : Option mw_V} {x : Nat} {st : List mw_V} {σ : mw_S} {Q : Option mw_V → mw_S → Prop} : mw_WP d 187 67 [some (jR x), l1] st σ Q ↔ mw_WP d 187 68 [some (jR x), l1] (jR x :: st) σ Q := WP_aload_n mq187 dd187_67 rfl
theorem dd187_68 : decode cX12_readAtom 68 = .ok (.sipush 1000, 3) := by decide +kernel
theorem ww187_68 {d : Nat} {l0 l1 : Option mw_V} {st : List mw_V} {σ : mw_S} {Q : Option mw_V → mw_S → Prop} : mw_WP d 187 68 [l0, l1] st σ Q ↔ mw_WP d 187 71 [l0, l1] (jI (1000) :: st) σ Q := WP_sipush mq187 dd187_68 (by decide)
theorem dd187_71 : decode cX12_readAtom 71 = .ok (.aload_n 0, 1) := by decide +kernel
theorem ww187_71 {d : Nat} {l1 : Option mw_V} {x : Nat} {st : List mw_V} {σ : mw_S} {Q : Option mw_V → mw_S → Prop} : mw_WP d 187 71 [some (jR x), l1] st σ Q ↔ mw_WP d 187 72 [some (jR x), l1] (jR x :: st) σ Q := WP_aload_n mq187 dd187_71 rfl
theorem dd187_72 : decode cX12_readAtom 72 = .ok (.getfield 125, 3) := by decide +kernel
theorem ww187_72 {d : Nat} {l0 l1 : Option mw_V} {st : List mw_V} {σ : mw_S} {Q : Option mw_V → mw_S → Prop} : mw_WP d 187 72 [l0, l1] (jR 100 :: st) σ Q ↔ mw_WP d 187 75 [l0, l1] (jI (σ 100 9) :: st) σ Q := WP_getI (ci := 11) (k := 9) mq187 dd187_72 (by decide) (Or.inl rfl)
theorem dd187_75 : decode cX12_readAtom 75 = .ok (.iadd, 1) := by decide +kernel
theorem ww187_75 {d : Nat} {l0 l1 : Option mw_V} {x y : Int} {st : List mw_V} {σ : mw_S} {Q : Option mw_V → mw_S → Prop} : mw_WP d 187 75 [l0, l1] (jI y :: jI x :: st) σ Q ↔ mw_WP d 187 76 [l0, l1] (jI (w32 (x + y)) :: st) σ Q := WP_iadd mq187 dd187_75
theorem dd187_76 : decode cX12_readAtom 76 = .ok (.bipush 20, 2) := by decide +kernel
theorem ww187_76 {d : Nat} {l0 l1 : Option mw_V} {st : List mw_V} {σ : mw_S} {Q : Option mw_V → mw_S → Prop} : mw_WP d 187 76 [l0, l1] st σ Q ↔ mw_WP d 187 78 [l0, l1] (jI (20) :: st) σ Q := WP_bipush mq187 dd187_76 (by decide)
theorem dd187_78 : decode cX12_readAtom 78 = .ok (.isub, 1) := by decide +kernel
theorem ww187_78 {d : Nat} {l0 l1 : Option mw_V} {x y : Int} {st : List mw_V} {σ : mw_S} {Q : Option mw_V → mw_S → Prop} : mw_WP d 187 78 [l0, l1] (jI y :: jI x :: st) σ Q ↔ mw_WP d 187 79 [l0, l1] (jI (w32 (x - y)) :: st) σ Q := WP_isub mq187 dd187_78
theorem dd187_79 : decode cX12_readAtom 79 = .ok (.invokevirtual 174, 3) := by decide +kernel
theorem ww187_79 {d : Nat} {l0 l1 : Option mw_V} {v0 : mw_V} {a : Nat} {st : List mw_V} {σ : mw_S} {Q : Option mw_V → mw_S → Prop} (hr : mw_rc a = 12) (h8 : (st.map mw_cat).sum ≤ 8) : mw_WP d 187 79 [l0, l1] (v0 :: jR a :: st) σ Q ↔ mw_Call d 185 [jR a, v0] σ (fun r1 s1 => mw_WP d 187 82 [l0, l1] (r1.toList ++ st) s1 Q) := WP_inv (as := [v0]) mq187 dd187_79 (by decide) mq185 rfl hr h8
theorem dd187_82 : decode cX12_readAtom 82 = .ok (.aload_n 0, 1) := by decide +kernel
theorem ww187_82 {d : Nat} {l1 : Option mw_V} {x : Nat} {st : List mw_V} {σ : mw_S} {Q : Option mw_V → mw_S → Prop} : mw_WP d 187 82 [some (jR x), l1] st σ Q ↔ mw_WP d 187 83 [some (jR x), l1] (jR x :: st) σ Q := WP_aload_n mq187 dd187_82 rfl
theorem dd187_83 : decode cX12_readAtom 83 = .ok (.invokevirtual 152, 3) := by decide +kernel
theorem ww187_83 {d : Nat} {l0 l1 : Option mw_V} {a : Nat} {st : List mw_V} {σ : mw_S} {Q : Option mw_V → mw_S → Prop} (hr : mw_rc a = 12) (h8 : (st.map mw_cat).sum ≤ 8) : mw_WP d 187 83 [l0, l1] (jR a :: st) σ Q ↔ mw_Call d 177 [jR a] σ (fun r1 s1 => mw_WP d 187 86 [l0, l1] (r1.toList ++ st) s1 Q) := WP_inv (as := []) mq187 dd187_83 (by decide) mq177 rfl hr h8
theorem dd187_86 : decode cX12_readAtom 86 = .ok (.goto 50, 3) := by decide +kernel
theorem ww187_86 {d : Nat} {l0 l1 : Option mw_V} {st : List mw_V} {σ : mw_S} {Q : Option mw_V → mw_S → Prop} : mw_WP d 187 86 [l0, l1] st σ Q ↔ mw_WP d 187 136 [l0, l1] st σ Q := WP_goto mq187 dd187_86 (by decide)
theorem dd187_89 : decode cX12_readAtom 89 = .ok (.aload_n 0, 1) := by decide +kernel
theorem ww187_89 {d : Nat} {l1 : Option mw_V} {x : Nat} {st : List mw_V} {σ : mw_S} {Q : Option mw_V → mw_S → Prop} : mw_WP d 187 89 [some (jR x), l1] st σ Q ↔ mw_WP d 187 90 [some (jR x), l1] (jR x :: st) σ Q := WP_aload_n mq187 dd187_89 rfl
theorem dd187_90 : decode cX12_readAtom 90 = .ok (.bipush 35, 2) := by decide +kernel
theorem ww187_90 {d : Nat} {l0 l1 : Option mw_V} {st : List mw_V} {σ : mw_S} {Q : Option mw_V → mw_S → Prop} : mw_WP d 187 90 [l0, l1] st σ Q ↔ mw_WP d 187 92 [l0, l1] (jI (35) :: st) σ Q := WP_bipush mq187 dd187_90 (by decide)
theorem dd187_92 : decode cX12_readAtom 92 = .ok (.invokevirtual 149, 3) := by decide +kernel
theorem ww187_92 {d : Nat} {l0 l1 : Option mw_V} {v0 : mw_V} {a : Nat} {st : List mw_V} {σ : mw_S} {Q : Option mw_V → mw_S → Prop} (hr : mw_rc a = 12) (h8 : (st.map mw_cat).sum ≤ 8) : mw_WP d 187 92 [l0, l1] (v0 :: jR a :: st) σ Q ↔ mw_Call d 179 [jR a, v0] σ (fun r1 s1 => mw_WP d 187 95 [l0, l1] (r1.toList ++ st) s1 Q) := WP_inv (as := [v0]) mq187 dd187_92 (by decide) mq179 rfl hr h8
theorem dd187_95 : decode cX12_readAtom 95 = .ok (.ifCond .eq 36, 3) := by decide +kernel
theorem ww187_95 {d : Nat} {l0 l1 : Option mw_V} {x : Int} {st : List mw_V} {σ : mw_S} {Q : Option mw_V → mw_S → Prop} : mw_WP d 187 95 [l0, l1] (jI x :: st) σ Q ↔ (if x = 0 then mw_WP d 187 131 [l0, l1] st σ Q else mw_WP d 187 98 [l0, l1] st σ Q) := WP_if_eq mq187 dd187_95 (by decide)
theorem dd187_98 : decode cX12_readAtom 98 = .ok (.aload_n 0, 1) := by decide +kernel
theorem ww187_98 {d : Nat} {l1 : Option mw_V} {x : Nat} {st : List mw_V} {σ : mw_S} {Q : Option mw_V → mw_S → Prop} : mw_WP d 187 98 [some (jR x), l1] st σ Q ↔ mw_WP d 187 99 [some (jR x), l1] (jR x :: st) σ Q := WP_aload_n mq187 dd187_98 rfl
theorem dd187_99 : decode cX12_readAtom 99 = .ok (.iload_n 1, 1) := by decide +kernel
theorem ww187_99 {d : Nat} {l0 : Option mw_V} {x : Int} {st : List mw_V} {σ : mw_S} {Q : Option mw_V → mw_S → Prop} : mw_WP d 187 99 [l0, some (jI x)] st σ Q ↔ mw_WP d 187 100 [l0, some (jI x)] (jI x :: st) σ Q := WP_iload_n mq187 dd187_99 rfl
theorem dd187_100 : decode cX12_readAtom 100 = .ok (.invokevirtual 181, 3) := by decide +kernel
theorem ww187_100 {d : Nat} {l0 l1 : Option mw_V} {v0 : mw_V} {a : Nat} {st : List mw_V} {σ : mw_S} {Q : Option mw_V → mw_S → Prop} (hr : mw_rc a = 12) (h8 : (st.map mw_cat).sum ≤ 8) : mw_WP d 187 100 [l0, l1] (v0 :: jR a :: st) σ Q ↔ mw_Call d 186 [jR a, v0] σ (fun r1 s1 => mw_WP d 187 103 [l0, l1] (r1.toList ++ st) s1 Q) := WP_inv (as := [v0]) mq187 dd187_100 (by decide) mq186 rfl hr h8
theorem dd187_103 : decode cX12_readAtom 103 = .ok (.ifCond .ne 4, 3) := by decide +kernel
theorem ww187_103 {d : Nat} {l0 l1 : Option mw_V} {x : Int} {st : List mw_V} {σ : mw_S} {Q : Option mw_V → mw_S → Prop} : mw_WP d 187 103 [l0, l1] (jI x :: st) σ Q ↔ (if ¬ x = 0 then mw_WP d 187 107 [l0, l1] st σ Q else mw_WP d 187 106 [l0, l1] st σ Q) := WP_if_ne mq187 dd187_103 (by decide)
theorem dd187_106 : decode cX12_readAtom 106 = .ok (.return_, 1) := by decide +kernel
theorem ww187_106 {d : Nat} {l0 l1 : Option mw_V} {σ : mw_S} {Q : Option mw_V → mw_S → Prop} : mw_WP d 187 106 [l0, l1] [] σ Q ↔ Q none σ := WP_return mq187 dd187_106 rfl
theorem dd187_107 : decode cX12_readAtom 107 = .ok (.aload_n 0, 1) := by decide +kernel
theorem ww187_107 {d : Nat} {l1 : Option mw_V} {x : Nat} {st : List mw_V} {σ : mw_S} {Q : Option mw_V → mw_S → Prop} : mw_WP d 187 107 [some (jR x), l1] st σ Q ↔ mw_WP d 187 108 [some (jR x), l1] (jR x :: st) σ Q := WP_aload_n mq187 dd187_107 rfl
theorem dd187_108 : decode cX12_readAtom 108 = .ok (.iload_n 1, 1) := by decide +kernel
theorem ww187_108 {d : Nat} {l0 : Option mw_V} {x : Int} {st : List mw_V} {σ : mw_S} {Q : Option mw_V → mw_S → Prop} : mw_WP d 187 108 [l0, some (jI x)] st σ Q ↔ mw_WP d 187 109 [l0, some (jI x)] (jI x :: st) σ Q := WP_iload_n mq187 dd187_108 rfl
theorem dd187_109 : decode cX12_readAtom 109 = .ok (.iconst 1, 1) := by decide +kernel
theorem ww187_109 {d : Nat} {l0 l1 : Option mw_V} {st : List mw_V} {σ : mw_S} {Q : Option mw_V → mw_S → Prop} : mw_WP d 187 109 [l0, l1] st σ Q ↔ mw_WP d 187 110 [l0, l1] (jI (1) :: st) σ Q := WP_iconst mq187 dd187_109 (by decide)
theorem dd187_110 : decode cX12_readAtom 110 = .ok (.iadd, 1) := by decide +kernel
theorem ww187_110 {d : Nat} {l0 l1 : Option mw_V} {x y : Int} {st : List mw_V} {σ : mw_S} {Q : Option mw_V → mw_S → Prop} : mw_WP d 187 110 [l0, l1] (jI y :: jI x :: st) σ Q ↔ mw_WP d 187 111 [l0, l1] (jI (w32 (x + y)) :: st) σ Q := WP_iadd mq187 dd187_110
theorem dd187_111 : decode cX12_readAtom 111 = .ok (.invokevirtual 184, 3) := by decide +kernel
theorem ww187_111 {d : Nat} {l0 l1 : Option mw_V} {v0 : mw_V} {a : Nat} {st : List mw_V} {σ : mw_S} {Q : Option mw_V → mw_S → Prop} (hr : mw_rc a = 12) (h8 : (st.map mw_cat).sum ≤ 8) : mw_WP d 187 111 [l0, l1] (v0 :: jR a :: st) σ Q ↔ mw_Call d 189 [jR a, v0] σ (fun r1 s1 => mw_WP d 187 114 [l0, l1] (r1.toList ++ st) s1 Q) := WP_inv (as := [v0]) mq187 dd187_111 (by decide) mq189 rfl hr h8
theorem dd187_114 : decode cX12_readAtom 114 = .ok (.aload_n 0, 1) := by decide +kernel
theorem ww187_114 {d : Nat} {l1 : Option mw_V} {x : Nat} {st : List mw_V} {σ : mw_S} {Q : Option mw_V → mw_S → Prop} : mw_WP d 187 114 [some (jR x), l1] st σ Q ↔ mw_WP d 187 115 [some (jR x), l1] (jR x :: st) σ Q := WP_aload_n mq187 dd187_114 rfl
theorem dd187_115 : decode cX12_readAtom 115 = .ok (.bipush 36, 2) := by decide +kernel
theorem ww187_115 {d : Nat} {l0 l1 : Option mw_V} {st : List mw_V} {σ : mw_S} {Q : Option mw_V → mw_S → Prop} : mw_WP d 187 115 [l0, l1] st σ Q ↔ mw_WP d 187 117 [l0, l1] (jI (36) :: st) σ Q := WP_bipush mq187 dd187_115 (by decide)
theorem dd187_117 : decode cX12_readAtom 117 = .ok (.invokevirtual 167, 3) := by decide +kernel
theorem ww187_117 {d : Nat} {l0 l1 : Option mw_V} {v0 : mw_V} {a : Nat} {st : List mw_V} {σ : mw_S} {Q : Option mw_V → mw_S → Prop} (hr : mw_rc a = 12) (h8 : (st.map mw_cat).sum ≤ 8) : mw_WP d 187 117 [l0, l1] (v0 :: jR a :: st) σ Q ↔ mw_Call d 180 [jR a, v0] σ (fun r1 s1 => mw_WP d 187 120 [l0, l1] (r1.toList ++ st) s1 Q) := WP_inv (as := [v0]) mq187 dd187_117 (by decide) mq180 rfl hr h8
theorem dd187_120 : decode cX12_readAtom 120 = .ok (.ifCond .ne 16, 3) := by decide +kernel
theorem ww187_120 {d : Nat} {l0 l1 : Option mw_V} {x : Int} {st : List mw_V} {σ : mw_S} {Q : Option mw_V → mw_S → Prop} : mw_WP d 187 120 [l0, l1] (jI x :: st) σ Q ↔ (if ¬ x = 0 then mw_WP d 187 136 [l0, l1] st σ Q else mw_WP d 187 123 [l0, l1] st σ Q) := WP_if_ne mq187 dd187_120 (by decide)
theorem dd187_123 : decode cX12_readAtom 123 = .ok (.aload_n 0, 1) := by decide +kernel
theorem ww187_123 {d : Nat} {l1 : Option mw_V} {x : Nat} {st : List mw_V} {σ : mw_S} {Q : Option mw_V → mw_S → Prop} : mw_WP d 187 123 [some (jR x), l1] st σ Q ↔ mw_WP d 187 124 [some (jR x), l1] (jR x :: st) σ Q := WP_aload_n mq187 dd187_123 rfl
theorem dd187_124 : decode cX12_readAtom 124 = .ok (.iconst 2, 1) := by decide +kernel
theorem ww187_124 {d : Nat} {l0 l1 : Option mw_V} {st : List mw_V} {σ : mw_S} {Q : Option mw_V → mw_S → Prop} : mw_WP d 187 124 [l0, l1] st σ Q ↔ mw_WP d 187 125 [l0, l1] (jI (2) :: st) σ Q := WP_iconst mq187 dd187_124 (by decide)
theorem dd187_125 : decode cX12_readAtom 125 = .ok (.invokevirtual 155, 3) := by decide +kernel
theorem ww187_125 {d : Nat} {l0 l1 : Option mw_V} {v0 : mw_V} {a : Nat} {st : List mw_V} {σ : mw_S} {Q : Option mw_V → mw_S → Prop} (hr : mw_rc a = 12) (h8 : (st.map mw_cat).sum ≤ 8) : mw_WP d 187 125 [l0, l1] (v0 :: jR a :: st) σ Q ↔ mw_Call d 178 [jR a, v0] σ (fun r1 s1 => mw_WP d 187 128 [l0, l1] (r1.toList ++ st) s1 Q) := WP_inv (as := [v0]) mq187 dd187_125 (by decide) mq178 rfl hr h8
theorem dd187_128 : decode cX12_readAtom 128 = .ok (.goto 8, 3) := by decide +kernel
theorem ww187_128 {d : Nat} {l0 l1 : Option mw_V} {st : List mw_V} {σ : mw_S} {Q : Option mw_V → mw_S → Prop} : mw_WP d 187 128 [l0, l1] st σ Q ↔ mw_WP d 187 136 [l0, l1] st σ Q := WP_goto mq187 dd187_128 (by decide)
theorem dd187_131 : decode cX12_readAtom 131 = .ok (.aload_n 0, 1) := by decide +kernel
theorem ww187_131 {d : Nat} {l1 : Option mw_V} {x : Nat} {st : List mw_V} {σ : mw_S} {Q : Option mw_V → mw_S → Prop} : mw_WP d 187 131 [some (jR x), l1] st σ Q ↔ mw_WP d 187 132 [some (jR x), l1] (jR x :: st) σ Q := WP_aload_n mq187 dd187_131 rfl
theorem dd187_132 : decode cX12_readAtom 132 = .ok (.iconst 2, 1) := by decide +kernel
theorem ww187_132 {d : Nat} {l0 l1 : Option mw_V} {st : List mw_V} {σ : mw_S} {Q : Option mw_V → mw_S → Prop} : mw_WP d 187 132 [l0, l1] st σ Q ↔ mw_WP d 187 133 [l0, l1] (jI (2) :: st) σ Q := WP_iconst mq187 dd187_132 (by decide)
theorem dd187_133 : decode cX12_readAtom 133 = .ok (.invokevirtual 155, 3) := by decide +kernel
theorem ww187_133 {d : Nat} {l0 l1 : Option mw_V} {v0 : mw_V} {a : Nat} {st : List mw_V} {σ : mw_S} {Q : Option mw_V → mw_S → Prop} (hr : mw_rc a = 12) (h8 : (st.map mw_cat).sum ≤ 8) : mw_WP d 187 133 [l0, l1] (v0 :: jR a :: st) σ Q ↔ mw_Call d 178 [jR a, v0] σ (fun r1 s1 => mw_WP d 187 136 [l0, l1] (r1.toList ++ st) s1 Q) := WP_inv (as := [v0]) mq187 dd187_133 (by decide) mq178 rfl hr h8
theorem dd187_136 : decode cX12_readAtom 136 = .ok (.return_, 1) := by decide +kernel
theorem ww187_136 {d : Nat} {l0 l1 : Option mw_V} {σ : mw_S} {Q : Option mw_V → mw_S → Prop} : mw_WP d 187 136 [l0, l1] [] σ Q ↔ Q none σ := WP_return mq187 dd187_136 rfl
theorem ee188 {d : Nat} {a : Nat} {z0 : Int} {σ : mw_S} {Q : Option mw_V → mw_S → Prop} : mw_Call (d + 1) 188 [jR a, jI z0] σ Q ↔ mw_WP d 188 0 [some (jR a), some (jI z0)] [] σ Q := CL_u mq188 (Nat.le_of_ble_eq_true rfl) rfl
theorem dd188_0 : decode cX12_readTerm 0 = .ok (.aload_n 0, 1) := by decide +kernel
theorem ww188_0 {d : Nat} {l1 : Option mw_V} {x : Nat} {st : List mw_V} {σ : mw_S} {Q : Option mw_V → mw_S → Prop} : mw_WP d 188 0 [some (jR x), l1] st σ Q ↔ mw_WP d 188 1 [some (jR x), l1] (jR x :: st) σ Q := WP_aload_n mq188 dd188_0 rfl
theorem dd188_1 : decode cX12_readTerm 1 = .ok (.iload_n 1, 1) := by decide +kernel
theorem ww188_1 {d : Nat} {l0 : Option mw_V} {x : Int} {st : List mw_V} {σ : mw_S} {Q : Option mw_V → mw_S → Prop} : mw_WP d 188 1 [l0, some (jI x)] st σ Q ↔ mw_WP d 188 2 [l0, some (jI x)] (jI x :: st) σ Q := WP_iload_n mq188 dd188_1 rfl
theorem dd188_2 : decode cX12_readTerm 2 = .ok (.invokevirtual 187, 3) := by decide +kernel
theorem ww188_2 {d : Nat} {l0 l1 : Option mw_V} {v0 : mw_V} {a : Nat} {st : List mw_V} {σ : mw_S} {Q : Option mw_V → mw_S → Prop} (hr : mw_rc a = 12) (h8 : (st.map mw_cat).sum ≤ 8) : mw_WP d 188 2 [l0, l1] (v0 :: jR a :: st) σ Q ↔ mw_Call d 187 [jR a, v0] σ (fun r1 s1 => mw_WP d 188 5 [l0, l1] (r1.toList ++ st) s1 Q) := WP_inv (as := [v0]) mq188 dd188_2 (by decide) mq187 rfl hr h8
theorem dd188_5 : decode cX12_readTerm 5 = .ok (.aload_n 0, 1) := by decide +kernel
theorem ww188_5 {d : Nat} {l1 : Option mw_V} {x : Nat} {st : List mw_V} {σ : mw_S} {Q : Option mw_V → mw_S → Prop} : mw_WP d 188 5 [some (jR x), l1] st σ Q ↔ mw_WP d 188 6 [some (jR x), l1] (jR x :: st) σ Q := WP_aload_n mq188 dd188_5 rfl
theorem dd188_6 : decode cX12_readTerm 6 = .ok (.bipush 34, 2) := by decide +kernel
theorem ww188_6 {d : Nat} {l0 l1 : Option mw_V} {st : List mw_V} {σ : mw_S} {Q : Option mw_V → mw_S → Prop} : mw_WP d 188 6 [l0, l1] st σ Q ↔ mw_WP d 188 8 [l0, l1] (jI (34) :: st) σ Q := WP_bipush mq188 dd188_6 (by decide)
theorem dd188_8 : decode cX12_readTerm 8 = .ok (.invokevirtual 167, 3) := by decide +kernel
theorem ww188_8 {d : Nat} {l0 l1 : Option mw_V} {v0 : mw_V} {a : Nat} {st : List mw_V} {σ : mw_S} {Q : Option mw_V → mw_S → Prop} (hr : mw_rc a = 12) (h8 : (st.map mw_cat).sum ≤ 8) : mw_WP d 188 8 [l0, l1] (v0 :: jR a :: st) σ Q ↔ mw_Call d 180 [jR a, v0] σ (fun r1 s1 => mw_WP d 188 11 [l0, l1] (r1.toList ++ st) s1 Q) := WP_inv (as := [v0]) mq188 dd188_8 (by decide) mq180 rfl hr h8
theorem dd188_11 : decode cX12_readTerm 11 = .ok (.ifCond .eq 18, 3) := by decide +kernel
theorem ww188_11 {d : Nat} {l0 l1 : Option mw_V} {x : Int} {st : List mw_V} {σ : mw_S} {Q : Option mw_V → mw_S → Prop} : mw_WP d 188 11 [l0, l1] (jI x :: st) σ Q ↔ (if x = 0 then mw_WP d 188 29 [l0, l1] st σ Q else mw_WP d 188 14 [l0, l1] st σ Q) := WP_if_eq mq188 dd188_11 (by decide)
theorem dd188_14 : decode cX12_readTerm 14 = .ok (.aload_n 0, 1) := by decide +kernel
theorem ww188_14 {d : Nat} {l1 : Option mw_V} {x : Nat} {st : List mw_V} {σ : mw_S} {Q : Option mw_V → mw_S → Prop} : mw_WP d 188 14 [some (jR x), l1] st σ Q ↔ mw_WP d 188 15 [some (jR x), l1] (jR x :: st) σ Q := WP_aload_n mq188 dd188_14 rfl
theorem dd188_15 : decode cX12_readTerm 15 = .ok (.iload_n 1, 1) := by decide +kernel
theorem ww188_15 {d : Nat} {l0 : Option mw_V} {x : Int} {st : List mw_V} {σ : mw_S} {Q : Option mw_V → mw_S → Prop} : mw_WP d 188 15 [l0, some (jI x)] st σ Q ↔ mw_WP d 188 16 [l0, some (jI x)] (jI x :: st) σ Q := WP_iload_n mq188 dd188_15 rfl
theorem dd188_16 : decode cX12_readTerm 16 = .ok (.invokevirtual 187, 3) := by decide +kernel
theorem ww188_16 {d : Nat} {l0 l1 : Option mw_V} {v0 : mw_V} {a : Nat} {st : List mw_V} {σ : mw_S} {Q : Option mw_V → mw_S → Prop} (hr : mw_rc a = 12) (h8 : (st.map mw_cat).sum ≤ 8) : mw_WP d 188 16 [l0, l1] (v0 :: jR a :: st) σ Q ↔ mw_Call d 187 [jR a, v0] σ (fun r1 s1 => mw_WP d 188 19 [l0, l1] (r1.toList ++ st) s1 Q) := WP_inv (as := [v0]) mq188 dd188_16 (by decide) mq187 rfl hr h8
theorem dd188_19 : decode cX12_readTerm 19 = .ok (.aload_n 0, 1) := by decide +kernel
theorem ww188_19 {d : Nat} {l1 : Option mw_V} {x : Nat} {st : List mw_V} {σ : mw_S} {Q : Option mw_V → mw_S → Prop} : mw_WP d 188 19 [some (jR x), l1] st σ Q ↔ mw_WP d 188 20 [some (jR x), l1] (jR x :: st) σ Q := WP_aload_n mq188 dd188_19 rfl
theorem dd188_20 : decode cX12_readTerm 20 = .ok (.sipush 3002, 3) := by decide +kernel
theorem ww188_20 {d : Nat} {l0 l1 : Option mw_V} {st : List mw_V} {σ : mw_S} {Q : Option mw_V → mw_S → Prop} : mw_WP d 188 20 [l0, l1] st σ Q ↔ mw_WP d 188 23 [l0, l1] (jI (3002) :: st) σ Q := WP_sipush mq188 dd188_20 (by decide)
theorem dd188_23 : decode cX12_readTerm 23 = .ok (.invokevirtual 174, 3) := by decide +kernel
theorem ww188_23 {d : Nat} {l0 l1 : Option mw_V} {v0 : mw_V} {a : Nat} {st : List mw_V} {σ : mw_S} {Q : Option mw_V → mw_S → Prop} (hr : mw_rc a = 12) (h8 : (st.map mw_cat).sum ≤ 8) : mw_WP d 188 23 [l0, l1] (v0 :: jR a :: st) σ Q ↔ mw_Call d 185 [jR a, v0] σ (fun r1 s1 => mw_WP d 188 26 [l0, l1] (r1.toList ++ st) s1 Q) := WP_inv (as := [v0]) mq188 dd188_23 (by decide) mq185 rfl hr h8
theorem dd188_26 : decode cX12_readTerm 26 = .ok (.goto (-21), 3) := by decide +kernel
theorem ww188_26 {d : Nat} {l0 l1 : Option mw_V} {st : List mw_V} {σ : mw_S} {Q : Option mw_V → mw_S → Prop} : mw_WP d 188 26 [l0, l1] st σ Q ↔ mw_WP d 188 5 [l0, l1] st σ Q := WP_goto mq188 dd188_26 (by decide)
theorem dd188_29 : decode cX12_readTerm 29 = .ok (.return_, 1) := by decide +kernel
theorem ww188_29 {d : Nat} {l0 l1 : Option mw_V} {σ : mw_S} {Q : Option mw_V → mw_S → Prop} : mw_WP d 188 29 [l0, l1] [] σ Q ↔ Q none σ := WP_return mq188 dd188_29 rfl
theorem ee189 {d : Nat} {a : Nat} {z0 : Int} {σ : mw_S} {Q : Option mw_V → mw_S → Prop} : mw_Call (d + 1) 189 [jR a, jI z0] σ Q ↔ mw_WP d 189 0 [some (jR a), some (jI z0), none] [] σ Q := CL_u mq189 (Nat.le_of_ble_eq_true rfl) rfl
theorem dd189_0 : decode cX12_readSum 0 = .ok (.aload_n 0, 1) := by decide +kernel
theorem ww189_0 {d : Nat} {l1 l2 : Option mw_V} {x : Nat} {st : List mw_V} {σ : mw_S} {Q : Option mw_V → mw_S → Prop} : mw_WP d 189 0 [some (jR x), l1, l2] st σ Q ↔ mw_WP d 189 1 [some (jR x), l1, l2] (jR x :: st) σ Q := WP_aload_n mq189 dd189_0 rfl
theorem dd189_1 : decode cX12_readSum 1 = .ok (.iload_n 1, 1) := by decide +kernel
theorem ww189_1 {d : Nat} {l0 l2 : Option mw_V} {x : Int} {st : List mw_V} {σ : mw_S} {Q : Option mw_V → mw_S → Prop} : mw_WP d 189 1 [l0, some (jI x), l2] st σ Q ↔ mw_WP d 189 2 [l0, some (jI x), l2] (jI x :: st) σ Q := WP_iload_n mq189 dd189_1 rfl
theorem dd189_2 : decode cX12_readSum 2 = .ok (.invokevirtual 190, 3) := by decide +kernel
theorem ww189_2 {d : Nat} {l0 l1 l2 : Option mw_V} {v0 : mw_V} {a : Nat} {st : List mw_V} {σ : mw_S} {Q : Option mw_V → mw_S → Prop} (hr : mw_rc a = 12) (h8 : (st.map mw_cat).sum ≤ 8) : mw_WP d 189 2 [l0, l1, l2] (v0 :: jR a :: st) σ Q ↔ mw_Call d 188 [jR a, v0] σ (fun r1 s1 => mw_WP d 189 5 [l0, l1, l2] (r1.toList ++ st) s1 Q) := WP_inv (as := [v0]) mq189 dd189_2 (by decide) mq188 rfl hr h8
theorem dd189_5 : decode cX12_readSum 5 = .ok (.aload_n 0, 1) := by decide +kernel
theorem ww189_5 {d : Nat} {l1 l2 : Option mw_V} {x : Nat} {st : List mw_V} {σ : mw_S} {Q : Option mw_V → mw_S → Prop} : mw_WP d 189 5 [some (jR x), l1, l2] st σ Q ↔ mw_WP d 189 6 [some (jR x), l1, l2] (jR x :: st) σ Q := WP_aload_n mq189 dd189_5 rfl
theorem dd189_6 : decode cX12_readSum 6 = .ok (.bipush 32, 2) := by decide +kernel
theorem ww189_6 {d : Nat} {l0 l1 l2 : Option mw_V} {st : List mw_V} {σ : mw_S} {Q : Option mw_V → mw_S → Prop} : mw_WP d 189 6 [l0, l1, l2] st σ Q ↔ mw_WP d 189 8 [l0, l1, l2] (jI (32) :: st) σ Q := WP_bipush mq189 dd189_6 (by decide)
theorem dd189_8 : decode cX12_readSum 8 = .ok (.invokevirtual 149, 3) := by decide +kernel
theorem ww189_8 {d : Nat} {l0 l1 l2 : Option mw_V} {v0 : mw_V} {a : Nat} {st : List mw_V} {σ : mw_S} {Q : Option mw_V → mw_S → Prop} (hr : mw_rc a = 12) (h8 : (st.map mw_cat).sum ≤ 8) : mw_WP d 189 8 [l0, l1, l2] (v0 :: jR a :: st) σ Q ↔ mw_Call d 179 [jR a, v0] σ (fun r1 s1 => mw_WP d 189 11 [l0, l1, l2] (r1.toList ++ st) s1 Q) := WP_inv (as := [v0]) mq189 dd189_8 (by decide) mq179 rfl hr h8
theorem dd189_11 : decode cX12_readSum 11 = .ok (.ifCond .ne 12, 3) := by decide +kernel
theorem ww189_11 {d : Nat} {l0 l1 l2 : Option mw_V} {x : Int} {st : List mw_V} {σ : mw_S} {Q : Option mw_V → mw_S → Prop} : mw_WP d 189 11 [l0, l1, l2] (jI x :: st) σ Q ↔ (if ¬ x = 0 then mw_WP d 189 23 [l0, l1, l2] st σ Q else mw_WP d 189 14 [l0, l1, l2] st σ Q) := WP_if_ne mq189 dd189_11 (by decide)
theorem dd189_14 : decode cX12_readSum 14 = .ok (.aload_n 0, 1) := by decide +kernel
theorem ww189_14 {d : Nat} {l1 l2 : Option mw_V} {x : Nat} {st : List mw_V} {σ : mw_S} {Q : Option mw_V → mw_S → Prop} : mw_WP d 189 14 [some (jR x), l1, l2] st σ Q ↔ mw_WP d 189 15 [some (jR x), l1, l2] (jR x :: st) σ Q := WP_aload_n mq189 dd189_14 rfl
theorem dd189_15 : decode cX12_readSum 15 = .ok (.bipush 33, 2) := by decide +kernel
theorem ww189_15 {d : Nat} {l0 l1 l2 : Option mw_V} {st : List mw_V} {σ : mw_S} {Q : Option mw_V → mw_S → Prop} : mw_WP d 189 15 [l0, l1, l2] st σ Q ↔ mw_WP d 189 17 [l0, l1, l2] (jI (33) :: st) σ Q := WP_bipush mq189 dd189_15 (by decide)
theorem dd189_17 : decode cX12_readSum 17 = .ok (.invokevirtual 149, 3) := by decide +kernel
theorem ww189_17 {d : Nat} {l0 l1 l2 : Option mw_V} {v0 : mw_V} {a : Nat} {st : List mw_V} {σ : mw_S} {Q : Option mw_V → mw_S → Prop} (hr : mw_rc a = 12) (h8 : (st.map mw_cat).sum ≤ 8) : mw_WP d 189 17 [l0, l1, l2] (v0 :: jR a :: st) σ Q ↔ mw_Call d 179 [jR a, v0] σ (fun r1 s1 => mw_WP d 189 20 [l0, l1, l2] (r1.toList ++ st) s1 Q) := WP_inv (as := [v0]) mq189 dd189_17 (by decide) mq179 rfl hr h8
theorem dd189_20 : decode cX12_readSum 20 = .ok (.ifCond .eq 39, 3) := by decide +kernel
theorem ww189_20 {d : Nat} {l0 l1 l2 : Option mw_V} {x : Int} {st : List mw_V} {σ : mw_S} {Q : Option mw_V → mw_S → Prop} : mw_WP d 189 20 [l0, l1, l2] (jI x :: st) σ Q ↔ (if x = 0 then mw_WP d 189 59 [l0, l1, l2] st σ Q else mw_WP d 189 23 [l0, l1, l2] st σ Q) := WP_if_eq mq189 dd189_20 (by decide)
theorem dd189_23 : decode cX12_readSum 23 = .ok (.aload_n 0, 1) := by decide +kernel
theorem ww189_23 {d : Nat} {l1 l2 : Option mw_V} {x : Nat} {st : List mw_V} {σ : mw_S} {Q : Option mw_V → mw_S → Prop} : mw_WP d 189 23 [some (jR x), l1, l2] st σ Q ↔ mw_WP d 189 24 [some (jR x), l1, l2] (jR x :: st) σ Q := WP_aload_n mq189 dd189_23 rfl
theorem dd189_24 : decode cX12_readSum 24 = .ok (.getfield 125, 3) := by decide +kernel
theorem ww189_24 {d : Nat} {l0 l1 l2 : Option mw_V} {st : List mw_V} {σ : mw_S} {Q : Option mw_V → mw_S → Prop} : mw_WP d 189 24 [l0, l1, l2] (jR 100 :: st) σ Q ↔ mw_WP d 189 27 [l0, l1, l2] (jI (σ 100 9) :: st) σ Q := WP_getI (ci := 11) (k := 9) mq189 dd189_24 (by decide) (Or.inl rfl)
theorem dd189_27 : decode cX12_readSum 27 = .ok (.bipush 32, 2) := by decide +kernel
theorem ww189_27 {d : Nat} {l0 l1 l2 : Option mw_V} {st : List mw_V} {σ : mw_S} {Q : Option mw_V → mw_S → Prop} : mw_WP d 189 27 [l0, l1, l2] st σ Q ↔ mw_WP d 189 29 [l0, l1, l2] (jI (32) :: st) σ Q := WP_bipush mq189 dd189_27 (by decide)
theorem dd189_29 : decode cX12_readSum 29 = .ok (.if_icmp .ne 9, 3) := by decide +kernel
theorem ww189_29 {d : Nat} {l0 l1 l2 : Option mw_V} {x y : Int} {st : List mw_V} {σ : mw_S} {Q : Option mw_V → mw_S → Prop} : mw_WP d 189 29 [l0, l1, l2] (jI y :: jI x :: st) σ Q ↔ (if ¬ x = y then mw_WP d 189 38 [l0, l1, l2] st σ Q else mw_WP d 189 32 [l0, l1, l2] st σ Q) := WP_icmp_ne mq189 dd189_29 (by decide)
theorem dd189_32 : decode cX12_readSum 32 = .ok (.sipush 3000, 3) := by decide +kernel
theorem ww189_32 {d : Nat} {l0 l1 l2 : Option mw_V} {st : List mw_V} {σ : mw_S} {Q : Option mw_V → mw_S → Prop} : mw_WP d 189 32 [l0, l1, l2] st σ Q ↔ mw_WP d 189 35 [l0, l1, l2] (jI (3000) :: st) σ Q := WP_sipush mq189 dd189_32 (by decide)
theorem dd189_35 : decode cX12_readSum 35 = .ok (.goto 6, 3) := by decide +kernel
theorem ww189_35 {d : Nat} {l0 l1 l2 : Option mw_V} {st : List mw_V} {σ : mw_S} {Q : Option mw_V → mw_S → Prop} : mw_WP d 189 35 [l0, l1, l2] st σ Q ↔ mw_WP d 189 41 [l0, l1, l2] st σ Q := WP_goto mq189 dd189_35 (by decide)
theorem dd189_38 : decode cX12_readSum 38 = .ok (.sipush 3001, 3) := by decide +kernel
theorem ww189_38 {d : Nat} {l0 l1 l2 : Option mw_V} {st : List mw_V} {σ : mw_S} {Q : Option mw_V → mw_S → Prop} : mw_WP d 189 38 [l0, l1, l2] st σ Q ↔ mw_WP d 189 41 [l0, l1, l2] (jI (3001) :: st) σ Q := WP_sipush mq189 dd189_38 (by decide)
theorem dd189_41 : decode cX12_readSum 41 = .ok (.istore_n 2, 1) := by decide +kernel
theorem ww189_41 {d : Nat} {l0 l1 l2 : Option mw_V} {x : Int} {st : List mw_V} {σ : mw_S} {Q : Option mw_V → mw_S → Prop} (h : mw_nlo l1 = true) : mw_WP d 189 41 [l0, l1, l2] (jI x :: st) σ Q ↔ mw_WP d 189 42 [l0, l1, some (jI x)] st σ Q := WP_istore_n mq189 dd189_41 (Nat.le_of_ble_eq_true rfl) (mw_nl_of (i := 1) rfl h) rfl
theorem dd189_42 : decode cX12_readSum 42 = .ok (.aload_n 0, 1) := by decide +kernel
theorem ww189_42 {d : Nat} {l1 l2 : Option mw_V} {x : Nat} {st : List mw_V} {σ : mw_S} {Q : Option mw_V → mw_S → Prop} : mw_WP d 189 42 [some (jR x), l1, l2] st σ Q ↔ mw_WP d 189 43 [some (jR x), l1, l2] (jR x :: st) σ Q := WP_aload_n mq189 dd189_42 rfl
theorem dd189_43 : decode cX12_readSum 43 = .ok (.invokevirtual 152, 3) := by decide +kernel
theorem ww189_43 {d : Nat} {l0 l1 l2 : Option mw_V} {a : Nat} {st : List mw_V} {σ : mw_S} {Q : Option mw_V → mw_S → Prop} (hr : mw_rc a = 12) (h8 : (st.map mw_cat).sum ≤ 8) : mw_WP d 189 43 [l0, l1, l2] (jR a :: st) σ Q ↔ mw_Call d 177 [jR a] σ (fun r1 s1 => mw_WP d 189 46 [l0, l1, l2] (r1.toList ++ st) s1 Q) := WP_inv (as := []) mq189 dd189_43 (by decide) mq177 rfl hr h8
theorem dd189_46 : decode cX12_readSum 46 = .ok (.aload_n 0, 1) := by decide +kernel
theorem ww189_46 {d : Nat} {l1 l2 : Option mw_V} {x : Nat} {st : List mw_V} {σ : mw_S} {Q : Option mw_V → mw_S → Prop} : mw_WP d 189 46 [some (jR x), l1, l2] st σ Q ↔ mw_WP d 189 47 [some (jR x), l1, l2] (jR x :: st) σ Q := WP_aload_n mq189 dd189_46 rfl
theorem dd189_47 : decode cX12_readSum 47 = .ok (.iload_n 1, 1) := by decide +kernel
theorem ww189_47 {d : Nat} {l0 l2 : Option mw_V} {x : Int} {st : List mw_V} {σ : mw_S} {Q : Option mw_V → mw_S → Prop} : mw_WP d 189 47 [l0, some (jI x), l2] st σ Q ↔ mw_WP d 189 48 [l0, some (jI x), l2] (jI x :: st) σ Q := WP_iload_n mq189 dd189_47 rfl
theorem dd189_48 : decode cX12_readSum 48 = .ok (.invokevirtual 190, 3) := by decide +kernel
theorem ww189_48 {d : Nat} {l0 l1 l2 : Option mw_V} {v0 : mw_V} {a : Nat} {st : List mw_V} {σ : mw_S} {Q : Option mw_V → mw_S → Prop} (hr : mw_rc a = 12) (h8 : (st.map mw_cat).sum ≤ 8) : mw_WP d 189 48 [l0, l1, l2] (v0 :: jR a :: st) σ Q ↔ mw_Call d 188 [jR a, v0] σ (fun r1 s1 => mw_WP d 189 51 [l0, l1, l2] (r1.toList ++ st) s1 Q) := WP_inv (as := [v0]) mq189 dd189_48 (by decide) mq188 rfl hr h8
theorem dd189_51 : decode cX12_readSum 51 = .ok (.aload_n 0, 1) := by decide +kernel
theorem ww189_51 {d : Nat} {l1 l2 : Option mw_V} {x : Nat} {st : List mw_V} {σ : mw_S} {Q : Option mw_V → mw_S → Prop} : mw_WP d 189 51 [some (jR x), l1, l2] st σ Q ↔ mw_WP d 189 52 [some (jR x), l1, l2] (jR x :: st) σ Q := WP_aload_n mq189 dd189_51 rfl
theorem dd189_52 : decode cX12_readSum 52 = .ok (.iload_n 2, 1) := by decide +kernel
theorem ww189_52 {d : Nat} {l0 l1 : Option mw_V} {x : Int} {st : List mw_V} {σ : mw_S} {Q : Option mw_V → mw_S → Prop} : mw_WP d 189 52 [l0, l1, some (jI x)] st σ Q ↔ mw_WP d 189 53 [l0, l1, some (jI x)] (jI x :: st) σ Q := WP_iload_n mq189 dd189_52 rfl
theorem dd189_53 : decode cX12_readSum 53 = .ok (.invokevirtual 174, 3) := by decide +kernel
theorem ww189_53 {d : Nat} {l0 l1 l2 : Option mw_V} {v0 : mw_V} {a : Nat} {st : List mw_V} {σ : mw_S} {Q : Option mw_V → mw_S → Prop} (hr : mw_rc a = 12) (h8 : (st.map mw_cat).sum ≤ 8) : mw_WP d 189 53 [l0, l1, l2] (v0 :: jR a :: st) σ Q ↔ mw_Call d 185 [jR a, v0] σ (fun r1 s1 => mw_WP d 189 56 [l0, l1, l2] (r1.toList ++ st) s1 Q) := WP_inv (as := [v0]) mq189 dd189_53 (by decide) mq185 rfl hr h8
theorem dd189_56 : decode cX12_readSum 56 = .ok (.goto (-51), 3) := by decide +kernel
theorem ww189_56 {d : Nat} {l0 l1 l2 : Option mw_V} {st : List mw_V} {σ : mw_S} {Q : Option mw_V → mw_S → Prop} : mw_WP d 189 56 [l0, l1, l2] st σ Q ↔ mw_WP d 189 5 [l0, l1, l2] st σ Q := WP_goto mq189 dd189_56 (by decide)
theorem dd189_59 : decode cX12_readSum 59 = .ok (.return_, 1) := by decide +kernel
theorem ww189_59 {d : Nat} {l0 l1 l2 : Option mw_V} {σ : mw_S} {Q : Option mw_V → mw_S → Prop} : mw_WP d 189 59 [l0, l1, l2] [] σ Q ↔ Q none σ := WP_return mq189 dd189_59 rfl
theorem ee190 {d : Nat} {a : Nat} {z0 : Int} {σ : mw_S} {Q : Option mw_V → mw_S → Prop} : mw_Call (d + 1) 190 [jR a, jI z0] σ Q ↔ mw_WP d 190 0 [some (jR a), some (jI z0), none] [] σ Q := CL_u mq190 (Nat.le_of_ble_eq_true rfl) rfl
theorem dd190_0 : decode cX12_readUnit 0 = .ok (.aload_n 0, 1) := by decide +kernel
theorem ww190_0 {d : Nat} {l1 l2 : Option mw_V} {x : Nat} {st : List mw_V} {σ : mw_S} {Q : Option mw_V → mw_S → Prop} : mw_WP d 190 0 [some (jR x), l1, l2] st σ Q ↔ mw_WP d 190 1 [some (jR x), l1, l2] (jR x :: st) σ Q := WP_aload_n mq190 dd190_0 rfl
theorem dd190_1 : decode cX12_readUnit 1 = .ok (.bipush 19, 2) := by decide +kernel
theorem ww190_1 {d : Nat} {l0 l1 l2 : Option mw_V} {st : List mw_V} {σ : mw_S} {Q : Option mw_V → mw_S → Prop} : mw_WP d 190 1 [l0, l1, l2] st σ Q ↔ mw_WP d 190 3 [l0, l1, l2] (jI (19) :: st) σ Q := WP_bipush mq190 dd190_1 (by decide)
theorem dd190_3 : decode cX12_readUnit 3 = .ok (.invokevirtual 149, 3) := by decide +kernel
theorem ww190_3 {d : Nat} {l0 l1 l2 : Option mw_V} {v0 : mw_V} {a : Nat} {st : List mw_V} {σ : mw_S} {Q : Option mw_V → mw_S → Prop} (hr : mw_rc a = 12) (h8 : (st.map mw_cat).sum ≤ 8) : mw_WP d 190 3 [l0, l1, l2] (v0 :: jR a :: st) σ Q ↔ mw_Call d 179 [jR a, v0] σ (fun r1 s1 => mw_WP d 190 6 [l0, l1, l2] (r1.toList ++ st) s1 Q) := WP_inv (as := [v0]) mq190 dd190_3 (by decide) mq179 rfl hr h8
theorem dd190_6 : decode cX12_readUnit 6 = .ok (.ifCond .eq 27, 3) := by decide +kernel
theorem ww190_6 {d : Nat} {l0 l1 l2 : Option mw_V} {x : Int} {st : List mw_V} {σ : mw_S} {Q : Option mw_V → mw_S → Prop} : mw_WP d 190 6 [l0, l1, l2] (jI x :: st) σ Q ↔ (if x = 0 then mw_WP d 190 33 [l0, l1, l2] st σ Q else mw_WP d 190 9 [l0, l1, l2] st σ Q) := WP_if_eq mq190 dd190_6 (by decide)
theorem dd190_9 : decode cX12_readUnit 9 = .ok (.aload_n 0, 1) := by decide +kernel
theorem ww190_9 {d : Nat} {l1 l2 : Option mw_V} {x : Nat} {st : List mw_V} {σ : mw_S} {Q : Option mw_V → mw_S → Prop} : mw_WP d 190 9 [some (jR x), l1, l2] st σ Q ↔ mw_WP d 190 10 [some (jR x), l1, l2] (jR x :: st) σ Q := WP_aload_n mq190 dd190_9 rfl
theorem dd190_10 : decode cX12_readUnit 10 = .ok (.iload_n 1, 1) := by decide +kernel
theorem ww190_10 {d : Nat} {l0 l2 : Option mw_V} {x : Int} {st : List mw_V} {σ : mw_S} {Q : Option mw_V → mw_S → Prop} : mw_WP d 190 10 [l0, some (jI x), l2] st σ Q ↔ mw_WP d 190 11 [l0, some (jI x), l2] (jI x :: st) σ Q := WP_iload_n mq190 dd190_10 rfl
theorem dd190_11 : decode cX12_readUnit 11 = .ok (.invokevirtual 181, 3) := by decide +kernel
theorem ww190_11 {d : Nat} {l0 l1 l2 : Option mw_V} {v0 : mw_V} {a : Nat} {st : List mw_V} {σ : mw_S} {Q : Option mw_V → mw_S → Prop} (hr : mw_rc a = 12) (h8 : (st.map mw_cat).sum ≤ 8) : mw_WP d 190 11 [l0, l1, l2] (v0 :: jR a :: st) σ Q ↔ mw_Call d 186 [jR a, v0] σ (fun r1 s1 => mw_WP d 190 14 [l0, l1, l2] (r1.toList ++ st) s1 Q) := WP_inv (as := [v0]) mq190 dd190_11 (by decide) mq186 rfl hr h8
theorem dd190_14 : decode cX12_readUnit 14 = .ok (.ifCond .ne 4, 3) := by decide +kernel
theorem ww190_14 {d : Nat} {l0 l1 l2 : Option mw_V} {x : Int} {st : List mw_V} {σ : mw_S} {Q : Option mw_V → mw_S → Prop} : mw_WP d 190 14 [l0, l1, l2] (jI x :: st) σ Q ↔ (if ¬ x = 0 then mw_WP d 190 18 [l0, l1, l2] st σ Q else mw_WP d 190 17 [l0, l1, l2] st σ Q) := WP_if_ne mq190 dd190_14 (by decide)
theorem dd190_17 : decode cX12_readUnit 17 = .ok (.return_, 1) := by decide +kernel
theorem ww190_17 {d : Nat} {l0 l1 l2 : Option mw_V} {σ : mw_S} {Q : Option mw_V → mw_S → Prop} : mw_WP d 190 17 [l0, l1, l2] [] σ Q ↔ Q none σ := WP_return mq190 dd190_17 rfl
theorem dd190_18 : decode cX12_readUnit 18 = .ok (.aload_n 0, 1) := by decide +kernel
theorem ww190_18 {d : Nat} {l1 l2 : Option mw_V} {x : Nat} {st : List mw_V} {σ : mw_S} {Q : Option mw_V → mw_S → Prop} : mw_WP d 190 18 [some (jR x), l1, l2] st σ Q ↔ mw_WP d 190 19 [some (jR x), l1, l2] (jR x :: st) σ Q := WP_aload_n mq190 dd190_18 rfl
theorem dd190_19 : decode cX12_readUnit 19 = .ok (.iload_n 1, 1) := by decide +kernel
theorem ww190_19 {d : Nat} {l0 l2 : Option mw_V} {x : Int} {st : List mw_V} {σ : mw_S} {Q : Option mw_V → mw_S → Prop} : mw_WP d 190 19 [l0, some (jI x), l2] st σ Q ↔ mw_WP d 190 20 [l0, some (jI x), l2] (jI x :: st) σ Q := WP_iload_n mq190 dd190_19 rfl
theorem dd190_20 : decode cX12_readUnit 20 = .ok (.iconst 1, 1) := by decide +kernel
theorem ww190_20 {d : Nat} {l0 l1 l2 : Option mw_V} {st : List mw_V} {σ : mw_S} {Q : Option mw_V → mw_S → Prop} : mw_WP d 190 20 [l0, l1, l2] st σ Q ↔ mw_WP d 190 21 [l0, l1, l2] (jI (1) :: st) σ Q := WP_iconst mq190 dd190_20 (by decide)
theorem dd190_21 : decode cX12_readUnit 21 = .ok (.iadd, 1) := by decide +kernel
theorem ww190_21 {d : Nat} {l0 l1 l2 : Option mw_V} {x y : Int} {st : List mw_V} {σ : mw_S} {Q : Option mw_V → mw_S → Prop} : mw_WP d 190 21 [l0, l1, l2] (jI y :: jI x :: st) σ Q ↔ mw_WP d 190 22 [l0, l1, l2] (jI (w32 (x + y)) :: st) σ Q := WP_iadd mq190 dd190_21
theorem dd190_22 : decode cX12_readUnit 22 = .ok (.invokevirtual 193, 3) := by decide +kernel
theorem ww190_22 {d : Nat} {l0 l1 l2 : Option mw_V} {v0 : mw_V} {a : Nat} {st : List mw_V} {σ : mw_S} {Q : Option mw_V → mw_S → Prop} (hr : mw_rc a = 12) (h8 : (st.map mw_cat).sum ≤ 8) : mw_WP d 190 22 [l0, l1, l2] (v0 :: jR a :: st) σ Q ↔ mw_Call d 190 [jR a, v0] σ (fun r1 s1 => mw_WP d 190 25 [l0, l1, l2] (r1.toList ++ st) s1 Q) := WP_inv (as := [v0]) mq190 dd190_22 (by decide) mq190 rfl hr h8
theorem dd190_25 : decode cX12_readUnit 25 = .ok (.aload_n 0, 1) := by decide +kernel
theorem ww190_25 {d : Nat} {l1 l2 : Option mw_V} {x : Nat} {st : List mw_V} {σ : mw_S} {Q : Option mw_V → mw_S → Prop} : mw_WP d 190 25 [some (jR x), l1, l2] st σ Q ↔ mw_WP d 190 26 [some (jR x), l1, l2] (jR x :: st) σ Q := WP_aload_n mq190 dd190_25 rfl
theorem dd190_26 : decode cX12_readUnit 26 = .ok (.sipush 3008, 3) := by decide +kernel
theorem ww190_26 {d : Nat} {l0 l1 l2 : Option mw_V} {st : List mw_V} {σ : mw_S} {Q : Option mw_V → mw_S → Prop} : mw_WP d 190 26 [l0, l1, l2] st σ Q ↔ mw_WP d 190 29 [l0, l1, l2] (jI (3008) :: st) σ Q := WP_sipush mq190 dd190_26 (by decide)
theorem dd190_29 : decode cX12_readUnit 29 = .ok (.invokevirtual 174, 3) := by decide +kernel
theorem ww190_29 {d : Nat} {l0 l1 l2 : Option mw_V} {v0 : mw_V} {a : Nat} {st : List mw_V} {σ : mw_S} {Q : Option mw_V → mw_S → Prop} (hr : mw_rc a = 12) (h8 : (st.map mw_cat).sum ≤ 8) : mw_WP d 190 29 [l0, l1, l2] (v0 :: jR a :: st) σ Q ↔ mw_Call d 185 [jR a, v0] σ (fun r1 s1 => mw_WP d 190 32 [l0, l1, l2] (r1.toList ++ st) s1 Q) := WP_inv (as := [v0]) mq190 dd190_29 (by decide) mq185 rfl hr h8
theorem dd190_32 : decode cX12_readUnit 32 = .ok (.return_, 1) := by decide +kernel
theorem ww190_32 {d : Nat} {l0 l1 l2 : Option mw_V} {σ : mw_S} {Q : Option mw_V → mw_S → Prop} : mw_WP d 190 32 [l0, l1, l2] [] σ Q ↔ Q none σ := WP_return mq190 dd190_32 rfl
theorem dd190_33 : decode cX12_readUnit 33 = .ok (.aload_n 0, 1) := by decide +kernel
theorem ww190_33 {d : Nat} {l1 l2 : Option mw_V} {x : Nat} {st : List mw_V} {σ : mw_S} {Q : Option mw_V → mw_S → Prop} : mw_WP d 190 33 [some (jR x), l1, l2] st σ Q ↔ mw_WP d 190 34 [some (jR x), l1, l2] (jR x :: st) σ Q := WP_aload_n mq190 dd190_33 rfl
theorem dd190_34 : decode cX12_readUnit 34 = .ok (.bipush 37, 2) := by decide +kernel
theorem ww190_34 {d : Nat} {l0 l1 l2 : Option mw_V} {st : List mw_V} {σ : mw_S} {Q : Option mw_V → mw_S → Prop} : mw_WP d 190 34 [l0, l1, l2] st σ Q ↔ mw_WP d 190 36 [l0, l1, l2] (jI (37) :: st) σ Q := WP_bipush mq190 dd190_34 (by decide)
theorem dd190_36 : decode cX12_readUnit 36 = .ok (.invokevirtual 149, 3) := by decide +kernel
theorem ww190_36 {d : Nat} {l0 l1 l2 : Option mw_V} {v0 : mw_V} {a : Nat} {st : List mw_V} {σ : mw_S} {Q : Option mw_V → mw_S → Prop} (hr : mw_rc a = 12) (h8 : (st.map mw_cat).sum ≤ 8) : mw_WP d 190 36 [l0, l1, l2] (v0 :: jR a :: st) σ Q ↔ mw_Call d 179 [jR a, v0] σ (fun r1 s1 => mw_WP d 190 39 [l0, l1, l2] (r1.toList ++ st) s1 Q) := WP_inv (as := [v0]) mq190 dd190_36 (by decide) mq179 rfl hr h8
theorem dd190_39 : decode cX12_readUnit 39 = .ok (.ifCond .eq 34, 3) := by decide +kernel
theorem ww190_39 {d : Nat} {l0 l1 l2 : Option mw_V} {x : Int} {st : List mw_V} {σ : mw_S} {Q : Option mw_V → mw_S → Prop} : mw_WP d 190 39 [l0, l1, l2] (jI x :: st) σ Q ↔ (if x = 0 then mw_WP d 190 73 [l0, l1, l2] st σ Q else mw_WP d 190 42 [l0, l1, l2] st σ Q) := WP_if_eq mq190 dd190_39 (by decide)
theorem dd190_42 : decode cX12_readUnit 42 = .ok (.aload_n 0, 1) := by decide +kernel
theorem ww190_42 {d : Nat} {l1 l2 : Option mw_V} {x : Nat} {st : List mw_V} {σ : mw_S} {Q : Option mw_V → mw_S → Prop} : mw_WP d 190 42 [some (jR x), l1, l2] st σ Q ↔ mw_WP d 190 43 [some (jR x), l1, l2] (jR x :: st) σ Q := WP_aload_n mq190 dd190_42 rfl
theorem dd190_43 : decode cX12_readUnit 43 = .ok (.iload_n 1, 1) := by decide +kernel
theorem ww190_43 {d : Nat} {l0 l2 : Option mw_V} {x : Int} {st : List mw_V} {σ : mw_S} {Q : Option mw_V → mw_S → Prop} : mw_WP d 190 43 [l0, some (jI x), l2] st σ Q ↔ mw_WP d 190 44 [l0, some (jI x), l2] (jI x :: st) σ Q := WP_iload_n mq190 dd190_43 rfl
theorem dd190_44 : decode cX12_readUnit 44 = .ok (.invokevirtual 181, 3) := by decide +kernel
theorem ww190_44 {d : Nat} {l0 l1 l2 : Option mw_V} {v0 : mw_V} {a : Nat} {st : List mw_V} {σ : mw_S} {Q : Option mw_V → mw_S → Prop} (hr : mw_rc a = 12) (h8 : (st.map mw_cat).sum ≤ 8) : mw_WP d 190 44 [l0, l1, l2] (v0 :: jR a :: st) σ Q ↔ mw_Call d 186 [jR a, v0] σ (fun r1 s1 => mw_WP d 190 47 [l0, l1, l2] (r1.toList ++ st) s1 Q) := WP_inv (as := [v0]) mq190 dd190_44 (by decide) mq186 rfl hr h8
theorem dd190_47 : decode cX12_readUnit 47 = .ok (.ifCond .ne 4, 3) := by decide +kernel
theorem ww190_47 {d : Nat} {l0 l1 l2 : Option mw_V} {x : Int} {st : List mw_V} {σ : mw_S} {Q : Option mw_V → mw_S → Prop} : mw_WP d 190 47 [l0, l1, l2] (jI x :: st) σ Q ↔ (if ¬ x = 0 then mw_WP d 190 51 [l0, l1, l2] st σ Q else mw_WP d 190 50 [l0, l1, l2] st σ Q) := WP_if_ne mq190 dd190_47 (by decide)
theorem dd190_50 : decode cX12_readUnit 50 = .ok (.return_, 1) := by decide +kernel
theorem ww190_50 {d : Nat} {l0 l1 l2 : Option mw_V} {σ : mw_S} {Q : Option mw_V → mw_S → Prop} : mw_WP d 190 50 [l0, l1, l2] [] σ Q ↔ Q none σ := WP_return mq190 dd190_50 rfl
theorem dd190_51 : decode cX12_readUnit 51 = .ok (.aload_n 0, 1) := by decide +kernel
theorem ww190_51 {d : Nat} {l1 l2 : Option mw_V} {x : Nat} {st : List mw_V} {σ : mw_S} {Q : Option mw_V → mw_S → Prop} : mw_WP d 190 51 [some (jR x), l1, l2] st σ Q ↔ mw_WP d 190 52 [some (jR x), l1, l2] (jR x :: st) σ Q := WP_aload_n mq190 dd190_51 rfl
theorem dd190_52 : decode cX12_readUnit 52 = .ok (.iload_n 1, 1) := by decide +kernel
theorem ww190_52 {d : Nat} {l0 l2 : Option mw_V} {x : Int} {st : List mw_V} {σ : mw_S} {Q : Option mw_V → mw_S → Prop} : mw_WP d 190 52 [l0, some (jI x), l2] st σ Q ↔ mw_WP d 190 53 [l0, some (jI x), l2] (jI x :: st) σ Q := WP_iload_n mq190 dd190_52 rfl
theorem dd190_53 : decode cX12_readUnit 53 = .ok (.iconst 1, 1) := by decide +kernel
theorem ww190_53 {d : Nat} {l0 l1 l2 : Option mw_V} {st : List mw_V} {σ : mw_S} {Q : Option mw_V → mw_S → Prop} : mw_WP d 190 53 [l0, l1, l2] st σ Q ↔ mw_WP d 190 54 [l0, l1, l2] (jI (1) :: st) σ Q := WP_iconst mq190 dd190_53 (by decide)
theorem dd190_54 : decode cX12_readUnit 54 = .ok (.iadd, 1) := by decide +kernel
theorem ww190_54 {d : Nat} {l0 l1 l2 : Option mw_V} {x y : Int} {st : List mw_V} {σ : mw_S} {Q : Option mw_V → mw_S → Prop} : mw_WP d 190 54 [l0, l1, l2] (jI y :: jI x :: st) σ Q ↔ mw_WP d 190 55 [l0, l1, l2] (jI (w32 (x + y)) :: st) σ Q := WP_iadd mq190 dd190_54
theorem dd190_55 : decode cX12_readUnit 55 = .ok (.invokevirtual 196, 3) := by decide +kernel
theorem ww190_55 {d : Nat} {l0 l1 l2 : Option mw_V} {v0 : mw_V} {a : Nat} {st : List mw_V} {σ : mw_S} {Q : Option mw_V → mw_S → Prop} (hr : mw_rc a = 12) (h8 : (st.map mw_cat).sum ≤ 8) : mw_WP d 190 55 [l0, l1, l2] (v0 :: jR a :: st) σ Q ↔ mw_Call d 192 [jR a, v0] σ (fun r1 s1 => mw_WP d 190 58 [l0, l1, l2] (r1.toList ++ st) s1 Q) := WP_inv (as := [v0]) mq190 dd190_55 (by decide) mq192 rfl hr h8
theorem dd190_58 : decode cX12_readUnit 58 = .ok (.aload_n 0, 1) := by decide +kernel
theorem ww190_58 {d : Nat} {l1 l2 : Option mw_V} {x : Nat} {st : List mw_V} {σ : mw_S} {Q : Option mw_V → mw_S → Prop} : mw_WP d 190 58 [some (jR x), l1, l2] st σ Q ↔ mw_WP d 190 59 [some (jR x), l1, l2] (jR x :: st) σ Q := WP_aload_n mq190 dd190_58 rfl
theorem dd190_59 : decode cX12_readUnit 59 = .ok (.bipush 38, 2) := by decide +kernel
theorem ww190_59 {d : Nat} {l0 l1 l2 : Option mw_V} {st : List mw_V} {σ : mw_S} {Q : Option mw_V → mw_S → Prop} : mw_WP d 190 59 [l0, l1, l2] st σ Q ↔ mw_WP d 190 61 [l0, l1, l2] (jI (38) :: st) σ Q := WP_bipush mq190 dd190_59 (by decide)
theorem dd190_61 : decode cX12_readUnit 61 = .ok (.invokevirtual 167, 3) := by decide +kernel
theorem ww190_61 {d : Nat} {l0 l1 l2 : Option mw_V} {v0 : mw_V} {a : Nat} {st : List mw_V} {σ : mw_S} {Q : Option mw_V → mw_S → Prop} (hr : mw_rc a = 12) (h8 : (st.map mw_cat).sum ≤ 8) : mw_WP d 190 61 [l0, l1, l2] (v0 :: jR a :: st) σ Q ↔ mw_Call d 180 [jR a, v0] σ (fun r1 s1 => mw_WP d 190 64 [l0, l1, l2] (r1.toList ++ st) s1 Q) := WP_inv (as := [v0]) mq190 dd190_61 (by decide) mq180 rfl hr h8
theorem dd190_64 : decode cX12_readUnit 64 = .ok (.ifCond .ne 8, 3) := by decide +kernel
theorem ww190_64 {d : Nat} {l0 l1 l2 : Option mw_V} {x : Int} {st : List mw_V} {σ : mw_S} {Q : Option mw_V → mw_S → Prop} : mw_WP d 190 64 [l0, l1, l2] (jI x :: st) σ Q ↔ (if ¬ x = 0 then mw_WP d 190 72 [l0, l1, l2] st σ Q else mw_WP d 190 67 [l0, l1, l2] st σ Q) := WP_if_ne mq190 dd190_64 (by decide)
theorem dd190_67 : decode cX12_readUnit 67 = .ok (.aload_n 0, 1) := by decide +kernel
theorem ww190_67 {d : Nat} {l1 l2 : Option mw_V} {x : Nat} {st : List mw_V} {σ : mw_S} {Q : Option mw_V → mw_S → Prop} : mw_WP d 190 67 [some (jR x), l1, l2] st σ Q ↔ mw_WP d 190 68 [some (jR x), l1, l2] (jR x :: st) σ Q := WP_aload_n mq190 dd190_67 rfl
theorem dd190_68 : decode cX12_readUnit 68 = .ok (.iconst 2, 1) := by decide +kernel
theorem ww190_68 {d : Nat} {l0 l1 l2 : Option mw_V} {st : List mw_V} {σ : mw_S} {Q : Option mw_V → mw_S → Prop} : mw_WP d 190 68 [l0, l1, l2] st σ Q ↔ mw_WP d 190 69 [l0, l1, l2] (jI (2) :: st) σ Q := WP_iconst mq190 dd190_68 (by decide)
theorem dd190_69 : decode cX12_readUnit 69 = .ok (.invokevirtual 155, 3) := by decide +kernel
theorem ww190_69 {d : Nat} {l0 l1 l2 : Option mw_V} {v0 : mw_V} {a : Nat} {st : List mw_V} {σ : mw_S} {Q : Option mw_V → mw_S → Prop} (hr : mw_rc a = 12) (h8 : (st.map mw_cat).sum ≤ 8) : mw_WP d 190 69 [l0, l1, l2] (v0 :: jR a :: st) σ Q ↔ mw_Call d 178 [jR a, v0] σ (fun r1 s1 => mw_WP d 190 72 [l0, l1, l2] (r1.toList ++ st) s1 Q) := WP_inv (as := [v0]) mq190 dd190_69 (by decide) mq178 rfl hr h8
theorem dd190_72 : decode cX12_readUnit 72 = .ok (.return_, 1) := by decide +kernel
theorem ww190_72 {d : Nat} {l0 l1 l2 : Option mw_V} {σ : mw_S} {Q : Option mw_V → mw_S → Prop} : mw_WP d 190 72 [l0, l1, l2] [] σ Q ↔ Q none σ := WP_return mq190 dd190_72 rfl
theorem dd190_73 : decode cX12_readUnit 73 = .ok (.aload_n 0, 1) := by decide +kernel
theorem ww190_73 {d : Nat} {l1 l2 : Option mw_V} {x : Nat} {st : List mw_V} {σ : mw_S} {Q : Option mw_V → mw_S → Prop} : mw_WP d 190 73 [some (jR x), l1, l2] st σ Q ↔ mw_WP d 190 74 [some (jR x), l1, l2] (jR x :: st) σ Q := WP_aload_n mq190 dd190_73 rfl
theorem dd190_74 : decode cX12_readUnit 74 = .ok (.iload_n 1, 1) := by decide +kernel
theorem ww190_74 {d : Nat} {l0 l2 : Option mw_V} {x : Int} {st : List mw_V} {σ : mw_S} {Q : Option mw_V → mw_S → Prop} : mw_WP d 190 74 [l0, some (jI x), l2] st σ Q ↔ mw_WP d 190 75 [l0, some (jI x), l2] (jI x :: st) σ Q := WP_iload_n mq190 dd190_74 rfl
theorem dd190_75 : decode cX12_readUnit 75 = .ok (.invokevirtual 184, 3) := by decide +kernel
theorem ww190_75 {d : Nat} {l0 l1 l2 : Option mw_V} {v0 : mw_V} {a : Nat} {st : List mw_V} {σ : mw_S} {Q : Option mw_V → mw_S → Prop} (hr : mw_rc a = 12) (h8 : (st.map mw_cat).sum ≤ 8) : mw_WP d 190 75 [l0, l1, l2] (v0 :: jR a :: st) σ Q ↔ mw_Call d 189 [jR a, v0] σ (fun r1 s1 => mw_WP d 190 78 [l0, l1, l2] (r1.toList ++ st) s1 Q) := WP_inv (as := [v0]) mq190 dd190_75 (by decide) mq189 rfl hr h8
theorem dd190_78 : decode cX12_readUnit 78 = .ok (.aload_n 0, 1) := by decide +kernel
theorem ww190_78 {d : Nat} {l1 l2 : Option mw_V} {x : Nat} {st : List mw_V} {σ : mw_S} {Q : Option mw_V → mw_S → Prop} : mw_WP d 190 78 [some (jR x), l1, l2] st σ Q ↔ mw_WP d 190 79 [some (jR x), l1, l2] (jR x :: st) σ Q := WP_aload_n mq190 dd190_78 rfl
theorem dd190_79 : decode cX12_readUnit 79 = .ok (.bipush 39, 2) := by decide +kernel
theorem ww190_79 {d : Nat} {l0 l1 l2 : Option mw_V} {st : List mw_V} {σ : mw_S} {Q : Option mw_V → mw_S → Prop} : mw_WP d 190 79 [l0, l1, l2] st σ Q ↔ mw_WP d 190 81 [l0, l1, l2] (jI (39) :: st) σ Q := WP_bipush mq190 dd190_79 (by decide)
theorem dd190_81 : decode cX12_readUnit 81 = .ok (.invokevirtual 149, 3) := by decide +kernel
theorem ww190_81 {d : Nat} {l0 l1 l2 : Option mw_V} {v0 : mw_V} {a : Nat} {st : List mw_V} {σ : mw_S} {Q : Option mw_V → mw_S → Prop} (hr : mw_rc a = 12) (h8 : (st.map mw_cat).sum ≤ 8) : mw_WP d 190 81 [l0, l1, l2] (v0 :: jR a :: st) σ Q ↔ mw_Call d 179 [jR a, v0] σ (fun r1 s1 => mw_WP d 190 84 [l0, l1, l2] (r1.toList ++ st) s1 Q) := WP_inv (as := [v0]) mq190 dd190_81 (by decide) mq179 rfl hr h8
theorem dd190_84 : decode cX12_readUnit 84 = .ok (.ifCond .eq 9, 3) := by decide +kernel
theorem ww190_84 {d : Nat} {l0 l1 l2 : Option mw_V} {x : Int} {st : List mw_V} {σ : mw_S} {Q : Option mw_V → mw_S → Prop} : mw_WP d 190 84 [l0, l1, l2] (jI x :: st) σ Q ↔ (if x = 0 then mw_WP d 190 93 [l0, l1, l2] st σ Q else mw_WP d 190 87 [l0, l1, l2] st σ Q) := WP_if_eq mq190 dd190_84 (by decide)
theorem dd190_87 : decode cX12_readUnit 87 = .ok (.sipush 3003, 3) := by decide +kernel
theorem ww190_87 {d : Nat} {l0 l1 l2 : Option mw_V} {st : List mw_V} {σ : mw_S} {Q : Option mw_V → mw_S → Prop} : mw_WP d 190 87 [l0, l1, l2] st σ Q ↔ mw_WP d 190 90 [l0, l1, l2] (jI (3003) :: st) σ Q := WP_sipush mq190 dd190_87 (by decide)
theorem dd190_90 : decode cX12_readUnit 90 = .ok (.goto 21, 3) := by decide +kernel
theorem ww190_90 {d : Nat} {l0 l1 l2 : Option mw_V} {st : List mw_V} {σ : mw_S} {Q : Option mw_V → mw_S → Prop} : mw_WP d 190 90 [l0, l1, l2] st σ Q ↔ mw_WP d 190 111 [l0, l1, l2] st σ Q := WP_goto mq190 dd190_90 (by decide)
theorem dd190_93 : decode cX12_readUnit 93 = .ok (.aload_n 0, 1) := by decide +kernel
theorem ww190_93 {d : Nat} {l1 l2 : Option mw_V} {x : Nat} {st : List mw_V} {σ : mw_S} {Q : Option mw_V → mw_S → Prop} : mw_WP d 190 93 [some (jR x), l1, l2] st σ Q ↔ mw_WP d 190 94 [some (jR x), l1, l2] (jR x :: st) σ Q := WP_aload_n mq190 dd190_93 rfl
theorem dd190_94 : decode cX12_readUnit 94 = .ok (.bipush 40, 2) := by decide +kernel
theorem ww190_94 {d : Nat} {l0 l1 l2 : Option mw_V} {st : List mw_V} {σ : mw_S} {Q : Option mw_V → mw_S → Prop} : mw_WP d 190 94 [l0, l1, l2] st σ Q ↔ mw_WP d 190 96 [l0, l1, l2] (jI (40) :: st) σ Q := WP_bipush mq190 dd190_94 (by decide)
theorem dd190_96 : decode cX12_readUnit 96 = .ok (.invokevirtual 149, 3) := by decide +kernel
theorem ww190_96 {d : Nat} {l0 l1 l2 : Option mw_V} {v0 : mw_V} {a : Nat} {st : List mw_V} {σ : mw_S} {Q : Option mw_V → mw_S → Prop} (hr : mw_rc a = 12) (h8 : (st.map mw_cat).sum ≤ 8) : mw_WP d 190 96 [l0, l1, l2] (v0 :: jR a :: st) σ Q ↔ mw_Call d 179 [jR a, v0] σ (fun r1 s1 => mw_WP d 190 99 [l0, l1, l2] (r1.toList ++ st) s1 Q) := WP_inv (as := [v0]) mq190 dd190_96 (by decide) mq179 rfl hr h8
theorem dd190_99 : decode cX12_readUnit 99 = .ok (.ifCond .eq 9, 3) := by decide +kernel
theorem ww190_99 {d : Nat} {l0 l1 l2 : Option mw_V} {x : Int} {st : List mw_V} {σ : mw_S} {Q : Option mw_V → mw_S → Prop} : mw_WP d 190 99 [l0, l1, l2] (jI x :: st) σ Q ↔ (if x = 0 then mw_WP d 190 108 [l0, l1, l2] st σ Q else mw_WP d 190 102 [l0, l1, l2] st σ Q) := WP_if_eq mq190 dd190_99 (by decide)
theorem dd190_102 : decode cX12_readUnit 102 = .ok (.sipush 3004, 3) := by decide +kernel
theorem ww190_102 {d : Nat} {l0 l1 l2 : Option mw_V} {st : List mw_V} {σ : mw_S} {Q : Option mw_V → mw_S → Prop} : mw_WP d 190 102 [l0, l1, l2] st σ Q ↔ mw_WP d 190 105 [l0, l1, l2] (jI (3004) :: st) σ Q := WP_sipush mq190 dd190_102 (by decide)
theorem dd190_105 : decode cX12_readUnit 105 = .ok (.goto 6, 3) := by decide +kernel
theorem ww190_105 {d : Nat} {l0 l1 l2 : Option mw_V} {st : List mw_V} {σ : mw_S} {Q : Option mw_V → mw_S → Prop} : mw_WP d 190 105 [l0, l1, l2] st σ Q ↔ mw_WP d 190 111 [l0, l1, l2] st σ Q := WP_goto mq190 dd190_105 (by decide)
theorem dd190_108 : decode cX12_readUnit 108 = .ok (.sipush 3005, 3) := by decide +kernel
theorem ww190_108 {d : Nat} {l0 l1 l2 : Option mw_V} {st : List mw_V} {σ : mw_S} {Q : Option mw_V → mw_S → Prop} : mw_WP d 190 108 [l0, l1, l2] st σ Q ↔ mw_WP d 190 111 [l0, l1, l2] (jI (3005) :: st) σ Q := WP_sipush mq190 dd190_108 (by decide)
theorem dd190_111 : decode cX12_readUnit 111 = .ok (.istore_n 2, 1) := by decide +kernel
theorem ww190_111 {d : Nat} {l0 l1 l2 : Option mw_V} {x : Int} {st : List mw_V} {σ : mw_S} {Q : Option mw_V → mw_S → Prop} (h : mw_nlo l1 = true) : mw_WP d 190 111 [l0, l1, l2] (jI x :: st) σ Q ↔ mw_WP d 190 112 [l0, l1, some (jI x)] st σ Q := WP_istore_n mq190 dd190_111 (Nat.le_of_ble_eq_true rfl) (mw_nl_of (i := 1) rfl h) rfl
theorem dd190_112 : decode cX12_readUnit 112 = .ok (.aload_n 0, 1) := by decide +kernel
theorem ww190_112 {d : Nat} {l1 l2 : Option mw_V} {x : Nat} {st : List mw_V} {σ : mw_S} {Q : Option mw_V → mw_S → Prop} : mw_WP d 190 112 [some (jR x), l1, l2] st σ Q ↔ mw_WP d 190 113 [some (jR x), l1, l2] (jR x :: st) σ Q := WP_aload_n mq190 dd190_112 rfl
theorem dd190_113 : decode cX12_readUnit 113 = .ok (.bipush 39, 2) := by decide +kernel
theorem ww190_113 {d : Nat} {l0 l1 l2 : Option mw_V} {st : List mw_V} {σ : mw_S} {Q : Option mw_V → mw_S → Prop} : mw_WP d 190 113 [l0, l1, l2] st σ Q ↔ mw_WP d 190 115 [l0, l1, l2] (jI (39) :: st) σ Q := WP_bipush mq190 dd190_113 (by decide)
theorem dd190_115 : decode cX12_readUnit 115 = .ok (.invokevirtual 149, 3) := by decide +kernel
theorem ww190_115 {d : Nat} {l0 l1 l2 : Option mw_V} {v0 : mw_V} {a : Nat} {st : List mw_V} {σ : mw_S} {Q : Option mw_V → mw_S → Prop} (hr : mw_rc a = 12) (h8 : (st.map mw_cat).sum ≤ 8) : mw_WP d 190 115 [l0, l1, l2] (v0 :: jR a :: st) σ Q ↔ mw_Call d 179 [jR a, v0] σ (fun r1 s1 => mw_WP d 190 118 [l0, l1, l2] (r1.toList ++ st) s1 Q) := WP_inv (as := [v0]) mq190 dd190_115 (by decide) mq179 rfl hr h8
theorem dd190_118 : decode cX12_readUnit 118 = .ok (.ifCond .ne 21, 3) := by decide +kernel
theorem ww190_118 {d : Nat} {l0 l1 l2 : Option mw_V} {x : Int} {st : List mw_V} {σ : mw_S} {Q : Option mw_V → mw_S → Prop} : mw_WP d 190 118 [l0, l1, l2] (jI x :: st) σ Q ↔ (if ¬ x = 0 then mw_WP d 190 139 [l0, l1, l2] st σ Q else mw_WP d 190 121 [l0, l1, l2] st σ Q) := WP_if_ne mq190 dd190_118 (by decide)
theorem dd190_121 : decode cX12_readUnit 121 = .ok (.aload_n 0, 1) := by decide +kernel
theorem ww190_121 {d : Nat} {l1 l2 : Option mw_V} {x : Nat} {st : List mw_V} {σ : mw_S} {Q : Option mw_V → mw_S → Prop} : mw_WP d 190 121 [some (jR x), l1, l2] st σ Q ↔ mw_WP d 190 122 [some (jR x), l1, l2] (jR x :: st) σ Q := WP_aload_n mq190 dd190_121 rfl
theorem dd190_122 : decode cX12_readUnit 122 = .ok (.bipush 40, 2) := by decide +kernel
theorem ww190_122 {d : Nat} {l0 l1 l2 : Option mw_V} {st : List mw_V} {σ : mw_S} {Q : Option mw_V → mw_S → Prop} : mw_WP d 190 122 [l0, l1, l2] st σ Q ↔ mw_WP d 190 124 [l0, l1, l2] (jI (40) :: st) σ Q := WP_bipush mq190 dd190_122 (by decide)
theorem dd190_124 : decode cX12_readUnit 124 = .ok (.invokevirtual 149, 3) := by decide +kernel
theorem ww190_124 {d : Nat} {l0 l1 l2 : Option mw_V} {v0 : mw_V} {a : Nat} {st : List mw_V} {σ : mw_S} {Q : Option mw_V → mw_S → Prop} (hr : mw_rc a = 12) (h8 : (st.map mw_cat).sum ≤ 8) : mw_WP d 190 124 [l0, l1, l2] (v0 :: jR a :: st) σ Q ↔ mw_Call d 179 [jR a, v0] σ (fun r1 s1 => mw_WP d 190 127 [l0, l1, l2] (r1.toList ++ st) s1 Q) := WP_inv (as := [v0]) mq190 dd190_124 (by decide) mq179 rfl hr h8
theorem dd190_127 : decode cX12_readUnit 127 = .ok (.ifCond .ne 12, 3) := by decide +kernel
theorem ww190_127 {d : Nat} {l0 l1 l2 : Option mw_V} {x : Int} {st : List mw_V} {σ : mw_S} {Q : Option mw_V → mw_S → Prop} : mw_WP d 190 127 [l0, l1, l2] (jI x :: st) σ Q ↔ (if ¬ x = 0 then mw_WP d 190 139 [l0, l1, l2] st σ Q else mw_WP d 190 130 [l0, l1, l2] st σ Q) := WP_if_ne mq190 dd190_127 (by decide)
theorem dd190_130 : decode cX12_readUnit 130 = .ok (.aload_n 0, 1) := by decide +kernel
theorem ww190_130 {d : Nat} {l1 l2 : Option mw_V} {x : Nat} {st : List mw_V} {σ : mw_S} {Q : Option mw_V → mw_S → Prop} : mw_WP d 190 130 [some (jR x), l1, l2] st σ Q ↔ mw_WP d 190 131 [some (jR x), l1, l2] (jR x :: st) σ Q := WP_aload_n mq190 dd190_130 rfl
theorem dd190_131 : decode cX12_readUnit 131 = .ok (.bipush 41, 2) := by decide +kernel
theorem ww190_131 {d : Nat} {l0 l1 l2 : Option mw_V} {st : List mw_V} {σ : mw_S} {Q : Option mw_V → mw_S → Prop} : mw_WP d 190 131 [l0, l1, l2] st σ Q ↔ mw_WP d 190 133 [l0, l1, l2] (jI (41) :: st) σ Q := WP_bipush mq190 dd190_131 (by decide)
theorem dd190_133 : decode cX12_readUnit 133 = .ok (.invokevirtual 149, 3) := by decide +kernel
theorem ww190_133 {d : Nat} {l0 l1 l2 : Option mw_V} {v0 : mw_V} {a : Nat} {st : List mw_V} {σ : mw_S} {Q : Option mw_V → mw_S → Prop} (hr : mw_rc a = 12) (h8 : (st.map mw_cat).sum ≤ 8) : mw_WP d 190 133 [l0, l1, l2] (v0 :: jR a :: st) σ Q ↔ mw_Call d 179 [jR a, v0] σ (fun r1 s1 => mw_WP d 190 136 [l0, l1, l2] (r1.toList ++ st) s1 Q) := WP_inv (as := [v0]) mq190 dd190_133 (by decide) mq179 rfl hr h8
theorem dd190_136 : decode cX12_readUnit 136 = .ok (.ifCond .eq 10, 3) := by decide +kernel
theorem ww190_136 {d : Nat} {l0 l1 l2 : Option mw_V} {x : Int} {st : List mw_V} {σ : mw_S} {Q : Option mw_V → mw_S → Prop} : mw_WP d 190 136 [l0, l1, l2] (jI x :: st) σ Q ↔ (if x = 0 then mw_WP d 190 146 [l0, l1, l2] st σ Q else mw_WP d 190 139 [l0, l1, l2] st σ Q) := WP_if_eq mq190 dd190_136 (by decide)
theorem dd190_139 : decode cX12_readUnit 139 = .ok (.aload_n 0, 1) := by decide +kernel
theorem ww190_139 {d : Nat} {l1 l2 : Option mw_V} {x : Nat} {st : List mw_V} {σ : mw_S} {Q : Option mw_V → mw_S → Prop} : mw_WP d 190 139 [some (jR x), l1, l2] st σ Q ↔ mw_WP d 190 140 [some (jR x), l1, l2] (jR x :: st) σ Q := WP_aload_n mq190 dd190_139 rfl
theorem dd190_140 : decode cX12_readUnit 140 = .ok (.invokevirtual 152, 3) := by decide +kernel
theorem ww190_140 {d : Nat} {l0 l1 l2 : Option mw_V} {a : Nat} {st : List mw_V} {σ : mw_S} {Q : Option mw_V → mw_S → Prop} (hr : mw_rc a = 12) (h8 : (st.map mw_cat).sum ≤ 8) : mw_WP d 190 140 [l0, l1, l2] (jR a :: st) σ Q ↔ mw_Call d 177 [jR a] σ (fun r1 s1 => mw_WP d 190 143 [l0, l1, l2] (r1.toList ++ st) s1 Q) := WP_inv (as := []) mq190 dd190_140 (by decide) mq177 rfl hr h8
theorem dd190_143 : decode cX12_readUnit 143 = .ok (.goto 8, 3) := by decide +kernel
theorem ww190_143 {d : Nat} {l0 l1 l2 : Option mw_V} {st : List mw_V} {σ : mw_S} {Q : Option mw_V → mw_S → Prop} : mw_WP d 190 143 [l0, l1, l2] st σ Q ↔ mw_WP d 190 151 [l0, l1, l2] st σ Q := WP_goto mq190 dd190_143 (by decide)
theorem dd190_146 : decode cX12_readUnit 146 = .ok (.aload_n 0, 1) := by decide +kernel
theorem ww190_146 {d : Nat} {l1 l2 : Option mw_V} {x : Nat} {st : List mw_V} {σ : mw_S} {Q : Option mw_V → mw_S → Prop} : mw_WP d 190 146 [some (jR x), l1, l2] st σ Q ↔ mw_WP d 190 147 [some (jR x), l1, l2] (jR x :: st) σ Q := WP_aload_n mq190 dd190_146 rfl
theorem dd190_147 : decode cX12_readUnit 147 = .ok (.iconst 2, 1) := by decide +kernel
theorem ww190_147 {d : Nat} {l0 l1 l2 : Option mw_V} {st : List mw_V} {σ : mw_S} {Q : Option mw_V → mw_S → Prop} : mw_WP d 190 147 [l0, l1, l2] st σ Q ↔ mw_WP d 190 148 [l0, l1, l2] (jI (2) :: st) σ Q := WP_iconst mq190 dd190_147 (by decide)
theorem dd190_148 : decode cX12_readUnit 148 = .ok (.invokevirtual 155, 3) := by decide +kernel
theorem ww190_148 {d : Nat} {l0 l1 l2 : Option mw_V} {v0 : mw_V} {a : Nat} {st : List mw_V} {σ : mw_S} {Q : Option mw_V → mw_S → Prop} (hr : mw_rc a = 12) (h8 : (st.map mw_cat).sum ≤ 8) : mw_WP d 190 148 [l0, l1, l2] (v0 :: jR a :: st) σ Q ↔ mw_Call d 178 [jR a, v0] σ (fun r1 s1 => mw_WP d 190 151 [l0, l1, l2] (r1.toList ++ st) s1 Q) := WP_inv (as := [v0]) mq190 dd190_148 (by decide) mq178 rfl hr h8
theorem dd190_151 : decode cX12_readUnit 151 = .ok (.aload_n 0, 1) := by decide +kernel
theorem ww190_151 {d : Nat} {l1 l2 : Option mw_V} {x : Nat} {st : List mw_V} {σ : mw_S} {Q : Option mw_V → mw_S → Prop} : mw_WP d 190 151 [some (jR x), l1, l2] st σ Q ↔ mw_WP d 190 152 [some (jR x), l1, l2] (jR x :: st) σ Q := WP_aload_n mq190 dd190_151 rfl
theorem dd190_152 : decode cX12_readUnit 152 = .ok (.iload_n 1, 1) := by decide +kernel
theorem ww190_152 {d : Nat} {l0 l2 : Option mw_V} {x : Int} {st : List mw_V} {σ : mw_S} {Q : Option mw_V → mw_S → Prop} : mw_WP d 190 152 [l0, some (jI x), l2] st σ Q ↔ mw_WP d 190 153 [l0, some (jI x), l2] (jI x :: st) σ Q := WP_iload_n mq190 dd190_152 rfl
theorem dd190_153 : decode cX12_readUnit 153 = .ok (.invokevirtual 184, 3) := by decide +kernel
theorem ww190_153 {d : Nat} {l0 l1 l2 : Option mw_V} {v0 : mw_V} {a : Nat} {st : List mw_V} {σ : mw_S} {Q : Option mw_V → mw_S → Prop} (hr : mw_rc a = 12) (h8 : (st.map mw_cat).sum ≤ 8) : mw_WP d 190 153 [l0, l1, l2] (v0 :: jR a :: st) σ Q ↔ mw_Call d 189 [jR a, v0] σ (fun r1 s1 => mw_WP d 190 156 [l0, l1, l2] (r1.toList ++ st) s1 Q) := WP_inv (as := [v0]) mq190 dd190_153 (by decide) mq189 rfl hr h8
theorem dd190_156 : decode cX12_readUnit 156 = .ok (.aload_n 0, 1) := by decide +kernel
theorem ww190_156 {d : Nat} {l1 l2 : Option mw_V} {x : Nat} {st : List mw_V} {σ : mw_S} {Q : Option mw_V → mw_S → Prop} : mw_WP d 190 156 [some (jR x), l1, l2] st σ Q ↔ mw_WP d 190 157 [some (jR x), l1, l2] (jR x :: st) σ Q := WP_aload_n mq190 dd190_156 rfl
theorem dd190_157 : decode cX12_readUnit 157 = .ok (.iload_n 2, 1) := by decide +kernel
theorem ww190_157 {d : Nat} {l0 l1 : Option mw_V} {x : Int} {st : List mw_V} {σ : mw_S} {Q : Option mw_V → mw_S → Prop} : mw_WP d 190 157 [l0, l1, some (jI x)] st σ Q ↔ mw_WP d 190 158 [l0, l1, some (jI x)] (jI x :: st) σ Q := WP_iload_n mq190 dd190_157 rfl
theorem dd190_158 : decode cX12_readUnit 158 = .ok (.invokevirtual 174, 3) := by decide +kernel
theorem ww190_158 {d : Nat} {l0 l1 l2 : Option mw_V} {v0 : mw_V} {a : Nat} {st : List mw_V} {σ : mw_S} {Q : Option mw_V → mw_S → Prop} (hr : mw_rc a = 12) (h8 : (st.map mw_cat).sum ≤ 8) : mw_WP d 190 158 [l0, l1, l2] (v0 :: jR a :: st) σ Q ↔ mw_Call d 185 [jR a, v0] σ (fun r1 s1 => mw_WP d 190 161 [l0, l1, l2] (r1.toList ++ st) s1 Q) := WP_inv (as := [v0]) mq190 dd190_158 (by decide) mq185 rfl hr h8
theorem dd190_161 : decode cX12_readUnit 161 = .ok (.return_, 1) := by decide +kernel
theorem ww190_161 {d : Nat} {l0 l1 l2 : Option mw_V} {σ : mw_S} {Q : Option mw_V → mw_S → Prop} : mw_WP d 190 161 [l0, l1, l2] [] σ Q ↔ Q none σ := WP_return mq190 dd190_161 rfl
theorem ee191 {d : Nat} {a : Nat} {z0 : Int} {σ : mw_S} {Q : Option mw_V → mw_S → Prop} : mw_Call (d + 1) 191 [jR a, jI z0] σ Q ↔ mw_WP d 191 0 [some (jR a), some (jI z0)] [] σ Q := CL_u mq191 (Nat.le_of_ble_eq_true rfl) rfl
theorem dd191_0 : decode cX12_readBoth 0 = .ok (.aload_n 0, 1) := by decide +kernel
theorem ww191_0 {d : Nat} {l1 : Option mw_V} {x : Nat} {st : List mw_V} {σ : mw_S} {Q : Option mw_V → mw_S → Prop} : mw_WP d 191 0 [some (jR x), l1] st σ Q ↔ mw_WP d 191 1 [some (jR x), l1] (jR x :: st) σ Q := WP_aload_n mq191 dd191_0 rfl
theorem dd191_1 : decode cX12_readBoth 1 = .ok (.iload_n 1, 1) := by decide +kernel
theorem ww191_1 {d : Nat} {l0 : Option mw_V} {x : Int} {st : List mw_V} {σ : mw_S} {Q : Option mw_V → mw_S → Prop} : mw_WP d 191 1 [l0, some (jI x)] st σ Q ↔ mw_WP d 191 2 [l0, some (jI x)] (jI x :: st) σ Q := WP_iload_n mq191 dd191_1 rfl
theorem dd191_2 : decode cX12_readBoth 2 = .ok (.invokevirtual 193, 3) := by decide +kernel
theorem ww191_2 {d : Nat} {l0 l1 : Option mw_V} {v0 : mw_V} {a : Nat} {st : List mw_V} {σ : mw_S} {Q : Option mw_V → mw_S → Prop} (hr : mw_rc a = 12) (h8 : (st.map mw_cat).sum ≤ 8) : mw_WP d 191 2 [l0, l1] (v0 :: jR a :: st) σ Q ↔ mw_Call d 190 [jR a, v0] σ (fun r1 s1 => mw_WP d 191 5 [l0, l1] (r1.toList ++ st) s1 Q) := WP_inv (as := [v0]) mq191 dd191_2 (by decide) mq190 rfl hr h8
theorem dd191_5 : decode cX12_readBoth 5 = .ok (.aload_n 0, 1) := by decide +kernel
theorem ww191_5 {d : Nat} {l1 : Option mw_V} {x : Nat} {st : List mw_V} {σ : mw_S} {Q : Option mw_V → mw_S → Prop} : mw_WP d 191 5 [some (jR x), l1] st σ Q ↔ mw_WP d 191 6 [some (jR x), l1] (jR x :: st) σ Q := WP_aload_n mq191 dd191_5 rfl
theorem dd191_6 : decode cX12_readBoth 6 = .ok (.bipush 18, 2) := by decide +kernel
theorem ww191_6 {d : Nat} {l0 l1 : Option mw_V} {st : List mw_V} {σ : mw_S} {Q : Option mw_V → mw_S → Prop} : mw_WP d 191 6 [l0, l1] st σ Q ↔ mw_WP d 191 8 [l0, l1] (jI (18) :: st) σ Q := WP_bipush mq191 dd191_6 (by decide)
theorem dd191_8 : decode cX12_readBoth 8 = .ok (.invokevirtual 167, 3) := by decide +kernel
theorem ww191_8 {d : Nat} {l0 l1 : Option mw_V} {v0 : mw_V} {a : Nat} {st : List mw_V} {σ : mw_S} {Q : Option mw_V → mw_S → Prop} (hr : mw_rc a = 12) (h8 : (st.map mw_cat).sum ≤ 8) : mw_WP d 191 8 [l0, l1] (v0 :: jR a :: st) σ Q ↔ mw_Call d 180 [jR a, v0] σ (fun r1 s1 => mw_WP d 191 11 [l0, l1] (r1.toList ++ st) s1 Q) := WP_inv (as := [v0]) mq191 dd191_8 (by decide) mq180 rfl hr h8
theorem dd191_11 : decode cX12_readBoth 11 = .ok (.ifCond .eq 18, 3) := by decide +kernel
theorem ww191_11 {d : Nat} {l0 l1 : Option mw_V} {x : Int} {st : List mw_V} {σ : mw_S} {Q : Option mw_V → mw_S → Prop} : mw_WP d 191 11 [l0, l1] (jI x :: st) σ Q ↔ (if x = 0 then mw_WP d 191 29 [l0, l1] st σ Q else mw_WP d 191 14 [l0, l1] st σ Q) := WP_if_eq mq191 dd191_11 (by decide)
theorem dd191_14 : decode cX12_readBoth 14 = .ok (.aload_n 0, 1) := by decide +kernel
theorem ww191_14 {d : Nat} {l1 : Option mw_V} {x : Nat} {st : List mw_V} {σ : mw_S} {Q : Option mw_V → mw_S → Prop} : mw_WP d 191 14 [some (jR x), l1] st σ Q ↔ mw_WP d 191 15 [some (jR x), l1] (jR x :: st) σ Q := WP_aload_n mq191 dd191_14 rfl
theorem dd191_15 : decode cX12_readBoth 15 = .ok (.iload_n 1, 1) := by decide +kernel
theorem ww191_15 {d : Nat} {l0 : Option mw_V} {x : Int} {st : List mw_V} {σ : mw_S} {Q : Option mw_V → mw_S → Prop} : mw_WP d 191 15 [l0, some (jI x)] st σ Q ↔ mw_WP d 191 16 [l0, some (jI x)] (jI x :: st) σ Q := WP_iload_n mq191 dd191_15 rfl
theorem dd191_16 : decode cX12_readBoth 16 = .ok (.invokevirtual 193, 3) := by decide +kernel
theorem ww191_16 {d : Nat} {l0 l1 : Option mw_V} {v0 : mw_V} {a : Nat} {st : List mw_V} {σ : mw_S} {Q : Option mw_V → mw_S → Prop} (hr : mw_rc a = 12) (h8 : (st.map mw_cat).sum ≤ 8) : mw_WP d 191 16 [l0, l1] (v0 :: jR a :: st) σ Q ↔ mw_Call d 190 [jR a, v0] σ (fun r1 s1 => mw_WP d 191 19 [l0, l1] (r1.toList ++ st) s1 Q) := WP_inv (as := [v0]) mq191 dd191_16 (by decide) mq190 rfl hr h8
theorem dd191_19 : decode cX12_readBoth 19 = .ok (.aload_n 0, 1) := by decide +kernel
theorem ww191_19 {d : Nat} {l1 : Option mw_V} {x : Nat} {st : List mw_V} {σ : mw_S} {Q : Option mw_V → mw_S → Prop} : mw_WP d 191 19 [some (jR x), l1] st σ Q ↔ mw_WP d 191 20 [some (jR x), l1] (jR x :: st) σ Q := WP_aload_n mq191 dd191_19 rfl
theorem dd191_20 : decode cX12_readBoth 20 = .ok (.sipush 3006, 3) := by decide +kernel
theorem ww191_20 {d : Nat} {l0 l1 : Option mw_V} {st : List mw_V} {σ : mw_S} {Q : Option mw_V → mw_S → Prop} : mw_WP d 191 20 [l0, l1] st σ Q ↔ mw_WP d 191 23 [l0, l1] (jI (3006) :: st) σ Q := WP_sipush mq191 dd191_20 (by decide)
theorem dd191_23 : decode cX12_readBoth 23 = .ok (.invokevirtual 174, 3) := by decide +kernel
theorem ww191_23 {d : Nat} {l0 l1 : Option mw_V} {v0 : mw_V} {a : Nat} {st : List mw_V} {σ : mw_S} {Q : Option mw_V → mw_S → Prop} (hr : mw_rc a = 12) (h8 : (st.map mw_cat).sum ≤ 8) : mw_WP d 191 23 [l0, l1] (v0 :: jR a :: st) σ Q ↔ mw_Call d 185 [jR a, v0] σ (fun r1 s1 => mw_WP d 191 26 [l0, l1] (r1.toList ++ st) s1 Q) := WP_inv (as := [v0]) mq191 dd191_23 (by decide) mq185 rfl hr h8
theorem dd191_26 : decode cX12_readBoth 26 = .ok (.goto (-21), 3) := by decide +kernel
theorem ww191_26 {d : Nat} {l0 l1 : Option mw_V} {st : List mw_V} {σ : mw_S} {Q : Option mw_V → mw_S → Prop} : mw_WP d 191 26 [l0, l1] st σ Q ↔ mw_WP d 191 5 [l0, l1] st σ Q := WP_goto mq191 dd191_26 (by decide)
theorem dd191_29 : decode cX12_readBoth 29 = .ok (.return_, 1) := by decide +kernel
theorem ww191_29 {d : Nat} {l0 l1 : Option mw_V} {σ : mw_S} {Q : Option mw_V → mw_S → Prop} : mw_WP d 191 29 [l0, l1] [] σ Q ↔ Q none σ := WP_return mq191 dd191_29 rfl
theorem ee192 {d : Nat} {a : Nat} {z0 : Int} {σ : mw_S} {Q : Option mw_V → mw_S → Prop} : mw_Call (d + 1) 192 [jR a, jI z0] σ Q ↔ mw_WP d 192 0 [some (jR a), some (jI z0)] [] σ Q := CL_u mq192 (Nat.le_of_ble_eq_true rfl) rfl
theorem dd192_0 : decode cX12_readTruth 0 = .ok (.aload_n 0, 1) := by decide +kernel
theorem ww192_0 {d : Nat} {l1 : Option mw_V} {x : Nat} {st : List mw_V} {σ : mw_S} {Q : Option mw_V → mw_S → Prop} : mw_WP d 192 0 [some (jR x), l1] st σ Q ↔ mw_WP d 192 1 [some (jR x), l1] (jR x :: st) σ Q := WP_aload_n mq192 dd192_0 rfl
theorem dd192_1 : decode cX12_readTruth 1 = .ok (.iload_n 1, 1) := by decide +kernel
theorem ww192_1 {d : Nat} {l0 : Option mw_V} {x : Int} {st : List mw_V} {σ : mw_S} {Q : Option mw_V → mw_S → Prop} : mw_WP d 192 1 [l0, some (jI x)] st σ Q ↔ mw_WP d 192 2 [l0, some (jI x)] (jI x :: st) σ Q := WP_iload_n mq192 dd192_1 rfl
theorem dd192_2 : decode cX12_readTruth 2 = .ok (.invokevirtual 199, 3) := by decide +kernel
theorem ww192_2 {d : Nat} {l0 l1 : Option mw_V} {v0 : mw_V} {a : Nat} {st : List mw_V} {σ : mw_S} {Q : Option mw_V → mw_S → Prop} (hr : mw_rc a = 12) (h8 : (st.map mw_cat).sum ≤ 8) : mw_WP d 192 2 [l0, l1] (v0 :: jR a :: st) σ Q ↔ mw_Call d 191 [jR a, v0] σ (fun r1 s1 => mw_WP d 192 5 [l0, l1] (r1.toList ++ st) s1 Q) := WP_inv (as := [v0]) mq192 dd192_2 (by decide) mq191 rfl hr h8
theorem dd192_5 : decode cX12_readTruth 5 = .ok (.aload_n 0, 1) := by decide +kernel
theorem ww192_5 {d : Nat} {l1 : Option mw_V} {x : Nat} {st : List mw_V} {σ : mw_S} {Q : Option mw_V → mw_S → Prop} : mw_WP d 192 5 [some (jR x), l1] st σ Q ↔ mw_WP d 192 6 [some (jR x), l1] (jR x :: st) σ Q := WP_aload_n mq192 dd192_5 rfl
theorem dd192_6 : decode cX12_readTruth 6 = .ok (.bipush 17, 2) := by decide +kernel
theorem ww192_6 {d : Nat} {l0 l1 : Option mw_V} {st : List mw_V} {σ : mw_S} {Q : Option mw_V → mw_S → Prop} : mw_WP d 192 6 [l0, l1] st σ Q ↔ mw_WP d 192 8 [l0, l1] (jI (17) :: st) σ Q := WP_bipush mq192 dd192_6 (by decide)
theorem dd192_8 : decode cX12_readTruth 8 = .ok (.invokevirtual 167, 3) := by decide +kernel
theorem ww192_8 {d : Nat} {l0 l1 : Option mw_V} {v0 : mw_V} {a : Nat} {st : List mw_V} {σ : mw_S} {Q : Option mw_V → mw_S → Prop} (hr : mw_rc a = 12) (h8 : (st.map mw_cat).sum ≤ 8) : mw_WP d 192 8 [l0, l1] (v0 :: jR a :: st) σ Q ↔ mw_Call d 180 [jR a, v0] σ (fun r1 s1 => mw_WP d 192 11 [l0, l1] (r1.toList ++ st) s1 Q) := WP_inv (as := [v0]) mq192 dd192_8 (by decide) mq180 rfl hr h8
theorem dd192_11 : decode cX12_readTruth 11 = .ok (.ifCond .eq 18, 3) := by decide +kernel
theorem ww192_11 {d : Nat} {l0 l1 : Option mw_V} {x : Int} {st : List mw_V} {σ : mw_S} {Q : Option mw_V → mw_S → Prop} : mw_WP d 192 11 [l0, l1] (jI x :: st) σ Q ↔ (if x = 0 then mw_WP d 192 29 [l0, l1] st σ Q else mw_WP d 192 14 [l0, l1] st σ Q) := WP_if_eq mq192 dd192_11 (by decide)
theorem dd192_14 : decode cX12_readTruth 14 = .ok (.aload_n 0, 1) := by decide +kernel
theorem ww192_14 {d : Nat} {l1 : Option mw_V} {x : Nat} {st : List mw_V} {σ : mw_S} {Q : Option mw_V → mw_S → Prop} : mw_WP d 192 14 [some (jR x), l1] st σ Q ↔ mw_WP d 192 15 [some (jR x), l1] (jR x :: st) σ Q := WP_aload_n mq192 dd192_14 rfl
theorem dd192_15 : decode cX12_readTruth 15 = .ok (.iload_n 1, 1) := by decide +kernel
theorem ww192_15 {d : Nat} {l0 : Option mw_V} {x : Int} {st : List mw_V} {σ : mw_S} {Q : Option mw_V → mw_S → Prop} : mw_WP d 192 15 [l0, some (jI x)] st σ Q ↔ mw_WP d 192 16 [l0, some (jI x)] (jI x :: st) σ Q := WP_iload_n mq192 dd192_15 rfl
theorem dd192_16 : decode cX12_readTruth 16 = .ok (.invokevirtual 199, 3) := by decide +kernel
theorem ww192_16 {d : Nat} {l0 l1 : Option mw_V} {v0 : mw_V} {a : Nat} {st : List mw_V} {σ : mw_S} {Q : Option mw_V → mw_S → Prop} (hr : mw_rc a = 12) (h8 : (st.map mw_cat).sum ≤ 8) : mw_WP d 192 16 [l0, l1] (v0 :: jR a :: st) σ Q ↔ mw_Call d 191 [jR a, v0] σ (fun r1 s1 => mw_WP d 192 19 [l0, l1] (r1.toList ++ st) s1 Q) := WP_inv (as := [v0]) mq192 dd192_16 (by decide) mq191 rfl hr h8
theorem dd192_19 : decode cX12_readTruth 19 = .ok (.aload_n 0, 1) := by decide +kernel
theorem ww192_19 {d : Nat} {l1 : Option mw_V} {x : Nat} {st : List mw_V} {σ : mw_S} {Q : Option mw_V → mw_S → Prop} : mw_WP d 192 19 [some (jR x), l1] st σ Q ↔ mw_WP d 192 20 [some (jR x), l1] (jR x :: st) σ Q := WP_aload_n mq192 dd192_19 rfl
theorem dd192_20 : decode cX12_readTruth 20 = .ok (.sipush 3007, 3) := by decide +kernel
theorem ww192_20 {d : Nat} {l0 l1 : Option mw_V} {st : List mw_V} {σ : mw_S} {Q : Option mw_V → mw_S → Prop} : mw_WP d 192 20 [l0, l1] st σ Q ↔ mw_WP d 192 23 [l0, l1] (jI (3007) :: st) σ Q := WP_sipush mq192 dd192_20 (by decide)
theorem dd192_23 : decode cX12_readTruth 23 = .ok (.invokevirtual 174, 3) := by decide +kernel
theorem ww192_23 {d : Nat} {l0 l1 : Option mw_V} {v0 : mw_V} {a : Nat} {st : List mw_V} {σ : mw_S} {Q : Option mw_V → mw_S → Prop} (hr : mw_rc a = 12) (h8 : (st.map mw_cat).sum ≤ 8) : mw_WP d 192 23 [l0, l1] (v0 :: jR a :: st) σ Q ↔ mw_Call d 185 [jR a, v0] σ (fun r1 s1 => mw_WP d 192 26 [l0, l1] (r1.toList ++ st) s1 Q) := WP_inv (as := [v0]) mq192 dd192_23 (by decide) mq185 rfl hr h8
theorem dd192_26 : decode cX12_readTruth 26 = .ok (.goto (-21), 3) := by decide +kernel
theorem ww192_26 {d : Nat} {l0 l1 : Option mw_V} {st : List mw_V} {σ : mw_S} {Q : Option mw_V → mw_S → Prop} : mw_WP d 192 26 [l0, l1] st σ Q ↔ mw_WP d 192 5 [l0, l1] st σ Q := WP_goto mq192 dd192_26 (by decide)
theorem dd192_29 : decode cX12_readTruth 29 = .ok (.return_, 1) := by decide +kernel
theorem ww192_29 {d : Nat} {l0 l1 : Option mw_V} {σ : mw_S} {Q : Option mw_V → mw_S → Prop} : mw_WP d 192 29 [l0, l1] [] σ Q ↔ Q none σ := WP_return mq192 dd192_29 rfl
theorem ee193 {d : Nat} {a : Nat} {σ : mw_S} {Q : Option mw_V → mw_S → Prop} : mw_Call (d + 1) 193 [jR a] σ Q ↔ mw_WP d 193 0 [some (jR a), none, none, none] [] σ Q := CL_u mq193 (Nat.le_of_ble_eq_true rfl) rfl
theorem dd193_0 : decode cX12_readRule 0 = .ok (.aload_n 0, 1) := by decide +kernel
theorem ww193_0 {d : Nat} {l1 l2 l3 : Option mw_V} {x : Nat} {st : List mw_V} {σ : mw_S} {Q : Option mw_V → mw_S → Prop} : mw_WP d 193 0 [some (jR x), l1, l2, l3] st σ Q ↔ mw_WP d 193 1 [some (jR x), l1, l2, l3] (jR x :: st) σ Q := WP_aload_n mq193 dd193_0 rfl
theorem dd193_1 : decode cX12_readRule 1 = .ok (.getfield 24, 3) := by decide +kernel
theorem ww193_1 {d : Nat} {l0 l1 l2 l3 : Option mw_V} {st : List mw_V} {σ : mw_S} {Q : Option mw_V → mw_S → Prop} : mw_WP d 193 1 [l0, l1, l2, l3] (jR 100 :: st) σ Q ↔ mw_WP d 193 4 [l0, l1, l2, l3] (jR 104 :: st) σ Q := WP_getR (ci := 11) (k := 4) mq193 dd193_1 (by decide) rfl
theorem dd193_4 : decode cX12_readRule 4 = .ok (.iconst 4, 1) := by decide +kernel
theorem ww193_4 {d : Nat} {l0 l1 l2 l3 : Option mw_V} {st : List mw_V} {σ : mw_S} {Q : Option mw_V → mw_S → Prop} : mw_WP d 193 4 [l0, l1, l2, l3] st σ Q ↔ mw_WP d 193 5 [l0, l1, l2, l3] (jI (4) :: st) σ Q := WP_iconst mq193 dd193_4 (by decide)
theorem dd193_5 : decode cX12_readRule 5 = .ok (.iaload, 1) := by decide +kernel
theorem ww193_5 {d : Nat} {l0 l1 l2 l3 : Option mw_V} {z : Int} {a : Nat} {st : List mw_V} {σ : mw_S} {Q : Option mw_V → mw_S → Prop} : mw_WP d 193 5 [l0, l1, l2, l3] (jI z :: jR a :: st) σ Q ↔ ((0 ≤ z ∧ z < mw_lenI a) ∧ mw_WP d 193 6 [l0, l1, l2, l3] (jI (mw_rdI σ a z.toNat) :: st) σ Q) := WP_iaload mq193 dd193_5
theorem dd193_6 : decode cX12_readRule 6 = .ok (.istore_n 1, 1) := by decide +kernel
theorem ww193_6 {d : Nat} {l0 l1 l2 l3 : Option mw_V} {x : Int} {st : List mw_V} {σ : mw_S} {Q : Option mw_V → mw_S → Prop} (h : mw_nlo l0 = true) : mw_WP d 193 6 [l0, l1, l2, l3] (jI x :: st) σ Q ↔ mw_WP d 193 7 [l0, some (jI x), l2, l3] st σ Q := WP_istore_n mq193 dd193_6 (Nat.le_of_ble_eq_true rfl) (mw_nl_of (i := 0) rfl h) rfl
theorem dd193_7 : decode cX12_readRule 7 = .ok (.iload_n 1, 1) := by decide +kernel
theorem ww193_7 {d : Nat} {l0 l2 l3 : Option mw_V} {x : Int} {st : List mw_V} {σ : mw_S} {Q : Option mw_V → mw_S → Prop} : mw_WP d 193 7 [l0, some (jI x), l2, l3] st σ Q ↔ mw_WP d 193 8 [l0, some (jI x), l2, l3] (jI x :: st) σ Q := WP_iload_n mq193 dd193_7 rfl
theorem dd193_8 : decode cX12_readRule 8 = .ok (.bipush 8, 2) := by decide +kernel
theorem ww193_8 {d : Nat} {l0 l1 l2 l3 : Option mw_V} {st : List mw_V} {σ : mw_S} {Q : Option mw_V → mw_S → Prop} : mw_WP d 193 8 [l0, l1, l2, l3] st σ Q ↔ mw_WP d 193 10 [l0, l1, l2, l3] (jI (8) :: st) σ Q := WP_bipush mq193 dd193_8 (by decide)
theorem dd193_10 : decode cX12_readRule 10 = .ok (.if_icmp .ne 8, 3) := by decide +kernel
theorem ww193_10 {d : Nat} {l0 l1 l2 l3 : Option mw_V} {x y : Int} {st : List mw_V} {σ : mw_S} {Q : Option mw_V → mw_S → Prop} : mw_WP d 193 10 [l0, l1, l2, l3] (jI y :: jI x :: st) σ Q ↔ (if ¬ x = y then mw_WP d 193 18 [l0, l1, l2, l3] st σ Q else mw_WP d 193 13 [l0, l1, l2, l3] st σ Q) := WP_icmp_ne mq193 dd193_10 (by decide)
theorem dd193_13 : decode cX12_readRule 13 = .ok (.aload_n 0, 1) := by decide +kernel
theorem ww193_13 {d : Nat} {l1 l2 l3 : Option mw_V} {x : Nat} {st : List mw_V} {σ : mw_S} {Q : Option mw_V → mw_S → Prop} : mw_WP d 193 13 [some (jR x), l1, l2, l3] st σ Q ↔ mw_WP d 193 14 [some (jR x), l1, l2, l3] (jR x :: st) σ Q := WP_aload_n mq193 dd193_13 rfl
theorem dd193_14 : decode cX12_readRule 14 = .ok (.iconst 4, 1) := by decide +kernel
theorem ww193_14 {d : Nat} {l0 l1 l2 l3 : Option mw_V} {st : List mw_V} {σ : mw_S} {Q : Option mw_V → mw_S → Prop} : mw_WP d 193 14 [l0, l1, l2, l3] st σ Q ↔ mw_WP d 193 15 [l0, l1, l2, l3] (jI (4) :: st) σ Q := WP_iconst mq193 dd193_14 (by decide)
theorem dd193_15 : decode cX12_readRule 15 = .ok (.invokevirtual 155, 3) := by decide +kernel
theorem ww193_15 {d : Nat} {l0 l1 l2 l3 : Option mw_V} {v0 : mw_V} {a : Nat} {st : List mw_V} {σ : mw_S} {Q : Option mw_V → mw_S → Prop} (hr : mw_rc a = 12) (h8 : (st.map mw_cat).sum ≤ 8) : mw_WP d 193 15 [l0, l1, l2, l3] (v0 :: jR a :: st) σ Q ↔ mw_Call d 178 [jR a, v0] σ (fun r1 s1 => mw_WP d 193 18 [l0, l1, l2, l3] (r1.toList ++ st) s1 Q) := WP_inv (as := [v0]) mq193 dd193_15 (by decide) mq178 rfl hr h8
theorem dd193_18 : decode cX12_readRule 18 = .ok (.aload_n 0, 1) := by decide +kernel
theorem ww193_18 {d : Nat} {l1 l2 l3 : Option mw_V} {x : Nat} {st : List mw_V} {σ : mw_S} {Q : Option mw_V → mw_S → Prop} : mw_WP d 193 18 [some (jR x), l1, l2, l3] st σ Q ↔ mw_WP d 193 19 [some (jR x), l1, l2, l3] (jR x :: st) σ Q := WP_aload_n mq193 dd193_18 rfl
theorem dd193_19 : decode cX12_readRule 19 = .ok (.getfield 143, 3) := by decide +kernel
theorem ww193_19 {d : Nat} {l0 l1 l2 l3 : Option mw_V} {st : List mw_V} {σ : mw_S} {Q : Option mw_V → mw_S → Prop} : mw_WP d 193 19 [l0, l1, l2, l3] (jR 100 :: st) σ Q ↔ mw_WP d 193 22 [l0, l1, l2, l3] (jI (σ 100 11) :: st) σ Q := WP_getI (ci := 11) (k := 11) mq193 dd193_19 (by decide) (Or.inl rfl)
theorem dd193_22 : decode cX12_readRule 22 = .ok (.ifCond .eq 4, 3) := by decide +kernel
theorem ww193_22 {d : Nat} {l0 l1 l2 l3 : Option mw_V} {x : Int} {st : List mw_V} {σ : mw_S} {Q : Option mw_V → mw_S → Prop} : mw_WP d 193 22 [l0, l1, l2, l3] (jI x :: st) σ Q ↔ (if x = 0 then mw_WP d 193 26 [l0, l1, l2, l3] st σ Q else mw_WP d 193 25 [l0, l1, l2, l3] st σ Q) := WP_if_eq mq193 dd193_22 (by decide)
theorem dd193_25 : decode cX12_readRule 25 = .ok (.return_, 1) := by decide +kernel
theorem ww193_25 {d : Nat} {l0 l1 l2 l3 : Option mw_V} {σ : mw_S} {Q : Option mw_V → mw_S → Prop} : mw_WP d 193 25 [l0, l1, l2, l3] [] σ Q ↔ Q none σ := WP_return mq193 dd193_25 rfl
theorem dd193_26 : decode cX12_readRule 26 = .ok (.aload_n 0, 1) := by decide +kernel
theorem ww193_26 {d : Nat} {l1 l2 l3 : Option mw_V} {x : Nat} {st : List mw_V} {σ : mw_S} {Q : Option mw_V → mw_S → Prop} : mw_WP d 193 26 [some (jR x), l1, l2, l3] st σ Q ↔ mw_WP d 193 27 [some (jR x), l1, l2, l3] (jR x :: st) σ Q := WP_aload_n mq193 dd193_26 rfl
theorem dd193_27 : decode cX12_readRule 27 = .ok (.invokevirtual 152, 3) := by decide +kernel
theorem ww193_27 {d : Nat} {l0 l1 l2 l3 : Option mw_V} {a : Nat} {st : List mw_V} {σ : mw_S} {Q : Option mw_V → mw_S → Prop} (hr : mw_rc a = 12) (h8 : (st.map mw_cat).sum ≤ 8) : mw_WP d 193 27 [l0, l1, l2, l3] (jR a :: st) σ Q ↔ mw_Call d 177 [jR a] σ (fun r1 s1 => mw_WP d 193 30 [l0, l1, l2, l3] (r1.toList ++ st) s1 Q) := WP_inv (as := []) mq193 dd193_27 (by decide) mq177 rfl hr h8
theorem dd193_30 : decode cX12_readRule 30 = .ok (.aload_n 0, 1) := by decide +kernel
theorem ww193_30 {d : Nat} {l1 l2 l3 : Option mw_V} {x : Nat} {st : List mw_V} {σ : mw_S} {Q : Option mw_V → mw_S → Prop} : mw_WP d 193 30 [some (jR x), l1, l2, l3] st σ Q ↔ mw_WP d 193 31 [some (jR x), l1, l2, l3] (jR x :: st) σ Q := WP_aload_n mq193 dd193_30 rfl
theorem dd193_31 : decode cX12_readRule 31 = .ok (.bipush 26, 2) := by decide +kernel
theorem ww193_31 {d : Nat} {l0 l1 l2 l3 : Option mw_V} {st : List mw_V} {σ : mw_S} {Q : Option mw_V → mw_S → Prop} : mw_WP d 193 31 [l0, l1, l2, l3] st σ Q ↔ mw_WP d 193 33 [l0, l1, l2, l3] (jI (26) :: st) σ Q := WP_bipush mq193 dd193_31 (by decide)
theorem dd193_33 : decode cX12_readRule 33 = .ok (.invokevirtual 149, 3) := by decide +kernel
theorem ww193_33 {d : Nat} {l0 l1 l2 l3 : Option mw_V} {v0 : mw_V} {a : Nat} {st : List mw_V} {σ : mw_S} {Q : Option mw_V → mw_S → Prop} (hr : mw_rc a = 12) (h8 : (st.map mw_cat).sum ≤ 8) : mw_WP d 193 33 [l0, l1, l2, l3] (v0 :: jR a :: st) σ Q ↔ mw_Call d 179 [jR a, v0] σ (fun r1 s1 => mw_WP d 193 36 [l0, l1, l2, l3] (r1.toList ++ st) s1 Q) := WP_inv (as := [v0]) mq193 dd193_33 (by decide) mq179 rfl hr h8
theorem dd193_36 : decode cX12_readRule 36 = .ok (.ifCond .eq 19, 3) := by decide +kernel
theorem ww193_36 {d : Nat} {l0 l1 l2 l3 : Option mw_V} {x : Int} {st : List mw_V} {σ : mw_S} {Q : Option mw_V → mw_S → Prop} : mw_WP d 193 36 [l0, l1, l2, l3] (jI x :: st) σ Q ↔ (if x = 0 then mw_WP d 193 55 [l0, l1, l2, l3] st σ Q else mw_WP d 193 39 [l0, l1, l2, l3] st σ Q) := WP_if_eq mq193 dd193_36 (by decide)
theorem dd193_39 : decode cX12_readRule 39 = .ok (.aload_n 0, 1) := by decide +kernel
theorem ww193_39 {d : Nat} {l1 l2 l3 : Option mw_V} {x : Nat} {st : List mw_V} {σ : mw_S} {Q : Option mw_V → mw_S → Prop} : mw_WP d 193 39 [some (jR x), l1, l2, l3] st σ Q ↔ mw_WP d 193 40 [some (jR x), l1, l2, l3] (jR x :: st) σ Q := WP_aload_n mq193 dd193_39 rfl
theorem dd193_40 : decode cX12_readRule 40 = .ok (.iconst 0, 1) := by decide +kernel
theorem ww193_40 {d : Nat} {l0 l1 l2 l3 : Option mw_V} {st : List mw_V} {σ : mw_S} {Q : Option mw_V → mw_S → Prop} : mw_WP d 193 40 [l0, l1, l2, l3] st σ Q ↔ mw_WP d 193 41 [l0, l1, l2, l3] (jI (0) :: st) σ Q := WP_iconst mq193 dd193_40 (by decide)
theorem dd193_41 : decode cX12_readRule 41 = .ok (.aload_n 0, 1) := by decide +kernel
theorem ww193_41 {d : Nat} {l1 l2 l3 : Option mw_V} {x : Nat} {st : List mw_V} {σ : mw_S} {Q : Option mw_V → mw_S → Prop} : mw_WP d 193 41 [some (jR x), l1, l2, l3] st σ Q ↔ mw_WP d 193 42 [some (jR x), l1, l2, l3] (jR x :: st) σ Q := WP_aload_n mq193 dd193_41 rfl
theorem dd193_42 : decode cX12_readRule 42 = .ok (.getfield 24, 3) := by decide +kernel
theorem ww193_42 {d : Nat} {l0 l1 l2 l3 : Option mw_V} {st : List mw_V} {σ : mw_S} {Q : Option mw_V → mw_S → Prop} : mw_WP d 193 42 [l0, l1, l2, l3] (jR 100 :: st) σ Q ↔ mw_WP d 193 45 [l0, l1, l2, l3] (jR 104 :: st) σ Q := WP_getR (ci := 11) (k := 4) mq193 dd193_42 (by decide) rfl
theorem dd193_45 : decode cX12_readRule 45 = .ok (.iconst 2, 1) := by decide +kernel
theorem ww193_45 {d : Nat} {l0 l1 l2 l3 : Option mw_V} {st : List mw_V} {σ : mw_S} {Q : Option mw_V → mw_S → Prop} : mw_WP d 193 45 [l0, l1, l2, l3] st σ Q ↔ mw_WP d 193 46 [l0, l1, l2, l3] (jI (2) :: st) σ Q := WP_iconst mq193 dd193_45 (by decide)
theorem dd193_46 : decode cX12_readRule 46 = .ok (.iaload, 1) := by decide +kernel
theorem ww193_46 {d : Nat} {l0 l1 l2 l3 : Option mw_V} {z : Int} {a : Nat} {st : List mw_V} {σ : mw_S} {Q : Option mw_V → mw_S → Prop} : mw_WP d 193 46 [l0, l1, l2, l3] (jI z :: jR a :: st) σ Q ↔ ((0 ≤ z ∧ z < mw_lenI a) ∧ mw_WP d 193 47 [l0, l1, l2, l3] (jI (mw_rdI σ a z.toNat) :: st) σ Q) := WP_iaload mq193 dd193_46
theorem dd193_47 : decode cX12_readRule 47 = .ok (.iconst 1, 1) := by decide +kernel
theorem ww193_47 {d : Nat} {l0 l1 l2 l3 : Option mw_V} {st : List mw_V} {σ : mw_S} {Q : Option mw_V → mw_S → Prop} : mw_WP d 193 47 [l0, l1, l2, l3] st σ Q ↔ mw_WP d 193 48 [l0, l1, l2, l3] (jI (1) :: st) σ Q := WP_iconst mq193 dd193_47 (by decide)
theorem dd193_48 : decode cX12_readRule 48 = .ok (.isub, 1) := by decide +kernel
theorem ww193_48 {d : Nat} {l0 l1 l2 l3 : Option mw_V} {x y : Int} {st : List mw_V} {σ : mw_S} {Q : Option mw_V → mw_S → Prop} : mw_WP d 193 48 [l0, l1, l2, l3] (jI y :: jI x :: st) σ Q ↔ mw_WP d 193 49 [l0, l1, l2, l3] (jI (w32 (x - y)) :: st) σ Q := WP_isub mq193 dd193_48
theorem dd193_49 : decode cX12_readRule 49 = .ok (.invokevirtual 163, 3) := by decide +kernel
theorem ww193_49 {d : Nat} {l0 l1 l2 l3 : Option mw_V} {v0 v1 : mw_V} {a : Nat} {st : List mw_V} {σ : mw_S} {Q : Option mw_V → mw_S → Prop} (hr : mw_rc a = 12) (h8 : (st.map mw_cat).sum ≤ 8) : mw_WP d 193 49 [l0, l1, l2, l3] (v1 :: v0 :: jR a :: st) σ Q ↔ mw_Call d 181 [jR a, v0, v1] σ (fun r1 s1 => mw_WP d 193 52 [l0, l1, l2, l3] (r1.toList ++ st) s1 Q) := WP_inv (as := [v1, v0]) mq193 dd193_49 (by decide) mq181 rfl hr h8
theorem dd193_52 : decode cX12_readRule 52 = .ok (.goto 4, 3) := by decide +kernel
theorem ww193_52 {d : Nat} {l0 l1 l2 l3 : Option mw_V} {st : List mw_V} {σ : mw_S} {Q : Option mw_V → mw_S → Prop} : mw_WP d 193 52 [l0, l1, l2, l3] st σ Q ↔ mw_WP d 193 56 [l0, l1, l2, l3] st σ Q := WP_goto mq193 dd193_52 (by decide)
theorem dd193_55 : decode cX12_readRule 55 = .ok (.iconst (-1), 1) := by decide +kernel
theorem ww193_55 {d : Nat} {l0 l1 l2 l3 : Option mw_V} {st : List mw_V} {σ : mw_S} {Q : Option mw_V → mw_S → Prop} : mw_WP d 193 55 [l0, l1, l2, l3] st σ Q ↔ mw_WP d 193 56 [l0, l1, l2, l3] (jI (-1) :: st) σ Q := WP_iconst mq193 dd193_55 (by decide)
theorem dd193_56 : decode cX12_readRule 56 = .ok (.istore_n 2, 1) := by decide +kernel
theorem ww193_56 {d : Nat} {l0 l1 l2 l3 : Option mw_V} {x : Int} {st : List mw_V} {σ : mw_S} {Q : Option mw_V → mw_S → Prop} (h : mw_nlo l1 = true) : mw_WP d 193 56 [l0, l1, l2, l3] (jI x :: st) σ Q ↔ mw_WP d 193 57 [l0, l1, some (jI x), l3] st σ Q := WP_istore_n mq193 dd193_56 (Nat.le_of_ble_eq_true rfl) (mw_nl_of (i := 1) rfl h) rfl
theorem dd193_57 : decode cX12_readRule 57 = .ok (.aload_n 0, 1) := by decide +kernel
theorem ww193_57 {d : Nat} {l1 l2 l3 : Option mw_V} {x : Nat} {st : List mw_V} {σ : mw_S} {Q : Option mw_V → mw_S → Prop} : mw_WP d 193 57 [some (jR x), l1, l2, l3] st σ Q ↔ mw_WP d 193 58 [some (jR x), l1, l2, l3] (jR x :: st) σ Q := WP_aload_n mq193 dd193_57 rfl
theorem dd193_58 : decode cX12_readRule 58 = .ok (.bipush 31, 2) := by decide +kernel
theorem ww193_58 {d : Nat} {l0 l1 l2 l3 : Option mw_V} {st : List mw_V} {σ : mw_S} {Q : Option mw_V → mw_S → Prop} : mw_WP d 193 58 [l0, l1, l2, l3] st σ Q ↔ mw_WP d 193 60 [l0, l1, l2, l3] (jI (31) :: st) σ Q := WP_bipush mq193 dd193_58 (by decide)
theorem dd193_60 : decode cX12_readRule 60 = .ok (.invokevirtual 167, 3) := by decide +kernel
theorem ww193_60 {d : Nat} {l0 l1 l2 l3 : Option mw_V} {v0 : mw_V} {a : Nat} {st : List mw_V} {σ : mw_S} {Q : Option mw_V → mw_S → Prop} (hr : mw_rc a = 12) (h8 : (st.map mw_cat).sum ≤ 8) : mw_WP d 193 60 [l0, l1, l2, l3] (v0 :: jR a :: st) σ Q ↔ mw_Call d 180 [jR a, v0] σ (fun r1 s1 => mw_WP d 193 63 [l0, l1, l2, l3] (r1.toList ++ st) s1 Q) := WP_inv (as := [v0]) mq193 dd193_60 (by decide) mq180 rfl hr h8
theorem dd193_63 : decode cX12_readRule 63 = .ok (.ifCond .ne 8, 3) := by decide +kernel
theorem ww193_63 {d : Nat} {l0 l1 l2 l3 : Option mw_V} {x : Int} {st : List mw_V} {σ : mw_S} {Q : Option mw_V → mw_S → Prop} : mw_WP d 193 63 [l0, l1, l2, l3] (jI x :: st) σ Q ↔ (if ¬ x = 0 then mw_WP d 193 71 [l0, l1, l2, l3] st σ Q else mw_WP d 193 66 [l0, l1, l2, l3] st σ Q) := WP_if_ne mq193 dd193_63 (by decide)
theorem dd193_66 : decode cX12_readRule 66 = .ok (.aload_n 0, 1) := by decide +kernel
theorem ww193_66 {d : Nat} {l1 l2 l3 : Option mw_V} {x : Nat} {st : List mw_V} {σ : mw_S} {Q : Option mw_V → mw_S → Prop} : mw_WP d 193 66 [some (jR x), l1, l2, l3] st σ Q ↔ mw_WP d 193 67 [some (jR x), l1, l2, l3] (jR x :: st) σ Q := WP_aload_n mq193 dd193_66 rfl
theorem dd193_67 : decode cX12_readRule 67 = .ok (.iconst 2, 1) := by decide +kernel
theorem ww193_67 {d : Nat} {l0 l1 l2 l3 : Option mw_V} {st : List mw_V} {σ : mw_S} {Q : Option mw_V → mw_S → Prop} : mw_WP d 193 67 [l0, l1, l2, l3] st σ Q ↔ mw_WP d 193 68 [l0, l1, l2, l3] (jI (2) :: st) σ Q := WP_iconst mq193 dd193_67 (by decide)
theorem dd193_68 : decode cX12_readRule 68 = .ok (.invokevirtual 155, 3) := by decide +kernel
theorem ww193_68 {d : Nat} {l0 l1 l2 l3 : Option mw_V} {v0 : mw_V} {a : Nat} {st : List mw_V} {σ : mw_S} {Q : Option mw_V → mw_S → Prop} (hr : mw_rc a = 12) (h8 : (st.map mw_cat).sum ≤ 8) : mw_WP d 193 68 [l0, l1, l2, l3] (v0 :: jR a :: st) σ Q ↔ mw_Call d 178 [jR a, v0] σ (fun r1 s1 => mw_WP d 193 71 [l0, l1, l2, l3] (r1.toList ++ st) s1 Q) := WP_inv (as := [v0]) mq193 dd193_68 (by decide) mq178 rfl hr h8
theorem dd193_71 : decode cX12_readRule 71 = .ok (.aload_n 0, 1) := by decide +kernel
theorem ww193_71 {d : Nat} {l1 l2 l3 : Option mw_V} {x : Nat} {st : List mw_V} {σ : mw_S} {Q : Option mw_V → mw_S → Prop} : mw_WP d 193 71 [some (jR x), l1, l2, l3] st σ Q ↔ mw_WP d 193 72 [some (jR x), l1, l2, l3] (jR x :: st) σ Q := WP_aload_n mq193 dd193_71 rfl
theorem dd193_72 : decode cX12_readRule 72 = .ok (.getfield 24, 3) := by decide +kernel
theorem ww193_72 {d : Nat} {l0 l1 l2 l3 : Option mw_V} {st : List mw_V} {σ : mw_S} {Q : Option mw_V → mw_S → Prop} : mw_WP d 193 72 [l0, l1, l2, l3] (jR 100 :: st) σ Q ↔ mw_WP d 193 75 [l0, l1, l2, l3] (jR 104 :: st) σ Q := WP_getR (ci := 11) (k := 4) mq193 dd193_72 (by decide) rfl
theorem dd193_75 : decode cX12_readRule 75 = .ok (.sipush 559, 3) := by decide +kernel
theorem ww193_75 {d : Nat} {l0 l1 l2 l3 : Option mw_V} {st : List mw_V} {σ : mw_S} {Q : Option mw_V → mw_S → Prop} : mw_WP d 193 75 [l0, l1, l2, l3] st σ Q ↔ mw_WP d 193 78 [l0, l1, l2, l3] (jI (559) :: st) σ Q := WP_sipush mq193 dd193_75 (by decide)
theorem dd193_78 : decode cX12_readRule 78 = .ok (.iaload, 1) := by decide +kernel
theorem ww193_78 {d : Nat} {l0 l1 l2 l3 : Option mw_V} {z : Int} {a : Nat} {st : List mw_V} {σ : mw_S} {Q : Option mw_V → mw_S → Prop} : mw_WP d 193 78 [l0, l1, l2, l3] (jI z :: jR a :: st) σ Q ↔ ((0 ≤ z ∧ z < mw_lenI a) ∧ mw_WP d 193 79 [l0, l1, l2, l3] (jI (mw_rdI σ a z.toNat) :: st) σ Q) := WP_iaload mq193 dd193_78
theorem dd193_79 : decode cX12_readRule 79 = .ok (.istore_n 3, 1) := by decide +kernel
theorem ww193_79 {d : Nat} {l0 l1 l2 l3 : Option mw_V} {x : Int} {st : List mw_V} {σ : mw_S} {Q : Option mw_V → mw_S → Prop} (h : mw_nlo l2 = true) : mw_WP d 193 79 [l0, l1, l2, l3] (jI x :: st) σ Q ↔ mw_WP d 193 80 [l0, l1, l2, some (jI x)] st σ Q := WP_istore_n mq193 dd193_79 (Nat.le_of_ble_eq_true rfl) (mw_nl_of (i := 2) rfl h) rfl
theorem dd193_80 : decode cX12_readRule 80 = .ok (.aload_n 0, 1) := by decide +kernel
theorem ww193_80 {d : Nat} {l1 l2 l3 : Option mw_V} {x : Nat} {st : List mw_V} {σ : mw_S} {Q : Option mw_V → mw_S → Prop} : mw_WP d 193 80 [some (jR x), l1, l2, l3] st σ Q ↔ mw_WP d 193 81 [some (jR x), l1, l2, l3] (jR x :: st) σ Q := WP_aload_n mq193 dd193_80 rfl
theorem dd193_81 : decode cX12_readRule 81 = .ok (.iconst 0, 1) := by decide +kernel
theorem ww193_81 {d : Nat} {l0 l1 l2 l3 : Option mw_V} {st : List mw_V} {σ : mw_S} {Q : Option mw_V → mw_S → Prop} : mw_WP d 193 81 [l0, l1, l2, l3] st σ Q ↔ mw_WP d 193 82 [l0, l1, l2, l3] (jI (0) :: st) σ Q := WP_iconst mq193 dd193_81 (by decide)
theorem dd193_82 : decode cX12_readRule 82 = .ok (.invokevirtual 196, 3) := by decide +kernel
theorem ww193_82 {d : Nat} {l0 l1 l2 l3 : Option mw_V} {v0 : mw_V} {a : Nat} {st : List mw_V} {σ : mw_S} {Q : Option mw_V → mw_S → Prop} (hr : mw_rc a = 12) (h8 : (st.map mw_cat).sum ≤ 8) : mw_WP d 193 82 [l0, l1, l2, l3] (v0 :: jR a :: st) σ Q ↔ mw_Call d 192 [jR a, v0] σ (fun r1 s1 => mw_WP d 193 85 [l0, l1, l2, l3] (r1.toList ++ st) s1 Q) := WP_inv (as := [v0]) mq193 dd193_82 (by decide) mq192 rfl hr h8
theorem dd193_85 : decode cX12_readRule 85 = .ok (.aload_n 0, 1) := by decide +kernel
theorem ww193_85 {d : Nat} {l1 l2 l3 : Option mw_V} {x : Nat} {st : List mw_V} {σ : mw_S} {Q : Option mw_V → mw_S → Prop} : mw_WP d 193 85 [some (jR x), l1, l2, l3] st σ Q ↔ mw_WP d 193 86 [some (jR x), l1, l2, l3] (jR x :: st) σ Q := WP_aload_n mq193 dd193_85 rfl
theorem dd193_86 : decode cX12_readRule 86 = .ok (.bipush 15, 2) := by decide +kernel
theorem ww193_86 {d : Nat} {l0 l1 l2 l3 : Option mw_V} {st : List mw_V} {σ : mw_S} {Q : Option mw_V → mw_S → Prop} : mw_WP d 193 86 [l0, l1, l2, l3] st σ Q ↔ mw_WP d 193 88 [l0, l1, l2, l3] (jI (15) :: st) σ Q := WP_bipush mq193 dd193_86 (by decide)
theorem dd193_88 : decode cX12_readRule 88 = .ok (.invokevirtual 167, 3) := by decide +kernel
theorem ww193_88 {d : Nat} {l0 l1 l2 l3 : Option mw_V} {v0 : mw_V} {a : Nat} {st : List mw_V} {σ : mw_S} {Q : Option mw_V → mw_S → Prop} (hr : mw_rc a = 12) (h8 : (st.map mw_cat).sum ≤ 8) : mw_WP d 193 88 [l0, l1, l2, l3] (v0 :: jR a :: st) σ Q ↔ mw_Call d 180 [jR a, v0] σ (fun r1 s1 => mw_WP d 193 91 [l0, l1, l2, l3] (r1.toList ++ st) s1 Q) := WP_inv (as := [v0]) mq193 dd193_88 (by decide) mq180 rfl hr h8
theorem dd193_91 : decode cX12_readRule 91 = .ok (.ifCond .ne 8, 3) := by decide +kernel
theorem ww193_91 {d : Nat} {l0 l1 l2 l3 : Option mw_V} {x : Int} {st : List mw_V} {σ : mw_S} {Q : Option mw_V → mw_S → Prop} : mw_WP d 193 91 [l0, l1, l2, l3] (jI x :: st) σ Q ↔ (if ¬ x = 0 then mw_WP d 193 99 [l0, l1, l2, l3] st σ Q else mw_WP d 193 94 [l0, l1, l2, l3] st σ Q) := WP_if_ne mq193 dd193_91 (by decide)
theorem dd193_94 : decode cX12_readRule 94 = .ok (.aload_n 0, 1) := by decide +kernel
theorem ww193_94 {d : Nat} {l1 l2 l3 : Option mw_V} {x : Nat} {st : List mw_V} {σ : mw_S} {Q : Option mw_V → mw_S → Prop} : mw_WP d 193 94 [some (jR x), l1, l2, l3] st σ Q ↔ mw_WP d 193 95 [some (jR x), l1, l2, l3] (jR x :: st) σ Q := WP_aload_n mq193 dd193_94 rfl
theorem dd193_95 : decode cX12_readRule 95 = .ok (.iconst 2, 1) := by decide +kernel
theorem ww193_95 {d : Nat} {l0 l1 l2 l3 : Option mw_V} {st : List mw_V} {σ : mw_S} {Q : Option mw_V → mw_S → Prop} : mw_WP d 193 95 [l0, l1, l2, l3] st σ Q ↔ mw_WP d 193 96 [l0, l1, l2, l3] (jI (2) :: st) σ Q := WP_iconst mq193 dd193_95 (by decide)
theorem dd193_96 : decode cX12_readRule 96 = .ok (.invokevirtual 155, 3) := by decide +kernel
theorem ww193_96 {d : Nat} {l0 l1 l2 l3 : Option mw_V} {v0 : mw_V} {a : Nat} {st : List mw_V} {σ : mw_S} {Q : Option mw_V → mw_S → Prop} (hr : mw_rc a = 12) (h8 : (st.map mw_cat).sum ≤ 8) : mw_WP d 193 96 [l0, l1, l2, l3] (v0 :: jR a :: st) σ Q ↔ mw_Call d 178 [jR a, v0] σ (fun r1 s1 => mw_WP d 193 99 [l0, l1, l2, l3] (r1.toList ++ st) s1 Q) := WP_inv (as := [v0]) mq193 dd193_96 (by decide) mq178 rfl hr h8
theorem dd193_99 : decode cX12_readRule 99 = .ok (.aload_n 0, 1) := by decide +kernel
theorem ww193_99 {d : Nat} {l1 l2 l3 : Option mw_V} {x : Nat} {st : List mw_V} {σ : mw_S} {Q : Option mw_V → mw_S → Prop} : mw_WP d 193 99 [some (jR x), l1, l2, l3] st σ Q ↔ mw_WP d 193 100 [some (jR x), l1, l2, l3] (jR x :: st) σ Q := WP_aload_n mq193 dd193_99 rfl
theorem dd193_100 : decode cX12_readRule 100 = .ok (.getfield 143, 3) := by decide +kernel
theorem ww193_100 {d : Nat} {l0 l1 l2 l3 : Option mw_V} {st : List mw_V} {σ : mw_S} {Q : Option mw_V → mw_S → Prop} : mw_WP d 193 100 [l0, l1, l2, l3] (jR 100 :: st) σ Q ↔ mw_WP d 193 103 [l0, l1, l2, l3] (jI (σ 100 11) :: st) σ Q := WP_getI (ci := 11) (k := 11) mq193 dd193_100 (by decide) (Or.inl rfl)
theorem dd193_103 : decode cX12_readRule 103 = .ok (.ifCond .ne 23, 3) := by decide +kernel
theorem ww193_103 {d : Nat} {l0 l1 l2 l3 : Option mw_V} {x : Int} {st : List mw_V} {σ : mw_S} {Q : Option mw_V → mw_S → Prop} : mw_WP d 193 103 [l0, l1, l2, l3] (jI x :: st) σ Q ↔ (if ¬ x = 0 then mw_WP d 193 126 [l0, l1, l2, l3] st σ Q else mw_WP d 193 106 [l0, l1, l2, l3] st σ Q) := WP_if_ne mq193 dd193_103 (by decide)
theorem dd193_106 : decode cX12_readRule 106 = .ok (.aload_n 0, 1) := by decide +kernel
theorem ww193_106 {d : Nat} {l1 l2 l3 : Option mw_V} {x : Nat} {st : List mw_V} {σ : mw_S} {Q : Option mw_V → mw_S → Prop} : mw_WP d 193 106 [some (jR x), l1, l2, l3] st σ Q ↔ mw_WP d 193 107 [some (jR x), l1, l2, l3] (jR x :: st) σ Q := WP_aload_n mq193 dd193_106 rfl
theorem dd193_107 : decode cX12_readRule 107 = .ok (.getfield 125, 3) := by decide +kernel
theorem ww193_107 {d : Nat} {l0 l1 l2 l3 : Option mw_V} {st : List mw_V} {σ : mw_S} {Q : Option mw_V → mw_S → Prop} : mw_WP d 193 107 [l0, l1, l2, l3] (jR 100 :: st) σ Q ↔ mw_WP d 193 110 [l0, l1, l2, l3] (jI (σ 100 9) :: st) σ Q := WP_getI (ci := 11) (k := 9) mq193 dd193_107 (by decide) (Or.inl rfl)
theorem dd193_110 : decode cX12_readRule 110 = .ok (.i2l, 1) := by decide +kernel
theorem ww193_110 {d : Nat} {l0 l1 l2 l3 : Option mw_V} {x : Int} {st : List mw_V} {σ : mw_S} {Q : Option mw_V → mw_S → Prop} : mw_WP d 193 110 [l0, l1, l2, l3] (jI x :: st) σ Q ↔ mw_WP d 193 111 [l0, l1, l2, l3] (jL (yL x) :: st) σ Q := WP_i2l mq193 dd193_110
theorem dd193_111 : decode cX12_readRule 111 = .ok (.lconst 0, 1) := by decide +kernel
theorem ww193_111 {d : Nat} {l0 l1 l2 l3 : Option mw_V} {st : List mw_V} {σ : mw_S} {Q : Option mw_V → mw_S → Prop} : mw_WP d 193 111 [l0, l1, l2, l3] st σ Q ↔ mw_WP d 193 112 [l0, l1, l2, l3] (jL (0) :: st) σ Q := WP_lconst mq193 dd193_111 (by decide)
theorem dd193_112 : decode cX12_readRule 112 = .ok (.ldc2_w 202, 3) := by decide +kernel
theorem ww193_112 {d : Nat} {l0 l1 l2 l3 : Option mw_V} {st : List mw_V} {σ : mw_S} {Q : Option mw_V → mw_S → Prop} : mw_WP d 193 112 [l0, l1, l2, l3] st σ Q ↔ mw_WP d 193 115 [l0, l1, l2, l3] (jL (8) :: st) σ Q := WP_ldc2_w (v := 8) mq193 dd193_112 (by decide) (by decide)
theorem dd193_115 : decode cX12_readRule 115 = .ok (.invokestatic 159, 3) := by decide +kernel
theorem ww193_115 {d : Nat} {l0 l1 l2 l3 : Option mw_V} {v0 v1 v2 : mw_V} {st : List mw_V} {σ : mw_S} {Q : Option mw_V → mw_S → Prop} (h8 : (st.map mw_cat).sum ≤ 8) : mw_WP d 193 115 [l0, l1, l2, l3] (v2 :: v1 :: v0 :: st) σ Q ↔ mw_Call d 170 [v0, v1, v2] σ (fun r1 s1 => mw_WP d 193 118 [l0, l1, l2, l3] (r1.toList ++ st) s1 Q) := WP_invs (as := [v2, v1, v0]) mq193 dd193_115 (by decide) mq170 rfl rfl h8
theorem dd193_118 : decode cX12_readRule 118 = .ok (.ifCond .ne 8, 3) := by decide +kernel
theorem ww193_118 {d : Nat} {l0 l1 l2 l3 : Option mw_V} {x : Int} {st : List mw_V} {σ : mw_S} {Q : Option mw_V → mw_S → Prop} : mw_WP d 193 118 [l0, l1, l2, l3] (jI x :: st) σ Q ↔ (if ¬ x = 0 then mw_WP d 193 126 [l0, l1, l2, l3] st σ Q else mw_WP d 193 121 [l0, l1, l2, l3] st σ Q) := WP_if_ne mq193 dd193_118 (by decide)
theorem dd193_121 : decode cX12_readRule 121 = .ok (.aload_n 0, 1) := by decide +kernel
theorem ww193_121 {d : Nat} {l1 l2 l3 : Option mw_V} {x : Nat} {st : List mw_V} {σ : mw_S} {Q : Option mw_V → mw_S → Prop} : mw_WP d 193 121 [some (jR x), l1, l2, l3] st σ Q ↔ mw_WP d 193 122 [some (jR x), l1, l2, l3] (jR x :: st) σ Q := WP_aload_n mq193 dd193_121 rfl
theorem dd193_122 : decode cX12_readRule 122 = .ok (.iconst 2, 1) := by decide +kernel
theorem ww193_122 {d : Nat} {l0 l1 l2 l3 : Option mw_V} {st : List mw_V} {σ : mw_S} {Q : Option mw_V → mw_S → Prop} : mw_WP d 193 122 [l0, l1, l2, l3] st σ Q ↔ mw_WP d 193 123 [l0, l1, l2, l3] (jI (2) :: st) σ Q := WP_iconst mq193 dd193_122 (by decide)
theorem dd193_123 : decode cX12_readRule 123 = .ok (.invokevirtual 155, 3) := by decide +kernel
theorem ww193_123 {d : Nat} {l0 l1 l2 l3 : Option mw_V} {v0 : mw_V} {a : Nat} {st : List mw_V} {σ : mw_S} {Q : Option mw_V → mw_S → Prop} (hr : mw_rc a = 12) (h8 : (st.map mw_cat).sum ≤ 8) : mw_WP d 193 123 [l0, l1, l2, l3] (v0 :: jR a :: st) σ Q ↔ mw_Call d 178 [jR a, v0] σ (fun r1 s1 => mw_WP d 193 126 [l0, l1, l2, l3] (r1.toList ++ st) s1 Q) := WP_inv (as := [v0]) mq193 dd193_123 (by decide) mq178 rfl hr h8
theorem dd193_126 : decode cX12_readRule 126 = .ok (.aload_n 0, 1) := by decide +kernel
theorem ww193_126 {d : Nat} {l1 l2 l3 : Option mw_V} {x : Nat} {st : List mw_V} {σ : mw_S} {Q : Option mw_V → mw_S → Prop} : mw_WP d 193 126 [some (jR x), l1, l2, l3] st σ Q ↔ mw_WP d 193 127 [some (jR x), l1, l2, l3] (jR x :: st) σ Q := WP_aload_n mq193 dd193_126 rfl
theorem dd193_127 : decode cX12_readRule 127 = .ok (.getfield 143, 3) := by decide +kernel
theorem ww193_127 {d : Nat} {l0 l1 l2 l3 : Option mw_V} {st : List mw_V} {σ : mw_S} {Q : Option mw_V → mw_S → Prop} : mw_WP d 193 127 [l0, l1, l2, l3] (jR 100 :: st) σ Q ↔ mw_WP d 193 130 [l0, l1, l2, l3] (jI (σ 100 11) :: st) σ Q := WP_getI (ci := 11) (k := 11) mq193 dd193_127 (by decide) (Or.inl rfl)
theorem dd193_130 : decode cX12_readRule 130 = .ok (.ifCond .eq 4, 3) := by decide +kernel
theorem ww193_130 {d : Nat} {l0 l1 l2 l3 : Option mw_V} {x : Int} {st : List mw_V} {σ : mw_S} {Q : Option mw_V → mw_S → Prop} : mw_WP d 193 130 [l0, l1, l2, l3] (jI x :: st) σ Q ↔ (if x = 0 then mw_WP d 193 134 [l0, l1, l2, l3] st σ Q else mw_WP d 193 133 [l0, l1, l2, l3] st σ Q) := WP_if_eq mq193 dd193_130 (by decide)
theorem dd193_133 : decode cX12_readRule 133 = .ok (.return_, 1) := by decide +kernel
theorem ww193_133 {d : Nat} {l0 l1 l2 l3 : Option mw_V} {σ : mw_S} {Q : Option mw_V → mw_S → Prop} : mw_WP d 193 133 [l0, l1, l2, l3] [] σ Q ↔ Q none σ := WP_return mq193 dd193_133 rfl
theorem dd193_134 : decode cX12_readRule 134 = .ok (.aload_n 0, 1) := by decide +kernel
theorem ww193_134 {d : Nat} {l1 l2 l3 : Option mw_V} {x : Nat} {st : List mw_V} {σ : mw_S} {Q : Option mw_V → mw_S → Prop} : mw_WP d 193 134 [some (jR x), l1, l2, l3] st σ Q ↔ mw_WP d 193 135 [some (jR x), l1, l2, l3] (jR x :: st) σ Q := WP_aload_n mq193 dd193_134 rfl
theorem dd193_135 : decode cX12_readRule 135 = .ok (.getfield 24, 3) := by decide +kernel
theorem ww193_135 {d : Nat} {l0 l1 l2 l3 : Option mw_V} {st : List mw_V} {σ : mw_S} {Q : Option mw_V → mw_S → Prop} : mw_WP d 193 135 [l0, l1, l2, l3] (jR 100 :: st) σ Q ↔ mw_WP d 193 138 [l0, l1, l2, l3] (jR 104 :: st) σ Q := WP_getR (ci := 11) (k := 4) mq193 dd193_135 (by decide) rfl
theorem dd193_138 : decode cX12_readRule 138 = .ok (.bipush 17, 2) := by decide +kernel
theorem ww193_138 {d : Nat} {l0 l1 l2 l3 : Option mw_V} {st : List mw_V} {σ : mw_S} {Q : Option mw_V → mw_S → Prop} : mw_WP d 193 138 [l0, l1, l2, l3] st σ Q ↔ mw_WP d 193 140 [l0, l1, l2, l3] (jI (17) :: st) σ Q := WP_bipush mq193 dd193_138 (by decide)
theorem dd193_140 : decode cX12_readRule 140 = .ok (.iload_n 1, 1) := by decide +kernel
theorem ww193_140 {d : Nat} {l0 l2 l3 : Option mw_V} {x : Int} {st : List mw_V} {σ : mw_S} {Q : Option mw_V → mw_S → Prop} : mw_WP d 193 140 [l0, some (jI x), l2, l3] st σ Q ↔ mw_WP d 193 141 [l0, some (jI x), l2, l3] (jI x :: st) σ Q := WP_iload_n mq193 dd193_140 rfl
theorem dd193_141 : decode cX12_readRule 141 = .ok (.iadd, 1) := by decide +kernel
theorem ww193_141 {d : Nat} {l0 l1 l2 l3 : Option mw_V} {x y : Int} {st : List mw_V} {σ : mw_S} {Q : Option mw_V → mw_S → Prop} : mw_WP d 193 141 [l0, l1, l2, l3] (jI y :: jI x :: st) σ Q ↔ mw_WP d 193 142 [l0, l1, l2, l3] (jI (w32 (x + y)) :: st) σ Q := WP_iadd mq193 dd193_141
theorem dd193_142 : decode cX12_readRule 142 = .ok (.aload_n 0, 1) := by decide +kernel
theorem ww193_142 {d : Nat} {l1 l2 l3 : Option mw_V} {x : Nat} {st : List mw_V} {σ : mw_S} {Q : Option mw_V → mw_S → Prop} : mw_WP d 193 142 [some (jR x), l1, l2, l3] st σ Q ↔ mw_WP d 193 143 [some (jR x), l1, l2, l3] (jR x :: st) σ Q := WP_aload_n mq193 dd193_142 rfl
theorem dd193_143 : decode cX12_readRule 143 = .ok (.getfield 125, 3) := by decide +kernel
theorem ww193_143 {d : Nat} {l0 l1 l2 l3 : Option mw_V} {st : List mw_V} {σ : mw_S} {Q : Option mw_V → mw_S → Prop} : mw_WP d 193 143 [l0, l1, l2, l3] (jR 100 :: st) σ Q ↔ mw_WP d 193 146 [l0, l1, l2, l3] (jI (σ 100 9) :: st) σ Q := WP_getI (ci := 11) (k := 9) mq193 dd193_143 (by decide) (Or.inl rfl)
theorem dd193_146 : decode cX12_readRule 146 = .ok (.iastore, 1) := by decide +kernel
theorem ww193_146 {d : Nat} {l0 l1 l2 l3 : Option mw_V} {x z : Int} {a : Nat} {st : List mw_V} {σ : mw_S} {Q : Option mw_V → mw_S → Prop} : mw_WP d 193 146 [l0, l1, l2, l3] (jI x :: jI z :: jR a :: st) σ Q ↔ ((0 ≤ z ∧ z < mw_lenW 0 a) ∧ mw_WP d 193 147 [l0, l1, l2, l3] st (upS σ a z.toNat x) Q) := WP_iastore mq193 dd193_146
theorem dd193_147 : decode cX12_readRule 147 = .ok (.aload_n 0, 1) := by decide +kernel
theorem ww193_147 {d : Nat} {l1 l2 l3 : Option mw_V} {x : Nat} {st : List mw_V} {σ : mw_S} {Q : Option mw_V → mw_S → Prop} : mw_WP d 193 147 [some (jR x), l1, l2, l3] st σ Q ↔ mw_WP d 193 148 [some (jR x), l1, l2, l3] (jR x :: st) σ Q := WP_aload_n mq193 dd193_147 rfl
theorem dd193_148 : decode cX12_readRule 148 = .ok (.invokevirtual 152, 3) := by decide +kernel
theorem ww193_148 {d : Nat} {l0 l1 l2 l3 : Option mw_V} {a : Nat} {st : List mw_V} {σ : mw_S} {Q : Option mw_V → mw_S → Prop} (hr : mw_rc a = 12) (h8 : (st.map mw_cat).sum ≤ 8) : mw_WP d 193 148 [l0, l1, l2, l3] (jR a :: st) σ Q ↔ mw_Call d 177 [jR a] σ (fun r1 s1 => mw_WP d 193 151 [l0, l1, l2, l3] (r1.toList ++ st) s1 Q) := WP_inv (as := []) mq193 dd193_148 (by decide) mq177 rfl hr h8
theorem dd193_151 : decode cX12_readRule 151 = .ok (.aload_n 0, 1) := by decide +kernel
theorem ww193_151 {d : Nat} {l1 l2 l3 : Option mw_V} {x : Nat} {st : List mw_V} {σ : mw_S} {Q : Option mw_V → mw_S → Prop} : mw_WP d 193 151 [some (jR x), l1, l2, l3] st σ Q ↔ mw_WP d 193 152 [some (jR x), l1, l2, l3] (jR x :: st) σ Q := WP_aload_n mq193 dd193_151 rfl
theorem dd193_152 : decode cX12_readRule 152 = .ok (.getfield 24, 3) := by decide +kernel
theorem ww193_152 {d : Nat} {l0 l1 l2 l3 : Option mw_V} {st : List mw_V} {σ : mw_S} {Q : Option mw_V → mw_S → Prop} : mw_WP d 193 152 [l0, l1, l2, l3] (jR 100 :: st) σ Q ↔ mw_WP d 193 155 [l0, l1, l2, l3] (jR 104 :: st) σ Q := WP_getR (ci := 11) (k := 4) mq193 dd193_152 (by decide) rfl
theorem dd193_155 : decode cX12_readRule 155 = .ok (.bipush 9, 2) := by decide +kernel
theorem ww193_155 {d : Nat} {l0 l1 l2 l3 : Option mw_V} {st : List mw_V} {σ : mw_S} {Q : Option mw_V → mw_S → Prop} : mw_WP d 193 155 [l0, l1, l2, l3] st σ Q ↔ mw_WP d 193 157 [l0, l1, l2, l3] (jI (9) :: st) σ Q := WP_bipush mq193 dd193_155 (by decide)
theorem dd193_157 : decode cX12_readRule 157 = .ok (.iload_n 1, 1) := by decide +kernel
theorem ww193_157 {d : Nat} {l0 l2 l3 : Option mw_V} {x : Int} {st : List mw_V} {σ : mw_S} {Q : Option mw_V → mw_S → Prop} : mw_WP d 193 157 [l0, some (jI x), l2, l3] st σ Q ↔ mw_WP d 193 158 [l0, some (jI x), l2, l3] (jI x :: st) σ Q := WP_iload_n mq193 dd193_157 rfl
theorem dd193_158 : decode cX12_readRule 158 = .ok (.iadd, 1) := by decide +kernel
theorem ww193_158 {d : Nat} {l0 l1 l2 l3 : Option mw_V} {x y : Int} {st : List mw_V} {σ : mw_S} {Q : Option mw_V → mw_S → Prop} : mw_WP d 193 158 [l0, l1, l2, l3] (jI y :: jI x :: st) σ Q ↔ mw_WP d 193 159 [l0, l1, l2, l3] (jI (w32 (x + y)) :: st) σ Q := WP_iadd mq193 dd193_158
theorem dd193_159 : decode cX12_readRule 159 = .ok (.iload_n 2, 1) := by decide +kernel
theorem ww193_159 {d : Nat} {l0 l1 l3 : Option mw_V} {x : Int} {st : List mw_V} {σ : mw_S} {Q : Option mw_V → mw_S → Prop} : mw_WP d 193 159 [l0, l1, some (jI x), l3] st σ Q ↔ mw_WP d 193 160 [l0, l1, some (jI x), l3] (jI x :: st) σ Q := WP_iload_n mq193 dd193_159 rfl
theorem dd193_160 : decode cX12_readRule 160 = .ok (.iastore, 1) := by decide +kernel
theorem ww193_160 {d : Nat} {l0 l1 l2 l3 : Option mw_V} {x z : Int} {a : Nat} {st : List mw_V} {σ : mw_S} {Q : Option mw_V → mw_S → Prop} : mw_WP d 193 160 [l0, l1, l2, l3] (jI x :: jI z :: jR a :: st) σ Q ↔ ((0 ≤ z ∧ z < mw_lenW 0 a) ∧ mw_WP d 193 161 [l0, l1, l2, l3] st (upS σ a z.toNat x) Q) := WP_iastore mq193 dd193_160
theorem dd193_161 : decode cX12_readRule 161 = .ok (.aload_n 0, 1) := by decide +kernel
theorem ww193_161 {d : Nat} {l1 l2 l3 : Option mw_V} {x : Nat} {st : List mw_V} {σ : mw_S} {Q : Option mw_V → mw_S → Prop} : mw_WP d 193 161 [some (jR x), l1, l2, l3] st σ Q ↔ mw_WP d 193 162 [some (jR x), l1, l2, l3] (jR x :: st) σ Q := WP_aload_n mq193 dd193_161 rfl
theorem dd193_162 : decode cX12_readRule 162 = .ok (.getfield 24, 3) := by decide +kernel
theorem ww193_162 {d : Nat} {l0 l1 l2 l3 : Option mw_V} {st : List mw_V} {σ : mw_S} {Q : Option mw_V → mw_S → Prop} : mw_WP d 193 162 [l0, l1, l2, l3] (jR 100 :: st) σ Q ↔ mw_WP d 193 165 [l0, l1, l2, l3] (jR 104 :: st) σ Q := WP_getR (ci := 11) (k := 4) mq193 dd193_162 (by decide) rfl
theorem dd193_165 : decode cX12_readRule 165 = .ok (.bipush 25, 2) := by decide +kernel
theorem ww193_165 {d : Nat} {l0 l1 l2 l3 : Option mw_V} {st : List mw_V} {σ : mw_S} {Q : Option mw_V → mw_S → Prop} : mw_WP d 193 165 [l0, l1, l2, l3] st σ Q ↔ mw_WP d 193 167 [l0, l1, l2, l3] (jI (25) :: st) σ Q := WP_bipush mq193 dd193_165 (by decide)
theorem dd193_167 : decode cX12_readRule 167 = .ok (.iload_n 1, 1) := by decide +kernel
theorem ww193_167 {d : Nat} {l0 l2 l3 : Option mw_V} {x : Int} {st : List mw_V} {σ : mw_S} {Q : Option mw_V → mw_S → Prop} : mw_WP d 193 167 [l0, some (jI x), l2, l3] st σ Q ↔ mw_WP d 193 168 [l0, some (jI x), l2, l3] (jI x :: st) σ Q := WP_iload_n mq193 dd193_167 rfl
theorem dd193_168 : decode cX12_readRule 168 = .ok (.iadd, 1) := by decide +kernel
theorem ww193_168 {d : Nat} {l0 l1 l2 l3 : Option mw_V} {x y : Int} {st : List mw_V} {σ : mw_S} {Q : Option mw_V → mw_S → Prop} : mw_WP d 193 168 [l0, l1, l2, l3] (jI y :: jI x :: st) σ Q ↔ mw_WP d 193 169 [l0, l1, l2, l3] (jI (w32 (x + y)) :: st) σ Q := WP_iadd mq193 dd193_168
theorem dd193_169 : decode cX12_readRule 169 = .ok (.iload_n 3, 1) := by decide +kernel
theorem ww193_169 {d : Nat} {l0 l1 l2 : Option mw_V} {x : Int} {st : List mw_V} {σ : mw_S} {Q : Option mw_V → mw_S → Prop} : mw_WP d 193 169 [l0, l1, l2, some (jI x)] st σ Q ↔ mw_WP d 193 170 [l0, l1, l2, some (jI x)] (jI x :: st) σ Q := WP_iload_n mq193 dd193_169 rfl
theorem dd193_170 : decode cX12_readRule 170 = .ok (.iastore, 1) := by decide +kernel
theorem ww193_170 {d : Nat} {l0 l1 l2 l3 : Option mw_V} {x z : Int} {a : Nat} {st : List mw_V} {σ : mw_S} {Q : Option mw_V → mw_S → Prop} : mw_WP d 193 170 [l0, l1, l2, l3] (jI x :: jI z :: jR a :: st) σ Q ↔ ((0 ≤ z ∧ z < mw_lenW 0 a) ∧ mw_WP d 193 171 [l0, l1, l2, l3] st (upS σ a z.toNat x) Q) := WP_iastore mq193 dd193_170
theorem dd193_171 : decode cX12_readRule 171 = .ok (.aload_n 0, 1) := by decide +kernel
theorem ww193_171 {d : Nat} {l1 l2 l3 : Option mw_V} {x : Nat} {st : List mw_V} {σ : mw_S} {Q : Option mw_V → mw_S → Prop} : mw_WP d 193 171 [some (jR x), l1, l2, l3] st σ Q ↔ mw_WP d 193 172 [some (jR x), l1, l2, l3] (jR x :: st) σ Q := WP_aload_n mq193 dd193_171 rfl
theorem dd193_172 : decode cX12_readRule 172 = .ok (.getfield 24, 3) := by decide +kernel
theorem ww193_172 {d : Nat} {l0 l1 l2 l3 : Option mw_V} {st : List mw_V} {σ : mw_S} {Q : Option mw_V → mw_S → Prop} : mw_WP d 193 172 [l0, l1, l2, l3] (jR 100 :: st) σ Q ↔ mw_WP d 193 175 [l0, l1, l2, l3] (jR 104 :: st) σ Q := WP_getR (ci := 11) (k := 4) mq193 dd193_172 (by decide) rfl
theorem dd193_175 : decode cX12_readRule 175 = .ok (.bipush 33, 2) := by decide +kernel
theorem ww193_175 {d : Nat} {l0 l1 l2 l3 : Option mw_V} {st : List mw_V} {σ : mw_S} {Q : Option mw_V → mw_S → Prop} : mw_WP d 193 175 [l0, l1, l2, l3] st σ Q ↔ mw_WP d 193 177 [l0, l1, l2, l3] (jI (33) :: st) σ Q := WP_bipush mq193 dd193_175 (by decide)
theorem dd193_177 : decode cX12_readRule 177 = .ok (.iload_n 1, 1) := by decide +kernel
theorem ww193_177 {d : Nat} {l0 l2 l3 : Option mw_V} {x : Int} {st : List mw_V} {σ : mw_S} {Q : Option mw_V → mw_S → Prop} : mw_WP d 193 177 [l0, some (jI x), l2, l3] st σ Q ↔ mw_WP d 193 178 [l0, some (jI x), l2, l3] (jI x :: st) σ Q := WP_iload_n mq193 dd193_177 rfl
theorem dd193_178 : decode cX12_readRule 178 = .ok (.iadd, 1) := by decide +kernel
theorem ww193_178 {d : Nat} {l0 l1 l2 l3 : Option mw_V} {x y : Int} {st : List mw_V} {σ : mw_S} {Q : Option mw_V → mw_S → Prop} : mw_WP d 193 178 [l0, l1, l2, l3] (jI y :: jI x :: st) σ Q ↔ mw_WP d 193 179 [l0, l1, l2, l3] (jI (w32 (x + y)) :: st) σ Q := WP_iadd mq193 dd193_178
theorem dd193_179 : decode cX12_readRule 179 = .ok (.aload_n 0, 1) := by decide +kernel
theorem ww193_179 {d : Nat} {l1 l2 l3 : Option mw_V} {x : Nat} {st : List mw_V} {σ : mw_S} {Q : Option mw_V → mw_S → Prop} : mw_WP d 193 179 [some (jR x), l1, l2, l3] st σ Q ↔ mw_WP d 193 180 [some (jR x), l1, l2, l3] (jR x :: st) σ Q := WP_aload_n mq193 dd193_179 rfl
theorem dd193_180 : decode cX12_readRule 180 = .ok (.getfield 24, 3) := by decide +kernel
theorem ww193_180 {d : Nat} {l0 l1 l2 l3 : Option mw_V} {st : List mw_V} {σ : mw_S} {Q : Option mw_V → mw_S → Prop} : mw_WP d 193 180 [l0, l1, l2, l3] (jR 100 :: st) σ Q ↔ mw_WP d 193 183 [l0, l1, l2, l3] (jR 104 :: st) σ Q := WP_getR (ci := 11) (k := 4) mq193 dd193_180 (by decide) rfl
theorem dd193_183 : decode cX12_readRule 183 = .ok (.sipush 559, 3) := by decide +kernel
theorem ww193_183 {d : Nat} {l0 l1 l2 l3 : Option mw_V} {st : List mw_V} {σ : mw_S} {Q : Option mw_V → mw_S → Prop} : mw_WP d 193 183 [l0, l1, l2, l3] st σ Q ↔ mw_WP d 193 186 [l0, l1, l2, l3] (jI (559) :: st) σ Q := WP_sipush mq193 dd193_183 (by decide)
theorem dd193_186 : decode cX12_readRule 186 = .ok (.iaload, 1) := by decide +kernel
theorem ww193_186 {d : Nat} {l0 l1 l2 l3 : Option mw_V} {z : Int} {a : Nat} {st : List mw_V} {σ : mw_S} {Q : Option mw_V → mw_S → Prop} : mw_WP d 193 186 [l0, l1, l2, l3] (jI z :: jR a :: st) σ Q ↔ ((0 ≤ z ∧ z < mw_lenI a) ∧ mw_WP d 193 187 [l0, l1, l2, l3] (jI (mw_rdI σ a z.toNat) :: st) σ Q) := WP_iaload mq193 dd193_186
theorem dd193_187 : decode cX12_readRule 187 = .ok (.iload_n 3, 1) := by decide +kernel
theorem ww193_187 {d : Nat} {l0 l1 l2 : Option mw_V} {x : Int} {st : List mw_V} {σ : mw_S} {Q : Option mw_V → mw_S → Prop} : mw_WP d 193 187 [l0, l1, l2, some (jI x)] st σ Q ↔ mw_WP d 193 188 [l0, l1, l2, some (jI x)] (jI x :: st) σ Q := WP_iload_n mq193 dd193_187 rfl
theorem dd193_188 : decode cX12_readRule 188 = .ok (.isub, 1) := by decide +kernel
theorem ww193_188 {d : Nat} {l0 l1 l2 l3 : Option mw_V} {x y : Int} {st : List mw_V} {σ : mw_S} {Q : Option mw_V → mw_S → Prop} : mw_WP d 193 188 [l0, l1, l2, l3] (jI y :: jI x :: st) σ Q ↔ mw_WP d 193 189 [l0, l1, l2, l3] (jI (w32 (x - y)) :: st) σ Q := WP_isub mq193 dd193_188
theorem dd193_189 : decode cX12_readRule 189 = .ok (.iastore, 1) := by decide +kernel
theorem ww193_189 {d : Nat} {l0 l1 l2 l3 : Option mw_V} {x z : Int} {a : Nat} {st : List mw_V} {σ : mw_S} {Q : Option mw_V → mw_S → Prop} : mw_WP d 193 189 [l0, l1, l2, l3] (jI x :: jI z :: jR a :: st) σ Q ↔ ((0 ≤ z ∧ z < mw_lenW 0 a) ∧ mw_WP d 193 190 [l0, l1, l2, l3] st (upS σ a z.toNat x) Q) := WP_iastore mq193 dd193_189
theorem dd193_190 : decode cX12_readRule 190 = .ok (.aload_n 0, 1) := by decide +kernel
theorem ww193_190 {d : Nat} {l1 l2 l3 : Option mw_V} {x : Nat} {st : List mw_V} {σ : mw_S} {Q : Option mw_V → mw_S → Prop} : mw_WP d 193 190 [some (jR x), l1, l2, l3] st σ Q ↔ mw_WP d 193 191 [some (jR x), l1, l2, l3] (jR x :: st) σ Q := WP_aload_n mq193 dd193_190 rfl
theorem dd193_191 : decode cX12_readRule 191 = .ok (.getfield 24, 3) := by decide +kernel
theorem ww193_191 {d : Nat} {l0 l1 l2 l3 : Option mw_V} {st : List mw_V} {σ : mw_S} {Q : Option mw_V → mw_S → Prop} : mw_WP d 193 191 [l0, l1, l2, l3] (jR 100 :: st) σ Q ↔ mw_WP d 193 194 [l0, l1, l2, l3] (jR 104 :: st) σ Q := WP_getR (ci := 11) (k := 4) mq193 dd193_191 (by decide) rfl
theorem dd193_194 : decode cX12_readRule 194 = .ok (.iconst 4, 1) := by decide +kernel
theorem ww193_194 {d : Nat} {l0 l1 l2 l3 : Option mw_V} {st : List mw_V} {σ : mw_S} {Q : Option mw_V → mw_S → Prop} : mw_WP d 193 194 [l0, l1, l2, l3] st σ Q ↔ mw_WP d 193 195 [l0, l1, l2, l3] (jI (4) :: st) σ Q := WP_iconst mq193 dd193_194 (by decide)
theorem dd193_195 : decode cX12_readRule 195 = .ok (.dup2, 1) := by decide +kernel
theorem ww193_195 {d : Nat} {l0 l1 l2 l3 : Option mw_V} {v w : mw_V} {st : List mw_V} {σ : mw_S} {Q : Option mw_V → mw_S → Prop} (h : mw_cat v = 1) (h2 : mw_cat w = 1) : mw_WP d 193 195 [l0, l1, l2, l3] (v :: w :: st) σ Q ↔ mw_WP d 193 196 [l0, l1, l2, l3] (v :: w :: v :: w :: st) σ Q := WP_dup2 mq193 dd193_195 h h2
theorem dd193_196 : decode cX12_readRule 196 = .ok (.iaload, 1) := by decide +kernel
theorem ww193_196 {d : Nat} {l0 l1 l2 l3 : Option mw_V} {z : Int} {a : Nat} {st : List mw_V} {σ : mw_S} {Q : Option mw_V → mw_S → Prop} : mw_WP d 193 196 [l0, l1, l2, l3] (jI z :: jR a :: st) σ Q ↔ ((0 ≤ z ∧ z < mw_lenI a) ∧ mw_WP d 193 197 [l0, l1, l2, l3] (jI (mw_rdI σ a z.toNat) :: st) σ Q) := WP_iaload mq193 dd193_196
theorem dd193_197 : decode cX12_readRule 197 = .ok (.iconst 1, 1) := by decide +kernel
theorem ww193_197 {d : Nat} {l0 l1 l2 l3 : Option mw_V} {st : List mw_V} {σ : mw_S} {Q : Option mw_V → mw_S → Prop} : mw_WP d 193 197 [l0, l1, l2, l3] st σ Q ↔ mw_WP d 193 198 [l0, l1, l2, l3] (jI (1) :: st) σ Q := WP_iconst mq193 dd193_197 (by decide)
theorem dd193_198 : decode cX12_readRule 198 = .ok (.iadd, 1) := by decide +kernel
theorem ww193_198 {d : Nat} {l0 l1 l2 l3 : Option mw_V} {x y : Int} {st : List mw_V} {σ : mw_S} {Q : Option mw_V → mw_S → Prop} : mw_WP d 193 198 [l0, l1, l2, l3] (jI y :: jI x :: st) σ Q ↔ mw_WP d 193 199 [l0, l1, l2, l3] (jI (w32 (x + y)) :: st) σ Q := WP_iadd mq193 dd193_198
theorem dd193_199 : decode cX12_readRule 199 = .ok (.iastore, 1) := by decide +kernel
theorem ww193_199 {d : Nat} {l0 l1 l2 l3 : Option mw_V} {x z : Int} {a : Nat} {st : List mw_V} {σ : mw_S} {Q : Option mw_V → mw_S → Prop} : mw_WP d 193 199 [l0, l1, l2, l3] (jI x :: jI z :: jR a :: st) σ Q ↔ ((0 ≤ z ∧ z < mw_lenW 0 a) ∧ mw_WP d 193 200 [l0, l1, l2, l3] st (upS σ a z.toNat x) Q) := WP_iastore mq193 dd193_199
theorem dd193_200 : decode cX12_readRule 200 = .ok (.return_, 1) := by decide +kernel
theorem ww193_200 {d : Nat} {l0 l1 l2 l3 : Option mw_V} {σ : mw_S} {Q : Option mw_V → mw_S → Prop} : mw_WP d 193 200 [l0, l1, l2, l3] [] σ Q ↔ Q none σ := WP_return mq193 dd193_200 rfl
theorem ee194 {d : Nat} {a : Nat} {z0 : Int} {σ : mw_S} {Q : Option mw_V → mw_S → Prop} : mw_Call (d + 1) 194 [jR a, jI z0] σ Q ↔ mw_WP d 194 0 [some (jR a), some (jI z0), none] [] σ Q := CL_u mq194 (Nat.le_of_ble_eq_true rfl) rfl
theorem dd194_0 : decode cX12_arcade 0 = .ok (.aload_n 0, 1) := by decide +kernel
theorem ww194_0 {d : Nat} {l1 l2 : Option mw_V} {x : Nat} {st : List mw_V} {σ : mw_S} {Q : Option mw_V → mw_S → Prop} : mw_WP d 194 0 [some (jR x), l1, l2] st σ Q ↔ mw_WP d 194 1 [some (jR x), l1, l2] (jR x :: st) σ Q := WP_aload_n mq194 dd194_0 rfl
theorem dd194_1 : decode cX12_arcade 1 = .ok (.iconst 0, 1) := by decide +kernel
theorem ww194_1 {d : Nat} {l0 l1 l2 : Option mw_V} {st : List mw_V} {σ : mw_S} {Q : Option mw_V → mw_S → Prop} : mw_WP d 194 1 [l0, l1, l2] st σ Q ↔ mw_WP d 194 2 [l0, l1, l2] (jI (0) :: st) σ Q := WP_iconst mq194 dd194_1 (by decide)
theorem dd194_2 : decode cX12_arcade 2 = .ok (.putfield 1, 3) := by decide +kernel
theorem ww194_2 {d : Nat} {l0 l1 l2 : Option mw_V} {v : Int} {st : List mw_V} {σ : mw_S} {Q : Option mw_V → mw_S → Prop} : mw_WP d 194 2 [l0, l1, l2] (jI v :: jR 100 :: st) σ Q ↔ mw_WP d 194 5 [l0, l1, l2] st (upS σ 100 0 v) Q := WP_putI (ci := 11) (k := 0) mq194 dd194_2 (by decide) rfl
theorem dd194_5 : decode cX12_arcade 5 = .ok (.iload_n 1, 1) := by decide +kernel
theorem ww194_5 {d : Nat} {l0 l2 : Option mw_V} {x : Int} {st : List mw_V} {σ : mw_S} {Q : Option mw_V → mw_S → Prop} : mw_WP d 194 5 [l0, some (jI x), l2] st σ Q ↔ mw_WP d 194 6 [l0, some (jI x), l2] (jI x :: st) σ Q := WP_iload_n mq194 dd194_5 rfl
theorem dd194_6 : decode cX12_arcade 6 = .ok (.i2l, 1) := by decide +kernel
theorem ww194_6 {d : Nat} {l0 l1 l2 : Option mw_V} {x : Int} {st : List mw_V} {σ : mw_S} {Q : Option mw_V → mw_S → Prop} : mw_WP d 194 6 [l0, l1, l2] (jI x :: st) σ Q ↔ mw_WP d 194 7 [l0, l1, l2] (jL (yL x) :: st) σ Q := WP_i2l mq194 dd194_6
theorem dd194_7 : decode cX12_arcade 7 = .ok (.lconst 0, 1) := by decide +kernel
theorem ww194_7 {d : Nat} {l0 l1 l2 : Option mw_V} {st : List mw_V} {σ : mw_S} {Q : Option mw_V → mw_S → Prop} : mw_WP d 194 7 [l0, l1, l2] st σ Q ↔ mw_WP d 194 8 [l0, l1, l2] (jL (0) :: st) σ Q := WP_lconst mq194 dd194_7 (by decide)
theorem dd194_8 : decode cX12_arcade 8 = .ok (.aload_n 0, 1) := by decide +kernel
theorem ww194_8 {d : Nat} {l1 l2 : Option mw_V} {x : Nat} {st : List mw_V} {σ : mw_S} {Q : Option mw_V → mw_S → Prop} : mw_WP d 194 8 [some (jR x), l1, l2] st σ Q ↔ mw_WP d 194 9 [some (jR x), l1, l2] (jR x :: st) σ Q := WP_aload_n mq194 dd194_8 rfl
theorem dd194_9 : decode cX12_arcade 9 = .ok (.getfield 97, 3) := by decide +kernel
theorem ww194_9 {d : Nat} {l0 l1 l2 : Option mw_V} {st : List mw_V} {σ : mw_S} {Q : Option mw_V → mw_S → Prop} : mw_WP d 194 9 [l0, l1, l2] (jR 100 :: st) σ Q ↔ mw_WP d 194 12 [l0, l1, l2] (jI (σ 100 5) :: st) σ Q := WP_getI (ci := 11) (k := 5) mq194 dd194_9 (by decide) (Or.inl rfl)
theorem dd194_12 : decode cX12_arcade 12 = .ok (.i2l, 1) := by decide +kernel
theorem ww194_12 {d : Nat} {l0 l1 l2 : Option mw_V} {x : Int} {st : List mw_V} {σ : mw_S} {Q : Option mw_V → mw_S → Prop} : mw_WP d 194 12 [l0, l1, l2] (jI x :: st) σ Q ↔ mw_WP d 194 13 [l0, l1, l2] (jL (yL x) :: st) σ Q := WP_i2l mq194 dd194_12
theorem dd194_13 : decode cX12_arcade 13 = .ok (.invokestatic 159, 3) := by decide +kernel
theorem ww194_13 {d : Nat} {l0 l1 l2 : Option mw_V} {v0 v1 v2 : mw_V} {st : List mw_V} {σ : mw_S} {Q : Option mw_V → mw_S → Prop} (h8 : (st.map mw_cat).sum ≤ 8) : mw_WP d 194 13 [l0, l1, l2] (v2 :: v1 :: v0 :: st) σ Q ↔ mw_Call d 170 [v0, v1, v2] σ (fun r1 s1 => mw_WP d 194 16 [l0, l1, l2] (r1.toList ++ st) s1 Q) := WP_invs (as := [v2, v1, v0]) mq194 dd194_13 (by decide) mq170 rfl rfl h8
theorem dd194_16 : decode cX12_arcade 16 = .ok (.ifCond .ne 6, 3) := by decide +kernel
theorem ww194_16 {d : Nat} {l0 l1 l2 : Option mw_V} {x : Int} {st : List mw_V} {σ : mw_S} {Q : Option mw_V → mw_S → Prop} : mw_WP d 194 16 [l0, l1, l2] (jI x :: st) σ Q ↔ (if ¬ x = 0 then mw_WP d 194 22 [l0, l1, l2] st σ Q else mw_WP d 194 19 [l0, l1, l2] st σ Q) := WP_if_ne mq194 dd194_16 (by decide)
theorem dd194_19 : decode cX12_arcade 19 = .ok (.bipush (-3), 2) := by decide +kernel
theorem ww194_19 {d : Nat} {l0 l1 l2 : Option mw_V} {st : List mw_V} {σ : mw_S} {Q : Option mw_V → mw_S → Prop} : mw_WP d 194 19 [l0, l1, l2] st σ Q ↔ mw_WP d 194 21 [l0, l1, l2] (jI (-3) :: st) σ Q := WP_bipush mq194 dd194_19 (by decide)
theorem dd194_21 : decode cX12_arcade 21 = .ok (.ireturn, 1) := by decide +kernel
theorem ww194_21 {d : Nat} {l0 l1 l2 : Option mw_V} {z : Int} {σ : mw_S} {Q : Option mw_V → mw_S → Prop} : mw_WP d 194 21 [l0, l1, l2] [jI z] σ Q ↔ Q (some (jI z)) σ := WP_ireturn (ty := .int) mq194 dd194_21 rfl rfl
theorem dd194_22 : decode cX12_arcade 22 = .ok (.aload_n 0, 1) := by decide +kernel
theorem ww194_22 {d : Nat} {l1 l2 : Option mw_V} {x : Nat} {st : List mw_V} {σ : mw_S} {Q : Option mw_V → mw_S → Prop} : mw_WP d 194 22 [some (jR x), l1, l2] st σ Q ↔ mw_WP d 194 23 [some (jR x), l1, l2] (jR x :: st) σ Q := WP_aload_n mq194 dd194_22 rfl
theorem dd194_23 : decode cX12_arcade 23 = .ok (.iload_n 1, 1) := by decide +kernel
theorem ww194_23 {d : Nat} {l0 l2 : Option mw_V} {x : Int} {st : List mw_V} {σ : mw_S} {Q : Option mw_V → mw_S → Prop} : mw_WP d 194 23 [l0, some (jI x), l2] st σ Q ↔ mw_WP d 194 24 [l0, some (jI x), l2] (jI x :: st) σ Q := WP_iload_n mq194 dd194_23 rfl
theorem dd194_24 : decode cX12_arcade 24 = .ok (.putfield 100, 3) := by decide +kernel
theorem ww194_24 {d : Nat} {l0 l1 l2 : Option mw_V} {v : Int} {st : List mw_V} {σ : mw_S} {Q : Option mw_V → mw_S → Prop} : mw_WP d 194 24 [l0, l1, l2] (jI v :: jR 100 :: st) σ Q ↔ mw_WP d 194 27 [l0, l1, l2] st (upS σ 100 8 v) Q := WP_putI (ci := 11) (k := 8) mq194 dd194_24 (by decide) rfl
theorem dd194_27 : decode cX12_arcade 27 = .ok (.aload_n 0, 1) := by decide +kernel
theorem ww194_27 {d : Nat} {l1 l2 : Option mw_V} {x : Nat} {st : List mw_V} {σ : mw_S} {Q : Option mw_V → mw_S → Prop} : mw_WP d 194 27 [some (jR x), l1, l2] st σ Q ↔ mw_WP d 194 28 [some (jR x), l1, l2] (jR x :: st) σ Q := WP_aload_n mq194 dd194_27 rfl
theorem dd194_28 : decode cX12_arcade 28 = .ok (.iconst 0, 1) := by decide +kernel
theorem ww194_28 {d : Nat} {l0 l1 l2 : Option mw_V} {st : List mw_V} {σ : mw_S} {Q : Option mw_V → mw_S → Prop} : mw_WP d 194 28 [l0, l1, l2] st σ Q ↔ mw_WP d 194 29 [l0, l1, l2] (jI (0) :: st) σ Q := WP_iconst mq194 dd194_28 (by decide)
theorem dd194_29 : decode cX12_arcade 29 = .ok (.putfield 97, 3) := by decide +kernel
theorem ww194_29 {d : Nat} {l0 l1 l2 : Option mw_V} {v : Int} {st : List mw_V} {σ : mw_S} {Q : Option mw_V → mw_S → Prop} : mw_WP d 194 29 [l0, l1, l2] (jI v :: jR 100 :: st) σ Q ↔ mw_WP d 194 32 [l0, l1, l2] st (upS σ 100 5 v) Q := WP_putI (ci := 11) (k := 5) mq194 dd194_29 (by decide) rfl
theorem dd194_32 : decode cX12_arcade 32 = .ok (.aload_n 0, 1) := by decide +kernel
theorem ww194_32 {d : Nat} {l1 l2 : Option mw_V} {x : Nat} {st : List mw_V} {σ : mw_S} {Q : Option mw_V → mw_S → Prop} : mw_WP d 194 32 [some (jR x), l1, l2] st σ Q ↔ mw_WP d 194 33 [some (jR x), l1, l2] (jR x :: st) σ Q := WP_aload_n mq194 dd194_32 rfl
theorem dd194_33 : decode cX12_arcade 33 = .ok (.iconst 0, 1) := by decide +kernel
theorem ww194_33 {d : Nat} {l0 l1 l2 : Option mw_V} {st : List mw_V} {σ : mw_S} {Q : Option mw_V → mw_S → Prop} : mw_WP d 194 33 [l0, l1, l2] st σ Q ↔ mw_WP d 194 34 [l0, l1, l2] (jI (0) :: st) σ Q := WP_iconst mq194 dd194_33 (by decide)
theorem dd194_34 : decode cX12_arcade 34 = .ok (.putfield 118, 3) := by decide +kernel
theorem ww194_34 {d : Nat} {l0 l1 l2 : Option mw_V} {v : Int} {st : List mw_V} {σ : mw_S} {Q : Option mw_V → mw_S → Prop} : mw_WP d 194 34 [l0, l1, l2] (jI v :: jR 100 :: st) σ Q ↔ mw_WP d 194 37 [l0, l1, l2] st (upS σ 100 7 v) Q := WP_putI (ci := 11) (k := 7) mq194 dd194_34 (by decide) rfl
theorem dd194_37 : decode cX12_arcade 37 = .ok (.aload_n 0, 1) := by decide +kernel
theorem ww194_37 {d : Nat} {l1 l2 : Option mw_V} {x : Nat} {st : List mw_V} {σ : mw_S} {Q : Option mw_V → mw_S → Prop} : mw_WP d 194 37 [some (jR x), l1, l2] st σ Q ↔ mw_WP d 194 38 [some (jR x), l1, l2] (jR x :: st) σ Q := WP_aload_n mq194 dd194_37 rfl
theorem dd194_38 : decode cX12_arcade 38 = .ok (.iconst 0, 1) := by decide +kernel
theorem ww194_38 {d : Nat} {l0 l1 l2 : Option mw_V} {st : List mw_V} {σ : mw_S} {Q : Option mw_V → mw_S → Prop} : mw_WP d 194 38 [l0, l1, l2] st σ Q ↔ mw_WP d 194 39 [l0, l1, l2] (jI (0) :: st) σ Q := WP_iconst mq194 dd194_38 (by decide)
theorem dd194_39 : decode cX12_arcade 39 = .ok (.putfield 143, 3) := by decide +kernel
theorem ww194_39 {d : Nat} {l0 l1 l2 : Option mw_V} {v : Int} {st : List mw_V} {σ : mw_S} {Q : Option mw_V → mw_S → Prop} : mw_WP d 194 39 [l0, l1, l2] (jI v :: jR 100 :: st) σ Q ↔ mw_WP d 194 42 [l0, l1, l2] st (upS σ 100 11 v) Q := WP_putI (ci := 11) (k := 11) mq194 dd194_39 (by decide) rfl
theorem dd194_42 : decode cX12_arcade 42 = .ok (.aload_n 0, 1) := by decide +kernel
theorem ww194_42 {d : Nat} {l1 l2 : Option mw_V} {x : Nat} {st : List mw_V} {σ : mw_S} {Q : Option mw_V → mw_S → Prop} : mw_WP d 194 42 [some (jR x), l1, l2] st σ Q ↔ mw_WP d 194 43 [some (jR x), l1, l2] (jR x :: st) σ Q := WP_aload_n mq194 dd194_42 rfl
theorem dd194_43 : decode cX12_arcade 43 = .ok (.iconst 0, 1) := by decide +kernel
theorem ww194_43 {d : Nat} {l0 l1 l2 : Option mw_V} {st : List mw_V} {σ : mw_S} {Q : Option mw_V → mw_S → Prop} : mw_WP d 194 43 [l0, l1, l2] st σ Q ↔ mw_WP d 194 44 [l0, l1, l2] (jI (0) :: st) σ Q := WP_iconst mq194 dd194_43 (by decide)
theorem dd194_44 : decode cX12_arcade 44 = .ok (.putfield 170, 3) := by decide +kernel
theorem ww194_44 {d : Nat} {l0 l1 l2 : Option mw_V} {v : Int} {st : List mw_V} {σ : mw_S} {Q : Option mw_V → mw_S → Prop} : mw_WP d 194 44 [l0, l1, l2] (jI v :: jR 100 :: st) σ Q ↔ ((v = 0 ∨ v = 1) ∧ mw_WP d 194 47 [l0, l1, l2] st (upS σ 100 15 v) Q) := WP_putZ (ci := 11) (k := 15) mq194 dd194_44 (by decide) rfl
theorem dd194_47 : decode cX12_arcade 47 = .ok (.aload_n 0, 1) := by decide +kernel
theorem ww194_47 {d : Nat} {l1 l2 : Option mw_V} {x : Nat} {st : List mw_V} {σ : mw_S} {Q : Option mw_V → mw_S → Prop} : mw_WP d 194 47 [some (jR x), l1, l2] st σ Q ↔ mw_WP d 194 48 [some (jR x), l1, l2] (jR x :: st) σ Q := WP_aload_n mq194 dd194_47 rfl
theorem dd194_48 : decode cX12_arcade 48 = .ok (.getfield 24, 3) := by decide +kernel
theorem ww194_48 {d : Nat} {l0 l1 l2 : Option mw_V} {st : List mw_V} {σ : mw_S} {Q : Option mw_V → mw_S → Prop} : mw_WP d 194 48 [l0, l1, l2] (jR 100 :: st) σ Q ↔ mw_WP d 194 51 [l0, l1, l2] (jR 104 :: st) σ Q := WP_getR (ci := 11) (k := 4) mq194 dd194_48 (by decide) rfl
theorem dd194_51 : decode cX12_arcade 51 = .ok (.invokestatic 93, 3) := by decide +kernel
theorem ww194_51 {d : Nat} {l0 l1 l2 : Option mw_V} {v0 : mw_V} {st : List mw_V} {σ : mw_S} {Q : Option mw_V → mw_S → Prop} (h8 : (st.map mw_cat).sum ≤ 8) : mw_WP d 194 51 [l0, l1, l2] (v0 :: st) σ Q ↔ mw_Call d 171 [v0] σ (fun r1 s1 => mw_WP d 194 54 [l0, l1, l2] (r1.toList ++ st) s1 Q) := WP_invs (as := [v0]) mq194 dd194_51 (by decide) mq171 rfl rfl h8
theorem dd194_54 : decode cX12_arcade 54 = .ok (.aload_n 0, 1) := by decide +kernel
theorem ww194_54 {d : Nat} {l1 l2 : Option mw_V} {x : Nat} {st : List mw_V} {σ : mw_S} {Q : Option mw_V → mw_S → Prop} : mw_WP d 194 54 [some (jR x), l1, l2] st σ Q ↔ mw_WP d 194 55 [some (jR x), l1, l2] (jR x :: st) σ Q := WP_aload_n mq194 dd194_54 rfl
theorem dd194_55 : decode cX12_arcade 55 = .ok (.invokevirtual 152, 3) := by decide +kernel
theorem ww194_55 {d : Nat} {l0 l1 l2 : Option mw_V} {a : Nat} {st : List mw_V} {σ : mw_S} {Q : Option mw_V → mw_S → Prop} (hr : mw_rc a = 12) (h8 : (st.map mw_cat).sum ≤ 8) : mw_WP d 194 55 [l0, l1, l2] (jR a :: st) σ Q ↔ mw_Call d 177 [jR a] σ (fun r1 s1 => mw_WP d 194 58 [l0, l1, l2] (r1.toList ++ st) s1 Q) := WP_inv (as := []) mq194 dd194_55 (by decide) mq177 rfl hr h8
theorem dd194_58 : decode cX12_arcade 58 = .ok (.aload_n 0, 1) := by decide +kernel
theorem ww194_58 {d : Nat} {l1 l2 : Option mw_V} {x : Nat} {st : List mw_V} {σ : mw_S} {Q : Option mw_V → mw_S → Prop} : mw_WP d 194 58 [some (jR x), l1, l2] st σ Q ↔ mw_WP d 194 59 [some (jR x), l1, l2] (jR x :: st) σ Q := WP_aload_n mq194 dd194_58 rfl
theorem dd194_59 : decode cX12_arcade 59 = .ok (.getfield 143, 3) := by decide +kernel
theorem ww194_59 {d : Nat} {l0 l1 l2 : Option mw_V} {st : List mw_V} {σ : mw_S} {Q : Option mw_V → mw_S → Prop} : mw_WP d 194 59 [l0, l1, l2] (jR 100 :: st) σ Q ↔ mw_WP d 194 62 [l0, l1, l2] (jI (σ 100 11) :: st) σ Q := WP_getI (ci := 11) (k := 11) mq194 dd194_59 (by decide) (Or.inl rfl)
theorem dd194_62 : decode cX12_arcade 62 = .ok (.ifCond .ne 153, 3) := by decide +kernel
theorem ww194_62 {d : Nat} {l0 l1 l2 : Option mw_V} {x : Int} {st : List mw_V} {σ : mw_S} {Q : Option mw_V → mw_S → Prop} : mw_WP d 194 62 [l0, l1, l2] (jI x :: st) σ Q ↔ (if ¬ x = 0 then mw_WP d 194 215 [l0, l1, l2] st σ Q else mw_WP d 194 65 [l0, l1, l2] st σ Q) := WP_if_ne mq194 dd194_62 (by decide)
theorem dd194_65 : decode cX12_arcade 65 = .ok (.aload_n 0, 1) := by decide +kernel
theorem ww194_65 {d : Nat} {l1 l2 : Option mw_V} {x : Nat} {st : List mw_V} {σ : mw_S} {Q : Option mw_V → mw_S → Prop} : mw_WP d 194 65 [some (jR x), l1, l2] st σ Q ↔ mw_WP d 194 66 [some (jR x), l1, l2] (jR x :: st) σ Q := WP_aload_n mq194 dd194_65 rfl
theorem dd194_66 : decode cX12_arcade 66 = .ok (.getfield 125, 3) := by decide +kernel
theorem ww194_66 {d : Nat} {l0 l1 l2 : Option mw_V} {st : List mw_V} {σ : mw_S} {Q : Option mw_V → mw_S → Prop} : mw_WP d 194 66 [l0, l1, l2] (jR 100 :: st) σ Q ↔ mw_WP d 194 69 [l0, l1, l2] (jI (σ 100 9) :: st) σ Q := WP_getI (ci := 11) (k := 9) mq194 dd194_66 (by decide) (Or.inl rfl)
theorem dd194_69 : decode cX12_arcade 69 = .ok (.bipush 27, 2) := by decide +kernel
theorem ww194_69 {d : Nat} {l0 l1 l2 : Option mw_V} {st : List mw_V} {σ : mw_S} {Q : Option mw_V → mw_S → Prop} : mw_WP d 194 69 [l0, l1, l2] st σ Q ↔ mw_WP d 194 71 [l0, l1, l2] (jI (27) :: st) σ Q := WP_bipush mq194 dd194_69 (by decide)
theorem dd194_71 : decode cX12_arcade 71 = .ok (.if_icmp .eq 144, 3) := by decide +kernel
theorem ww194_71 {d : Nat} {l0 l1 l2 : Option mw_V} {x y : Int} {st : List mw_V} {σ : mw_S} {Q : Option mw_V → mw_S → Prop} : mw_WP d 194 71 [l0, l1, l2] (jI y :: jI x :: st) σ Q ↔ (if x = y then mw_WP d 194 215 [l0, l1, l2] st σ Q else mw_WP d 194 74 [l0, l1, l2] st σ Q) := WP_icmp_eq mq194 dd194_71 (by decide)
theorem dd194_74 : decode cX12_arcade 74 = .ok (.aload_n 0, 1) := by decide +kernel
theorem ww194_74 {d : Nat} {l1 l2 : Option mw_V} {x : Nat} {st : List mw_V} {σ : mw_S} {Q : Option mw_V → mw_S → Prop} : mw_WP d 194 74 [some (jR x), l1, l2] st σ Q ↔ mw_WP d 194 75 [some (jR x), l1, l2] (jR x :: st) σ Q := WP_aload_n mq194 dd194_74 rfl
theorem dd194_75 : decode cX12_arcade 75 = .ok (.bipush 9, 2) := by decide +kernel
theorem ww194_75 {d : Nat} {l0 l1 l2 : Option mw_V} {st : List mw_V} {σ : mw_S} {Q : Option mw_V → mw_S → Prop} : mw_WP d 194 75 [l0, l1, l2] st σ Q ↔ mw_WP d 194 77 [l0, l1, l2] (jI (9) :: st) σ Q := WP_bipush mq194 dd194_75 (by decide)
theorem dd194_77 : decode cX12_arcade 77 = .ok (.invokevirtual 149, 3) := by decide +kernel
theorem ww194_77 {d : Nat} {l0 l1 l2 : Option mw_V} {v0 : mw_V} {a : Nat} {st : List mw_V} {σ : mw_S} {Q : Option mw_V → mw_S → Prop} (hr : mw_rc a = 12) (h8 : (st.map mw_cat).sum ≤ 8) : mw_WP d 194 77 [l0, l1, l2] (v0 :: jR a :: st) σ Q ↔ mw_Call d 179 [jR a, v0] σ (fun r1 s1 => mw_WP d 194 80 [l0, l1, l2] (r1.toList ++ st) s1 Q) := WP_inv (as := [v0]) mq194 dd194_77 (by decide) mq179 rfl hr h8
theorem dd194_80 : decode cX12_arcade 80 = .ok (.ifCond .eq 30, 3) := by decide +kernel
theorem ww194_80 {d : Nat} {l0 l1 l2 : Option mw_V} {x : Int} {st : List mw_V} {σ : mw_S} {Q : Option mw_V → mw_S → Prop} : mw_WP d 194 80 [l0, l1, l2] (jI x :: st) σ Q ↔ (if x = 0 then mw_WP d 194 110 [l0, l1, l2] st σ Q else mw_WP d 194 83 [l0, l1, l2] st σ Q) := WP_if_eq mq194 dd194_80 (by decide)
theorem dd194_83 : decode cX12_arcade 83 = .ok (.aload_n 0, 1) := by decide +kernel
theorem ww194_83 {d : Nat} {l1 l2 : Option mw_V} {x : Nat} {st : List mw_V} {σ : mw_S} {Q : Option mw_V → mw_S → Prop} : mw_WP d 194 83 [some (jR x), l1, l2] st σ Q ↔ mw_WP d 194 84 [some (jR x), l1, l2] (jR x :: st) σ Q := WP_aload_n mq194 dd194_83 rfl
theorem dd194_84 : decode cX12_arcade 84 = .ok (.getfield 170, 3) := by decide +kernel
theorem ww194_84 {d : Nat} {l0 l1 l2 : Option mw_V} {st : List mw_V} {σ : mw_S} {Q : Option mw_V → mw_S → Prop} : mw_WP d 194 84 [l0, l1, l2] (jR 100 :: st) σ Q ↔ mw_WP d 194 87 [l0, l1, l2] (jI (σ 100 15) :: st) σ Q := WP_getI (ci := 11) (k := 15) mq194 dd194_84 (by decide) (Or.inr rfl)
theorem dd194_87 : decode cX12_arcade 87 = .ok (.ifCond .ne 23, 3) := by decide +kernel
theorem ww194_87 {d : Nat} {l0 l1 l2 : Option mw_V} {x : Int} {st : List mw_V} {σ : mw_S} {Q : Option mw_V → mw_S → Prop} : mw_WP d 194 87 [l0, l1, l2] (jI x :: st) σ Q ↔ (if ¬ x = 0 then mw_WP d 194 110 [l0, l1, l2] st σ Q else mw_WP d 194 90 [l0, l1, l2] st σ Q) := WP_if_ne mq194 dd194_87 (by decide)
theorem dd194_90 : decode cX12_arcade 90 = .ok (.aload_n 0, 1) := by decide +kernel
theorem ww194_90 {d : Nat} {l1 l2 : Option mw_V} {x : Nat} {st : List mw_V} {σ : mw_S} {Q : Option mw_V → mw_S → Prop} : mw_WP d 194 90 [some (jR x), l1, l2] st σ Q ↔ mw_WP d 194 91 [some (jR x), l1, l2] (jR x :: st) σ Q := WP_aload_n mq194 dd194_90 rfl
theorem dd194_91 : decode cX12_arcade 91 = .ok (.invokevirtual 152, 3) := by decide +kernel
theorem ww194_91 {d : Nat} {l0 l1 l2 : Option mw_V} {a : Nat} {st : List mw_V} {σ : mw_S} {Q : Option mw_V → mw_S → Prop} (hr : mw_rc a = 12) (h8 : (st.map mw_cat).sum ≤ 8) : mw_WP d 194 91 [l0, l1, l2] (jR a :: st) σ Q ↔ mw_Call d 177 [jR a] σ (fun r1 s1 => mw_WP d 194 94 [l0, l1, l2] (r1.toList ++ st) s1 Q) := WP_inv (as := []) mq194 dd194_91 (by decide) mq177 rfl hr h8
theorem dd194_94 : decode cX12_arcade 94 = .ok (.aload_n 0, 1) := by decide +kernel
theorem ww194_94 {d : Nat} {l1 l2 : Option mw_V} {x : Nat} {st : List mw_V} {σ : mw_S} {Q : Option mw_V → mw_S → Prop} : mw_WP d 194 94 [some (jR x), l1, l2] st σ Q ↔ mw_WP d 194 95 [some (jR x), l1, l2] (jR x :: st) σ Q := WP_aload_n mq194 dd194_94 rfl
theorem dd194_95 : decode cX12_arcade 95 = .ok (.getfield 24, 3) := by decide +kernel
theorem ww194_95 {d : Nat} {l0 l1 l2 : Option mw_V} {st : List mw_V} {σ : mw_S} {Q : Option mw_V → mw_S → Prop} : mw_WP d 194 95 [l0, l1, l2] (jR 100 :: st) σ Q ↔ mw_WP d 194 98 [l0, l1, l2] (jR 104 :: st) σ Q := WP_getR (ci := 11) (k := 4) mq194 dd194_95 (by decide) rfl
theorem dd194_98 : decode cX12_arcade 98 = .ok (.iconst 1, 1) := by decide +kernel
theorem ww194_98 {d : Nat} {l0 l1 l2 : Option mw_V} {st : List mw_V} {σ : mw_S} {Q : Option mw_V → mw_S → Prop} : mw_WP d 194 98 [l0, l1, l2] st σ Q ↔ mw_WP d 194 99 [l0, l1, l2] (jI (1) :: st) σ Q := WP_iconst mq194 dd194_98 (by decide)
theorem dd194_99 : decode cX12_arcade 99 = .ok (.aload_n 0, 1) := by decide +kernel
theorem ww194_99 {d : Nat} {l1 l2 : Option mw_V} {x : Nat} {st : List mw_V} {σ : mw_S} {Q : Option mw_V → mw_S → Prop} : mw_WP d 194 99 [some (jR x), l1, l2] st σ Q ↔ mw_WP d 194 100 [some (jR x), l1, l2] (jR x :: st) σ Q := WP_aload_n mq194 dd194_99 rfl
theorem dd194_100 : decode cX12_arcade 100 = .ok (.iconst 2, 1) := by decide +kernel
theorem ww194_100 {d : Nat} {l0 l1 l2 : Option mw_V} {st : List mw_V} {σ : mw_S} {Q : Option mw_V → mw_S → Prop} : mw_WP d 194 100 [l0, l1, l2] st σ Q ↔ mw_WP d 194 101 [l0, l1, l2] (jI (2) :: st) σ Q := WP_iconst mq194 dd194_100 (by decide)
theorem dd194_101 : decode cX12_arcade 101 = .ok (.bipush 9, 2) := by decide +kernel
theorem ww194_101 {d : Nat} {l0 l1 l2 : Option mw_V} {st : List mw_V} {σ : mw_S} {Q : Option mw_V → mw_S → Prop} : mw_WP d 194 101 [l0, l1, l2] st σ Q ↔ mw_WP d 194 103 [l0, l1, l2] (jI (9) :: st) σ Q := WP_bipush mq194 dd194_101 (by decide)
theorem dd194_103 : decode cX12_arcade 103 = .ok (.invokevirtual 163, 3) := by decide +kernel
theorem ww194_103 {d : Nat} {l0 l1 l2 : Option mw_V} {v0 v1 : mw_V} {a : Nat} {st : List mw_V} {σ : mw_S} {Q : Option mw_V → mw_S → Prop} (hr : mw_rc a = 12) (h8 : (st.map mw_cat).sum ≤ 8) : mw_WP d 194 103 [l0, l1, l2] (v1 :: v0 :: jR a :: st) σ Q ↔ mw_Call d 181 [jR a, v0, v1] σ (fun r1 s1 => mw_WP d 194 106 [l0, l1, l2] (r1.toList ++ st) s1 Q) := WP_inv (as := [v1, v0]) mq194 dd194_103 (by decide) mq181 rfl hr h8
theorem dd194_106 : decode cX12_arcade 106 = .ok (.iastore, 1) := by decide +kernel
theorem ww194_106 {d : Nat} {l0 l1 l2 : Option mw_V} {x z : Int} {a : Nat} {st : List mw_V} {σ : mw_S} {Q : Option mw_V → mw_S → Prop} : mw_WP d 194 106 [l0, l1, l2] (jI x :: jI z :: jR a :: st) σ Q ↔ ((0 ≤ z ∧ z < mw_lenW 0 a) ∧ mw_WP d 194 107 [l0, l1, l2] st (upS σ a z.toNat x) Q) := WP_iastore mq194 dd194_106
theorem dd194_107 : decode cX12_arcade 107 = .ok (.goto 81, 3) := by decide +kernel
theorem ww194_107 {d : Nat} {l0 l1 l2 : Option mw_V} {st : List mw_V} {σ : mw_S} {Q : Option mw_V → mw_S → Prop} : mw_WP d 194 107 [l0, l1, l2] st σ Q ↔ mw_WP d 194 188 [l0, l1, l2] st σ Q := WP_goto mq194 dd194_107 (by decide)
theorem dd194_110 : decode cX12_arcade 110 = .ok (.aload_n 0, 1) := by decide +kernel
theorem ww194_110 {d : Nat} {l1 l2 : Option mw_V} {x : Nat} {st : List mw_V} {σ : mw_S} {Q : Option mw_V → mw_S → Prop} : mw_WP d 194 110 [some (jR x), l1, l2] st σ Q ↔ mw_WP d 194 111 [some (jR x), l1, l2] (jR x :: st) σ Q := WP_aload_n mq194 dd194_110 rfl
theorem dd194_111 : decode cX12_arcade 111 = .ok (.bipush 10, 2) := by decide +kernel
theorem ww194_111 {d : Nat} {l0 l1 l2 : Option mw_V} {st : List mw_V} {σ : mw_S} {Q : Option mw_V → mw_S → Prop} : mw_WP d 194 111 [l0, l1, l2] st σ Q ↔ mw_WP d 194 113 [l0, l1, l2] (jI (10) :: st) σ Q := WP_bipush mq194 dd194_111 (by decide)
theorem dd194_113 : decode cX12_arcade 113 = .ok (.invokevirtual 149, 3) := by decide +kernel
theorem ww194_113 {d : Nat} {l0 l1 l2 : Option mw_V} {v0 : mw_V} {a : Nat} {st : List mw_V} {σ : mw_S} {Q : Option mw_V → mw_S → Prop} (hr : mw_rc a = 12) (h8 : (st.map mw_cat).sum ≤ 8) : mw_WP d 194 113 [l0, l1, l2] (v0 :: jR a :: st) σ Q ↔ mw_Call d 179 [jR a, v0] σ (fun r1 s1 => mw_WP d 194 116 [l0, l1, l2] (r1.toList ++ st) s1 Q) := WP_inv (as := [v0]) mq194 dd194_113 (by decide) mq179 rfl hr h8
theorem dd194_116 : decode cX12_arcade 116 = .ok (.ifCond .eq 10, 3) := by decide +kernel
theorem ww194_116 {d : Nat} {l0 l1 l2 : Option mw_V} {x : Int} {st : List mw_V} {σ : mw_S} {Q : Option mw_V → mw_S → Prop} : mw_WP d 194 116 [l0, l1, l2] (jI x :: st) σ Q ↔ (if x = 0 then mw_WP d 194 126 [l0, l1, l2] st σ Q else mw_WP d 194 119 [l0, l1, l2] st σ Q) := WP_if_eq mq194 dd194_116 (by decide)
theorem dd194_119 : decode cX12_arcade 119 = .ok (.aload_n 0, 1) := by decide +kernel
theorem ww194_119 {d : Nat} {l1 l2 : Option mw_V} {x : Nat} {st : List mw_V} {σ : mw_S} {Q : Option mw_V → mw_S → Prop} : mw_WP d 194 119 [some (jR x), l1, l2] st σ Q ↔ mw_WP d 194 120 [some (jR x), l1, l2] (jR x :: st) σ Q := WP_aload_n mq194 dd194_119 rfl
theorem dd194_120 : decode cX12_arcade 120 = .ok (.invokevirtual 204, 3) := by decide +kernel
theorem ww194_120 {d : Nat} {l0 l1 l2 : Option mw_V} {a : Nat} {st : List mw_V} {σ : mw_S} {Q : Option mw_V → mw_S → Prop} (hr : mw_rc a = 12) (h8 : (st.map mw_cat).sum ≤ 8) : mw_WP d 194 120 [l0, l1, l2] (jR a :: st) σ Q ↔ mw_Call d 183 [jR a] σ (fun r1 s1 => mw_WP d 194 123 [l0, l1, l2] (r1.toList ++ st) s1 Q) := WP_inv (as := []) mq194 dd194_120 (by decide) mq183 rfl hr h8
theorem dd194_123 : decode cX12_arcade 123 = .ok (.goto 65, 3) := by decide +kernel
theorem ww194_123 {d : Nat} {l0 l1 l2 : Option mw_V} {st : List mw_V} {σ : mw_S} {Q : Option mw_V → mw_S → Prop} : mw_WP d 194 123 [l0, l1, l2] st σ Q ↔ mw_WP d 194 188 [l0, l1, l2] st σ Q := WP_goto mq194 dd194_123 (by decide)
theorem dd194_126 : decode cX12_arcade 126 = .ok (.aload_n 0, 1) := by decide +kernel
theorem ww194_126 {d : Nat} {l1 l2 : Option mw_V} {x : Nat} {st : List mw_V} {σ : mw_S} {Q : Option mw_V → mw_S → Prop} : mw_WP d 194 126 [some (jR x), l1, l2] st σ Q ↔ mw_WP d 194 127 [some (jR x), l1, l2] (jR x :: st) σ Q := WP_aload_n mq194 dd194_126 rfl
theorem dd194_127 : decode cX12_arcade 127 = .ok (.bipush 12, 2) := by decide +kernel
theorem ww194_127 {d : Nat} {l0 l1 l2 : Option mw_V} {st : List mw_V} {σ : mw_S} {Q : Option mw_V → mw_S → Prop} : mw_WP d 194 127 [l0, l1, l2] st σ Q ↔ mw_WP d 194 129 [l0, l1, l2] (jI (12) :: st) σ Q := WP_bipush mq194 dd194_127 (by decide)
theorem dd194_129 : decode cX12_arcade 129 = .ok (.invokevirtual 149, 3) := by decide +kernel
theorem ww194_129 {d : Nat} {l0 l1 l2 : Option mw_V} {v0 : mw_V} {a : Nat} {st : List mw_V} {σ : mw_S} {Q : Option mw_V → mw_S → Prop} (hr : mw_rc a = 12) (h8 : (st.map mw_cat).sum ≤ 8) : mw_WP d 194 129 [l0, l1, l2] (v0 :: jR a :: st) σ Q ↔ mw_Call d 179 [jR a, v0] σ (fun r1 s1 => mw_WP d 194 132 [l0, l1, l2] (r1.toList ++ st) s1 Q) := WP_inv (as := [v0]) mq194 dd194_129 (by decide) mq179 rfl hr h8
theorem dd194_132 : decode cX12_arcade 132 = .ok (.ifCond .eq 10, 3) := by decide +kernel
theorem ww194_132 {d : Nat} {l0 l1 l2 : Option mw_V} {x : Int} {st : List mw_V} {σ : mw_S} {Q : Option mw_V → mw_S → Prop} : mw_WP d 194 132 [l0, l1, l2] (jI x :: st) σ Q ↔ (if x = 0 then mw_WP d 194 142 [l0, l1, l2] st σ Q else mw_WP d 194 135 [l0, l1, l2] st σ Q) := WP_if_eq mq194 dd194_132 (by decide)
theorem dd194_135 : decode cX12_arcade 135 = .ok (.aload_n 0, 1) := by decide +kernel
theorem ww194_135 {d : Nat} {l1 l2 : Option mw_V} {x : Nat} {st : List mw_V} {σ : mw_S} {Q : Option mw_V → mw_S → Prop} : mw_WP d 194 135 [some (jR x), l1, l2] st σ Q ↔ mw_WP d 194 136 [some (jR x), l1, l2] (jR x :: st) σ Q := WP_aload_n mq194 dd194_135 rfl
theorem dd194_136 : decode cX12_arcade 136 = .ok (.invokevirtual 207, 3) := by decide +kernel
theorem ww194_136 {d : Nat} {l0 l1 l2 : Option mw_V} {a : Nat} {st : List mw_V} {σ : mw_S} {Q : Option mw_V → mw_S → Prop} (hr : mw_rc a = 12) (h8 : (st.map mw_cat).sum ≤ 8) : mw_WP d 194 136 [l0, l1, l2] (jR a :: st) σ Q ↔ mw_Call d 184 [jR a] σ (fun r1 s1 => mw_WP d 194 139 [l0, l1, l2] (r1.toList ++ st) s1 Q) := WP_inv (as := []) mq194 dd194_136 (by decide) mq184 rfl hr h8
theorem dd194_139 : decode cX12_arcade 139 = .ok (.goto 49, 3) := by decide +kernel
theorem ww194_139 {d : Nat} {l0 l1 l2 : Option mw_V} {st : List mw_V} {σ : mw_S} {Q : Option mw_V → mw_S → Prop} : mw_WP d 194 139 [l0, l1, l2] st σ Q ↔ mw_WP d 194 188 [l0, l1, l2] st σ Q := WP_goto mq194 dd194_139 (by decide)
theorem dd194_142 : decode cX12_arcade 142 = .ok (.aload_n 0, 1) := by decide +kernel
theorem ww194_142 {d : Nat} {l1 l2 : Option mw_V} {x : Nat} {st : List mw_V} {σ : mw_S} {Q : Option mw_V → mw_S → Prop} : mw_WP d 194 142 [some (jR x), l1, l2] st σ Q ↔ mw_WP d 194 143 [some (jR x), l1, l2] (jR x :: st) σ Q := WP_aload_n mq194 dd194_142 rfl
theorem dd194_143 : decode cX12_arcade 143 = .ok (.bipush 14, 2) := by decide +kernel
theorem ww194_143 {d : Nat} {l0 l1 l2 : Option mw_V} {st : List mw_V} {σ : mw_S} {Q : Option mw_V → mw_S → Prop} : mw_WP d 194 143 [l0, l1, l2] st σ Q ↔ mw_WP d 194 145 [l0, l1, l2] (jI (14) :: st) σ Q := WP_bipush mq194 dd194_143 (by decide)
theorem dd194_145 : decode cX12_arcade 145 = .ok (.invokevirtual 149, 3) := by decide +kernel
theorem ww194_145 {d : Nat} {l0 l1 l2 : Option mw_V} {v0 : mw_V} {a : Nat} {st : List mw_V} {σ : mw_S} {Q : Option mw_V → mw_S → Prop} (hr : mw_rc a = 12) (h8 : (st.map mw_cat).sum ≤ 8) : mw_WP d 194 145 [l0, l1, l2] (v0 :: jR a :: st) σ Q ↔ mw_Call d 179 [jR a, v0] σ (fun r1 s1 => mw_WP d 194 148 [l0, l1, l2] (r1.toList ++ st) s1 Q) := WP_inv (as := [v0]) mq194 dd194_145 (by decide) mq179 rfl hr h8
theorem dd194_148 : decode cX12_arcade 148 = .ok (.ifCond .eq 10, 3) := by decide +kernel
theorem ww194_148 {d : Nat} {l0 l1 l2 : Option mw_V} {x : Int} {st : List mw_V} {σ : mw_S} {Q : Option mw_V → mw_S → Prop} : mw_WP d 194 148 [l0, l1, l2] (jI x :: st) σ Q ↔ (if x = 0 then mw_WP d 194 158 [l0, l1, l2] st σ Q else mw_WP d 194 151 [l0, l1, l2] st σ Q) := WP_if_eq mq194 dd194_148 (by decide)
theorem dd194_151 : decode cX12_arcade 151 = .ok (.aload_n 0, 1) := by decide +kernel
theorem ww194_151 {d : Nat} {l1 l2 : Option mw_V} {x : Nat} {st : List mw_V} {σ : mw_S} {Q : Option mw_V → mw_S → Prop} : mw_WP d 194 151 [some (jR x), l1, l2] st σ Q ↔ mw_WP d 194 152 [some (jR x), l1, l2] (jR x :: st) σ Q := WP_aload_n mq194 dd194_151 rfl
theorem dd194_152 : decode cX12_arcade 152 = .ok (.invokevirtual 210, 3) := by decide +kernel
theorem ww194_152 {d : Nat} {l0 l1 l2 : Option mw_V} {a : Nat} {st : List mw_V} {σ : mw_S} {Q : Option mw_V → mw_S → Prop} (hr : mw_rc a = 12) (h8 : (st.map mw_cat).sum ≤ 8) : mw_WP d 194 152 [l0, l1, l2] (jR a :: st) σ Q ↔ mw_Call d 193 [jR a] σ (fun r1 s1 => mw_WP d 194 155 [l0, l1, l2] (r1.toList ++ st) s1 Q) := WP_inv (as := []) mq194 dd194_152 (by decide) mq193 rfl hr h8
theorem dd194_155 : decode cX12_arcade 155 = .ok (.goto 33, 3) := by decide +kernel
theorem ww194_155 {d : Nat} {l0 l1 l2 : Option mw_V} {st : List mw_V} {σ : mw_S} {Q : Option mw_V → mw_S → Prop} : mw_WP d 194 155 [l0, l1, l2] st σ Q ↔ mw_WP d 194 188 [l0, l1, l2] st σ Q := WP_goto mq194 dd194_155 (by decide)
theorem dd194_158 : decode cX12_arcade 158 = .ok (.aload_n 0, 1) := by decide +kernel
theorem ww194_158 {d : Nat} {l1 l2 : Option mw_V} {x : Nat} {st : List mw_V} {σ : mw_S} {Q : Option mw_V → mw_S → Prop} : mw_WP d 194 158 [some (jR x), l1, l2] st σ Q ↔ mw_WP d 194 159 [some (jR x), l1, l2] (jR x :: st) σ Q := WP_aload_n mq194 dd194_158 rfl
theorem dd194_159 : decode cX12_arcade 159 = .ok (.bipush 16, 2) := by decide +kernel
theorem ww194_159 {d : Nat} {l0 l1 l2 : Option mw_V} {st : List mw_V} {σ : mw_S} {Q : Option mw_V → mw_S → Prop} : mw_WP d 194 159 [l0, l1, l2] st σ Q ↔ mw_WP d 194 161 [l0, l1, l2] (jI (16) :: st) σ Q := WP_bipush mq194 dd194_159 (by decide)
theorem dd194_161 : decode cX12_arcade 161 = .ok (.invokevirtual 167, 3) := by decide +kernel
theorem ww194_161 {d : Nat} {l0 l1 l2 : Option mw_V} {v0 : mw_V} {a : Nat} {st : List mw_V} {σ : mw_S} {Q : Option mw_V → mw_S → Prop} (hr : mw_rc a = 12) (h8 : (st.map mw_cat).sum ≤ 8) : mw_WP d 194 161 [l0, l1, l2] (v0 :: jR a :: st) σ Q ↔ mw_Call d 180 [jR a, v0] σ (fun r1 s1 => mw_WP d 194 164 [l0, l1, l2] (r1.toList ++ st) s1 Q) := WP_inv (as := [v0]) mq194 dd194_161 (by decide) mq180 rfl hr h8
theorem dd194_164 : decode cX12_arcade 164 = .ok (.ifCond .eq 19, 3) := by decide +kernel
theorem ww194_164 {d : Nat} {l0 l1 l2 : Option mw_V} {x : Int} {st : List mw_V} {σ : mw_S} {Q : Option mw_V → mw_S → Prop} : mw_WP d 194 164 [l0, l1, l2] (jI x :: st) σ Q ↔ (if x = 0 then mw_WP d 194 183 [l0, l1, l2] st σ Q else mw_WP d 194 167 [l0, l1, l2] st σ Q) := WP_if_eq mq194 dd194_164 (by decide)
theorem dd194_167 : decode cX12_arcade 167 = .ok (.aload_n 0, 1) := by decide +kernel
theorem ww194_167 {d : Nat} {l1 l2 : Option mw_V} {x : Nat} {st : List mw_V} {σ : mw_S} {Q : Option mw_V → mw_S → Prop} : mw_WP d 194 167 [some (jR x), l1, l2] st σ Q ↔ mw_WP d 194 168 [some (jR x), l1, l2] (jR x :: st) σ Q := WP_aload_n mq194 dd194_167 rfl
theorem dd194_168 : decode cX12_arcade 168 = .ok (.getfield 24, 3) := by decide +kernel
theorem ww194_168 {d : Nat} {l0 l1 l2 : Option mw_V} {st : List mw_V} {σ : mw_S} {Q : Option mw_V → mw_S → Prop} : mw_WP d 194 168 [l0, l1, l2] (jR 100 :: st) σ Q ↔ mw_WP d 194 171 [l0, l1, l2] (jR 104 :: st) σ Q := WP_getR (ci := 11) (k := 4) mq194 dd194_168 (by decide) rfl
theorem dd194_171 : decode cX12_arcade 171 = .ok (.iconst 5, 1) := by decide +kernel
theorem ww194_171 {d : Nat} {l0 l1 l2 : Option mw_V} {st : List mw_V} {σ : mw_S} {Q : Option mw_V → mw_S → Prop} : mw_WP d 194 171 [l0, l1, l2] st σ Q ↔ mw_WP d 194 172 [l0, l1, l2] (jI (5) :: st) σ Q := WP_iconst mq194 dd194_171 (by decide)
theorem dd194_172 : decode cX12_arcade 172 = .ok (.aload_n 0, 1) := by decide +kernel
theorem ww194_172 {d : Nat} {l1 l2 : Option mw_V} {x : Nat} {st : List mw_V} {σ : mw_S} {Q : Option mw_V → mw_S → Prop} : mw_WP d 194 172 [some (jR x), l1, l2] st σ Q ↔ mw_WP d 194 173 [some (jR x), l1, l2] (jR x :: st) σ Q := WP_aload_n mq194 dd194_172 rfl
theorem dd194_173 : decode cX12_arcade 173 = .ok (.iconst 0, 1) := by decide +kernel
theorem ww194_173 {d : Nat} {l0 l1 l2 : Option mw_V} {st : List mw_V} {σ : mw_S} {Q : Option mw_V → mw_S → Prop} : mw_WP d 194 173 [l0, l1, l2] st σ Q ↔ mw_WP d 194 174 [l0, l1, l2] (jI (0) :: st) σ Q := WP_iconst mq194 dd194_173 (by decide)
theorem dd194_174 : decode cX12_arcade 174 = .ok (.bipush 9, 2) := by decide +kernel
theorem ww194_174 {d : Nat} {l0 l1 l2 : Option mw_V} {st : List mw_V} {σ : mw_S} {Q : Option mw_V → mw_S → Prop} : mw_WP d 194 174 [l0, l1, l2] st σ Q ↔ mw_WP d 194 176 [l0, l1, l2] (jI (9) :: st) σ Q := WP_bipush mq194 dd194_174 (by decide)
theorem dd194_176 : decode cX12_arcade 176 = .ok (.invokevirtual 163, 3) := by decide +kernel
theorem ww194_176 {d : Nat} {l0 l1 l2 : Option mw_V} {v0 v1 : mw_V} {a : Nat} {st : List mw_V} {σ : mw_S} {Q : Option mw_V → mw_S → Prop} (hr : mw_rc a = 12) (h8 : (st.map mw_cat).sum ≤ 8) : mw_WP d 194 176 [l0, l1, l2] (v1 :: v0 :: jR a :: st) σ Q ↔ mw_Call d 181 [jR a, v0, v1] σ (fun r1 s1 => mw_WP d 194 179 [l0, l1, l2] (r1.toList ++ st) s1 Q) := WP_inv (as := [v1, v0]) mq194 dd194_176 (by decide) mq181 rfl hr h8
theorem dd194_179 : decode cX12_arcade 179 = .ok (.iastore, 1) := by decide +kernel
theorem ww194_179 {d : Nat} {l0 l1 l2 : Option mw_V} {x z : Int} {a : Nat} {st : List mw_V} {σ : mw_S} {Q : Option mw_V → mw_S → Prop} : mw_WP d 194 179 [l0, l1, l2] (jI x :: jI z :: jR a :: st) σ Q ↔ ((0 ≤ z ∧ z < mw_lenW 0 a) ∧ mw_WP d 194 180 [l0, l1, l2] st (upS σ a z.toNat x) Q) := WP_iastore mq194 dd194_179
theorem dd194_180 : decode cX12_arcade 180 = .ok (.goto 8, 3) := by decide +kernel
theorem ww194_180 {d : Nat} {l0 l1 l2 : Option mw_V} {st : List mw_V} {σ : mw_S} {Q : Option mw_V → mw_S → Prop} : mw_WP d 194 180 [l0, l1, l2] st σ Q ↔ mw_WP d 194 188 [l0, l1, l2] st σ Q := WP_goto mq194 dd194_180 (by decide)
theorem dd194_183 : decode cX12_arcade 183 = .ok (.aload_n 0, 1) := by decide +kernel
theorem ww194_183 {d : Nat} {l1 l2 : Option mw_V} {x : Nat} {st : List mw_V} {σ : mw_S} {Q : Option mw_V → mw_S → Prop} : mw_WP d 194 183 [some (jR x), l1, l2] st σ Q ↔ mw_WP d 194 184 [some (jR x), l1, l2] (jR x :: st) σ Q := WP_aload_n mq194 dd194_183 rfl
theorem dd194_184 : decode cX12_arcade 184 = .ok (.iconst 2, 1) := by decide +kernel
theorem ww194_184 {d : Nat} {l0 l1 l2 : Option mw_V} {st : List mw_V} {σ : mw_S} {Q : Option mw_V → mw_S → Prop} : mw_WP d 194 184 [l0, l1, l2] st σ Q ↔ mw_WP d 194 185 [l0, l1, l2] (jI (2) :: st) σ Q := WP_iconst mq194 dd194_184 (by decide)
theorem dd194_185 : decode cX12_arcade 185 = .ok (.invokevirtual 155, 3) := by decide +kernel
theorem ww194_185 {d : Nat} {l0 l1 l2 : Option mw_V} {v0 : mw_V} {a : Nat} {st : List mw_V} {σ : mw_S} {Q : Option mw_V → mw_S → Prop} (hr : mw_rc a = 12) (h8 : (st.map mw_cat).sum ≤ 8) : mw_WP d 194 185 [l0, l1, l2] (v0 :: jR a :: st) σ Q ↔ mw_Call d 178 [jR a, v0] σ (fun r1 s1 => mw_WP d 194 188 [l0, l1, l2] (r1.toList ++ st) s1 Q) := WP_inv (as := [v0]) mq194 dd194_185 (by decide) mq178 rfl hr h8
theorem dd194_188 : decode cX12_arcade 188 = .ok (.aload_n 0, 1) := by decide +kernel
theorem ww194_188 {d : Nat} {l1 l2 : Option mw_V} {x : Nat} {st : List mw_V} {σ : mw_S} {Q : Option mw_V → mw_S → Prop} : mw_WP d 194 188 [some (jR x), l1, l2] st σ Q ↔ mw_WP d 194 189 [some (jR x), l1, l2] (jR x :: st) σ Q := WP_aload_n mq194 dd194_188 rfl
theorem dd194_189 : decode cX12_arcade 189 = .ok (.bipush 30, 2) := by decide +kernel
theorem ww194_189 {d : Nat} {l0 l1 l2 : Option mw_V} {st : List mw_V} {σ : mw_S} {Q : Option mw_V → mw_S → Prop} : mw_WP d 194 189 [l0, l1, l2] st σ Q ↔ mw_WP d 194 191 [l0, l1, l2] (jI (30) :: st) σ Q := WP_bipush mq194 dd194_189 (by decide)
theorem dd194_191 : decode cX12_arcade 191 = .ok (.invokevirtual 167, 3) := by decide +kernel
theorem ww194_191 {d : Nat} {l0 l1 l2 : Option mw_V} {v0 : mw_V} {a : Nat} {st : List mw_V} {σ : mw_S} {Q : Option mw_V → mw_S → Prop} (hr : mw_rc a = 12) (h8 : (st.map mw_cat).sum ≤ 8) : mw_WP d 194 191 [l0, l1, l2] (v0 :: jR a :: st) σ Q ↔ mw_Call d 180 [jR a, v0] σ (fun r1 s1 => mw_WP d 194 194 [l0, l1, l2] (r1.toList ++ st) s1 Q) := WP_inv (as := [v0]) mq194 dd194_191 (by decide) mq180 rfl hr h8
theorem dd194_194 : decode cX12_arcade 194 = .ok (.ifCond .ne 8, 3) := by decide +kernel
theorem ww194_194 {d : Nat} {l0 l1 l2 : Option mw_V} {x : Int} {st : List mw_V} {σ : mw_S} {Q : Option mw_V → mw_S → Prop} : mw_WP d 194 194 [l0, l1, l2] (jI x :: st) σ Q ↔ (if ¬ x = 0 then mw_WP d 194 202 [l0, l1, l2] st σ Q else mw_WP d 194 197 [l0, l1, l2] st σ Q) := WP_if_ne mq194 dd194_194 (by decide)
theorem dd194_197 : decode cX12_arcade 197 = .ok (.aload_n 0, 1) := by decide +kernel
theorem ww194_197 {d : Nat} {l1 l2 : Option mw_V} {x : Nat} {st : List mw_V} {σ : mw_S} {Q : Option mw_V → mw_S → Prop} : mw_WP d 194 197 [some (jR x), l1, l2] st σ Q ↔ mw_WP d 194 198 [some (jR x), l1, l2] (jR x :: st) σ Q := WP_aload_n mq194 dd194_197 rfl
theorem dd194_198 : decode cX12_arcade 198 = .ok (.iconst 2, 1) := by decide +kernel
theorem ww194_198 {d : Nat} {l0 l1 l2 : Option mw_V} {st : List mw_V} {σ : mw_S} {Q : Option mw_V → mw_S → Prop} : mw_WP d 194 198 [l0, l1, l2] st σ Q ↔ mw_WP d 194 199 [l0, l1, l2] (jI (2) :: st) σ Q := WP_iconst mq194 dd194_198 (by decide)
theorem dd194_199 : decode cX12_arcade 199 = .ok (.invokevirtual 155, 3) := by decide +kernel
theorem ww194_199 {d : Nat} {l0 l1 l2 : Option mw_V} {v0 : mw_V} {a : Nat} {st : List mw_V} {σ : mw_S} {Q : Option mw_V → mw_S → Prop} (hr : mw_rc a = 12) (h8 : (st.map mw_cat).sum ≤ 8) : mw_WP d 194 199 [l0, l1, l2] (v0 :: jR a :: st) σ Q ↔ mw_Call d 178 [jR a, v0] σ (fun r1 s1 => mw_WP d 194 202 [l0, l1, l2] (r1.toList ++ st) s1 Q) := WP_inv (as := [v0]) mq194 dd194_199 (by decide) mq178 rfl hr h8
theorem dd194_202 : decode cX12_arcade 202 = .ok (.aload_n 0, 1) := by decide +kernel
theorem ww194_202 {d : Nat} {l1 l2 : Option mw_V} {x : Nat} {st : List mw_V} {σ : mw_S} {Q : Option mw_V → mw_S → Prop} : mw_WP d 194 202 [some (jR x), l1, l2] st σ Q ↔ mw_WP d 194 203 [some (jR x), l1, l2] (jR x :: st) σ Q := WP_aload_n mq194 dd194_202 rfl
theorem dd194_203 : decode cX12_arcade 203 = .ok (.getfield 24, 3) := by decide +kernel
theorem ww194_203 {d : Nat} {l0 l1 l2 : Option mw_V} {st : List mw_V} {σ : mw_S} {Q : Option mw_V → mw_S → Prop} : mw_WP d 194 203 [l0, l1, l2] (jR 100 :: st) σ Q ↔ mw_WP d 194 206 [l0, l1, l2] (jR 104 :: st) σ Q := WP_getR (ci := 11) (k := 4) mq194 dd194_203 (by decide) rfl
theorem dd194_206 : decode cX12_arcade 206 = .ok (.iconst 0, 1) := by decide +kernel
theorem ww194_206 {d : Nat} {l0 l1 l2 : Option mw_V} {st : List mw_V} {σ : mw_S} {Q : Option mw_V → mw_S → Prop} : mw_WP d 194 206 [l0, l1, l2] st σ Q ↔ mw_WP d 194 207 [l0, l1, l2] (jI (0) :: st) σ Q := WP_iconst mq194 dd194_206 (by decide)
theorem dd194_207 : decode cX12_arcade 207 = .ok (.dup2, 1) := by decide +kernel
theorem ww194_207 {d : Nat} {l0 l1 l2 : Option mw_V} {v w : mw_V} {st : List mw_V} {σ : mw_S} {Q : Option mw_V → mw_S → Prop} (h : mw_cat v = 1) (h2 : mw_cat w = 1) : mw_WP d 194 207 [l0, l1, l2] (v :: w :: st) σ Q ↔ mw_WP d 194 208 [l0, l1, l2] (v :: w :: v :: w :: st) σ Q := WP_dup2 mq194 dd194_207 h h2
theorem dd194_208 : decode cX12_arcade 208 = .ok (.iaload, 1) := by decide +kernel
theorem ww194_208 {d : Nat} {l0 l1 l2 : Option mw_V} {z : Int} {a : Nat} {st : List mw_V} {σ : mw_S} {Q : Option mw_V → mw_S → Prop} : mw_WP d 194 208 [l0, l1, l2] (jI z :: jR a :: st) σ Q ↔ ((0 ≤ z ∧ z < mw_lenI a) ∧ mw_WP d 194 209 [l0, l1, l2] (jI (mw_rdI σ a z.toNat) :: st) σ Q) := WP_iaload mq194 dd194_208
theorem dd194_209 : decode cX12_arcade 209 = .ok (.iconst 1, 1) := by decide +kernel
theorem ww194_209 {d : Nat} {l0 l1 l2 : Option mw_V} {st : List mw_V} {σ : mw_S} {Q : Option mw_V → mw_S → Prop} : mw_WP d 194 209 [l0, l1, l2] st σ Q ↔ mw_WP d 194 210 [l0, l1, l2] (jI (1) :: st) σ Q := WP_iconst mq194 dd194_209 (by decide)
theorem dd194_210 : decode cX12_arcade 210 = .ok (.iadd, 1) := by decide +kernel
theorem ww194_210 {d : Nat} {l0 l1 l2 : Option mw_V} {x y : Int} {st : List mw_V} {σ : mw_S} {Q : Option mw_V → mw_S → Prop} : mw_WP d 194 210 [l0, l1, l2] (jI y :: jI x :: st) σ Q ↔ mw_WP d 194 211 [l0, l1, l2] (jI (w32 (x + y)) :: st) σ Q := WP_iadd mq194 dd194_210
theorem dd194_211 : decode cX12_arcade 211 = .ok (.iastore, 1) := by decide +kernel
theorem ww194_211 {d : Nat} {l0 l1 l2 : Option mw_V} {x z : Int} {a : Nat} {st : List mw_V} {σ : mw_S} {Q : Option mw_V → mw_S → Prop} : mw_WP d 194 211 [l0, l1, l2] (jI x :: jI z :: jR a :: st) σ Q ↔ ((0 ≤ z ∧ z < mw_lenW 0 a) ∧ mw_WP d 194 212 [l0, l1, l2] st (upS σ a z.toNat x) Q) := WP_iastore mq194 dd194_211
theorem dd194_212 : decode cX12_arcade 212 = .ok (.goto (-154), 3) := by decide +kernel
theorem ww194_212 {d : Nat} {l0 l1 l2 : Option mw_V} {st : List mw_V} {σ : mw_S} {Q : Option mw_V → mw_S → Prop} : mw_WP d 194 212 [l0, l1, l2] st σ Q ↔ mw_WP d 194 58 [l0, l1, l2] st σ Q := WP_goto mq194 dd194_212 (by decide)
theorem dd194_215 : decode cX12_arcade 215 = .ok (.aload_n 0, 1) := by decide +kernel
theorem ww194_215 {d : Nat} {l1 l2 : Option mw_V} {x : Nat} {st : List mw_V} {σ : mw_S} {Q : Option mw_V → mw_S → Prop} : mw_WP d 194 215 [some (jR x), l1, l2] st σ Q ↔ mw_WP d 194 216 [some (jR x), l1, l2] (jR x :: st) σ Q := WP_aload_n mq194 dd194_215 rfl
theorem dd194_216 : decode cX12_arcade 216 = .ok (.aload_n 0, 1) := by decide +kernel
theorem ww194_216 {d : Nat} {l1 l2 : Option mw_V} {x : Nat} {st : List mw_V} {σ : mw_S} {Q : Option mw_V → mw_S → Prop} : mw_WP d 194 216 [some (jR x), l1, l2] st σ Q ↔ mw_WP d 194 217 [some (jR x), l1, l2] (jR x :: st) σ Q := WP_aload_n mq194 dd194_216 rfl
theorem dd194_217 : decode cX12_arcade 217 = .ok (.getfield 143, 3) := by decide +kernel
theorem ww194_217 {d : Nat} {l0 l1 l2 : Option mw_V} {st : List mw_V} {σ : mw_S} {Q : Option mw_V → mw_S → Prop} : mw_WP d 194 217 [l0, l1, l2] (jR 100 :: st) σ Q ↔ mw_WP d 194 220 [l0, l1, l2] (jI (σ 100 11) :: st) σ Q := WP_getI (ci := 11) (k := 11) mq194 dd194_217 (by decide) (Or.inl rfl)
theorem dd194_220 : decode cX12_arcade 220 = .ok (.putfield 213, 3) := by decide +kernel
theorem ww194_220 {d : Nat} {l0 l1 l2 : Option mw_V} {v : Int} {st : List mw_V} {σ : mw_S} {Q : Option mw_V → mw_S → Prop} : mw_WP d 194 220 [l0, l1, l2] (jI v :: jR 100 :: st) σ Q ↔ mw_WP d 194 223 [l0, l1, l2] st (upS σ 100 13 v) Q := WP_putI (ci := 11) (k := 13) mq194 dd194_220 (by decide) rfl
theorem dd194_223 : decode cX12_arcade 223 = .ok (.aload_n 0, 1) := by decide +kernel
theorem ww194_223 {d : Nat} {l1 l2 : Option mw_V} {x : Nat} {st : List mw_V} {σ : mw_S} {Q : Option mw_V → mw_S → Prop} : mw_WP d 194 223 [some (jR x), l1, l2] st σ Q ↔ mw_WP d 194 224 [some (jR x), l1, l2] (jR x :: st) σ Q := WP_aload_n mq194 dd194_223 rfl
theorem dd194_224 : decode cX12_arcade 224 = .ok (.aload_n 0, 1) := by decide +kernel
theorem ww194_224 {d : Nat} {l1 l2 : Option mw_V} {x : Nat} {st : List mw_V} {σ : mw_S} {Q : Option mw_V → mw_S → Prop} : mw_WP d 194 224 [some (jR x), l1, l2] st σ Q ↔ mw_WP d 194 225 [some (jR x), l1, l2] (jR x :: st) σ Q := WP_aload_n mq194 dd194_224 rfl
theorem dd194_225 : decode cX12_arcade 225 = .ok (.getfield 143, 3) := by decide +kernel
theorem ww194_225 {d : Nat} {l0 l1 l2 : Option mw_V} {st : List mw_V} {σ : mw_S} {Q : Option mw_V → mw_S → Prop} : mw_WP d 194 225 [l0, l1, l2] (jR 100 :: st) σ Q ↔ mw_WP d 194 228 [l0, l1, l2] (jI (σ 100 11) :: st) σ Q := WP_getI (ci := 11) (k := 11) mq194 dd194_225 (by decide) (Or.inl rfl)
theorem dd194_228 : decode cX12_arcade 228 = .ok (.ifCond .ne 7, 3) := by decide +kernel
theorem ww194_228 {d : Nat} {l0 l1 l2 : Option mw_V} {x : Int} {st : List mw_V} {σ : mw_S} {Q : Option mw_V → mw_S → Prop} : mw_WP d 194 228 [l0, l1, l2] (jI x :: st) σ Q ↔ (if ¬ x = 0 then mw_WP d 194 235 [l0, l1, l2] st σ Q else mw_WP d 194 231 [l0, l1, l2] st σ Q) := WP_if_ne mq194 dd194_228 (by decide)
theorem dd194_231 : decode cX12_arcade 231 = .ok (.iconst (-1), 1) := by decide +kernel
theorem ww194_231 {d : Nat} {l0 l1 l2 : Option mw_V} {st : List mw_V} {σ : mw_S} {Q : Option mw_V → mw_S → Prop} : mw_WP d 194 231 [l0, l1, l2] st σ Q ↔ mw_WP d 194 232 [l0, l1, l2] (jI (-1) :: st) σ Q := WP_iconst mq194 dd194_231 (by decide)
theorem dd194_232 : decode cX12_arcade 232 = .ok (.goto 7, 3) := by decide +kernel
theorem ww194_232 {d : Nat} {l0 l1 l2 : Option mw_V} {st : List mw_V} {σ : mw_S} {Q : Option mw_V → mw_S → Prop} : mw_WP d 194 232 [l0, l1, l2] st σ Q ↔ mw_WP d 194 239 [l0, l1, l2] st σ Q := WP_goto mq194 dd194_232 (by decide)
theorem dd194_235 : decode cX12_arcade 235 = .ok (.aload_n 0, 1) := by decide +kernel
theorem ww194_235 {d : Nat} {l1 l2 : Option mw_V} {x : Nat} {st : List mw_V} {σ : mw_S} {Q : Option mw_V → mw_S → Prop} : mw_WP d 194 235 [some (jR x), l1, l2] st σ Q ↔ mw_WP d 194 236 [some (jR x), l1, l2] (jR x :: st) σ Q := WP_aload_n mq194 dd194_235 rfl
theorem dd194_236 : decode cX12_arcade 236 = .ok (.getfield 146, 3) := by decide +kernel
theorem ww194_236 {d : Nat} {l0 l1 l2 : Option mw_V} {st : List mw_V} {σ : mw_S} {Q : Option mw_V → mw_S → Prop} : mw_WP d 194 236 [l0, l1, l2] (jR 100 :: st) σ Q ↔ mw_WP d 194 239 [l0, l1, l2] (jI (σ 100 12) :: st) σ Q := WP_getI (ci := 11) (k := 12) mq194 dd194_236 (by decide) (Or.inl rfl)
theorem dd194_239 : decode cX12_arcade 239 = .ok (.putfield 27, 3) := by decide +kernel
theorem ww194_239 {d : Nat} {l0 l1 l2 : Option mw_V} {v : Int} {st : List mw_V} {σ : mw_S} {Q : Option mw_V → mw_S → Prop} : mw_WP d 194 239 [l0, l1, l2] (jI v :: jR 100 :: st) σ Q ↔ mw_WP d 194 242 [l0, l1, l2] st (upS σ 100 14 v) Q := WP_putI (ci := 11) (k := 14) mq194 dd194_239 (by decide) rfl
theorem dd194_242 : decode cX12_arcade 242 = .ok (.aload_n 0, 1) := by decide +kernel
theorem ww194_242 {d : Nat} {l1 l2 : Option mw_V} {x : Nat} {st : List mw_V} {σ : mw_S} {Q : Option mw_V → mw_S → Prop} : mw_WP d 194 242 [some (jR x), l1, l2] st σ Q ↔ mw_WP d 194 243 [some (jR x), l1, l2] (jR x :: st) σ Q := WP_aload_n mq194 dd194_242 rfl
theorem dd194_243 : decode cX12_arcade 243 = .ok (.getfield 143, 3) := by decide +kernel
theorem ww194_243 {d : Nat} {l0 l1 l2 : Option mw_V} {st : List mw_V} {σ : mw_S} {Q : Option mw_V → mw_S → Prop} : mw_WP d 194 243 [l0, l1, l2] (jR 100 :: st) σ Q ↔ mw_WP d 194 246 [l0, l1, l2] (jI (σ 100 11) :: st) σ Q := WP_getI (ci := 11) (k := 11) mq194 dd194_243 (by decide) (Or.inl rfl)
theorem dd194_246 : decode cX12_arcade 246 = .ok (.ifCond .eq 11, 3) := by decide +kernel
theorem ww194_246 {d : Nat} {l0 l1 l2 : Option mw_V} {x : Int} {st : List mw_V} {σ : mw_S} {Q : Option mw_V → mw_S → Prop} : mw_WP d 194 246 [l0, l1, l2] (jI x :: st) σ Q ↔ (if x = 0 then mw_WP d 194 257 [l0, l1, l2] st σ Q else mw_WP d 194 249 [l0, l1, l2] st σ Q) := WP_if_eq mq194 dd194_246 (by decide)
theorem dd194_249 : decode cX12_arcade 249 = .ok (.bipush (-30), 2) := by decide +kernel
theorem ww194_249 {d : Nat} {l0 l1 l2 : Option mw_V} {st : List mw_V} {σ : mw_S} {Q : Option mw_V → mw_S → Prop} : mw_WP d 194 249 [l0, l1, l2] st σ Q ↔ mw_WP d 194 251 [l0, l1, l2] (jI (-30) :: st) σ Q := WP_bipush mq194 dd194_249 (by decide)
theorem dd194_251 : decode cX12_arcade 251 = .ok (.aload_n 0, 1) := by decide +kernel
theorem ww194_251 {d : Nat} {l1 l2 : Option mw_V} {x : Nat} {st : List mw_V} {σ : mw_S} {Q : Option mw_V → mw_S → Prop} : mw_WP d 194 251 [some (jR x), l1, l2] st σ Q ↔ mw_WP d 194 252 [some (jR x), l1, l2] (jR x :: st) σ Q := WP_aload_n mq194 dd194_251 rfl
theorem dd194_252 : decode cX12_arcade 252 = .ok (.getfield 143, 3) := by decide +kernel
theorem ww194_252 {d : Nat} {l0 l1 l2 : Option mw_V} {st : List mw_V} {σ : mw_S} {Q : Option mw_V → mw_S → Prop} : mw_WP d 194 252 [l0, l1, l2] (jR 100 :: st) σ Q ↔ mw_WP d 194 255 [l0, l1, l2] (jI (σ 100 11) :: st) σ Q := WP_getI (ci := 11) (k := 11) mq194 dd194_252 (by decide) (Or.inl rfl)
theorem dd194_255 : decode cX12_arcade 255 = .ok (.isub, 1) := by decide +kernel
theorem ww194_255 {d : Nat} {l0 l1 l2 : Option mw_V} {x y : Int} {st : List mw_V} {σ : mw_S} {Q : Option mw_V → mw_S → Prop} : mw_WP d 194 255 [l0, l1, l2] (jI y :: jI x :: st) σ Q ↔ mw_WP d 194 256 [l0, l1, l2] (jI (w32 (x - y)) :: st) σ Q := WP_isub mq194 dd194_255
theorem dd194_256 : decode cX12_arcade 256 = .ok (.ireturn, 1) := by decide +kernel
theorem ww194_256 {d : Nat} {l0 l1 l2 : Option mw_V} {z : Int} {σ : mw_S} {Q : Option mw_V → mw_S → Prop} : mw_WP d 194 256 [l0, l1, l2] [jI z] σ Q ↔ Q (some (jI z)) σ := WP_ireturn (ty := .int) mq194 dd194_256 rfl rfl
theorem dd194_257 : decode cX12_arcade 257 = .ok (.iconst 0, 1) := by decide +kernel
theorem ww194_257 {d : Nat} {l0 l1 l2 : Option mw_V} {st : List mw_V} {σ : mw_S} {Q : Option mw_V → mw_S → Prop} : mw_WP d 194 257 [l0, l1, l2] st σ Q ↔ mw_WP d 194 258 [l0, l1, l2] (jI (0) :: st) σ Q := WP_iconst mq194 dd194_257 (by decide)
theorem dd194_258 : decode cX12_arcade 258 = .ok (.istore_n 2, 1) := by decide +kernel
theorem ww194_258 {d : Nat} {l0 l1 l2 : Option mw_V} {x : Int} {st : List mw_V} {σ : mw_S} {Q : Option mw_V → mw_S → Prop} (h : mw_nlo l1 = true) : mw_WP d 194 258 [l0, l1, l2] (jI x :: st) σ Q ↔ mw_WP d 194 259 [l0, l1, some (jI x)] st σ Q := WP_istore_n mq194 dd194_258 (Nat.le_of_ble_eq_true rfl) (mw_nl_of (i := 1) rfl h) rfl
theorem dd194_259 : decode cX12_arcade 259 = .ok (.iload_n 2, 1) := by decide +kernel
theorem ww194_259 {d : Nat} {l0 l1 : Option mw_V} {x : Int} {st : List mw_V} {σ : mw_S} {Q : Option mw_V → mw_S → Prop} : mw_WP d 194 259 [l0, l1, some (jI x)] st σ Q ↔ mw_WP d 194 260 [l0, l1, some (jI x)] (jI x :: st) σ Q := WP_iload_n mq194 dd194_259 rfl
theorem dd194_260 : decode cX12_arcade 260 = .ok (.sipush 1460, 3) := by decide +kernel
theorem ww194_260 {d : Nat} {l0 l1 l2 : Option mw_V} {st : List mw_V} {σ : mw_S} {Q : Option mw_V → mw_S → Prop} : mw_WP d 194 260 [l0, l1, l2] st σ Q ↔ mw_WP d 194 263 [l0, l1, l2] (jI (1460) :: st) σ Q := WP_sipush mq194 dd194_260 (by decide)
theorem dd194_263 : decode cX12_arcade 263 = .ok (.if_icmp .ge 21, 3) := by decide +kernel
theorem ww194_263 {d : Nat} {l0 l1 l2 : Option mw_V} {x y : Int} {st : List mw_V} {σ : mw_S} {Q : Option mw_V → mw_S → Prop} : mw_WP d 194 263 [l0, l1, l2] (jI y :: jI x :: st) σ Q ↔ (if y ≤ x then mw_WP d 194 284 [l0, l1, l2] st σ Q else mw_WP d 194 266 [l0, l1, l2] st σ Q) := WP_icmp_ge mq194 dd194_263 (by decide)
theorem dd194_266 : decode cX12_arcade 266 = .ok (.aload_n 0, 1) := by decide +kernel
theorem ww194_266 {d : Nat} {l1 l2 : Option mw_V} {x : Nat} {st : List mw_V} {σ : mw_S} {Q : Option mw_V → mw_S → Prop} : mw_WP d 194 266 [some (jR x), l1, l2] st σ Q ↔ mw_WP d 194 267 [some (jR x), l1, l2] (jR x :: st) σ Q := WP_aload_n mq194 dd194_266 rfl
theorem dd194_267 : decode cX12_arcade 267 = .ok (.getfield 13, 3) := by decide +kernel
theorem ww194_267 {d : Nat} {l0 l1 l2 : Option mw_V} {st : List mw_V} {σ : mw_S} {Q : Option mw_V → mw_S → Prop} : mw_WP d 194 267 [l0, l1, l2] (jR 100 :: st) σ Q ↔ mw_WP d 194 270 [l0, l1, l2] (jR 101 :: st) σ Q := WP_getR (ci := 11) (k := 1) mq194 dd194_267 (by decide) rfl
theorem dd194_270 : decode cX12_arcade 270 = .ok (.iload_n 2, 1) := by decide +kernel
theorem ww194_270 {d : Nat} {l0 l1 : Option mw_V} {x : Int} {st : List mw_V} {σ : mw_S} {Q : Option mw_V → mw_S → Prop} : mw_WP d 194 270 [l0, l1, some (jI x)] st σ Q ↔ mw_WP d 194 271 [l0, l1, some (jI x)] (jI x :: st) σ Q := WP_iload_n mq194 dd194_270 rfl
theorem dd194_271 : decode cX12_arcade 271 = .ok (.aload_n 0, 1) := by decide +kernel
theorem ww194_271 {d : Nat} {l1 l2 : Option mw_V} {x : Nat} {st : List mw_V} {σ : mw_S} {Q : Option mw_V → mw_S → Prop} : mw_WP d 194 271 [some (jR x), l1, l2] st σ Q ↔ mw_WP d 194 272 [some (jR x), l1, l2] (jR x :: st) σ Q := WP_aload_n mq194 dd194_271 rfl
theorem dd194_272 : decode cX12_arcade 272 = .ok (.getfield 24, 3) := by decide +kernel
theorem ww194_272 {d : Nat} {l0 l1 l2 : Option mw_V} {st : List mw_V} {σ : mw_S} {Q : Option mw_V → mw_S → Prop} : mw_WP d 194 272 [l0, l1, l2] (jR 100 :: st) σ Q ↔ mw_WP d 194 275 [l0, l1, l2] (jR 104 :: st) σ Q := WP_getR (ci := 11) (k := 4) mq194 dd194_272 (by decide) rfl
theorem dd194_275 : decode cX12_arcade 275 = .ok (.iload_n 2, 1) := by decide +kernel
theorem ww194_275 {d : Nat} {l0 l1 : Option mw_V} {x : Int} {st : List mw_V} {σ : mw_S} {Q : Option mw_V → mw_S → Prop} : mw_WP d 194 275 [l0, l1, some (jI x)] st σ Q ↔ mw_WP d 194 276 [l0, l1, some (jI x)] (jI x :: st) σ Q := WP_iload_n mq194 dd194_275 rfl
theorem dd194_276 : decode cX12_arcade 276 = .ok (.iaload, 1) := by decide +kernel
theorem ww194_276 {d : Nat} {l0 l1 l2 : Option mw_V} {z : Int} {a : Nat} {st : List mw_V} {σ : mw_S} {Q : Option mw_V → mw_S → Prop} : mw_WP d 194 276 [l0, l1, l2] (jI z :: jR a :: st) σ Q ↔ ((0 ≤ z ∧ z < mw_lenI a) ∧ mw_WP d 194 277 [l0, l1, l2] (jI (mw_rdI σ a z.toNat) :: st) σ Q) := WP_iaload mq194 dd194_276
theorem dd194_277 : decode cX12_arcade 277 = .ok (.iastore, 1) := by decide +kernel
theorem ww194_277 {d : Nat} {l0 l1 l2 : Option mw_V} {x z : Int} {a : Nat} {st : List mw_V} {σ : mw_S} {Q : Option mw_V → mw_S → Prop} : mw_WP d 194 277 [l0, l1, l2] (jI x :: jI z :: jR a :: st) σ Q ↔ ((0 ≤ z ∧ z < mw_lenW 0 a) ∧ mw_WP d 194 278 [l0, l1, l2] st (upS σ a z.toNat x) Q) := WP_iastore mq194 dd194_277
theorem dd194_278 : decode cX12_arcade 278 = .ok (.iinc 2 1, 3) := by decide +kernel
theorem ww194_278 {d : Nat} {l0 l1 : Option mw_V} {x : Int} {st : List mw_V} {σ : mw_S} {Q : Option mw_V → mw_S → Prop} (h : mw_nlo l1 = true) : mw_WP d 194 278 [l0, l1, some (jI x)] st σ Q ↔ mw_WP d 194 281 [l0, l1, some (jI (w32 (x + (1))))] st σ Q := WP_iinc mq194 dd194_278 rfl (Nat.le_of_ble_eq_true rfl) (mw_nl_of (i := 1) rfl h) rfl
theorem dd194_281 : decode cX12_arcade 281 = .ok (.goto (-22), 3) := by decide +kernel
theorem ww194_281 {d : Nat} {l0 l1 l2 : Option mw_V} {st : List mw_V} {σ : mw_S} {Q : Option mw_V → mw_S → Prop} : mw_WP d 194 281 [l0, l1, l2] st σ Q ↔ mw_WP d 194 259 [l0, l1, l2] st σ Q := WP_goto mq194 dd194_281 (by decide)
theorem dd194_284 : decode cX12_arcade 284 = .ok (.aload_n 0, 1) := by decide +kernel
theorem ww194_284 {d : Nat} {l1 l2 : Option mw_V} {x : Nat} {st : List mw_V} {σ : mw_S} {Q : Option mw_V → mw_S → Prop} : mw_WP d 194 284 [some (jR x), l1, l2] st σ Q ↔ mw_WP d 194 285 [some (jR x), l1, l2] (jR x :: st) σ Q := WP_aload_n mq194 dd194_284 rfl
theorem dd194_285 : decode cX12_arcade 285 = .ok (.getfield 13, 3) := by decide +kernel
theorem ww194_285 {d : Nat} {l0 l1 l2 : Option mw_V} {st : List mw_V} {σ : mw_S} {Q : Option mw_V → mw_S → Prop} : mw_WP d 194 285 [l0, l1, l2] (jR 100 :: st) σ Q ↔ mw_WP d 194 288 [l0, l1, l2] (jR 101 :: st) σ Q := WP_getR (ci := 11) (k := 1) mq194 dd194_285 (by decide) rfl
theorem dd194_288 : decode cX12_arcade 288 = .ok (.iconst 0, 1) := by decide +kernel
theorem ww194_288 {d : Nat} {l0 l1 l2 : Option mw_V} {st : List mw_V} {σ : mw_S} {Q : Option mw_V → mw_S → Prop} : mw_WP d 194 288 [l0, l1, l2] st σ Q ↔ mw_WP d 194 289 [l0, l1, l2] (jI (0) :: st) σ Q := WP_iconst mq194 dd194_288 (by decide)
theorem dd194_289 : decode cX12_arcade 289 = .ok (.iaload, 1) := by decide +kernel
theorem ww194_289 {d : Nat} {l0 l1 l2 : Option mw_V} {z : Int} {a : Nat} {st : List mw_V} {σ : mw_S} {Q : Option mw_V → mw_S → Prop} : mw_WP d 194 289 [l0, l1, l2] (jI z :: jR a :: st) σ Q ↔ ((0 ≤ z ∧ z < mw_lenI a) ∧ mw_WP d 194 290 [l0, l1, l2] (jI (mw_rdI σ a z.toNat) :: st) σ Q) := WP_iaload mq194 dd194_289
theorem dd194_290 : decode cX12_arcade 290 = .ok (.ireturn, 1) := by decide +kernel
theorem ww194_290 {d : Nat} {l0 l1 l2 : Option mw_V} {z : Int} {σ : mw_S} {Q : Option mw_V → mw_S → Prop} : mw_WP d 194 290 [l0, l1, l2] [jI z] σ Q ↔ Q (some (jI z)) σ := WP_ireturn (ty := .int) mq194 dd194_290 rfl rfl
theorem ee195 {d : Nat} {a : Nat} {z0 : Int} {σ : mw_S} {Q : Option mw_V → mw_S → Prop} : mw_Call (d + 1) 195 [jR a, jI z0] σ Q ↔ mw_WP d 195 0 [some (jR a), some (jI z0)] [] σ Q := CL_u mq195 (Nat.le_of_ble_eq_true rfl) rfl
theorem dd195_0 : decode cX12_fault 0 = .ok (.aload_n 0, 1) := by decide +kernel
theorem ww195_0 {d : Nat} {l1 : Option mw_V} {x : Nat} {st : List mw_V} {σ : mw_S} {Q : Option mw_V → mw_S → Prop} : mw_WP d 195 0 [some (jR x), l1] st σ Q ↔ mw_WP d 195 1 [some (jR x), l1] (jR x :: st) σ Q := WP_aload_n mq195 dd195_0 rfl
theorem dd195_1 : decode cX12_fault 1 = .ok (.iconst 0, 1) := by decide +kernel
theorem ww195_1 {d : Nat} {l0 l1 : Option mw_V} {st : List mw_V} {σ : mw_S} {Q : Option mw_V → mw_S → Prop} : mw_WP d 195 1 [l0, l1] st σ Q ↔ mw_WP d 195 2 [l0, l1] (jI (0) :: st) σ Q := WP_iconst mq195 dd195_1 (by decide)
theorem dd195_2 : decode cX12_fault 2 = .ok (.putfield 1, 3) := by decide +kernel
theorem ww195_2 {d : Nat} {l0 l1 : Option mw_V} {v : Int} {st : List mw_V} {σ : mw_S} {Q : Option mw_V → mw_S → Prop} : mw_WP d 195 2 [l0, l1] (jI v :: jR 100 :: st) σ Q ↔ mw_WP d 195 5 [l0, l1] st (upS σ 100 0 v) Q := WP_putI (ci := 11) (k := 0) mq195 dd195_2 (by decide) rfl
theorem dd195_5 : decode cX12_fault 5 = .ok (.iload_n 1, 1) := by decide +kernel
theorem ww195_5 {d : Nat} {l0 : Option mw_V} {x : Int} {st : List mw_V} {σ : mw_S} {Q : Option mw_V → mw_S → Prop} : mw_WP d 195 5 [l0, some (jI x)] st σ Q ↔ mw_WP d 195 6 [l0, some (jI x)] (jI x :: st) σ Q := WP_iload_n mq195 dd195_5 rfl
theorem dd195_6 : decode cX12_fault 6 = .ok (.ifCond .ne 10, 3) := by decide +kernel
theorem ww195_6 {d : Nat} {l0 l1 : Option mw_V} {x : Int} {st : List mw_V} {σ : mw_S} {Q : Option mw_V → mw_S → Prop} : mw_WP d 195 6 [l0, l1] (jI x :: st) σ Q ↔ (if ¬ x = 0 then mw_WP d 195 16 [l0, l1] st σ Q else mw_WP d 195 9 [l0, l1] st σ Q) := WP_if_ne mq195 dd195_6 (by decide)
theorem dd195_9 : decode cX12_fault 9 = .ok (.aload_n 0, 1) := by decide +kernel
theorem ww195_9 {d : Nat} {l1 : Option mw_V} {x : Nat} {st : List mw_V} {σ : mw_S} {Q : Option mw_V → mw_S → Prop} : mw_WP d 195 9 [some (jR x), l1] st σ Q ↔ mw_WP d 195 10 [some (jR x), l1] (jR x :: st) σ Q := WP_aload_n mq195 dd195_9 rfl
theorem dd195_10 : decode cX12_fault 10 = .ok (.getfield 213, 3) := by decide +kernel
theorem ww195_10 {d : Nat} {l0 l1 : Option mw_V} {st : List mw_V} {σ : mw_S} {Q : Option mw_V → mw_S → Prop} : mw_WP d 195 10 [l0, l1] (jR 100 :: st) σ Q ↔ mw_WP d 195 13 [l0, l1] (jI (σ 100 13) :: st) σ Q := WP_getI (ci := 11) (k := 13) mq195 dd195_10 (by decide) (Or.inl rfl)
theorem dd195_13 : decode cX12_fault 13 = .ok (.goto 16, 3) := by decide +kernel
theorem ww195_13 {d : Nat} {l0 l1 : Option mw_V} {st : List mw_V} {σ : mw_S} {Q : Option mw_V → mw_S → Prop} : mw_WP d 195 13 [l0, l1] st σ Q ↔ mw_WP d 195 29 [l0, l1] st σ Q := WP_goto mq195 dd195_13 (by decide)
theorem dd195_16 : decode cX12_fault 16 = .ok (.iload_n 1, 1) := by decide +kernel
theorem ww195_16 {d : Nat} {l0 : Option mw_V} {x : Int} {st : List mw_V} {σ : mw_S} {Q : Option mw_V → mw_S → Prop} : mw_WP d 195 16 [l0, some (jI x)] st σ Q ↔ mw_WP d 195 17 [l0, some (jI x)] (jI x :: st) σ Q := WP_iload_n mq195 dd195_16 rfl
theorem dd195_17 : decode cX12_fault 17 = .ok (.iconst 1, 1) := by decide +kernel
theorem ww195_17 {d : Nat} {l0 l1 : Option mw_V} {st : List mw_V} {σ : mw_S} {Q : Option mw_V → mw_S → Prop} : mw_WP d 195 17 [l0, l1] st σ Q ↔ mw_WP d 195 18 [l0, l1] (jI (1) :: st) σ Q := WP_iconst mq195 dd195_17 (by decide)
theorem dd195_18 : decode cX12_fault 18 = .ok (.if_icmp .ne 10, 3) := by decide +kernel
theorem ww195_18 {d : Nat} {l0 l1 : Option mw_V} {x y : Int} {st : List mw_V} {σ : mw_S} {Q : Option mw_V → mw_S → Prop} : mw_WP d 195 18 [l0, l1] (jI y :: jI x :: st) σ Q ↔ (if ¬ x = y then mw_WP d 195 28 [l0, l1] st σ Q else mw_WP d 195 21 [l0, l1] st σ Q) := WP_icmp_ne mq195 dd195_18 (by decide)
theorem dd195_21 : decode cX12_fault 21 = .ok (.aload_n 0, 1) := by decide +kernel
theorem ww195_21 {d : Nat} {l1 : Option mw_V} {x : Nat} {st : List mw_V} {σ : mw_S} {Q : Option mw_V → mw_S → Prop} : mw_WP d 195 21 [some (jR x), l1] st σ Q ↔ mw_WP d 195 22 [some (jR x), l1] (jR x :: st) σ Q := WP_aload_n mq195 dd195_21 rfl
theorem dd195_22 : decode cX12_fault 22 = .ok (.getfield 27, 3) := by decide +kernel
theorem ww195_22 {d : Nat} {l0 l1 : Option mw_V} {st : List mw_V} {σ : mw_S} {Q : Option mw_V → mw_S → Prop} : mw_WP d 195 22 [l0, l1] (jR 100 :: st) σ Q ↔ mw_WP d 195 25 [l0, l1] (jI (σ 100 14) :: st) σ Q := WP_getI (ci := 11) (k := 14) mq195 dd195_22 (by decide) (Or.inl rfl)
theorem dd195_25 : decode cX12_fault 25 = .ok (.goto 4, 3) := by decide +kernel
theorem ww195_25 {d : Nat} {l0 l1 : Option mw_V} {st : List mw_V} {σ : mw_S} {Q : Option mw_V → mw_S → Prop} : mw_WP d 195 25 [l0, l1] st σ Q ↔ mw_WP d 195 29 [l0, l1] st σ Q := WP_goto mq195 dd195_25 (by decide)
theorem dd195_28 : decode cX12_fault 28 = .ok (.iconst (-1), 1) := by decide +kernel
theorem ww195_28 {d : Nat} {l0 l1 : Option mw_V} {st : List mw_V} {σ : mw_S} {Q : Option mw_V → mw_S → Prop} : mw_WP d 195 28 [l0, l1] st σ Q ↔ mw_WP d 195 29 [l0, l1] (jI (-1) :: st) σ Q := WP_iconst mq195 dd195_28 (by decide)
theorem dd195_29 : decode cX12_fault 29 = .ok (.ireturn, 1) := by decide +kernel
theorem ww195_29 {d : Nat} {l0 l1 : Option mw_V} {z : Int} {σ : mw_S} {Q : Option mw_V → mw_S → Prop} : mw_WP d 195 29 [l0, l1] [jI z] σ Q ↔ Q (some (jI z)) σ := WP_ireturn (ty := .int) mq195 dd195_29 rfl rfl
theorem ee196 {d : Nat} {a : Nat} {z0 : Int} {σ : mw_S} {Q : Option mw_V → mw_S → Prop} : mw_Call (d + 1) 196 [jR a, jI z0] σ Q ↔ mw_WP d 196 0 [some (jR a), some (jI z0)] [] σ Q := CL_u mq196 (Nat.le_of_ble_eq_true rfl) rfl
theorem dd196_0 : decode cX12_isPerson 0 = .ok (.iload_n 1, 1) := by decide +kernel
theorem ww196_0 {d : Nat} {l0 : Option mw_V} {x : Int} {st : List mw_V} {σ : mw_S} {Q : Option mw_V → mw_S → Prop} : mw_WP d 196 0 [l0, some (jI x)] st σ Q ↔ mw_WP d 196 1 [l0, some (jI x)] (jI x :: st) σ Q := WP_iload_n mq196 dd196_0 rfl
theorem dd196_1 : decode cX12_isPerson 1 = .ok (.i2l, 1) := by decide +kernel
theorem ww196_1 {d : Nat} {l0 l1 : Option mw_V} {x : Int} {st : List mw_V} {σ : mw_S} {Q : Option mw_V → mw_S → Prop} : mw_WP d 196 1 [l0, l1] (jI x :: st) σ Q ↔ mw_WP d 196 2 [l0, l1] (jL (yL x) :: st) σ Q := WP_i2l mq196 dd196_1
theorem dd196_2 : decode cX12_isPerson 2 = .ok (.lconst 0, 1) := by decide +kernel
theorem ww196_2 {d : Nat} {l0 l1 : Option mw_V} {st : List mw_V} {σ : mw_S} {Q : Option mw_V → mw_S → Prop} : mw_WP d 196 2 [l0, l1] st σ Q ↔ mw_WP d 196 3 [l0, l1] (jL (0) :: st) σ Q := WP_lconst mq196 dd196_2 (by decide)
theorem dd196_3 : decode cX12_isPerson 3 = .ok (.aload_n 0, 1) := by decide +kernel
theorem ww196_3 {d : Nat} {l1 : Option mw_V} {x : Nat} {st : List mw_V} {σ : mw_S} {Q : Option mw_V → mw_S → Prop} : mw_WP d 196 3 [some (jR x), l1] st σ Q ↔ mw_WP d 196 4 [some (jR x), l1] (jR x :: st) σ Q := WP_aload_n mq196 dd196_3 rfl
theorem dd196_4 : decode cX12_isPerson 4 = .ok (.getfield 13, 3) := by decide +kernel
theorem ww196_4 {d : Nat} {l0 l1 : Option mw_V} {st : List mw_V} {σ : mw_S} {Q : Option mw_V → mw_S → Prop} : mw_WP d 196 4 [l0, l1] (jR 100 :: st) σ Q ↔ mw_WP d 196 7 [l0, l1] (jR 101 :: st) σ Q := WP_getR (ci := 11) (k := 1) mq196 dd196_4 (by decide) rfl
theorem dd196_7 : decode cX12_isPerson 7 = .ok (.iconst 2, 1) := by decide +kernel
theorem ww196_7 {d : Nat} {l0 l1 : Option mw_V} {st : List mw_V} {σ : mw_S} {Q : Option mw_V → mw_S → Prop} : mw_WP d 196 7 [l0, l1] st σ Q ↔ mw_WP d 196 8 [l0, l1] (jI (2) :: st) σ Q := WP_iconst mq196 dd196_7 (by decide)
theorem dd196_8 : decode cX12_isPerson 8 = .ok (.iaload, 1) := by decide +kernel
theorem ww196_8 {d : Nat} {l0 l1 : Option mw_V} {z : Int} {a : Nat} {st : List mw_V} {σ : mw_S} {Q : Option mw_V → mw_S → Prop} : mw_WP d 196 8 [l0, l1] (jI z :: jR a :: st) σ Q ↔ ((0 ≤ z ∧ z < mw_lenI a) ∧ mw_WP d 196 9 [l0, l1] (jI (mw_rdI σ a z.toNat) :: st) σ Q) := WP_iaload mq196 dd196_8
theorem dd196_9 : decode cX12_isPerson 9 = .ok (.iconst 1, 1) := by decide +kernel
theorem ww196_9 {d : Nat} {l0 l1 : Option mw_V} {st : List mw_V} {σ : mw_S} {Q : Option mw_V → mw_S → Prop} : mw_WP d 196 9 [l0, l1] st σ Q ↔ mw_WP d 196 10 [l0, l1] (jI (1) :: st) σ Q := WP_iconst mq196 dd196_9 (by decide)
theorem dd196_10 : decode cX12_isPerson 10 = .ok (.isub, 1) := by decide +kernel
theorem ww196_10 {d : Nat} {l0 l1 : Option mw_V} {x y : Int} {st : List mw_V} {σ : mw_S} {Q : Option mw_V → mw_S → Prop} : mw_WP d 196 10 [l0, l1] (jI y :: jI x :: st) σ Q ↔ mw_WP d 196 11 [l0, l1] (jI (w32 (x - y)) :: st) σ Q := WP_isub mq196 dd196_10
theorem dd196_11 : decode cX12_isPerson 11 = .ok (.i2l, 1) := by decide +kernel
theorem ww196_11 {d : Nat} {l0 l1 : Option mw_V} {x : Int} {st : List mw_V} {σ : mw_S} {Q : Option mw_V → mw_S → Prop} : mw_WP d 196 11 [l0, l1] (jI x :: st) σ Q ↔ mw_WP d 196 12 [l0, l1] (jL (yL x) :: st) σ Q := WP_i2l mq196 dd196_11
theorem dd196_12 : decode cX12_isPerson 12 = .ok (.invokestatic 159, 3) := by decide +kernel
theorem ww196_12 {d : Nat} {l0 l1 : Option mw_V} {v0 v1 v2 : mw_V} {st : List mw_V} {σ : mw_S} {Q : Option mw_V → mw_S → Prop} (h8 : (st.map mw_cat).sum ≤ 8) : mw_WP d 196 12 [l0, l1] (v2 :: v1 :: v0 :: st) σ Q ↔ mw_Call d 170 [v0, v1, v2] σ (fun r1 s1 => mw_WP d 196 15 [l0, l1] (r1.toList ++ st) s1 Q) := WP_invs (as := [v2, v1, v0]) mq196 dd196_12 (by decide) mq170 rfl rfl h8
theorem dd196_15 : decode cX12_isPerson 15 = .ok (.ireturn, 1) := by decide +kernel
theorem ww196_15 {d : Nat} {l0 l1 : Option mw_V} {z : Int} {σ : mw_S} {Q : Option mw_V → mw_S → Prop} (h : z = 0 ∨ z = 1) : mw_WP d 196 15 [l0, l1] [jI z] σ Q ↔ Q (some (jI z)) σ := WP_ireturn (ty := .boolean) mq196 dd196_15 rfl (by rcases h with rfl | rfl <;> decide)
theorem ee197 {d : Nat} {a : Nat} {z0 : Int} {σ : mw_S} {Q : Option mw_V → mw_S → Prop} : mw_Call (d + 1) 197 [jR a, jI z0] σ Q ↔ mw_WP d 197 0 [some (jR a), some (jI z0)] [] σ Q := CL_u mq197 (Nat.le_of_ble_eq_true rfl) rfl
theorem dd197_0 : decode cX12_cellOf 0 = .ok (.aload_n 0, 1) := by decide +kernel
theorem ww197_0 {d : Nat} {l1 : Option mw_V} {x : Nat} {st : List mw_V} {σ : mw_S} {Q : Option mw_V → mw_S → Prop} : mw_WP d 197 0 [some (jR x), l1] st σ Q ↔ mw_WP d 197 1 [some (jR x), l1] (jR x :: st) σ Q := WP_aload_n mq197 dd197_0 rfl
theorem dd197_1 : decode cX12_cellOf 1 = .ok (.getfield 13, 3) := by decide +kernel
theorem ww197_1 {d : Nat} {l0 l1 : Option mw_V} {st : List mw_V} {σ : mw_S} {Q : Option mw_V → mw_S → Prop} : mw_WP d 197 1 [l0, l1] (jR 100 :: st) σ Q ↔ mw_WP d 197 4 [l0, l1] (jR 101 :: st) σ Q := WP_getR (ci := 11) (k := 1) mq197 dd197_1 (by decide) rfl
theorem dd197_4 : decode cX12_cellOf 4 = .ok (.bipush 41, 2) := by decide +kernel
theorem ww197_4 {d : Nat} {l0 l1 : Option mw_V} {st : List mw_V} {σ : mw_S} {Q : Option mw_V → mw_S → Prop} : mw_WP d 197 4 [l0, l1] st σ Q ↔ mw_WP d 197 6 [l0, l1] (jI (41) :: st) σ Q := WP_bipush mq197 dd197_4 (by decide)
theorem dd197_6 : decode cX12_cellOf 6 = .ok (.iload_n 1, 1) := by decide +kernel
theorem ww197_6 {d : Nat} {l0 : Option mw_V} {x : Int} {st : List mw_V} {σ : mw_S} {Q : Option mw_V → mw_S → Prop} : mw_WP d 197 6 [l0, some (jI x)] st σ Q ↔ mw_WP d 197 7 [l0, some (jI x)] (jI x :: st) σ Q := WP_iload_n mq197 dd197_6 rfl
theorem dd197_7 : decode cX12_cellOf 7 = .ok (.iadd, 1) := by decide +kernel
theorem ww197_7 {d : Nat} {l0 l1 : Option mw_V} {x y : Int} {st : List mw_V} {σ : mw_S} {Q : Option mw_V → mw_S → Prop} : mw_WP d 197 7 [l0, l1] (jI y :: jI x :: st) σ Q ↔ mw_WP d 197 8 [l0, l1] (jI (w32 (x + y)) :: st) σ Q := WP_iadd mq197 dd197_7
theorem dd197_8 : decode cX12_cellOf 8 = .ok (.iaload, 1) := by decide +kernel
theorem ww197_8 {d : Nat} {l0 l1 : Option mw_V} {z : Int} {a : Nat} {st : List mw_V} {σ : mw_S} {Q : Option mw_V → mw_S → Prop} : mw_WP d 197 8 [l0, l1] (jI z :: jR a :: st) σ Q ↔ ((0 ≤ z ∧ z < mw_lenI a) ∧ mw_WP d 197 9 [l0, l1] (jI (mw_rdI σ a z.toNat) :: st) σ Q) := WP_iaload mq197 dd197_8
theorem dd197_9 : decode cX12_cellOf 9 = .ok (.ireturn, 1) := by decide +kernel
theorem ww197_9 {d : Nat} {l0 l1 : Option mw_V} {z : Int} {σ : mw_S} {Q : Option mw_V → mw_S → Prop} : mw_WP d 197 9 [l0, l1] [jI z] σ Q ↔ Q (some (jI z)) σ := WP_ireturn (ty := .int) mq197 dd197_9 rfl rfl
theorem ee198 {d : Nat} {z0 : Int} {z1 : Int} {σ : mw_S} {Q : Option mw_V → mw_S → Prop} : mw_Call (d + 1) 198 [jI z0, jI z1] σ Q ↔ mw_WP d 198 0 [some (jI z0), some (jI z1)] [] σ Q := CL_u mq198 (Nat.le_of_ble_eq_true rfl) rfl
theorem dd198_0 : decode cX12_handOf 0 = .ok (.iload_n 0, 1) := by decide +kernel
theorem ww198_0 {d : Nat} {l1 : Option mw_V} {x : Int} {st : List mw_V} {σ : mw_S} {Q : Option mw_V → mw_S → Prop} : mw_WP d 198 0 [some (jI x), l1] st σ Q ↔ mw_WP d 198 1 [some (jI x), l1] (jI x :: st) σ Q := WP_iload_n mq198 dd198_0 rfl
theorem dd198_1 : decode cX12_handOf 1 = .ok (.iconst 3, 1) := by decide +kernel
theorem ww198_1 {d : Nat} {l0 l1 : Option mw_V} {st : List mw_V} {σ : mw_S} {Q : Option mw_V → mw_S → Prop} : mw_WP d 198 1 [l0, l1] st σ Q ↔ mw_WP d 198 2 [l0, l1] (jI (3) :: st) σ Q := WP_iconst mq198 dd198_1 (by decide)
theorem dd198_2 : decode cX12_handOf 2 = .ok (.if_icmp .ge 14, 3) := by decide +kernel
theorem ww198_2 {d : Nat} {l0 l1 : Option mw_V} {x y : Int} {st : List mw_V} {σ : mw_S} {Q : Option mw_V → mw_S → Prop} : mw_WP d 198 2 [l0, l1] (jI y :: jI x :: st) σ Q ↔ (if y ≤ x then mw_WP d 198 16 [l0, l1] st σ Q else mw_WP d 198 5 [l0, l1] st σ Q) := WP_icmp_ge mq198 dd198_2 (by decide)
theorem dd198_5 : decode cX12_handOf 5 = .ok (.bipush 20, 2) := by decide +kernel
theorem ww198_5 {d : Nat} {l0 l1 : Option mw_V} {st : List mw_V} {σ : mw_S} {Q : Option mw_V → mw_S → Prop} : mw_WP d 198 5 [l0, l1] st σ Q ↔ mw_WP d 198 7 [l0, l1] (jI (20) :: st) σ Q := WP_bipush mq198 dd198_5 (by decide)
theorem dd198_7 : decode cX12_handOf 7 = .ok (.iconst 2, 1) := by decide +kernel
theorem ww198_7 {d : Nat} {l0 l1 : Option mw_V} {st : List mw_V} {σ : mw_S} {Q : Option mw_V → mw_S → Prop} : mw_WP d 198 7 [l0, l1] st σ Q ↔ mw_WP d 198 8 [l0, l1] (jI (2) :: st) σ Q := WP_iconst mq198 dd198_7 (by decide)
theorem dd198_8 : decode cX12_handOf 8 = .ok (.iload_n 0, 1) := by decide +kernel
theorem ww198_8 {d : Nat} {l1 : Option mw_V} {x : Int} {st : List mw_V} {σ : mw_S} {Q : Option mw_V → mw_S → Prop} : mw_WP d 198 8 [some (jI x), l1] st σ Q ↔ mw_WP d 198 9 [some (jI x), l1] (jI x :: st) σ Q := WP_iload_n mq198 dd198_8 rfl
theorem dd198_9 : decode cX12_handOf 9 = .ok (.imul, 1) := by decide +kernel
theorem ww198_9 {d : Nat} {l0 l1 : Option mw_V} {x y : Int} {st : List mw_V} {σ : mw_S} {Q : Option mw_V → mw_S → Prop} : mw_WP d 198 9 [l0, l1] (jI y :: jI x :: st) σ Q ↔ mw_WP d 198 10 [l0, l1] (jI (w32 (x * y)) :: st) σ Q := WP_imul mq198 dd198_9
theorem dd198_10 : decode cX12_handOf 10 = .ok (.iadd, 1) := by decide +kernel
theorem ww198_10 {d : Nat} {l0 l1 : Option mw_V} {x y : Int} {st : List mw_V} {σ : mw_S} {Q : Option mw_V → mw_S → Prop} : mw_WP d 198 10 [l0, l1] (jI y :: jI x :: st) σ Q ↔ mw_WP d 198 11 [l0, l1] (jI (w32 (x + y)) :: st) σ Q := WP_iadd mq198 dd198_10
theorem dd198_11 : decode cX12_handOf 11 = .ok (.iload_n 1, 1) := by decide +kernel
theorem ww198_11 {d : Nat} {l0 : Option mw_V} {x : Int} {st : List mw_V} {σ : mw_S} {Q : Option mw_V → mw_S → Prop} : mw_WP d 198 11 [l0, some (jI x)] st σ Q ↔ mw_WP d 198 12 [l0, some (jI x)] (jI x :: st) σ Q := WP_iload_n mq198 dd198_11 rfl
theorem dd198_12 : decode cX12_handOf 12 = .ok (.iadd, 1) := by decide +kernel
theorem ww198_12 {d : Nat} {l0 l1 : Option mw_V} {x y : Int} {st : List mw_V} {σ : mw_S} {Q : Option mw_V → mw_S → Prop} : mw_WP d 198 12 [l0, l1] (jI y :: jI x :: st) σ Q ↔ mw_WP d 198 13 [l0, l1] (jI (w32 (x + y)) :: st) σ Q := WP_iadd mq198 dd198_12
theorem dd198_13 : decode cX12_handOf 13 = .ok (.goto 13, 3) := by decide +kernel
theorem ww198_13 {d : Nat} {l0 l1 : Option mw_V} {st : List mw_V} {σ : mw_S} {Q : Option mw_V → mw_S → Prop} : mw_WP d 198 13 [l0, l1] st σ Q ↔ mw_WP d 198 26 [l0, l1] st σ Q := WP_goto mq198 dd198_13 (by decide)
theorem dd198_16 : decode cX12_handOf 16 = .ok (.bipush 30, 2) := by decide +kernel
theorem ww198_16 {d : Nat} {l0 l1 : Option mw_V} {st : List mw_V} {σ : mw_S} {Q : Option mw_V → mw_S → Prop} : mw_WP d 198 16 [l0, l1] st σ Q ↔ mw_WP d 198 18 [l0, l1] (jI (30) :: st) σ Q := WP_bipush mq198 dd198_16 (by decide)
theorem dd198_18 : decode cX12_handOf 18 = .ok (.iconst 2, 1) := by decide +kernel
theorem ww198_18 {d : Nat} {l0 l1 : Option mw_V} {st : List mw_V} {σ : mw_S} {Q : Option mw_V → mw_S → Prop} : mw_WP d 198 18 [l0, l1] st σ Q ↔ mw_WP d 198 19 [l0, l1] (jI (2) :: st) σ Q := WP_iconst mq198 dd198_18 (by decide)
theorem dd198_19 : decode cX12_handOf 19 = .ok (.iload_n 0, 1) := by decide +kernel
theorem ww198_19 {d : Nat} {l1 : Option mw_V} {x : Int} {st : List mw_V} {σ : mw_S} {Q : Option mw_V → mw_S → Prop} : mw_WP d 198 19 [some (jI x), l1] st σ Q ↔ mw_WP d 198 20 [some (jI x), l1] (jI x :: st) σ Q := WP_iload_n mq198 dd198_19 rfl
theorem dd198_20 : decode cX12_handOf 20 = .ok (.iconst 3, 1) := by decide +kernel
theorem ww198_20 {d : Nat} {l0 l1 : Option mw_V} {st : List mw_V} {σ : mw_S} {Q : Option mw_V → mw_S → Prop} : mw_WP d 198 20 [l0, l1] st σ Q ↔ mw_WP d 198 21 [l0, l1] (jI (3) :: st) σ Q := WP_iconst mq198 dd198_20 (by decide)
theorem dd198_21 : decode cX12_handOf 21 = .ok (.isub, 1) := by decide +kernel
theorem ww198_21 {d : Nat} {l0 l1 : Option mw_V} {x y : Int} {st : List mw_V} {σ : mw_S} {Q : Option mw_V → mw_S → Prop} : mw_WP d 198 21 [l0, l1] (jI y :: jI x :: st) σ Q ↔ mw_WP d 198 22 [l0, l1] (jI (w32 (x - y)) :: st) σ Q := WP_isub mq198 dd198_21
theorem dd198_22 : decode cX12_handOf 22 = .ok (.imul, 1) := by decide +kernel
theorem ww198_22 {d : Nat} {l0 l1 : Option mw_V} {x y : Int} {st : List mw_V} {σ : mw_S} {Q : Option mw_V → mw_S → Prop} : mw_WP d 198 22 [l0, l1] (jI y :: jI x :: st) σ Q ↔ mw_WP d 198 23 [l0, l1] (jI (w32 (x * y)) :: st) σ Q := WP_imul mq198 dd198_22
theorem dd198_23 : decode cX12_handOf 23 = .ok (.iadd, 1) := by decide +kernel
theorem ww198_23 {d : Nat} {l0 l1 : Option mw_V} {x y : Int} {st : List mw_V} {σ : mw_S} {Q : Option mw_V → mw_S → Prop} : mw_WP d 198 23 [l0, l1] (jI y :: jI x :: st) σ Q ↔ mw_WP d 198 24 [l0, l1] (jI (w32 (x + y)) :: st) σ Q := WP_iadd mq198 dd198_23
theorem dd198_24 : decode cX12_handOf 24 = .ok (.iload_n 1, 1) := by decide +kernel
theorem ww198_24 {d : Nat} {l0 : Option mw_V} {x : Int} {st : List mw_V} {σ : mw_S} {Q : Option mw_V → mw_S → Prop} : mw_WP d 198 24 [l0, some (jI x)] st σ Q ↔ mw_WP d 198 25 [l0, some (jI x)] (jI x :: st) σ Q := WP_iload_n mq198 dd198_24 rfl
theorem dd198_25 : decode cX12_handOf 25 = .ok (.iadd, 1) := by decide +kernel
theorem ww198_25 {d : Nat} {l0 l1 : Option mw_V} {x y : Int} {st : List mw_V} {σ : mw_S} {Q : Option mw_V → mw_S → Prop} : mw_WP d 198 25 [l0, l1] (jI y :: jI x :: st) σ Q ↔ mw_WP d 198 26 [l0, l1] (jI (w32 (x + y)) :: st) σ Q := WP_iadd mq198 dd198_25
theorem dd198_26 : decode cX12_handOf 26 = .ok (.ireturn, 1) := by decide +kernel
theorem ww198_26 {d : Nat} {l0 l1 : Option mw_V} {z : Int} {σ : mw_S} {Q : Option mw_V → mw_S → Prop} : mw_WP d 198 26 [l0, l1] [jI z] σ Q ↔ Q (some (jI z)) σ := WP_ireturn (ty := .int) mq198 dd198_26 rfl rfl
theorem ee199 {d : Nat} {a : Nat} {z0 : Int} {σ : mw_S} {Q : Option mw_V → mw_S → Prop} : mw_Call (d + 1) 199 [jR a, jI z0] σ Q ↔ mw_WP d 199 0 [some (jR a), some (jI z0), none] [] σ Q := CL_u mq199 (Nat.le_of_ble_eq_true rfl) rfl
theorem dd199_0 : decode cX12_thingAt 0 = .ok (.iconst 0, 1) := by decide +kernel
theorem ww199_0 {d : Nat} {l0 l1 l2 : Option mw_V} {st : List mw_V} {σ : mw_S} {Q : Option mw_V → mw_S → Prop} : mw_WP d 199 0 [l0, l1, l2] st σ Q ↔ mw_WP d 199 1 [l0, l1, l2] (jI (0) :: st) σ Q := WP_iconst mq199 dd199_0 (by decide)
theorem dd199_1 : decode cX12_thingAt 1 = .ok (.istore_n 2, 1) := by decide +kernel
theorem ww199_1 {d : Nat} {l0 l1 l2 : Option mw_V} {x : Int} {st : List mw_V} {σ : mw_S} {Q : Option mw_V → mw_S → Prop} (h : mw_nlo l1 = true) : mw_WP d 199 1 [l0, l1, l2] (jI x :: st) σ Q ↔ mw_WP d 199 2 [l0, l1, some (jI x)] st σ Q := WP_istore_n mq199 dd199_1 (Nat.le_of_ble_eq_true rfl) (mw_nl_of (i := 1) rfl h) rfl
theorem dd199_2 : decode cX12_thingAt 2 = .ok (.iload_n 2, 1) := by decide +kernel
theorem ww199_2 {d : Nat} {l0 l1 : Option mw_V} {x : Int} {st : List mw_V} {σ : mw_S} {Q : Option mw_V → mw_S → Prop} : mw_WP d 199 2 [l0, l1, some (jI x)] st σ Q ↔ mw_WP d 199 3 [l0, l1, some (jI x)] (jI x :: st) σ Q := WP_iload_n mq199 dd199_2 rfl
theorem dd199_3 : decode cX12_thingAt 3 = .ok (.aload_n 0, 1) := by decide +kernel
theorem ww199_3 {d : Nat} {l1 l2 : Option mw_V} {x : Nat} {st : List mw_V} {σ : mw_S} {Q : Option mw_V → mw_S → Prop} : mw_WP d 199 3 [some (jR x), l1, l2] st σ Q ↔ mw_WP d 199 4 [some (jR x), l1, l2] (jR x :: st) σ Q := WP_aload_n mq199 dd199_3 rfl
theorem dd199_4 : decode cX12_thingAt 4 = .ok (.getfield 13, 3) := by decide +kernel
theorem ww199_4 {d : Nat} {l0 l1 l2 : Option mw_V} {st : List mw_V} {σ : mw_S} {Q : Option mw_V → mw_S → Prop} : mw_WP d 199 4 [l0, l1, l2] (jR 100 :: st) σ Q ↔ mw_WP d 199 7 [l0, l1, l2] (jR 101 :: st) σ Q := WP_getR (ci := 11) (k := 1) mq199 dd199_4 (by decide) rfl
theorem dd199_7 : decode cX12_thingAt 7 = .ok (.iconst 3, 1) := by decide +kernel
theorem ww199_7 {d : Nat} {l0 l1 l2 : Option mw_V} {st : List mw_V} {σ : mw_S} {Q : Option mw_V → mw_S → Prop} : mw_WP d 199 7 [l0, l1, l2] st σ Q ↔ mw_WP d 199 8 [l0, l1, l2] (jI (3) :: st) σ Q := WP_iconst mq199 dd199_7 (by decide)
theorem dd199_8 : decode cX12_thingAt 8 = .ok (.iaload, 1) := by decide +kernel
theorem ww199_8 {d : Nat} {l0 l1 l2 : Option mw_V} {z : Int} {a : Nat} {st : List mw_V} {σ : mw_S} {Q : Option mw_V → mw_S → Prop} : mw_WP d 199 8 [l0, l1, l2] (jI z :: jR a :: st) σ Q ↔ ((0 ≤ z ∧ z < mw_lenI a) ∧ mw_WP d 199 9 [l0, l1, l2] (jI (mw_rdI σ a z.toNat) :: st) σ Q) := WP_iaload mq199 dd199_8
theorem dd199_9 : decode cX12_thingAt 9 = .ok (.if_icmp .ge 24, 3) := by decide +kernel
theorem ww199_9 {d : Nat} {l0 l1 l2 : Option mw_V} {x y : Int} {st : List mw_V} {σ : mw_S} {Q : Option mw_V → mw_S → Prop} : mw_WP d 199 9 [l0, l1, l2] (jI y :: jI x :: st) σ Q ↔ (if y ≤ x then mw_WP d 199 33 [l0, l1, l2] st σ Q else mw_WP d 199 12 [l0, l1, l2] st σ Q) := WP_icmp_ge mq199 dd199_9 (by decide)
theorem dd199_12 : decode cX12_thingAt 12 = .ok (.aload_n 0, 1) := by decide +kernel
theorem ww199_12 {d : Nat} {l1 l2 : Option mw_V} {x : Nat} {st : List mw_V} {σ : mw_S} {Q : Option mw_V → mw_S → Prop} : mw_WP d 199 12 [some (jR x), l1, l2] st σ Q ↔ mw_WP d 199 13 [some (jR x), l1, l2] (jR x :: st) σ Q := WP_aload_n mq199 dd199_12 rfl
theorem dd199_13 : decode cX12_thingAt 13 = .ok (.getfield 13, 3) := by decide +kernel
theorem ww199_13 {d : Nat} {l0 l1 l2 : Option mw_V} {st : List mw_V} {σ : mw_S} {Q : Option mw_V → mw_S → Prop} : mw_WP d 199 13 [l0, l1, l2] (jR 100 :: st) σ Q ↔ mw_WP d 199 16 [l0, l1, l2] (jR 101 :: st) σ Q := WP_getR (ci := 11) (k := 1) mq199 dd199_13 (by decide) rfl
theorem dd199_16 : decode cX12_thingAt 16 = .ok (.bipush 50, 2) := by decide +kernel
theorem ww199_16 {d : Nat} {l0 l1 l2 : Option mw_V} {st : List mw_V} {σ : mw_S} {Q : Option mw_V → mw_S → Prop} : mw_WP d 199 16 [l0, l1, l2] st σ Q ↔ mw_WP d 199 18 [l0, l1, l2] (jI (50) :: st) σ Q := WP_bipush mq199 dd199_16 (by decide)
theorem dd199_18 : decode cX12_thingAt 18 = .ok (.iload_n 2, 1) := by decide +kernel
theorem ww199_18 {d : Nat} {l0 l1 : Option mw_V} {x : Int} {st : List mw_V} {σ : mw_S} {Q : Option mw_V → mw_S → Prop} : mw_WP d 199 18 [l0, l1, some (jI x)] st σ Q ↔ mw_WP d 199 19 [l0, l1, some (jI x)] (jI x :: st) σ Q := WP_iload_n mq199 dd199_18 rfl
theorem dd199_19 : decode cX12_thingAt 19 = .ok (.iadd, 1) := by decide +kernel
theorem ww199_19 {d : Nat} {l0 l1 l2 : Option mw_V} {x y : Int} {st : List mw_V} {σ : mw_S} {Q : Option mw_V → mw_S → Prop} : mw_WP d 199 19 [l0, l1, l2] (jI y :: jI x :: st) σ Q ↔ mw_WP d 199 20 [l0, l1, l2] (jI (w32 (x + y)) :: st) σ Q := WP_iadd mq199 dd199_19
theorem dd199_20 : decode cX12_thingAt 20 = .ok (.iaload, 1) := by decide +kernel
theorem ww199_20 {d : Nat} {l0 l1 l2 : Option mw_V} {z : Int} {a : Nat} {st : List mw_V} {σ : mw_S} {Q : Option mw_V → mw_S → Prop} : mw_WP d 199 20 [l0, l1, l2] (jI z :: jR a :: st) σ Q ↔ ((0 ≤ z ∧ z < mw_lenI a) ∧ mw_WP d 199 21 [l0, l1, l2] (jI (mw_rdI σ a z.toNat) :: st) σ Q) := WP_iaload mq199 dd199_20
theorem dd199_21 : decode cX12_thingAt 21 = .ok (.iload_n 1, 1) := by decide +kernel
theorem ww199_21 {d : Nat} {l0 l2 : Option mw_V} {x : Int} {st : List mw_V} {σ : mw_S} {Q : Option mw_V → mw_S → Prop} : mw_WP d 199 21 [l0, some (jI x), l2] st σ Q ↔ mw_WP d 199 22 [l0, some (jI x), l2] (jI x :: st) σ Q := WP_iload_n mq199 dd199_21 rfl
theorem dd199_22 : decode cX12_thingAt 22 = .ok (.if_icmp .ne 5, 3) := by decide +kernel
theorem ww199_22 {d : Nat} {l0 l1 l2 : Option mw_V} {x y : Int} {st : List mw_V} {σ : mw_S} {Q : Option mw_V → mw_S → Prop} : mw_WP d 199 22 [l0, l1, l2] (jI y :: jI x :: st) σ Q ↔ (if ¬ x = y then mw_WP d 199 27 [l0, l1, l2] st σ Q else mw_WP d 199 25 [l0, l1, l2] st σ Q) := WP_icmp_ne mq199 dd199_22 (by decide)
theorem dd199_25 : decode cX12_thingAt 25 = .ok (.iload_n 2, 1) := by decide +kernel
theorem ww199_25 {d : Nat} {l0 l1 : Option mw_V} {x : Int} {st : List mw_V} {σ : mw_S} {Q : Option mw_V → mw_S → Prop} : mw_WP d 199 25 [l0, l1, some (jI x)] st σ Q ↔ mw_WP d 199 26 [l0, l1, some (jI x)] (jI x :: st) σ Q := WP_iload_n mq199 dd199_25 rfl
theorem dd199_26 : decode cX12_thingAt 26 = .ok (.ireturn, 1) := by decide +kernel
theorem ww199_26 {d : Nat} {l0 l1 l2 : Option mw_V} {z : Int} {σ : mw_S} {Q : Option mw_V → mw_S → Prop} : mw_WP d 199 26 [l0, l1, l2] [jI z] σ Q ↔ Q (some (jI z)) σ := WP_ireturn (ty := .int) mq199 dd199_26 rfl rfl
theorem dd199_27 : decode cX12_thingAt 27 = .ok (.iinc 2 1, 3) := by decide +kernel
theorem ww199_27 {d : Nat} {l0 l1 : Option mw_V} {x : Int} {st : List mw_V} {σ : mw_S} {Q : Option mw_V → mw_S → Prop} (h : mw_nlo l1 = true) : mw_WP d 199 27 [l0, l1, some (jI x)] st σ Q ↔ mw_WP d 199 30 [l0, l1, some (jI (w32 (x + (1))))] st σ Q := WP_iinc mq199 dd199_27 rfl (Nat.le_of_ble_eq_true rfl) (mw_nl_of (i := 1) rfl h) rfl
theorem dd199_30 : decode cX12_thingAt 30 = .ok (.goto (-28), 3) := by decide +kernel
theorem ww199_30 {d : Nat} {l0 l1 l2 : Option mw_V} {st : List mw_V} {σ : mw_S} {Q : Option mw_V → mw_S → Prop} : mw_WP d 199 30 [l0, l1, l2] st σ Q ↔ mw_WP d 199 2 [l0, l1, l2] st σ Q := WP_goto mq199 dd199_30 (by decide)
theorem dd199_33 : decode cX12_thingAt 33 = .ok (.iconst (-1), 1) := by decide +kernel
theorem ww199_33 {d : Nat} {l0 l1 l2 : Option mw_V} {st : List mw_V} {σ : mw_S} {Q : Option mw_V → mw_S → Prop} : mw_WP d 199 33 [l0, l1, l2] st σ Q ↔ mw_WP d 199 34 [l0, l1, l2] (jI (-1) :: st) σ Q := WP_iconst mq199 dd199_33 (by decide)
theorem dd199_34 : decode cX12_thingAt 34 = .ok (.ireturn, 1) := by decide +kernel
theorem ww199_34 {d : Nat} {l0 l1 l2 : Option mw_V} {z : Int} {σ : mw_S} {Q : Option mw_V → mw_S → Prop} : mw_WP d 199 34 [l0, l1, l2] [jI z] σ Q ↔ Q (some (jI z)) σ := WP_ireturn (ty := .int) mq199 dd199_34 rfl rfl
theorem ee200 {d : Nat} {a : Nat} {z0 : Int} {σ : mw_S} {Q : Option mw_V → mw_S → Prop} : mw_Call (d + 1) 200 [jR a, jI z0] σ Q ↔ mw_WP d 200 0 [some (jR a), some (jI z0)] [] σ Q := CL_u mq200 (Nat.le_of_ble_eq_true rfl) rfl
theorem dd200_0 : decode cX12_lyingAt 0 = .ok (.aload_n 0, 1) := by decide +kernel
theorem ww200_0 {d : Nat} {l1 : Option mw_V} {x : Nat} {st : List mw_V} {σ : mw_S} {Q : Option mw_V → mw_S → Prop} : mw_WP d 200 0 [some (jR x), l1] st σ Q ↔ mw_WP d 200 1 [some (jR x), l1] (jR x :: st) σ Q := WP_aload_n mq200 dd200_0 rfl
theorem dd200_1 : decode cX12_lyingAt 1 = .ok (.aload_n 0, 1) := by decide +kernel
theorem ww200_1 {d : Nat} {l1 : Option mw_V} {x : Nat} {st : List mw_V} {σ : mw_S} {Q : Option mw_V → mw_S → Prop} : mw_WP d 200 1 [some (jR x), l1] st σ Q ↔ mw_WP d 200 2 [some (jR x), l1] (jR x :: st) σ Q := WP_aload_n mq200 dd200_1 rfl
theorem dd200_2 : decode cX12_lyingAt 2 = .ok (.iload_n 1, 1) := by decide +kernel
theorem ww200_2 {d : Nat} {l0 : Option mw_V} {x : Int} {st : List mw_V} {σ : mw_S} {Q : Option mw_V → mw_S → Prop} : mw_WP d 200 2 [l0, some (jI x)] st σ Q ↔ mw_WP d 200 3 [l0, some (jI x)] (jI x :: st) σ Q := WP_iload_n mq200 dd200_2 rfl
theorem dd200_3 : decode cX12_lyingAt 3 = .ok (.invokevirtual 216, 3) := by decide +kernel
theorem ww200_3 {d : Nat} {l0 l1 : Option mw_V} {v0 : mw_V} {a : Nat} {st : List mw_V} {σ : mw_S} {Q : Option mw_V → mw_S → Prop} (hr : mw_rc a = 12) (h8 : (st.map mw_cat).sum ≤ 8) : mw_WP d 200 3 [l0, l1] (v0 :: jR a :: st) σ Q ↔ mw_Call d 197 [jR a, v0] σ (fun r1 s1 => mw_WP d 200 6 [l0, l1] (r1.toList ++ st) s1 Q) := WP_inv (as := [v0]) mq200 dd200_3 (by decide) mq197 rfl hr h8
theorem dd200_6 : decode cX12_lyingAt 6 = .ok (.iload_n 1, 1) := by decide +kernel
theorem ww200_6 {d : Nat} {l0 : Option mw_V} {x : Int} {st : List mw_V} {σ : mw_S} {Q : Option mw_V → mw_S → Prop} : mw_WP d 200 6 [l0, some (jI x)] st σ Q ↔ mw_WP d 200 7 [l0, some (jI x)] (jI x :: st) σ Q := WP_iload_n mq200 dd200_6 rfl
theorem dd200_7 : decode cX12_lyingAt 7 = .ok (.iconst 3, 1) := by decide +kernel
theorem ww200_7 {d : Nat} {l0 l1 : Option mw_V} {st : List mw_V} {σ : mw_S} {Q : Option mw_V → mw_S → Prop} : mw_WP d 200 7 [l0, l1] st σ Q ↔ mw_WP d 200 8 [l0, l1] (jI (3) :: st) σ Q := WP_iconst mq200 dd200_7 (by decide)
theorem dd200_8 : decode cX12_lyingAt 8 = .ok (.if_icmp .ge 7, 3) := by decide +kernel
theorem ww200_8 {d : Nat} {l0 l1 : Option mw_V} {x y : Int} {st : List mw_V} {σ : mw_S} {Q : Option mw_V → mw_S → Prop} : mw_WP d 200 8 [l0, l1] (jI y :: jI x :: st) σ Q ↔ (if y ≤ x then mw_WP d 200 15 [l0, l1] st σ Q else mw_WP d 200 11 [l0, l1] st σ Q) := WP_icmp_ge mq200 dd200_8 (by decide)
theorem dd200_11 : decode cX12_lyingAt 11 = .ok (.iconst 0, 1) := by decide +kernel
theorem ww200_11 {d : Nat} {l0 l1 : Option mw_V} {st : List mw_V} {σ : mw_S} {Q : Option mw_V → mw_S → Prop} : mw_WP d 200 11 [l0, l1] st σ Q ↔ mw_WP d 200 12 [l0, l1] (jI (0) :: st) σ Q := WP_iconst mq200 dd200_11 (by decide)
theorem dd200_12 : decode cX12_lyingAt 12 = .ok (.goto 5, 3) := by decide +kernel
theorem ww200_12 {d : Nat} {l0 l1 : Option mw_V} {st : List mw_V} {σ : mw_S} {Q : Option mw_V → mw_S → Prop} : mw_WP d 200 12 [l0, l1] st σ Q ↔ mw_WP d 200 17 [l0, l1] st σ Q := WP_goto mq200 dd200_12 (by decide)
theorem dd200_15 : decode cX12_lyingAt 15 = .ok (.bipush 10, 2) := by decide +kernel
theorem ww200_15 {d : Nat} {l0 l1 : Option mw_V} {st : List mw_V} {σ : mw_S} {Q : Option mw_V → mw_S → Prop} : mw_WP d 200 15 [l0, l1] st σ Q ↔ mw_WP d 200 17 [l0, l1] (jI (10) :: st) σ Q := WP_bipush mq200 dd200_15 (by decide)
theorem dd200_17 : decode cX12_lyingAt 17 = .ok (.iadd, 1) := by decide +kernel
theorem ww200_17 {d : Nat} {l0 l1 : Option mw_V} {x y : Int} {st : List mw_V} {σ : mw_S} {Q : Option mw_V → mw_S → Prop} : mw_WP d 200 17 [l0, l1] (jI y :: jI x :: st) σ Q ↔ mw_WP d 200 18 [l0, l1] (jI (w32 (x + y)) :: st) σ Q := WP_iadd mq200 dd200_17
theorem dd200_18 : decode cX12_lyingAt 18 = .ok (.invokevirtual 219, 3) := by decide +kernel
theorem ww200_18 {d : Nat} {l0 l1 : Option mw_V} {v0 : mw_V} {a : Nat} {st : List mw_V} {σ : mw_S} {Q : Option mw_V → mw_S → Prop} (hr : mw_rc a = 12) (h8 : (st.map mw_cat).sum ≤ 8) : mw_WP d 200 18 [l0, l1] (v0 :: jR a :: st) σ Q ↔ mw_Call d 199 [jR a, v0] σ (fun r1 s1 => mw_WP d 200 21 [l0, l1] (r1.toList ++ st) s1 Q) := WP_inv (as := [v0]) mq200 dd200_18 (by decide) mq199 rfl hr h8
theorem dd200_21 : decode cX12_lyingAt 21 = .ok (.ireturn, 1) := by decide +kernel
theorem ww200_21 {d : Nat} {l0 l1 : Option mw_V} {z : Int} {σ : mw_S} {Q : Option mw_V → mw_S → Prop} : mw_WP d 200 21 [l0, l1] [jI z] σ Q ↔ Q (some (jI z)) σ := WP_ireturn (ty := .int) mq200 dd200_21 rfl rfl
theorem ee201 {d : Nat} {a : Nat} {z0 : Int} {z1 : Int} {σ : mw_S} {Q : Option mw_V → mw_S → Prop} : mw_Call (d + 1) 201 [jR a, jI z0, jI z1] σ Q ↔ mw_WP d 201 0 [some (jR a), some (jI z0), some (jI z1)] [] σ Q := CL_u mq201 (Nat.le_of_ble_eq_true rfl) rfl
theorem dd201_0 : decode cX12_person 0 = .ok (.aload_n 0, 1) := by decide +kernel
theorem ww201_0 {d : Nat} {l1 l2 : Option mw_V} {x : Nat} {st : List mw_V} {σ : mw_S} {Q : Option mw_V → mw_S → Prop} : mw_WP d 201 0 [some (jR x), l1, l2] st σ Q ↔ mw_WP d 201 1 [some (jR x), l1, l2] (jR x :: st) σ Q := WP_aload_n mq201 dd201_0 rfl
theorem dd201_1 : decode cX12_person 1 = .ok (.iconst 0, 1) := by decide +kernel
theorem ww201_1 {d : Nat} {l0 l1 l2 : Option mw_V} {st : List mw_V} {σ : mw_S} {Q : Option mw_V → mw_S → Prop} : mw_WP d 201 1 [l0, l1, l2] st σ Q ↔ mw_WP d 201 2 [l0, l1, l2] (jI (0) :: st) σ Q := WP_iconst mq201 dd201_1 (by decide)
theorem dd201_2 : decode cX12_person 2 = .ok (.putfield 1, 3) := by decide +kernel
theorem ww201_2 {d : Nat} {l0 l1 l2 : Option mw_V} {v : Int} {st : List mw_V} {σ : mw_S} {Q : Option mw_V → mw_S → Prop} : mw_WP d 201 2 [l0, l1, l2] (jI v :: jR 100 :: st) σ Q ↔ mw_WP d 201 5 [l0, l1, l2] st (upS σ 100 0 v) Q := WP_putI (ci := 11) (k := 0) mq201 dd201_2 (by decide) rfl
theorem dd201_5 : decode cX12_person 5 = .ok (.aload_n 0, 1) := by decide +kernel
theorem ww201_5 {d : Nat} {l1 l2 : Option mw_V} {x : Nat} {st : List mw_V} {σ : mw_S} {Q : Option mw_V → mw_S → Prop} : mw_WP d 201 5 [some (jR x), l1, l2] st σ Q ↔ mw_WP d 201 6 [some (jR x), l1, l2] (jR x :: st) σ Q := WP_aload_n mq201 dd201_5 rfl
theorem dd201_6 : decode cX12_person 6 = .ok (.iload_n 1, 1) := by decide +kernel
theorem ww201_6 {d : Nat} {l0 l2 : Option mw_V} {x : Int} {st : List mw_V} {σ : mw_S} {Q : Option mw_V → mw_S → Prop} : mw_WP d 201 6 [l0, some (jI x), l2] st σ Q ↔ mw_WP d 201 7 [l0, some (jI x), l2] (jI x :: st) σ Q := WP_iload_n mq201 dd201_6 rfl
theorem dd201_7 : decode cX12_person 7 = .ok (.invokevirtual 222, 3) := by decide +kernel
theorem ww201_7 {d : Nat} {l0 l1 l2 : Option mw_V} {v0 : mw_V} {a : Nat} {st : List mw_V} {σ : mw_S} {Q : Option mw_V → mw_S → Prop} (hr : mw_rc a = 12) (h8 : (st.map mw_cat).sum ≤ 8) : mw_WP d 201 7 [l0, l1, l2] (v0 :: jR a :: st) σ Q ↔ mw_Call d 196 [jR a, v0] σ (fun r1 s1 => mw_WP d 201 10 [l0, l1, l2] (r1.toList ++ st) s1 Q) := WP_inv (as := [v0]) mq201 dd201_7 (by decide) mq196 rfl hr h8
theorem dd201_10 : decode cX12_person 10 = .ok (.ifCond .ne 6, 3) := by decide +kernel
theorem ww201_10 {d : Nat} {l0 l1 l2 : Option mw_V} {x : Int} {st : List mw_V} {σ : mw_S} {Q : Option mw_V → mw_S → Prop} : mw_WP d 201 10 [l0, l1, l2] (jI x :: st) σ Q ↔ (if ¬ x = 0 then mw_WP d 201 16 [l0, l1, l2] st σ Q else mw_WP d 201 13 [l0, l1, l2] st σ Q) := WP_if_ne mq201 dd201_10 (by decide)
theorem dd201_13 : decode cX12_person 13 = .ok (.bipush (-2), 2) := by decide +kernel
theorem ww201_13 {d : Nat} {l0 l1 l2 : Option mw_V} {st : List mw_V} {σ : mw_S} {Q : Option mw_V → mw_S → Prop} : mw_WP d 201 13 [l0, l1, l2] st σ Q ↔ mw_WP d 201 15 [l0, l1, l2] (jI (-2) :: st) σ Q := WP_bipush mq201 dd201_13 (by decide)
theorem dd201_15 : decode cX12_person 15 = .ok (.ireturn, 1) := by decide +kernel
theorem ww201_15 {d : Nat} {l0 l1 l2 : Option mw_V} {z : Int} {σ : mw_S} {Q : Option mw_V → mw_S → Prop} : mw_WP d 201 15 [l0, l1, l2] [jI z] σ Q ↔ Q (some (jI z)) σ := WP_ireturn (ty := .int) mq201 dd201_15 rfl rfl
theorem dd201_16 : decode cX12_person 16 = .ok (.iload_n 2, 1) := by decide +kernel
theorem ww201_16 {d : Nat} {l0 l1 : Option mw_V} {x : Int} {st : List mw_V} {σ : mw_S} {Q : Option mw_V → mw_S → Prop} : mw_WP d 201 16 [l0, l1, some (jI x)] st σ Q ↔ mw_WP d 201 17 [l0, l1, some (jI x)] (jI x :: st) σ Q := WP_iload_n mq201 dd201_16 rfl
theorem dd201_17 : decode cX12_person 17 = .ok (.tableswitch 87 0 5 #[39, 45, 55, 55, 67, 77], 39) := by decide +kernel
theorem ww201_17k0 {d : Nat} {l0 l1 l2 : Option mw_V} {st : List mw_V} {σ : mw_S} {Q : Option mw_V → mw_S → Prop} : mw_WP d 201 17 [l0, l1, l2] (jI (0) :: st) σ Q ↔ mw_WP d 201 56 [l0, l1, l2] st σ Q := WP_k mq201 dd201_17 rfl (fun _ _ => by simp [mw_stp, mw_b1, mw_go])
theorem ww201_17k1 {d : Nat} {l0 l1 l2 : Option mw_V} {st : List mw_V} {σ : mw_S} {Q : Option mw_V → mw_S → Prop} : mw_WP d 201 17 [l0, l1, l2] (jI (1) :: st) σ Q ↔ mw_WP d 201 62 [l0, l1, l2] st σ Q := WP_k mq201 dd201_17 rfl (fun _ _ => by simp [mw_stp, mw_b1, mw_go])
theorem ww201_17k2 {d : Nat} {l0 l1 l2 : Option mw_V} {st : List mw_V} {σ : mw_S} {Q : Option mw_V → mw_S → Prop} : mw_WP d 201 17 [l0, l1, l2] (jI (2) :: st) σ Q ↔ mw_WP d 201 72 [l0, l1, l2] st σ Q := WP_k mq201 dd201_17 rfl (fun _ _ => by simp [mw_stp, mw_b1, mw_go])
theorem ww201_17k3 {d : Nat} {l0 l1 l2 : Option mw_V} {st : List mw_V} {σ : mw_S} {Q : Option mw_V → mw_S → Prop} : mw_WP d 201 17 [l0, l1, l2] (jI (3) :: st) σ Q ↔ mw_WP d 201 72 [l0, l1, l2] st σ Q := WP_k mq201 dd201_17 rfl (fun _ _ => by simp [mw_stp, mw_b1, mw_go])
theorem ww201_17k4 {d : Nat} {l0 l1 l2 : Option mw_V} {st : List mw_V} {σ : mw_S} {Q : Option mw_V → mw_S → Prop} : mw_WP d 201 17 [l0, l1, l2] (jI (4) :: st) σ Q ↔ mw_WP d 201 84 [l0, l1, l2] st σ Q := WP_k mq201 dd201_17 rfl (fun _ _ => by simp [mw_stp, mw_b1, mw_go])
theorem ww201_17k5 {d : Nat} {l0 l1 l2 : Option mw_V} {st : List mw_V} {σ : mw_S} {Q : Option mw_V → mw_S → Prop} : mw_WP d 201 17 [l0, l1, l2] (jI (5) :: st) σ Q ↔ mw_WP d 201 94 [l0, l1, l2] st σ Q := WP_k mq201 dd201_17 rfl (fun _ _ => by simp [mw_stp, mw_b1, mw_go])
theorem ww201_17kd {d : Nat} {l0 l1 l2 : Option mw_V} {x : Int} {st : List mw_V} {σ : mw_S} {Q : Option mw_V → mw_S → Prop} (h : x < 0 ∨ 5 < x) : mw_WP d 201 17 [l0, l1, l2] (jI x :: st) σ Q ↔ mw_WP d 201 104 [l0, l1, l2] st σ Q := WP_k mq201 dd201_17 rfl (fun _ _ => by simp [mw_stp, mw_b1, mw_go, h])
theorem dd201_56 : decode cX12_person 56 = .ok (.aload_n 0, 1) := by decide +kernel
theorem ww201_56 {d : Nat} {l1 l2 : Option mw_V} {x : Nat} {st : List mw_V} {σ : mw_S} {Q : Option mw_V → mw_S → Prop} : mw_WP d 201 56 [some (jR x), l1, l2] st σ Q ↔ mw_WP d 201 57 [some (jR x), l1, l2] (jR x :: st) σ Q := WP_aload_n mq201 dd201_56 rfl
theorem dd201_57 : decode cX12_person 57 = .ok (.iload_n 1, 1) := by decide +kernel
theorem ww201_57 {d : Nat} {l0 l2 : Option mw_V} {x : Int} {st : List mw_V} {σ : mw_S} {Q : Option mw_V → mw_S → Prop} : mw_WP d 201 57 [l0, some (jI x), l2] st σ Q ↔ mw_WP d 201 58 [l0, some (jI x), l2] (jI x :: st) σ Q := WP_iload_n mq201 dd201_57 rfl
theorem dd201_58 : decode cX12_person 58 = .ok (.invokevirtual 216, 3) := by decide +kernel
theorem ww201_58 {d : Nat} {l0 l1 l2 : Option mw_V} {v0 : mw_V} {a : Nat} {st : List mw_V} {σ : mw_S} {Q : Option mw_V → mw_S → Prop} (hr : mw_rc a = 12) (h8 : (st.map mw_cat).sum ≤ 8) : mw_WP d 201 58 [l0, l1, l2] (v0 :: jR a :: st) σ Q ↔ mw_Call d 197 [jR a, v0] σ (fun r1 s1 => mw_WP d 201 61 [l0, l1, l2] (r1.toList ++ st) s1 Q) := WP_inv (as := [v0]) mq201 dd201_58 (by decide) mq197 rfl hr h8
theorem dd201_61 : decode cX12_person 61 = .ok (.ireturn, 1) := by decide +kernel
theorem ww201_61 {d : Nat} {l0 l1 l2 : Option mw_V} {z : Int} {σ : mw_S} {Q : Option mw_V → mw_S → Prop} : mw_WP d 201 61 [l0, l1, l2] [jI z] σ Q ↔ Q (some (jI z)) σ := WP_ireturn (ty := .int) mq201 dd201_61 rfl rfl
theorem dd201_62 : decode cX12_person 62 = .ok (.aload_n 0, 1) := by decide +kernel
theorem ww201_62 {d : Nat} {l1 l2 : Option mw_V} {x : Nat} {st : List mw_V} {σ : mw_S} {Q : Option mw_V → mw_S → Prop} : mw_WP d 201 62 [some (jR x), l1, l2] st σ Q ↔ mw_WP d 201 63 [some (jR x), l1, l2] (jR x :: st) σ Q := WP_aload_n mq201 dd201_62 rfl
theorem dd201_63 : decode cX12_person 63 = .ok (.getfield 13, 3) := by decide +kernel
theorem ww201_63 {d : Nat} {l0 l1 l2 : Option mw_V} {st : List mw_V} {σ : mw_S} {Q : Option mw_V → mw_S → Prop} : mw_WP d 201 63 [l0, l1, l2] (jR 100 :: st) σ Q ↔ mw_WP d 201 66 [l0, l1, l2] (jR 101 :: st) σ Q := WP_getR (ci := 11) (k := 1) mq201 dd201_63 (by decide) rfl
theorem dd201_66 : decode cX12_person 66 = .ok (.bipush 6, 2) := by decide +kernel
theorem ww201_66 {d : Nat} {l0 l1 l2 : Option mw_V} {st : List mw_V} {σ : mw_S} {Q : Option mw_V → mw_S → Prop} : mw_WP d 201 66 [l0, l1, l2] st σ Q ↔ mw_WP d 201 68 [l0, l1, l2] (jI (6) :: st) σ Q := WP_bipush mq201 dd201_66 (by decide)
theorem dd201_68 : decode cX12_person 68 = .ok (.iload_n 1, 1) := by decide +kernel
theorem ww201_68 {d : Nat} {l0 l2 : Option mw_V} {x : Int} {st : List mw_V} {σ : mw_S} {Q : Option mw_V → mw_S → Prop} : mw_WP d 201 68 [l0, some (jI x), l2] st σ Q ↔ mw_WP d 201 69 [l0, some (jI x), l2] (jI x :: st) σ Q := WP_iload_n mq201 dd201_68 rfl
theorem dd201_69 : decode cX12_person 69 = .ok (.iadd, 1) := by decide +kernel
theorem ww201_69 {d : Nat} {l0 l1 l2 : Option mw_V} {x y : Int} {st : List mw_V} {σ : mw_S} {Q : Option mw_V → mw_S → Prop} : mw_WP d 201 69 [l0, l1, l2] (jI y :: jI x :: st) σ Q ↔ mw_WP d 201 70 [l0, l1, l2] (jI (w32 (x + y)) :: st) σ Q := WP_iadd mq201 dd201_69
theorem dd201_70 : decode cX12_person 70 = .ok (.iaload, 1) := by decide +kernel
theorem ww201_70 {d : Nat} {l0 l1 l2 : Option mw_V} {z : Int} {a : Nat} {st : List mw_V} {σ : mw_S} {Q : Option mw_V → mw_S → Prop} : mw_WP d 201 70 [l0, l1, l2] (jI z :: jR a :: st) σ Q ↔ ((0 ≤ z ∧ z < mw_lenI a) ∧ mw_WP d 201 71 [l0, l1, l2] (jI (mw_rdI σ a z.toNat) :: st) σ Q) := WP_iaload mq201 dd201_70
theorem dd201_71 : decode cX12_person 71 = .ok (.ireturn, 1) := by decide +kernel
theorem ww201_71 {d : Nat} {l0 l1 l2 : Option mw_V} {z : Int} {σ : mw_S} {Q : Option mw_V → mw_S → Prop} : mw_WP d 201 71 [l0, l1, l2] [jI z] σ Q ↔ Q (some (jI z)) σ := WP_ireturn (ty := .int) mq201 dd201_71 rfl rfl
theorem dd201_72 : decode cX12_person 72 = .ok (.aload_n 0, 1) := by decide +kernel
theorem ww201_72 {d : Nat} {l1 l2 : Option mw_V} {x : Nat} {st : List mw_V} {σ : mw_S} {Q : Option mw_V → mw_S → Prop} : mw_WP d 201 72 [some (jR x), l1, l2] st σ Q ↔ mw_WP d 201 73 [some (jR x), l1, l2] (jR x :: st) σ Q := WP_aload_n mq201 dd201_72 rfl
theorem dd201_73 : decode cX12_person 73 = .ok (.iload_n 1, 1) := by decide +kernel
theorem ww201_73 {d : Nat} {l0 l2 : Option mw_V} {x : Int} {st : List mw_V} {σ : mw_S} {Q : Option mw_V → mw_S → Prop} : mw_WP d 201 73 [l0, some (jI x), l2] st σ Q ↔ mw_WP d 201 74 [l0, some (jI x), l2] (jI x :: st) σ Q := WP_iload_n mq201 dd201_73 rfl
theorem dd201_74 : decode cX12_person 74 = .ok (.iload_n 2, 1) := by decide +kernel
theorem ww201_74 {d : Nat} {l0 l1 : Option mw_V} {x : Int} {st : List mw_V} {σ : mw_S} {Q : Option mw_V → mw_S → Prop} : mw_WP d 201 74 [l0, l1, some (jI x)] st σ Q ↔ mw_WP d 201 75 [l0, l1, some (jI x)] (jI x :: st) σ Q := WP_iload_n mq201 dd201_74 rfl
theorem dd201_75 : decode cX12_person 75 = .ok (.iconst 2, 1) := by decide +kernel
theorem ww201_75 {d : Nat} {l0 l1 l2 : Option mw_V} {st : List mw_V} {σ : mw_S} {Q : Option mw_V → mw_S → Prop} : mw_WP d 201 75 [l0, l1, l2] st σ Q ↔ mw_WP d 201 76 [l0, l1, l2] (jI (2) :: st) σ Q := WP_iconst mq201 dd201_75 (by decide)
theorem dd201_76 : decode cX12_person 76 = .ok (.isub, 1) := by decide +kernel
theorem ww201_76 {d : Nat} {l0 l1 l2 : Option mw_V} {x y : Int} {st : List mw_V} {σ : mw_S} {Q : Option mw_V → mw_S → Prop} : mw_WP d 201 76 [l0, l1, l2] (jI y :: jI x :: st) σ Q ↔ mw_WP d 201 77 [l0, l1, l2] (jI (w32 (x - y)) :: st) σ Q := WP_isub mq201 dd201_76
theorem dd201_77 : decode cX12_person 77 = .ok (.invokestatic 225, 3) := by decide +kernel
theorem ww201_77 {d : Nat} {l0 l1 l2 : Option mw_V} {v0 v1 : mw_V} {st : List mw_V} {σ : mw_S} {Q : Option mw_V → mw_S → Prop} (h8 : (st.map mw_cat).sum ≤ 8) : mw_WP d 201 77 [l0, l1, l2] (v1 :: v0 :: st) σ Q ↔ mw_Call d 198 [v0, v1] σ (fun r1 s1 => mw_WP d 201 80 [l0, l1, l2] (r1.toList ++ st) s1 Q) := WP_invs (as := [v1, v0]) mq201 dd201_77 (by decide) mq198 rfl rfl h8
theorem dd201_80 : decode cX12_person 80 = .ok (.invokevirtual 219, 3) := by decide +kernel
theorem ww201_80 {d : Nat} {l0 l1 l2 : Option mw_V} {v0 : mw_V} {a : Nat} {st : List mw_V} {σ : mw_S} {Q : Option mw_V → mw_S → Prop} (hr : mw_rc a = 12) (h8 : (st.map mw_cat).sum ≤ 8) : mw_WP d 201 80 [l0, l1, l2] (v0 :: jR a :: st) σ Q ↔ mw_Call d 199 [jR a, v0] σ (fun r1 s1 => mw_WP d 201 83 [l0, l1, l2] (r1.toList ++ st) s1 Q) := WP_inv (as := [v0]) mq201 dd201_80 (by decide) mq199 rfl hr h8
theorem dd201_83 : decode cX12_person 83 = .ok (.ireturn, 1) := by decide +kernel
theorem ww201_83 {d : Nat} {l0 l1 l2 : Option mw_V} {z : Int} {σ : mw_S} {Q : Option mw_V → mw_S → Prop} : mw_WP d 201 83 [l0, l1, l2] [jI z] σ Q ↔ Q (some (jI z)) σ := WP_ireturn (ty := .int) mq201 dd201_83 rfl rfl
theorem dd201_84 : decode cX12_person 84 = .ok (.aload_n 0, 1) := by decide +kernel
theorem ww201_84 {d : Nat} {l1 l2 : Option mw_V} {x : Nat} {st : List mw_V} {σ : mw_S} {Q : Option mw_V → mw_S → Prop} : mw_WP d 201 84 [some (jR x), l1, l2] st σ Q ↔ mw_WP d 201 85 [some (jR x), l1, l2] (jR x :: st) σ Q := WP_aload_n mq201 dd201_84 rfl
theorem dd201_85 : decode cX12_person 85 = .ok (.getfield 13, 3) := by decide +kernel
theorem ww201_85 {d : Nat} {l0 l1 l2 : Option mw_V} {st : List mw_V} {σ : mw_S} {Q : Option mw_V → mw_S → Prop} : mw_WP d 201 85 [l0, l1, l2] (jR 100 :: st) σ Q ↔ mw_WP d 201 88 [l0, l1, l2] (jR 101 :: st) σ Q := WP_getR (ci := 11) (k := 1) mq201 dd201_85 (by decide) rfl
theorem dd201_88 : decode cX12_person 88 = .ok (.bipush 76, 2) := by decide +kernel
theorem ww201_88 {d : Nat} {l0 l1 l2 : Option mw_V} {st : List mw_V} {σ : mw_S} {Q : Option mw_V → mw_S → Prop} : mw_WP d 201 88 [l0, l1, l2] st σ Q ↔ mw_WP d 201 90 [l0, l1, l2] (jI (76) :: st) σ Q := WP_bipush mq201 dd201_88 (by decide)
theorem dd201_90 : decode cX12_person 90 = .ok (.iload_n 1, 1) := by decide +kernel
theorem ww201_90 {d : Nat} {l0 l2 : Option mw_V} {x : Int} {st : List mw_V} {σ : mw_S} {Q : Option mw_V → mw_S → Prop} : mw_WP d 201 90 [l0, some (jI x), l2] st σ Q ↔ mw_WP d 201 91 [l0, some (jI x), l2] (jI x :: st) σ Q := WP_iload_n mq201 dd201_90 rfl
theorem dd201_91 : decode cX12_person 91 = .ok (.iadd, 1) := by decide +kernel
theorem ww201_91 {d : Nat} {l0 l1 l2 : Option mw_V} {x y : Int} {st : List mw_V} {σ : mw_S} {Q : Option mw_V → mw_S → Prop} : mw_WP d 201 91 [l0, l1, l2] (jI y :: jI x :: st) σ Q ↔ mw_WP d 201 92 [l0, l1, l2] (jI (w32 (x + y)) :: st) σ Q := WP_iadd mq201 dd201_91
theorem dd201_92 : decode cX12_person 92 = .ok (.iaload, 1) := by decide +kernel
theorem ww201_92 {d : Nat} {l0 l1 l2 : Option mw_V} {z : Int} {a : Nat} {st : List mw_V} {σ : mw_S} {Q : Option mw_V → mw_S → Prop} : mw_WP d 201 92 [l0, l1, l2] (jI z :: jR a :: st) σ Q ↔ ((0 ≤ z ∧ z < mw_lenI a) ∧ mw_WP d 201 93 [l0, l1, l2] (jI (mw_rdI σ a z.toNat) :: st) σ Q) := WP_iaload mq201 dd201_92
theorem dd201_93 : decode cX12_person 93 = .ok (.ireturn, 1) := by decide +kernel
theorem ww201_93 {d : Nat} {l0 l1 l2 : Option mw_V} {z : Int} {σ : mw_S} {Q : Option mw_V → mw_S → Prop} : mw_WP d 201 93 [l0, l1, l2] [jI z] σ Q ↔ Q (some (jI z)) σ := WP_ireturn (ty := .int) mq201 dd201_93 rfl rfl
theorem dd201_94 : decode cX12_person 94 = .ok (.aload_n 0, 1) := by decide +kernel
theorem ww201_94 {d : Nat} {l1 l2 : Option mw_V} {x : Nat} {st : List mw_V} {σ : mw_S} {Q : Option mw_V → mw_S → Prop} : mw_WP d 201 94 [some (jR x), l1, l2] st σ Q ↔ mw_WP d 201 95 [some (jR x), l1, l2] (jR x :: st) σ Q := WP_aload_n mq201 dd201_94 rfl
theorem dd201_95 : decode cX12_person 95 = .ok (.getfield 13, 3) := by decide +kernel
theorem ww201_95 {d : Nat} {l0 l1 l2 : Option mw_V} {st : List mw_V} {σ : mw_S} {Q : Option mw_V → mw_S → Prop} : mw_WP d 201 95 [l0, l1, l2] (jR 100 :: st) σ Q ↔ mw_WP d 201 98 [l0, l1, l2] (jR 101 :: st) σ Q := WP_getR (ci := 11) (k := 1) mq201 dd201_95 (by decide) rfl
theorem dd201_98 : decode cX12_person 98 = .ok (.bipush 79, 2) := by decide +kernel
theorem ww201_98 {d : Nat} {l0 l1 l2 : Option mw_V} {st : List mw_V} {σ : mw_S} {Q : Option mw_V → mw_S → Prop} : mw_WP d 201 98 [l0, l1, l2] st σ Q ↔ mw_WP d 201 100 [l0, l1, l2] (jI (79) :: st) σ Q := WP_bipush mq201 dd201_98 (by decide)
theorem dd201_100 : decode cX12_person 100 = .ok (.iload_n 1, 1) := by decide +kernel
theorem ww201_100 {d : Nat} {l0 l2 : Option mw_V} {x : Int} {st : List mw_V} {σ : mw_S} {Q : Option mw_V → mw_S → Prop} : mw_WP d 201 100 [l0, some (jI x), l2] st σ Q ↔ mw_WP d 201 101 [l0, some (jI x), l2] (jI x :: st) σ Q := WP_iload_n mq201 dd201_100 rfl
theorem dd201_101 : decode cX12_person 101 = .ok (.iadd, 1) := by decide +kernel
theorem ww201_101 {d : Nat} {l0 l1 l2 : Option mw_V} {x y : Int} {st : List mw_V} {σ : mw_S} {Q : Option mw_V → mw_S → Prop} : mw_WP d 201 101 [l0, l1, l2] (jI y :: jI x :: st) σ Q ↔ mw_WP d 201 102 [l0, l1, l2] (jI (w32 (x + y)) :: st) σ Q := WP_iadd mq201 dd201_101
theorem dd201_102 : decode cX12_person 102 = .ok (.iaload, 1) := by decide +kernel
theorem ww201_102 {d : Nat} {l0 l1 l2 : Option mw_V} {z : Int} {a : Nat} {st : List mw_V} {σ : mw_S} {Q : Option mw_V → mw_S → Prop} : mw_WP d 201 102 [l0, l1, l2] (jI z :: jR a :: st) σ Q ↔ ((0 ≤ z ∧ z < mw_lenI a) ∧ mw_WP d 201 103 [l0, l1, l2] (jI (mw_rdI σ a z.toNat) :: st) σ Q) := WP_iaload mq201 dd201_102
theorem dd201_103 : decode cX12_person 103 = .ok (.ireturn, 1) := by decide +kernel
theorem ww201_103 {d : Nat} {l0 l1 l2 : Option mw_V} {z : Int} {σ : mw_S} {Q : Option mw_V → mw_S → Prop} : mw_WP d 201 103 [l0, l1, l2] [jI z] σ Q ↔ Q (some (jI z)) σ := WP_ireturn (ty := .int) mq201 dd201_103 rfl rfl
theorem dd201_104 : decode cX12_person 104 = .ok (.bipush (-2), 2) := by decide +kernel
theorem ww201_104 {d : Nat} {l0 l1 l2 : Option mw_V} {st : List mw_V} {σ : mw_S} {Q : Option mw_V → mw_S → Prop} : mw_WP d 201 104 [l0, l1, l2] st σ Q ↔ mw_WP d 201 106 [l0, l1, l2] (jI (-2) :: st) σ Q := WP_bipush mq201 dd201_104 (by decide)
theorem dd201_106 : decode cX12_person 106 = .ok (.ireturn, 1) := by decide +kernel
theorem ww201_106 {d : Nat} {l0 l1 l2 : Option mw_V} {z : Int} {σ : mw_S} {Q : Option mw_V → mw_S → Prop} : mw_WP d 201 106 [l0, l1, l2] [jI z] σ Q ↔ Q (some (jI z)) σ := WP_ireturn (ty := .int) mq201 dd201_106 rfl rfl
theorem ee202 {d : Nat} {a : Nat} {z0 : Int} {z1 : Int} {σ : mw_S} {Q : Option mw_V → mw_S → Prop} : mw_Call (d + 1) 202 [jR a, jI z0, jI z1] σ Q ↔ mw_WP d 202 0 [some (jR a), some (jI z0), some (jI z1)] [] σ Q := CL_u mq202 (Nat.le_of_ble_eq_true rfl) rfl
theorem dd202_0 : decode cX12_copy 0 = .ok (.aload_n 0, 1) := by decide +kernel
theorem ww202_0 {d : Nat} {l1 l2 : Option mw_V} {x : Nat} {st : List mw_V} {σ : mw_S} {Q : Option mw_V → mw_S → Prop} : mw_WP d 202 0 [some (jR x), l1, l2] st σ Q ↔ mw_WP d 202 1 [some (jR x), l1, l2] (jR x :: st) σ Q := WP_aload_n mq202 dd202_0 rfl
theorem dd202_1 : decode cX12_copy 1 = .ok (.iconst 0, 1) := by decide +kernel
theorem ww202_1 {d : Nat} {l0 l1 l2 : Option mw_V} {st : List mw_V} {σ : mw_S} {Q : Option mw_V → mw_S → Prop} : mw_WP d 202 1 [l0, l1, l2] st σ Q ↔ mw_WP d 202 2 [l0, l1, l2] (jI (0) :: st) σ Q := WP_iconst mq202 dd202_1 (by decide)
theorem dd202_2 : decode cX12_copy 2 = .ok (.putfield 1, 3) := by decide +kernel
theorem ww202_2 {d : Nat} {l0 l1 l2 : Option mw_V} {v : Int} {st : List mw_V} {σ : mw_S} {Q : Option mw_V → mw_S → Prop} : mw_WP d 202 2 [l0, l1, l2] (jI v :: jR 100 :: st) σ Q ↔ mw_WP d 202 5 [l0, l1, l2] st (upS σ 100 0 v) Q := WP_putI (ci := 11) (k := 0) mq202 dd202_2 (by decide) rfl
theorem dd202_5 : decode cX12_copy 5 = .ok (.aload_n 0, 1) := by decide +kernel
theorem ww202_5 {d : Nat} {l1 l2 : Option mw_V} {x : Nat} {st : List mw_V} {σ : mw_S} {Q : Option mw_V → mw_S → Prop} : mw_WP d 202 5 [some (jR x), l1, l2] st σ Q ↔ mw_WP d 202 6 [some (jR x), l1, l2] (jR x :: st) σ Q := WP_aload_n mq202 dd202_5 rfl
theorem dd202_6 : decode cX12_copy 6 = .ok (.iload_n 1, 1) := by decide +kernel
theorem ww202_6 {d : Nat} {l0 l2 : Option mw_V} {x : Int} {st : List mw_V} {σ : mw_S} {Q : Option mw_V → mw_S → Prop} : mw_WP d 202 6 [l0, some (jI x), l2] st σ Q ↔ mw_WP d 202 7 [l0, some (jI x), l2] (jI x :: st) σ Q := WP_iload_n mq202 dd202_6 rfl
theorem dd202_7 : decode cX12_copy 7 = .ok (.invokevirtual 222, 3) := by decide +kernel
theorem ww202_7 {d : Nat} {l0 l1 l2 : Option mw_V} {v0 : mw_V} {a : Nat} {st : List mw_V} {σ : mw_S} {Q : Option mw_V → mw_S → Prop} (hr : mw_rc a = 12) (h8 : (st.map mw_cat).sum ≤ 8) : mw_WP d 202 7 [l0, l1, l2] (v0 :: jR a :: st) σ Q ↔ mw_Call d 196 [jR a, v0] σ (fun r1 s1 => mw_WP d 202 10 [l0, l1, l2] (r1.toList ++ st) s1 Q) := WP_inv (as := [v0]) mq202 dd202_7 (by decide) mq196 rfl hr h8
theorem dd202_10 : decode cX12_copy 10 = .ok (.ifCond .ne 6, 3) := by decide +kernel
theorem ww202_10 {d : Nat} {l0 l1 l2 : Option mw_V} {x : Int} {st : List mw_V} {σ : mw_S} {Q : Option mw_V → mw_S → Prop} : mw_WP d 202 10 [l0, l1, l2] (jI x :: st) σ Q ↔ (if ¬ x = 0 then mw_WP d 202 16 [l0, l1, l2] st σ Q else mw_WP d 202 13 [l0, l1, l2] st σ Q) := WP_if_ne mq202 dd202_10 (by decide)
theorem dd202_13 : decode cX12_copy 13 = .ok (.bipush (-2), 2) := by decide +kernel
theorem ww202_13 {d : Nat} {l0 l1 l2 : Option mw_V} {st : List mw_V} {σ : mw_S} {Q : Option mw_V → mw_S → Prop} : mw_WP d 202 13 [l0, l1, l2] st σ Q ↔ mw_WP d 202 15 [l0, l1, l2] (jI (-2) :: st) σ Q := WP_bipush mq202 dd202_13 (by decide)
theorem dd202_15 : decode cX12_copy 15 = .ok (.ireturn, 1) := by decide +kernel
theorem ww202_15 {d : Nat} {l0 l1 l2 : Option mw_V} {z : Int} {σ : mw_S} {Q : Option mw_V → mw_S → Prop} : mw_WP d 202 15 [l0, l1, l2] [jI z] σ Q ↔ Q (some (jI z)) σ := WP_ireturn (ty := .int) mq202 dd202_15 rfl rfl
theorem dd202_16 : decode cX12_copy 16 = .ok (.iload_n 2, 1) := by decide +kernel
theorem ww202_16 {d : Nat} {l0 l1 : Option mw_V} {x : Int} {st : List mw_V} {σ : mw_S} {Q : Option mw_V → mw_S → Prop} : mw_WP d 202 16 [l0, l1, some (jI x)] st σ Q ↔ mw_WP d 202 17 [l0, l1, some (jI x)] (jI x :: st) σ Q := WP_iload_n mq202 dd202_16 rfl
theorem dd202_17 : decode cX12_copy 17 = .ok (.tableswitch 91 0 5 #[39, 47, 57, 57, 71, 81], 39) := by decide +kernel
theorem ww202_17k0 {d : Nat} {l0 l1 l2 : Option mw_V} {st : List mw_V} {σ : mw_S} {Q : Option mw_V → mw_S → Prop} : mw_WP d 202 17 [l0, l1, l2] (jI (0) :: st) σ Q ↔ mw_WP d 202 56 [l0, l1, l2] st σ Q := WP_k mq202 dd202_17 rfl (fun _ _ => by simp [mw_stp, mw_b1, mw_go])
theorem ww202_17k1 {d : Nat} {l0 l1 l2 : Option mw_V} {st : List mw_V} {σ : mw_S} {Q : Option mw_V → mw_S → Prop} : mw_WP d 202 17 [l0, l1, l2] (jI (1) :: st) σ Q ↔ mw_WP d 202 64 [l0, l1, l2] st σ Q := WP_k mq202 dd202_17 rfl (fun _ _ => by simp [mw_stp, mw_b1, mw_go])
theorem ww202_17k2 {d : Nat} {l0 l1 l2 : Option mw_V} {st : List mw_V} {σ : mw_S} {Q : Option mw_V → mw_S → Prop} : mw_WP d 202 17 [l0, l1, l2] (jI (2) :: st) σ Q ↔ mw_WP d 202 74 [l0, l1, l2] st σ Q := WP_k mq202 dd202_17 rfl (fun _ _ => by simp [mw_stp, mw_b1, mw_go])
theorem ww202_17k3 {d : Nat} {l0 l1 l2 : Option mw_V} {st : List mw_V} {σ : mw_S} {Q : Option mw_V → mw_S → Prop} : mw_WP d 202 17 [l0, l1, l2] (jI (3) :: st) σ Q ↔ mw_WP d 202 74 [l0, l1, l2] st σ Q := WP_k mq202 dd202_17 rfl (fun _ _ => by simp [mw_stp, mw_b1, mw_go])
theorem ww202_17k4 {d : Nat} {l0 l1 l2 : Option mw_V} {st : List mw_V} {σ : mw_S} {Q : Option mw_V → mw_S → Prop} : mw_WP d 202 17 [l0, l1, l2] (jI (4) :: st) σ Q ↔ mw_WP d 202 88 [l0, l1, l2] st σ Q := WP_k mq202 dd202_17 rfl (fun _ _ => by simp [mw_stp, mw_b1, mw_go])
theorem ww202_17k5 {d : Nat} {l0 l1 l2 : Option mw_V} {st : List mw_V} {σ : mw_S} {Q : Option mw_V → mw_S → Prop} : mw_WP d 202 17 [l0, l1, l2] (jI (5) :: st) σ Q ↔ mw_WP d 202 98 [l0, l1, l2] st σ Q := WP_k mq202 dd202_17 rfl (fun _ _ => by simp [mw_stp, mw_b1, mw_go])
theorem ww202_17kd {d : Nat} {l0 l1 l2 : Option mw_V} {x : Int} {st : List mw_V} {σ : mw_S} {Q : Option mw_V → mw_S → Prop} (h : x < 0 ∨ 5 < x) : mw_WP d 202 17 [l0, l1, l2] (jI x :: st) σ Q ↔ mw_WP d 202 108 [l0, l1, l2] st σ Q := WP_k mq202 dd202_17 rfl (fun _ _ => by simp [mw_stp, mw_b1, mw_go, h])
theorem dd202_56 : decode cX12_copy 56 = .ok (.aload_n 0, 1) := by decide +kernel
theorem ww202_56 {d : Nat} {l1 l2 : Option mw_V} {x : Nat} {st : List mw_V} {σ : mw_S} {Q : Option mw_V → mw_S → Prop} : mw_WP d 202 56 [some (jR x), l1, l2] st σ Q ↔ mw_WP d 202 57 [some (jR x), l1, l2] (jR x :: st) σ Q := WP_aload_n mq202 dd202_56 rfl
theorem dd202_57 : decode cX12_copy 57 = .ok (.iload_n 1, 1) := by decide +kernel
theorem ww202_57 {d : Nat} {l0 l2 : Option mw_V} {x : Int} {st : List mw_V} {σ : mw_S} {Q : Option mw_V → mw_S → Prop} : mw_WP d 202 57 [l0, some (jI x), l2] st σ Q ↔ mw_WP d 202 58 [l0, some (jI x), l2] (jI x :: st) σ Q := WP_iload_n mq202 dd202_57 rfl
theorem dd202_58 : decode cX12_copy 58 = .ok (.iconst 3, 1) := by decide +kernel
theorem ww202_58 {d : Nat} {l0 l1 l2 : Option mw_V} {st : List mw_V} {σ : mw_S} {Q : Option mw_V → mw_S → Prop} : mw_WP d 202 58 [l0, l1, l2] st σ Q ↔ mw_WP d 202 59 [l0, l1, l2] (jI (3) :: st) σ Q := WP_iconst mq202 dd202_58 (by decide)
theorem dd202_59 : decode cX12_copy 59 = .ok (.iadd, 1) := by decide +kernel
theorem ww202_59 {d : Nat} {l0 l1 l2 : Option mw_V} {x y : Int} {st : List mw_V} {σ : mw_S} {Q : Option mw_V → mw_S → Prop} : mw_WP d 202 59 [l0, l1, l2] (jI y :: jI x :: st) σ Q ↔ mw_WP d 202 60 [l0, l1, l2] (jI (w32 (x + y)) :: st) σ Q := WP_iadd mq202 dd202_59
theorem dd202_60 : decode cX12_copy 60 = .ok (.invokevirtual 216, 3) := by decide +kernel
theorem ww202_60 {d : Nat} {l0 l1 l2 : Option mw_V} {v0 : mw_V} {a : Nat} {st : List mw_V} {σ : mw_S} {Q : Option mw_V → mw_S → Prop} (hr : mw_rc a = 12) (h8 : (st.map mw_cat).sum ≤ 8) : mw_WP d 202 60 [l0, l1, l2] (v0 :: jR a :: st) σ Q ↔ mw_Call d 197 [jR a, v0] σ (fun r1 s1 => mw_WP d 202 63 [l0, l1, l2] (r1.toList ++ st) s1 Q) := WP_inv (as := [v0]) mq202 dd202_60 (by decide) mq197 rfl hr h8
theorem dd202_63 : decode cX12_copy 63 = .ok (.ireturn, 1) := by decide +kernel
theorem ww202_63 {d : Nat} {l0 l1 l2 : Option mw_V} {z : Int} {σ : mw_S} {Q : Option mw_V → mw_S → Prop} : mw_WP d 202 63 [l0, l1, l2] [jI z] σ Q ↔ Q (some (jI z)) σ := WP_ireturn (ty := .int) mq202 dd202_63 rfl rfl
theorem dd202_64 : decode cX12_copy 64 = .ok (.aload_n 0, 1) := by decide +kernel
theorem ww202_64 {d : Nat} {l1 l2 : Option mw_V} {x : Nat} {st : List mw_V} {σ : mw_S} {Q : Option mw_V → mw_S → Prop} : mw_WP d 202 64 [some (jR x), l1, l2] st σ Q ↔ mw_WP d 202 65 [some (jR x), l1, l2] (jR x :: st) σ Q := WP_aload_n mq202 dd202_64 rfl
theorem dd202_65 : decode cX12_copy 65 = .ok (.getfield 13, 3) := by decide +kernel
theorem ww202_65 {d : Nat} {l0 l1 l2 : Option mw_V} {st : List mw_V} {σ : mw_S} {Q : Option mw_V → mw_S → Prop} : mw_WP d 202 65 [l0, l1, l2] (jR 100 :: st) σ Q ↔ mw_WP d 202 68 [l0, l1, l2] (jR 101 :: st) σ Q := WP_getR (ci := 11) (k := 1) mq202 dd202_65 (by decide) rfl
theorem dd202_68 : decode cX12_copy 68 = .ok (.bipush 47, 2) := by decide +kernel
theorem ww202_68 {d : Nat} {l0 l1 l2 : Option mw_V} {st : List mw_V} {σ : mw_S} {Q : Option mw_V → mw_S → Prop} : mw_WP d 202 68 [l0, l1, l2] st σ Q ↔ mw_WP d 202 70 [l0, l1, l2] (jI (47) :: st) σ Q := WP_bipush mq202 dd202_68 (by decide)
theorem dd202_70 : decode cX12_copy 70 = .ok (.iload_n 1, 1) := by decide +kernel
theorem ww202_70 {d : Nat} {l0 l2 : Option mw_V} {x : Int} {st : List mw_V} {σ : mw_S} {Q : Option mw_V → mw_S → Prop} : mw_WP d 202 70 [l0, some (jI x), l2] st σ Q ↔ mw_WP d 202 71 [l0, some (jI x), l2] (jI x :: st) σ Q := WP_iload_n mq202 dd202_70 rfl
theorem dd202_71 : decode cX12_copy 71 = .ok (.iadd, 1) := by decide +kernel
theorem ww202_71 {d : Nat} {l0 l1 l2 : Option mw_V} {x y : Int} {st : List mw_V} {σ : mw_S} {Q : Option mw_V → mw_S → Prop} : mw_WP d 202 71 [l0, l1, l2] (jI y :: jI x :: st) σ Q ↔ mw_WP d 202 72 [l0, l1, l2] (jI (w32 (x + y)) :: st) σ Q := WP_iadd mq202 dd202_71
theorem dd202_72 : decode cX12_copy 72 = .ok (.iaload, 1) := by decide +kernel
theorem ww202_72 {d : Nat} {l0 l1 l2 : Option mw_V} {z : Int} {a : Nat} {st : List mw_V} {σ : mw_S} {Q : Option mw_V → mw_S → Prop} : mw_WP d 202 72 [l0, l1, l2] (jI z :: jR a :: st) σ Q ↔ ((0 ≤ z ∧ z < mw_lenI a) ∧ mw_WP d 202 73 [l0, l1, l2] (jI (mw_rdI σ a z.toNat) :: st) σ Q) := WP_iaload mq202 dd202_72
theorem dd202_73 : decode cX12_copy 73 = .ok (.ireturn, 1) := by decide +kernel
theorem ww202_73 {d : Nat} {l0 l1 l2 : Option mw_V} {z : Int} {σ : mw_S} {Q : Option mw_V → mw_S → Prop} : mw_WP d 202 73 [l0, l1, l2] [jI z] σ Q ↔ Q (some (jI z)) σ := WP_ireturn (ty := .int) mq202 dd202_73 rfl rfl
theorem dd202_74 : decode cX12_copy 74 = .ok (.aload_n 0, 1) := by decide +kernel
theorem ww202_74 {d : Nat} {l1 l2 : Option mw_V} {x : Nat} {st : List mw_V} {σ : mw_S} {Q : Option mw_V → mw_S → Prop} : mw_WP d 202 74 [some (jR x), l1, l2] st σ Q ↔ mw_WP d 202 75 [some (jR x), l1, l2] (jR x :: st) σ Q := WP_aload_n mq202 dd202_74 rfl
theorem dd202_75 : decode cX12_copy 75 = .ok (.iload_n 1, 1) := by decide +kernel
theorem ww202_75 {d : Nat} {l0 l2 : Option mw_V} {x : Int} {st : List mw_V} {σ : mw_S} {Q : Option mw_V → mw_S → Prop} : mw_WP d 202 75 [l0, some (jI x), l2] st σ Q ↔ mw_WP d 202 76 [l0, some (jI x), l2] (jI x :: st) σ Q := WP_iload_n mq202 dd202_75 rfl
theorem dd202_76 : decode cX12_copy 76 = .ok (.iconst 3, 1) := by decide +kernel
theorem ww202_76 {d : Nat} {l0 l1 l2 : Option mw_V} {st : List mw_V} {σ : mw_S} {Q : Option mw_V → mw_S → Prop} : mw_WP d 202 76 [l0, l1, l2] st σ Q ↔ mw_WP d 202 77 [l0, l1, l2] (jI (3) :: st) σ Q := WP_iconst mq202 dd202_76 (by decide)
theorem dd202_77 : decode cX12_copy 77 = .ok (.iadd, 1) := by decide +kernel
theorem ww202_77 {d : Nat} {l0 l1 l2 : Option mw_V} {x y : Int} {st : List mw_V} {σ : mw_S} {Q : Option mw_V → mw_S → Prop} : mw_WP d 202 77 [l0, l1, l2] (jI y :: jI x :: st) σ Q ↔ mw_WP d 202 78 [l0, l1, l2] (jI (w32 (x + y)) :: st) σ Q := WP_iadd mq202 dd202_77
theorem dd202_78 : decode cX12_copy 78 = .ok (.iload_n 2, 1) := by decide +kernel
theorem ww202_78 {d : Nat} {l0 l1 : Option mw_V} {x : Int} {st : List mw_V} {σ : mw_S} {Q : Option mw_V → mw_S → Prop} : mw_WP d 202 78 [l0, l1, some (jI x)] st σ Q ↔ mw_WP d 202 79 [l0, l1, some (jI x)] (jI x :: st) σ Q := WP_iload_n mq202 dd202_78 rfl
theorem dd202_79 : decode cX12_copy 79 = .ok (.iconst 2, 1) := by decide +kernel
theorem ww202_79 {d : Nat} {l0 l1 l2 : Option mw_V} {st : List mw_V} {σ : mw_S} {Q : Option mw_V → mw_S → Prop} : mw_WP d 202 79 [l0, l1, l2] st σ Q ↔ mw_WP d 202 80 [l0, l1, l2] (jI (2) :: st) σ Q := WP_iconst mq202 dd202_79 (by decide)
theorem dd202_80 : decode cX12_copy 80 = .ok (.isub, 1) := by decide +kernel
theorem ww202_80 {d : Nat} {l0 l1 l2 : Option mw_V} {x y : Int} {st : List mw_V} {σ : mw_S} {Q : Option mw_V → mw_S → Prop} : mw_WP d 202 80 [l0, l1, l2] (jI y :: jI x :: st) σ Q ↔ mw_WP d 202 81 [l0, l1, l2] (jI (w32 (x - y)) :: st) σ Q := WP_isub mq202 dd202_80
theorem dd202_81 : decode cX12_copy 81 = .ok (.invokestatic 225, 3) := by decide +kernel
theorem ww202_81 {d : Nat} {l0 l1 l2 : Option mw_V} {v0 v1 : mw_V} {st : List mw_V} {σ : mw_S} {Q : Option mw_V → mw_S → Prop} (h8 : (st.map mw_cat).sum ≤ 8) : mw_WP d 202 81 [l0, l1, l2] (v1 :: v0 :: st) σ Q ↔ mw_Call d 198 [v0, v1] σ (fun r1 s1 => mw_WP d 202 84 [l0, l1, l2] (r1.toList ++ st) s1 Q) := WP_invs (as := [v1, v0]) mq202 dd202_81 (by decide) mq198 rfl rfl h8
theorem dd202_84 : decode cX12_copy 84 = .ok (.invokevirtual 219, 3) := by decide +kernel
theorem ww202_84 {d : Nat} {l0 l1 l2 : Option mw_V} {v0 : mw_V} {a : Nat} {st : List mw_V} {σ : mw_S} {Q : Option mw_V → mw_S → Prop} (hr : mw_rc a = 12) (h8 : (st.map mw_cat).sum ≤ 8) : mw_WP d 202 84 [l0, l1, l2] (v0 :: jR a :: st) σ Q ↔ mw_Call d 199 [jR a, v0] σ (fun r1 s1 => mw_WP d 202 87 [l0, l1, l2] (r1.toList ++ st) s1 Q) := WP_inv (as := [v0]) mq202 dd202_84 (by decide) mq199 rfl hr h8
theorem dd202_87 : decode cX12_copy 87 = .ok (.ireturn, 1) := by decide +kernel
theorem ww202_87 {d : Nat} {l0 l1 l2 : Option mw_V} {z : Int} {σ : mw_S} {Q : Option mw_V → mw_S → Prop} : mw_WP d 202 87 [l0, l1, l2] [jI z] σ Q ↔ Q (some (jI z)) σ := WP_ireturn (ty := .int) mq202 dd202_87 rfl rfl
theorem dd202_88 : decode cX12_copy 88 = .ok (.aload_n 0, 1) := by decide +kernel
theorem ww202_88 {d : Nat} {l1 l2 : Option mw_V} {x : Nat} {st : List mw_V} {σ : mw_S} {Q : Option mw_V → mw_S → Prop} : mw_WP d 202 88 [some (jR x), l1, l2] st σ Q ↔ mw_WP d 202 89 [some (jR x), l1, l2] (jR x :: st) σ Q := WP_aload_n mq202 dd202_88 rfl
theorem dd202_89 : decode cX12_copy 89 = .ok (.getfield 13, 3) := by decide +kernel
theorem ww202_89 {d : Nat} {l0 l1 l2 : Option mw_V} {st : List mw_V} {σ : mw_S} {Q : Option mw_V → mw_S → Prop} : mw_WP d 202 89 [l0, l1, l2] (jR 100 :: st) σ Q ↔ mw_WP d 202 92 [l0, l1, l2] (jR 101 :: st) σ Q := WP_getR (ci := 11) (k := 1) mq202 dd202_89 (by decide) rfl
theorem dd202_92 : decode cX12_copy 92 = .ok (.bipush 82, 2) := by decide +kernel
theorem ww202_92 {d : Nat} {l0 l1 l2 : Option mw_V} {st : List mw_V} {σ : mw_S} {Q : Option mw_V → mw_S → Prop} : mw_WP d 202 92 [l0, l1, l2] st σ Q ↔ mw_WP d 202 94 [l0, l1, l2] (jI (82) :: st) σ Q := WP_bipush mq202 dd202_92 (by decide)
theorem dd202_94 : decode cX12_copy 94 = .ok (.iload_n 1, 1) := by decide +kernel
theorem ww202_94 {d : Nat} {l0 l2 : Option mw_V} {x : Int} {st : List mw_V} {σ : mw_S} {Q : Option mw_V → mw_S → Prop} : mw_WP d 202 94 [l0, some (jI x), l2] st σ Q ↔ mw_WP d 202 95 [l0, some (jI x), l2] (jI x :: st) σ Q := WP_iload_n mq202 dd202_94 rfl
theorem dd202_95 : decode cX12_copy 95 = .ok (.iadd, 1) := by decide +kernel
theorem ww202_95 {d : Nat} {l0 l1 l2 : Option mw_V} {x y : Int} {st : List mw_V} {σ : mw_S} {Q : Option mw_V → mw_S → Prop} : mw_WP d 202 95 [l0, l1, l2] (jI y :: jI x :: st) σ Q ↔ mw_WP d 202 96 [l0, l1, l2] (jI (w32 (x + y)) :: st) σ Q := WP_iadd mq202 dd202_95
theorem dd202_96 : decode cX12_copy 96 = .ok (.iaload, 1) := by decide +kernel
theorem ww202_96 {d : Nat} {l0 l1 l2 : Option mw_V} {z : Int} {a : Nat} {st : List mw_V} {σ : mw_S} {Q : Option mw_V → mw_S → Prop} : mw_WP d 202 96 [l0, l1, l2] (jI z :: jR a :: st) σ Q ↔ ((0 ≤ z ∧ z < mw_lenI a) ∧ mw_WP d 202 97 [l0, l1, l2] (jI (mw_rdI σ a z.toNat) :: st) σ Q) := WP_iaload mq202 dd202_96
theorem dd202_97 : decode cX12_copy 97 = .ok (.ireturn, 1) := by decide +kernel
theorem ww202_97 {d : Nat} {l0 l1 l2 : Option mw_V} {z : Int} {σ : mw_S} {Q : Option mw_V → mw_S → Prop} : mw_WP d 202 97 [l0, l1, l2] [jI z] σ Q ↔ Q (some (jI z)) σ := WP_ireturn (ty := .int) mq202 dd202_97 rfl rfl
theorem dd202_98 : decode cX12_copy 98 = .ok (.aload_n 0, 1) := by decide +kernel
theorem ww202_98 {d : Nat} {l1 l2 : Option mw_V} {x : Nat} {st : List mw_V} {σ : mw_S} {Q : Option mw_V → mw_S → Prop} : mw_WP d 202 98 [some (jR x), l1, l2] st σ Q ↔ mw_WP d 202 99 [some (jR x), l1, l2] (jR x :: st) σ Q := WP_aload_n mq202 dd202_98 rfl
theorem dd202_99 : decode cX12_copy 99 = .ok (.getfield 13, 3) := by decide +kernel
theorem ww202_99 {d : Nat} {l0 l1 l2 : Option mw_V} {st : List mw_V} {σ : mw_S} {Q : Option mw_V → mw_S → Prop} : mw_WP d 202 99 [l0, l1, l2] (jR 100 :: st) σ Q ↔ mw_WP d 202 102 [l0, l1, l2] (jR 101 :: st) σ Q := WP_getR (ci := 11) (k := 1) mq202 dd202_99 (by decide) rfl
theorem dd202_102 : decode cX12_copy 102 = .ok (.bipush 85, 2) := by decide +kernel
theorem ww202_102 {d : Nat} {l0 l1 l2 : Option mw_V} {st : List mw_V} {σ : mw_S} {Q : Option mw_V → mw_S → Prop} : mw_WP d 202 102 [l0, l1, l2] st σ Q ↔ mw_WP d 202 104 [l0, l1, l2] (jI (85) :: st) σ Q := WP_bipush mq202 dd202_102 (by decide)
theorem dd202_104 : decode cX12_copy 104 = .ok (.iload_n 1, 1) := by decide +kernel
theorem ww202_104 {d : Nat} {l0 l2 : Option mw_V} {x : Int} {st : List mw_V} {σ : mw_S} {Q : Option mw_V → mw_S → Prop} : mw_WP d 202 104 [l0, some (jI x), l2] st σ Q ↔ mw_WP d 202 105 [l0, some (jI x), l2] (jI x :: st) σ Q := WP_iload_n mq202 dd202_104 rfl
theorem dd202_105 : decode cX12_copy 105 = .ok (.iadd, 1) := by decide +kernel
theorem ww202_105 {d : Nat} {l0 l1 l2 : Option mw_V} {x y : Int} {st : List mw_V} {σ : mw_S} {Q : Option mw_V → mw_S → Prop} : mw_WP d 202 105 [l0, l1, l2] (jI y :: jI x :: st) σ Q ↔ mw_WP d 202 106 [l0, l1, l2] (jI (w32 (x + y)) :: st) σ Q := WP_iadd mq202 dd202_105
theorem dd202_106 : decode cX12_copy 106 = .ok (.iaload, 1) := by decide +kernel
theorem ww202_106 {d : Nat} {l0 l1 l2 : Option mw_V} {z : Int} {a : Nat} {st : List mw_V} {σ : mw_S} {Q : Option mw_V → mw_S → Prop} : mw_WP d 202 106 [l0, l1, l2] (jI z :: jR a :: st) σ Q ↔ ((0 ≤ z ∧ z < mw_lenI a) ∧ mw_WP d 202 107 [l0, l1, l2] (jI (mw_rdI σ a z.toNat) :: st) σ Q) := WP_iaload mq202 dd202_106
theorem dd202_107 : decode cX12_copy 107 = .ok (.ireturn, 1) := by decide +kernel
theorem ww202_107 {d : Nat} {l0 l1 l2 : Option mw_V} {z : Int} {σ : mw_S} {Q : Option mw_V → mw_S → Prop} : mw_WP d 202 107 [l0, l1, l2] [jI z] σ Q ↔ Q (some (jI z)) σ := WP_ireturn (ty := .int) mq202 dd202_107 rfl rfl
theorem dd202_108 : decode cX12_copy 108 = .ok (.bipush (-2), 2) := by decide +kernel
theorem ww202_108 {d : Nat} {l0 l1 l2 : Option mw_V} {st : List mw_V} {σ : mw_S} {Q : Option mw_V → mw_S → Prop} : mw_WP d 202 108 [l0, l1, l2] st σ Q ↔ mw_WP d 202 110 [l0, l1, l2] (jI (-2) :: st) σ Q := WP_bipush mq202 dd202_108 (by decide)
theorem dd202_110 : decode cX12_copy 110 = .ok (.ireturn, 1) := by decide +kernel
theorem ww202_110 {d : Nat} {l0 l1 l2 : Option mw_V} {z : Int} {σ : mw_S} {Q : Option mw_V → mw_S → Prop} : mw_WP d 202 110 [l0, l1, l2] [jI z] σ Q ↔ Q (some (jI z)) σ := WP_ireturn (ty := .int) mq202 dd202_110 rfl rfl
theorem ee203 {d : Nat} {a : Nat} {z0 : Int} {σ : mw_S} {Q : Option mw_V → mw_S → Prop} : mw_Call (d + 1) 203 [jR a, jI z0] σ Q ↔ mw_WP d 203 0 [some (jR a), some (jI z0)] [] σ Q := CL_u mq203 (Nat.le_of_ble_eq_true rfl) rfl
theorem dd203_0 : decode cX12_thing 0 = .ok (.aload_n 0, 1) := by decide +kernel
theorem ww203_0 {d : Nat} {l1 : Option mw_V} {x : Nat} {st : List mw_V} {σ : mw_S} {Q : Option mw_V → mw_S → Prop} : mw_WP d 203 0 [some (jR x), l1] st σ Q ↔ mw_WP d 203 1 [some (jR x), l1] (jR x :: st) σ Q := WP_aload_n mq203 dd203_0 rfl
theorem dd203_1 : decode cX12_thing 1 = .ok (.iconst 0, 1) := by decide +kernel
theorem ww203_1 {d : Nat} {l0 l1 : Option mw_V} {st : List mw_V} {σ : mw_S} {Q : Option mw_V → mw_S → Prop} : mw_WP d 203 1 [l0, l1] st σ Q ↔ mw_WP d 203 2 [l0, l1] (jI (0) :: st) σ Q := WP_iconst mq203 dd203_1 (by decide)
theorem dd203_2 : decode cX12_thing 2 = .ok (.putfield 1, 3) := by decide +kernel
theorem ww203_2 {d : Nat} {l0 l1 : Option mw_V} {v : Int} {st : List mw_V} {σ : mw_S} {Q : Option mw_V → mw_S → Prop} : mw_WP d 203 2 [l0, l1] (jI v :: jR 100 :: st) σ Q ↔ mw_WP d 203 5 [l0, l1] st (upS σ 100 0 v) Q := WP_putI (ci := 11) (k := 0) mq203 dd203_2 (by decide) rfl
theorem dd203_5 : decode cX12_thing 5 = .ok (.iload_n 1, 1) := by decide +kernel
theorem ww203_5 {d : Nat} {l0 : Option mw_V} {x : Int} {st : List mw_V} {σ : mw_S} {Q : Option mw_V → mw_S → Prop} : mw_WP d 203 5 [l0, some (jI x)] st σ Q ↔ mw_WP d 203 6 [l0, some (jI x)] (jI x :: st) σ Q := WP_iload_n mq203 dd203_5 rfl
theorem dd203_6 : decode cX12_thing 6 = .ok (.i2l, 1) := by decide +kernel
theorem ww203_6 {d : Nat} {l0 l1 : Option mw_V} {x : Int} {st : List mw_V} {σ : mw_S} {Q : Option mw_V → mw_S → Prop} : mw_WP d 203 6 [l0, l1] (jI x :: st) σ Q ↔ mw_WP d 203 7 [l0, l1] (jL (yL x) :: st) σ Q := WP_i2l mq203 dd203_6
theorem dd203_7 : decode cX12_thing 7 = .ok (.lconst 0, 1) := by decide +kernel
theorem ww203_7 {d : Nat} {l0 l1 : Option mw_V} {st : List mw_V} {σ : mw_S} {Q : Option mw_V → mw_S → Prop} : mw_WP d 203 7 [l0, l1] st σ Q ↔ mw_WP d 203 8 [l0, l1] (jL (0) :: st) σ Q := WP_lconst mq203 dd203_7 (by decide)
theorem dd203_8 : decode cX12_thing 8 = .ok (.aload_n 0, 1) := by decide +kernel
theorem ww203_8 {d : Nat} {l1 : Option mw_V} {x : Nat} {st : List mw_V} {σ : mw_S} {Q : Option mw_V → mw_S → Prop} : mw_WP d 203 8 [some (jR x), l1] st σ Q ↔ mw_WP d 203 9 [some (jR x), l1] (jR x :: st) σ Q := WP_aload_n mq203 dd203_8 rfl
theorem dd203_9 : decode cX12_thing 9 = .ok (.getfield 13, 3) := by decide +kernel
theorem ww203_9 {d : Nat} {l0 l1 : Option mw_V} {st : List mw_V} {σ : mw_S} {Q : Option mw_V → mw_S → Prop} : mw_WP d 203 9 [l0, l1] (jR 100 :: st) σ Q ↔ mw_WP d 203 12 [l0, l1] (jR 101 :: st) σ Q := WP_getR (ci := 11) (k := 1) mq203 dd203_9 (by decide) rfl
theorem dd203_12 : decode cX12_thing 12 = .ok (.iconst 3, 1) := by decide +kernel
theorem ww203_12 {d : Nat} {l0 l1 : Option mw_V} {st : List mw_V} {σ : mw_S} {Q : Option mw_V → mw_S → Prop} : mw_WP d 203 12 [l0, l1] st σ Q ↔ mw_WP d 203 13 [l0, l1] (jI (3) :: st) σ Q := WP_iconst mq203 dd203_12 (by decide)
theorem dd203_13 : decode cX12_thing 13 = .ok (.iaload, 1) := by decide +kernel
theorem ww203_13 {d : Nat} {l0 l1 : Option mw_V} {z : Int} {a : Nat} {st : List mw_V} {σ : mw_S} {Q : Option mw_V → mw_S → Prop} : mw_WP d 203 13 [l0, l1] (jI z :: jR a :: st) σ Q ↔ ((0 ≤ z ∧ z < mw_lenI a) ∧ mw_WP d 203 14 [l0, l1] (jI (mw_rdI σ a z.toNat) :: st) σ Q) := WP_iaload mq203 dd203_13
theorem dd203_14 : decode cX12_thing 14 = .ok (.iconst 1, 1) := by decide +kernel
theorem ww203_14 {d : Nat} {l0 l1 : Option mw_V} {st : List mw_V} {σ : mw_S} {Q : Option mw_V → mw_S → Prop} : mw_WP d 203 14 [l0, l1] st σ Q ↔ mw_WP d 203 15 [l0, l1] (jI (1) :: st) σ Q := WP_iconst mq203 dd203_14 (by decide)
theorem dd203_15 : decode cX12_thing 15 = .ok (.isub, 1) := by decide +kernel
theorem ww203_15 {d : Nat} {l0 l1 : Option mw_V} {x y : Int} {st : List mw_V} {σ : mw_S} {Q : Option mw_V → mw_S → Prop} : mw_WP d 203 15 [l0, l1] (jI y :: jI x :: st) σ Q ↔ mw_WP d 203 16 [l0, l1] (jI (w32 (x - y)) :: st) σ Q := WP_isub mq203 dd203_15
theorem dd203_16 : decode cX12_thing 16 = .ok (.i2l, 1) := by decide +kernel
theorem ww203_16 {d : Nat} {l0 l1 : Option mw_V} {x : Int} {st : List mw_V} {σ : mw_S} {Q : Option mw_V → mw_S → Prop} : mw_WP d 203 16 [l0, l1] (jI x :: st) σ Q ↔ mw_WP d 203 17 [l0, l1] (jL (yL x) :: st) σ Q := WP_i2l mq203 dd203_16
theorem dd203_17 : decode cX12_thing 17 = .ok (.invokestatic 159, 3) := by decide +kernel
theorem ww203_17 {d : Nat} {l0 l1 : Option mw_V} {v0 v1 v2 : mw_V} {st : List mw_V} {σ : mw_S} {Q : Option mw_V → mw_S → Prop} (h8 : (st.map mw_cat).sum ≤ 8) : mw_WP d 203 17 [l0, l1] (v2 :: v1 :: v0 :: st) σ Q ↔ mw_Call d 170 [v0, v1, v2] σ (fun r1 s1 => mw_WP d 203 20 [l0, l1] (r1.toList ++ st) s1 Q) := WP_invs (as := [v2, v1, v0]) mq203 dd203_17 (by decide) mq170 rfl rfl h8
theorem dd203_20 : decode cX12_thing 20 = .ok (.ifCond .eq 15, 3) := by decide +kernel
theorem ww203_20 {d : Nat} {l0 l1 : Option mw_V} {x : Int} {st : List mw_V} {σ : mw_S} {Q : Option mw_V → mw_S → Prop} : mw_WP d 203 20 [l0, l1] (jI x :: st) σ Q ↔ (if x = 0 then mw_WP d 203 35 [l0, l1] st σ Q else mw_WP d 203 23 [l0, l1] st σ Q) := WP_if_eq mq203 dd203_20 (by decide)
theorem dd203_23 : decode cX12_thing 23 = .ok (.aload_n 0, 1) := by decide +kernel
theorem ww203_23 {d : Nat} {l1 : Option mw_V} {x : Nat} {st : List mw_V} {σ : mw_S} {Q : Option mw_V → mw_S → Prop} : mw_WP d 203 23 [some (jR x), l1] st σ Q ↔ mw_WP d 203 24 [some (jR x), l1] (jR x :: st) σ Q := WP_aload_n mq203 dd203_23 rfl
theorem dd203_24 : decode cX12_thing 24 = .ok (.getfield 13, 3) := by decide +kernel
theorem ww203_24 {d : Nat} {l0 l1 : Option mw_V} {st : List mw_V} {σ : mw_S} {Q : Option mw_V → mw_S → Prop} : mw_WP d 203 24 [l0, l1] (jR 100 :: st) σ Q ↔ mw_WP d 203 27 [l0, l1] (jR 101 :: st) σ Q := WP_getR (ci := 11) (k := 1) mq203 dd203_24 (by decide) rfl
theorem dd203_27 : decode cX12_thing 27 = .ok (.bipush 50, 2) := by decide +kernel
theorem ww203_27 {d : Nat} {l0 l1 : Option mw_V} {st : List mw_V} {σ : mw_S} {Q : Option mw_V → mw_S → Prop} : mw_WP d 203 27 [l0, l1] st σ Q ↔ mw_WP d 203 29 [l0, l1] (jI (50) :: st) σ Q := WP_bipush mq203 dd203_27 (by decide)
theorem dd203_29 : decode cX12_thing 29 = .ok (.iload_n 1, 1) := by decide +kernel
theorem ww203_29 {d : Nat} {l0 : Option mw_V} {x : Int} {st : List mw_V} {σ : mw_S} {Q : Option mw_V → mw_S → Prop} : mw_WP d 203 29 [l0, some (jI x)] st σ Q ↔ mw_WP d 203 30 [l0, some (jI x)] (jI x :: st) σ Q := WP_iload_n mq203 dd203_29 rfl
theorem dd203_30 : decode cX12_thing 30 = .ok (.iadd, 1) := by decide +kernel
theorem ww203_30 {d : Nat} {l0 l1 : Option mw_V} {x y : Int} {st : List mw_V} {σ : mw_S} {Q : Option mw_V → mw_S → Prop} : mw_WP d 203 30 [l0, l1] (jI y :: jI x :: st) σ Q ↔ mw_WP d 203 31 [l0, l1] (jI (w32 (x + y)) :: st) σ Q := WP_iadd mq203 dd203_30
theorem dd203_31 : decode cX12_thing 31 = .ok (.iaload, 1) := by decide +kernel
theorem ww203_31 {d : Nat} {l0 l1 : Option mw_V} {z : Int} {a : Nat} {st : List mw_V} {σ : mw_S} {Q : Option mw_V → mw_S → Prop} : mw_WP d 203 31 [l0, l1] (jI z :: jR a :: st) σ Q ↔ ((0 ≤ z ∧ z < mw_lenI a) ∧ mw_WP d 203 32 [l0, l1] (jI (mw_rdI σ a z.toNat) :: st) σ Q) := WP_iaload mq203 dd203_31
theorem dd203_32 : decode cX12_thing 32 = .ok (.goto 5, 3) := by decide +kernel
theorem ww203_32 {d : Nat} {l0 l1 : Option mw_V} {st : List mw_V} {σ : mw_S} {Q : Option mw_V → mw_S → Prop} : mw_WP d 203 32 [l0, l1] st σ Q ↔ mw_WP d 203 37 [l0, l1] st σ Q := WP_goto mq203 dd203_32 (by decide)
theorem dd203_35 : decode cX12_thing 35 = .ok (.bipush (-2), 2) := by decide +kernel
theorem ww203_35 {d : Nat} {l0 l1 : Option mw_V} {st : List mw_V} {σ : mw_S} {Q : Option mw_V → mw_S → Prop} : mw_WP d 203 35 [l0, l1] st σ Q ↔ mw_WP d 203 37 [l0, l1] (jI (-2) :: st) σ Q := WP_bipush mq203 dd203_35 (by decide)
theorem dd203_37 : decode cX12_thing 37 = .ok (.ireturn, 1) := by decide +kernel
theorem ww203_37 {d : Nat} {l0 l1 : Option mw_V} {z : Int} {σ : mw_S} {Q : Option mw_V → mw_S → Prop} : mw_WP d 203 37 [l0, l1] [jI z] σ Q ↔ Q (some (jI z)) σ := WP_ireturn (ty := .int) mq203 dd203_37 rfl rfl
theorem ee204 {d : Nat} {a : Nat} {z0 : Int} {z1 : Int} {σ : mw_S} {Q : Option mw_V → mw_S → Prop} : mw_Call (d + 1) 204 [jR a, jI z0, jI z1] σ Q ↔ mw_WP d 204 0 [some (jR a), some (jI z0), some (jI z1)] [] σ Q := CL_u mq204 (Nat.le_of_ble_eq_true rfl) rfl
theorem dd204_0 : decode cX12_canDo 0 = .ok (.iload_n 2, 1) := by decide +kernel
theorem ww204_0 {d : Nat} {l0 l1 : Option mw_V} {x : Int} {st : List mw_V} {σ : mw_S} {Q : Option mw_V → mw_S → Prop} : mw_WP d 204 0 [l0, l1, some (jI x)] st σ Q ↔ mw_WP d 204 1 [l0, l1, some (jI x)] (jI x :: st) σ Q := WP_iload_n mq204 dd204_0 rfl
theorem dd204_1 : decode cX12_canDo 1 = .ok (.tableswitch 140 0 8 #[51, 53, 88, 110, 110, 140, 140, 53, 53], 51) := by decide +kernel
theorem ww204_1k0 {d : Nat} {l0 l1 l2 : Option mw_V} {st : List mw_V} {σ : mw_S} {Q : Option mw_V → mw_S → Prop} : mw_WP d 204 1 [l0, l1, l2] (jI (0) :: st) σ Q ↔ mw_WP d 204 52 [l0, l1, l2] st σ Q := WP_k mq204 dd204_1 rfl (fun _ _ => by simp [mw_stp, mw_b1, mw_go])
theorem ww204_1k1 {d : Nat} {l0 l1 l2 : Option mw_V} {st : List mw_V} {σ : mw_S} {Q : Option mw_V → mw_S → Prop} : mw_WP d 204 1 [l0, l1, l2] (jI (1) :: st) σ Q ↔ mw_WP d 204 54 [l0, l1, l2] st σ Q := WP_k mq204 dd204_1 rfl (fun _ _ => by simp [mw_stp, mw_b1, mw_go])
theorem ww204_1k2 {d : Nat} {l0 l1 l2 : Option mw_V} {st : List mw_V} {σ : mw_S} {Q : Option mw_V → mw_S → Prop} : mw_WP d 204 1 [l0, l1, l2] (jI (2) :: st) σ Q ↔ mw_WP d 204 89 [l0, l1, l2] st σ Q := WP_k mq204 dd204_1 rfl (fun _ _ => by simp [mw_stp, mw_b1, mw_go])
theorem ww204_1k3 {d : Nat} {l0 l1 l2 : Option mw_V} {st : List mw_V} {σ : mw_S} {Q : Option mw_V → mw_S → Prop} : mw_WP d 204 1 [l0, l1, l2] (jI (3) :: st) σ Q ↔ mw_WP d 204 111 [l0, l1, l2] st σ Q := WP_k mq204 dd204_1 rfl (fun _ _ => by simp [mw_stp, mw_b1, mw_go])
theorem ww204_1k4 {d : Nat} {l0 l1 l2 : Option mw_V} {st : List mw_V} {σ : mw_S} {Q : Option mw_V → mw_S → Prop} : mw_WP d 204 1 [l0, l1, l2] (jI (4) :: st) σ Q ↔ mw_WP d 204 111 [l0, l1, l2] st σ Q := WP_k mq204 dd204_1 rfl (fun _ _ => by simp [mw_stp, mw_b1, mw_go])
theorem ww204_1k5 {d : Nat} {l0 l1 l2 : Option mw_V} {st : List mw_V} {σ : mw_S} {Q : Option mw_V → mw_S → Prop} : mw_WP d 204 1 [l0, l1, l2] (jI (5) :: st) σ Q ↔ mw_WP d 204 141 [l0, l1, l2] st σ Q := WP_k mq204 dd204_1 rfl (fun _ _ => by simp [mw_stp, mw_b1, mw_go])
theorem ww204_1k6 {d : Nat} {l0 l1 l2 : Option mw_V} {st : List mw_V} {σ : mw_S} {Q : Option mw_V → mw_S → Prop} : mw_WP d 204 1 [l0, l1, l2] (jI (6) :: st) σ Q ↔ mw_WP d 204 141 [l0, l1, l2] st σ Q := WP_k mq204 dd204_1 rfl (fun _ _ => by simp [mw_stp, mw_b1, mw_go])
theorem ww204_1k7 {d : Nat} {l0 l1 l2 : Option mw_V} {st : List mw_V} {σ : mw_S} {Q : Option mw_V → mw_S → Prop} : mw_WP d 204 1 [l0, l1, l2] (jI (7) :: st) σ Q ↔ mw_WP d 204 54 [l0, l1, l2] st σ Q := WP_k mq204 dd204_1 rfl (fun _ _ => by simp [mw_stp, mw_b1, mw_go])
theorem ww204_1k8 {d : Nat} {l0 l1 l2 : Option mw_V} {st : List mw_V} {σ : mw_S} {Q : Option mw_V → mw_S → Prop} : mw_WP d 204 1 [l0, l1, l2] (jI (8) :: st) σ Q ↔ mw_WP d 204 54 [l0, l1, l2] st σ Q := WP_k mq204 dd204_1 rfl (fun _ _ => by simp [mw_stp, mw_b1, mw_go])
theorem ww204_1kd {d : Nat} {l0 l1 l2 : Option mw_V} {x : Int} {st : List mw_V} {σ : mw_S} {Q : Option mw_V → mw_S → Prop} (h : x < 0 ∨ 8 < x) : mw_WP d 204 1 [l0, l1, l2] (jI x :: st) σ Q ↔ mw_WP d 204 141 [l0, l1, l2] st σ Q := WP_k mq204 dd204_1 rfl (fun _ _ => by simp [mw_stp, mw_b1, mw_go, h])
theorem dd204_52 : decode cX12_canDo 52 = .ok (.iconst 1, 1) := by decide +kernel
theorem ww204_52 {d : Nat} {l0 l1 l2 : Option mw_V} {st : List mw_V} {σ : mw_S} {Q : Option mw_V → mw_S → Prop} : mw_WP d 204 52 [l0, l1, l2] st σ Q ↔ mw_WP d 204 53 [l0, l1, l2] (jI (1) :: st) σ Q := WP_iconst mq204 dd204_52 (by decide)
theorem dd204_53 : decode cX12_canDo 53 = .ok (.ireturn, 1) := by decide +kernel
theorem ww204_53 {d : Nat} {l0 l1 l2 : Option mw_V} {z : Int} {σ : mw_S} {Q : Option mw_V → mw_S → Prop} (h : z = 0 ∨ z = 1) : mw_WP d 204 53 [l0, l1, l2] [jI z] σ Q ↔ Q (some (jI z)) σ := WP_ireturn (ty := .boolean) mq204 dd204_53 rfl (by rcases h with rfl | rfl <;> decide)
theorem dd204_54 : decode cX12_canDo 54 = .ok (.iload_n 2, 1) := by decide +kernel
theorem ww204_54 {d : Nat} {l0 l1 : Option mw_V} {x : Int} {st : List mw_V} {σ : mw_S} {Q : Option mw_V → mw_S → Prop} : mw_WP d 204 54 [l0, l1, some (jI x)] st σ Q ↔ mw_WP d 204 55 [l0, l1, some (jI x)] (jI x :: st) σ Q := WP_iload_n mq204 dd204_54 rfl
theorem dd204_55 : decode cX12_canDo 55 = .ok (.iconst 1, 1) := by decide +kernel
theorem ww204_55 {d : Nat} {l0 l1 l2 : Option mw_V} {st : List mw_V} {σ : mw_S} {Q : Option mw_V → mw_S → Prop} : mw_WP d 204 55 [l0, l1, l2] st σ Q ↔ mw_WP d 204 56 [l0, l1, l2] (jI (1) :: st) σ Q := WP_iconst mq204 dd204_55 (by decide)
theorem dd204_56 : decode cX12_canDo 56 = .ok (.if_icmp .ne 19, 3) := by decide +kernel
theorem ww204_56 {d : Nat} {l0 l1 l2 : Option mw_V} {x y : Int} {st : List mw_V} {σ : mw_S} {Q : Option mw_V → mw_S → Prop} : mw_WP d 204 56 [l0, l1, l2] (jI y :: jI x :: st) σ Q ↔ (if ¬ x = y then mw_WP d 204 75 [l0, l1, l2] st σ Q else mw_WP d 204 59 [l0, l1, l2] st σ Q) := WP_icmp_ne mq204 dd204_56 (by decide)
theorem dd204_59 : decode cX12_canDo 59 = .ok (.aload_n 0, 1) := by decide +kernel
theorem ww204_59 {d : Nat} {l1 l2 : Option mw_V} {x : Nat} {st : List mw_V} {σ : mw_S} {Q : Option mw_V → mw_S → Prop} : mw_WP d 204 59 [some (jR x), l1, l2] st σ Q ↔ mw_WP d 204 60 [some (jR x), l1, l2] (jR x :: st) σ Q := WP_aload_n mq204 dd204_59 rfl
theorem dd204_60 : decode cX12_canDo 60 = .ok (.iload_n 1, 1) := by decide +kernel
theorem ww204_60 {d : Nat} {l0 l2 : Option mw_V} {x : Int} {st : List mw_V} {σ : mw_S} {Q : Option mw_V → mw_S → Prop} : mw_WP d 204 60 [l0, some (jI x), l2] st σ Q ↔ mw_WP d 204 61 [l0, some (jI x), l2] (jI x :: st) σ Q := WP_iload_n mq204 dd204_60 rfl
theorem dd204_61 : decode cX12_canDo 61 = .ok (.invokevirtual 216, 3) := by decide +kernel
theorem ww204_61 {d : Nat} {l0 l1 l2 : Option mw_V} {v0 : mw_V} {a : Nat} {st : List mw_V} {σ : mw_S} {Q : Option mw_V → mw_S → Prop} (hr : mw_rc a = 12) (h8 : (st.map mw_cat).sum ≤ 8) : mw_WP d 204 61 [l0, l1, l2] (v0 :: jR a :: st) σ Q ↔ mw_Call d 197 [jR a, v0] σ (fun r1 s1 => mw_WP d 204 64 [l0, l1, l2] (r1.toList ++ st) s1 Q) := WP_inv (as := [v0]) mq204 dd204_61 (by decide) mq197 rfl hr h8
theorem dd204_64 : decode cX12_canDo 64 = .ok (.ifCond .le 7, 3) := by decide +kernel
theorem ww204_64 {d : Nat} {l0 l1 l2 : Option mw_V} {x : Int} {st : List mw_V} {σ : mw_S} {Q : Option mw_V → mw_S → Prop} : mw_WP d 204 64 [l0, l1, l2] (jI x :: st) σ Q ↔ (if x ≤ 0 then mw_WP d 204 71 [l0, l1, l2] st σ Q else mw_WP d 204 67 [l0, l1, l2] st σ Q) := WP_if_le mq204 dd204_64 (by decide)
theorem dd204_67 : decode cX12_canDo 67 = .ok (.iconst 1, 1) := by decide +kernel
theorem ww204_67 {d : Nat} {l0 l1 l2 : Option mw_V} {st : List mw_V} {σ : mw_S} {Q : Option mw_V → mw_S → Prop} : mw_WP d 204 67 [l0, l1, l2] st σ Q ↔ mw_WP d 204 68 [l0, l1, l2] (jI (1) :: st) σ Q := WP_iconst mq204 dd204_67 (by decide)
theorem dd204_68 : decode cX12_canDo 68 = .ok (.goto 20, 3) := by decide +kernel
theorem ww204_68 {d : Nat} {l0 l1 l2 : Option mw_V} {st : List mw_V} {σ : mw_S} {Q : Option mw_V → mw_S → Prop} : mw_WP d 204 68 [l0, l1, l2] st σ Q ↔ mw_WP d 204 88 [l0, l1, l2] st σ Q := WP_goto mq204 dd204_68 (by decide)
theorem dd204_71 : decode cX12_canDo 71 = .ok (.iconst 0, 1) := by decide +kernel
theorem ww204_71 {d : Nat} {l0 l1 l2 : Option mw_V} {st : List mw_V} {σ : mw_S} {Q : Option mw_V → mw_S → Prop} : mw_WP d 204 71 [l0, l1, l2] st σ Q ↔ mw_WP d 204 72 [l0, l1, l2] (jI (0) :: st) σ Q := WP_iconst mq204 dd204_71 (by decide)
theorem dd204_72 : decode cX12_canDo 72 = .ok (.goto 16, 3) := by decide +kernel
theorem ww204_72 {d : Nat} {l0 l1 l2 : Option mw_V} {st : List mw_V} {σ : mw_S} {Q : Option mw_V → mw_S → Prop} : mw_WP d 204 72 [l0, l1, l2] st σ Q ↔ mw_WP d 204 88 [l0, l1, l2] st σ Q := WP_goto mq204 dd204_72 (by decide)
theorem dd204_75 : decode cX12_canDo 75 = .ok (.aload_n 0, 1) := by decide +kernel
theorem ww204_75 {d : Nat} {l1 l2 : Option mw_V} {x : Nat} {st : List mw_V} {σ : mw_S} {Q : Option mw_V → mw_S → Prop} : mw_WP d 204 75 [some (jR x), l1, l2] st σ Q ↔ mw_WP d 204 76 [some (jR x), l1, l2] (jR x :: st) σ Q := WP_aload_n mq204 dd204_75 rfl
theorem dd204_76 : decode cX12_canDo 76 = .ok (.iload_n 1, 1) := by decide +kernel
theorem ww204_76 {d : Nat} {l0 l2 : Option mw_V} {x : Int} {st : List mw_V} {σ : mw_S} {Q : Option mw_V → mw_S → Prop} : mw_WP d 204 76 [l0, some (jI x), l2] st σ Q ↔ mw_WP d 204 77 [l0, some (jI x), l2] (jI x :: st) σ Q := WP_iload_n mq204 dd204_76 rfl
theorem dd204_77 : decode cX12_canDo 77 = .ok (.invokevirtual 216, 3) := by decide +kernel
theorem ww204_77 {d : Nat} {l0 l1 l2 : Option mw_V} {v0 : mw_V} {a : Nat} {st : List mw_V} {σ : mw_S} {Q : Option mw_V → mw_S → Prop} (hr : mw_rc a = 12) (h8 : (st.map mw_cat).sum ≤ 8) : mw_WP d 204 77 [l0, l1, l2] (v0 :: jR a :: st) σ Q ↔ mw_Call d 197 [jR a, v0] σ (fun r1 s1 => mw_WP d 204 80 [l0, l1, l2] (r1.toList ++ st) s1 Q) := WP_inv (as := [v0]) mq204 dd204_77 (by decide) mq197 rfl hr h8
theorem dd204_80 : decode cX12_canDo 80 = .ok (.ifCond .ne 7, 3) := by decide +kernel
theorem ww204_80 {d : Nat} {l0 l1 l2 : Option mw_V} {x : Int} {st : List mw_V} {σ : mw_S} {Q : Option mw_V → mw_S → Prop} : mw_WP d 204 80 [l0, l1, l2] (jI x :: st) σ Q ↔ (if ¬ x = 0 then mw_WP d 204 87 [l0, l1, l2] st σ Q else mw_WP d 204 83 [l0, l1, l2] st σ Q) := WP_if_ne mq204 dd204_80 (by decide)
theorem dd204_83 : decode cX12_canDo 83 = .ok (.iconst 1, 1) := by decide +kernel
theorem ww204_83 {d : Nat} {l0 l1 l2 : Option mw_V} {st : List mw_V} {σ : mw_S} {Q : Option mw_V → mw_S → Prop} : mw_WP d 204 83 [l0, l1, l2] st σ Q ↔ mw_WP d 204 84 [l0, l1, l2] (jI (1) :: st) σ Q := WP_iconst mq204 dd204_83 (by decide)
theorem dd204_84 : decode cX12_canDo 84 = .ok (.goto 4, 3) := by decide +kernel
theorem ww204_84 {d : Nat} {l0 l1 l2 : Option mw_V} {st : List mw_V} {σ : mw_S} {Q : Option mw_V → mw_S → Prop} : mw_WP d 204 84 [l0, l1, l2] st σ Q ↔ mw_WP d 204 88 [l0, l1, l2] st σ Q := WP_goto mq204 dd204_84 (by decide)
theorem dd204_87 : decode cX12_canDo 87 = .ok (.iconst 0, 1) := by decide +kernel
theorem ww204_87 {d : Nat} {l0 l1 l2 : Option mw_V} {st : List mw_V} {σ : mw_S} {Q : Option mw_V → mw_S → Prop} : mw_WP d 204 87 [l0, l1, l2] st σ Q ↔ mw_WP d 204 88 [l0, l1, l2] (jI (0) :: st) σ Q := WP_iconst mq204 dd204_87 (by decide)
theorem dd204_88 : decode cX12_canDo 88 = .ok (.ireturn, 1) := by decide +kernel
theorem ww204_88 {d : Nat} {l0 l1 l2 : Option mw_V} {z : Int} {σ : mw_S} {Q : Option mw_V → mw_S → Prop} (h : z = 0 ∨ z = 1) : mw_WP d 204 88 [l0, l1, l2] [jI z] σ Q ↔ Q (some (jI z)) σ := WP_ireturn (ty := .boolean) mq204 dd204_88 rfl (by rcases h with rfl | rfl <;> decide)
theorem dd204_89 : decode cX12_canDo 89 = .ok (.aload_n 0, 1) := by decide +kernel
theorem ww204_89 {d : Nat} {l1 l2 : Option mw_V} {x : Nat} {st : List mw_V} {σ : mw_S} {Q : Option mw_V → mw_S → Prop} : mw_WP d 204 89 [some (jR x), l1, l2] st σ Q ↔ mw_WP d 204 90 [some (jR x), l1, l2] (jR x :: st) σ Q := WP_aload_n mq204 dd204_89 rfl
theorem dd204_90 : decode cX12_canDo 90 = .ok (.iload_n 1, 1) := by decide +kernel
theorem ww204_90 {d : Nat} {l0 l2 : Option mw_V} {x : Int} {st : List mw_V} {σ : mw_S} {Q : Option mw_V → mw_S → Prop} : mw_WP d 204 90 [l0, some (jI x), l2] st σ Q ↔ mw_WP d 204 91 [l0, some (jI x), l2] (jI x :: st) σ Q := WP_iload_n mq204 dd204_90 rfl
theorem dd204_91 : decode cX12_canDo 91 = .ok (.invokevirtual 216, 3) := by decide +kernel
theorem ww204_91 {d : Nat} {l0 l1 l2 : Option mw_V} {v0 : mw_V} {a : Nat} {st : List mw_V} {σ : mw_S} {Q : Option mw_V → mw_S → Prop} (hr : mw_rc a = 12) (h8 : (st.map mw_cat).sum ≤ 8) : mw_WP d 204 91 [l0, l1, l2] (v0 :: jR a :: st) σ Q ↔ mw_Call d 197 [jR a, v0] σ (fun r1 s1 => mw_WP d 204 94 [l0, l1, l2] (r1.toList ++ st) s1 Q) := WP_inv (as := [v0]) mq204 dd204_91 (by decide) mq197 rfl hr h8
theorem dd204_94 : decode cX12_canDo 94 = .ok (.aload_n 0, 1) := by decide +kernel
theorem ww204_94 {d : Nat} {l1 l2 : Option mw_V} {x : Nat} {st : List mw_V} {σ : mw_S} {Q : Option mw_V → mw_S → Prop} : mw_WP d 204 94 [some (jR x), l1, l2] st σ Q ↔ mw_WP d 204 95 [some (jR x), l1, l2] (jR x :: st) σ Q := WP_aload_n mq204 dd204_94 rfl
theorem dd204_95 : decode cX12_canDo 95 = .ok (.getfield 13, 3) := by decide +kernel
theorem ww204_95 {d : Nat} {l0 l1 l2 : Option mw_V} {st : List mw_V} {σ : mw_S} {Q : Option mw_V → mw_S → Prop} : mw_WP d 204 95 [l0, l1, l2] (jR 100 :: st) σ Q ↔ mw_WP d 204 98 [l0, l1, l2] (jR 101 :: st) σ Q := WP_getR (ci := 11) (k := 1) mq204 dd204_95 (by decide) rfl
theorem dd204_98 : decode cX12_canDo 98 = .ok (.iconst 1, 1) := by decide +kernel
theorem ww204_98 {d : Nat} {l0 l1 l2 : Option mw_V} {st : List mw_V} {σ : mw_S} {Q : Option mw_V → mw_S → Prop} : mw_WP d 204 98 [l0, l1, l2] st σ Q ↔ mw_WP d 204 99 [l0, l1, l2] (jI (1) :: st) σ Q := WP_iconst mq204 dd204_98 (by decide)
theorem dd204_99 : decode cX12_canDo 99 = .ok (.iaload, 1) := by decide +kernel
theorem ww204_99 {d : Nat} {l0 l1 l2 : Option mw_V} {z : Int} {a : Nat} {st : List mw_V} {σ : mw_S} {Q : Option mw_V → mw_S → Prop} : mw_WP d 204 99 [l0, l1, l2] (jI z :: jR a :: st) σ Q ↔ ((0 ≤ z ∧ z < mw_lenI a) ∧ mw_WP d 204 100 [l0, l1, l2] (jI (mw_rdI σ a z.toNat) :: st) σ Q) := WP_iaload mq204 dd204_99
theorem dd204_100 : decode cX12_canDo 100 = .ok (.iconst 1, 1) := by decide +kernel
theorem ww204_100 {d : Nat} {l0 l1 l2 : Option mw_V} {st : List mw_V} {σ : mw_S} {Q : Option mw_V → mw_S → Prop} : mw_WP d 204 100 [l0, l1, l2] st σ Q ↔ mw_WP d 204 101 [l0, l1, l2] (jI (1) :: st) σ Q := WP_iconst mq204 dd204_100 (by decide)
theorem dd204_101 : decode cX12_canDo 101 = .ok (.isub, 1) := by decide +kernel
theorem ww204_101 {d : Nat} {l0 l1 l2 : Option mw_V} {x y : Int} {st : List mw_V} {σ : mw_S} {Q : Option mw_V → mw_S → Prop} : mw_WP d 204 101 [l0, l1, l2] (jI y :: jI x :: st) σ Q ↔ mw_WP d 204 102 [l0, l1, l2] (jI (w32 (x - y)) :: st) σ Q := WP_isub mq204 dd204_101
theorem dd204_102 : decode cX12_canDo 102 = .ok (.if_icmp .ge 7, 3) := by decide +kernel
theorem ww204_102 {d : Nat} {l0 l1 l2 : Option mw_V} {x y : Int} {st : List mw_V} {σ : mw_S} {Q : Option mw_V → mw_S → Prop} : mw_WP d 204 102 [l0, l1, l2] (jI y :: jI x :: st) σ Q ↔ (if y ≤ x then mw_WP d 204 109 [l0, l1, l2] st σ Q else mw_WP d 204 105 [l0, l1, l2] st σ Q) := WP_icmp_ge mq204 dd204_102 (by decide)
theorem dd204_105 : decode cX12_canDo 105 = .ok (.iconst 1, 1) := by decide +kernel
theorem ww204_105 {d : Nat} {l0 l1 l2 : Option mw_V} {st : List mw_V} {σ : mw_S} {Q : Option mw_V → mw_S → Prop} : mw_WP d 204 105 [l0, l1, l2] st σ Q ↔ mw_WP d 204 106 [l0, l1, l2] (jI (1) :: st) σ Q := WP_iconst mq204 dd204_105 (by decide)
theorem dd204_106 : decode cX12_canDo 106 = .ok (.goto 4, 3) := by decide +kernel
theorem ww204_106 {d : Nat} {l0 l1 l2 : Option mw_V} {st : List mw_V} {σ : mw_S} {Q : Option mw_V → mw_S → Prop} : mw_WP d 204 106 [l0, l1, l2] st σ Q ↔ mw_WP d 204 110 [l0, l1, l2] st σ Q := WP_goto mq204 dd204_106 (by decide)
theorem dd204_109 : decode cX12_canDo 109 = .ok (.iconst 0, 1) := by decide +kernel
theorem ww204_109 {d : Nat} {l0 l1 l2 : Option mw_V} {st : List mw_V} {σ : mw_S} {Q : Option mw_V → mw_S → Prop} : mw_WP d 204 109 [l0, l1, l2] st σ Q ↔ mw_WP d 204 110 [l0, l1, l2] (jI (0) :: st) σ Q := WP_iconst mq204 dd204_109 (by decide)
theorem dd204_110 : decode cX12_canDo 110 = .ok (.ireturn, 1) := by decide +kernel
theorem ww204_110 {d : Nat} {l0 l1 l2 : Option mw_V} {z : Int} {σ : mw_S} {Q : Option mw_V → mw_S → Prop} (h : z = 0 ∨ z = 1) : mw_WP d 204 110 [l0, l1, l2] [jI z] σ Q ↔ Q (some (jI z)) σ := WP_ireturn (ty := .boolean) mq204 dd204_110 rfl (by rcases h with rfl | rfl <;> decide)
theorem dd204_111 : decode cX12_canDo 111 = .ok (.aload_n 0, 1) := by decide +kernel
theorem ww204_111 {d : Nat} {l1 l2 : Option mw_V} {x : Nat} {st : List mw_V} {σ : mw_S} {Q : Option mw_V → mw_S → Prop} : mw_WP d 204 111 [some (jR x), l1, l2] st σ Q ↔ mw_WP d 204 112 [some (jR x), l1, l2] (jR x :: st) σ Q := WP_aload_n mq204 dd204_111 rfl
theorem dd204_112 : decode cX12_canDo 112 = .ok (.iload_n 1, 1) := by decide +kernel
theorem ww204_112 {d : Nat} {l0 l2 : Option mw_V} {x : Int} {st : List mw_V} {σ : mw_S} {Q : Option mw_V → mw_S → Prop} : mw_WP d 204 112 [l0, some (jI x), l2] st σ Q ↔ mw_WP d 204 113 [l0, some (jI x), l2] (jI x :: st) σ Q := WP_iload_n mq204 dd204_112 rfl
theorem dd204_113 : decode cX12_canDo 113 = .ok (.iload_n 2, 1) := by decide +kernel
theorem ww204_113 {d : Nat} {l0 l1 : Option mw_V} {x : Int} {st : List mw_V} {σ : mw_S} {Q : Option mw_V → mw_S → Prop} : mw_WP d 204 113 [l0, l1, some (jI x)] st σ Q ↔ mw_WP d 204 114 [l0, l1, some (jI x)] (jI x :: st) σ Q := WP_iload_n mq204 dd204_113 rfl
theorem dd204_114 : decode cX12_canDo 114 = .ok (.iconst 3, 1) := by decide +kernel
theorem ww204_114 {d : Nat} {l0 l1 l2 : Option mw_V} {st : List mw_V} {σ : mw_S} {Q : Option mw_V → mw_S → Prop} : mw_WP d 204 114 [l0, l1, l2] st σ Q ↔ mw_WP d 204 115 [l0, l1, l2] (jI (3) :: st) σ Q := WP_iconst mq204 dd204_114 (by decide)
theorem dd204_115 : decode cX12_canDo 115 = .ok (.isub, 1) := by decide +kernel
theorem ww204_115 {d : Nat} {l0 l1 l2 : Option mw_V} {x y : Int} {st : List mw_V} {σ : mw_S} {Q : Option mw_V → mw_S → Prop} : mw_WP d 204 115 [l0, l1, l2] (jI y :: jI x :: st) σ Q ↔ mw_WP d 204 116 [l0, l1, l2] (jI (w32 (x - y)) :: st) σ Q := WP_isub mq204 dd204_115
theorem dd204_116 : decode cX12_canDo 116 = .ok (.invokestatic 225, 3) := by decide +kernel
theorem ww204_116 {d : Nat} {l0 l1 l2 : Option mw_V} {v0 v1 : mw_V} {st : List mw_V} {σ : mw_S} {Q : Option mw_V → mw_S → Prop} (h8 : (st.map mw_cat).sum ≤ 8) : mw_WP d 204 116 [l0, l1, l2] (v1 :: v0 :: st) σ Q ↔ mw_Call d 198 [v0, v1] σ (fun r1 s1 => mw_WP d 204 119 [l0, l1, l2] (r1.toList ++ st) s1 Q) := WP_invs (as := [v1, v0]) mq204 dd204_116 (by decide) mq198 rfl rfl h8
theorem dd204_119 : decode cX12_canDo 119 = .ok (.invokevirtual 219, 3) := by decide +kernel
theorem ww204_119 {d : Nat} {l0 l1 l2 : Option mw_V} {v0 : mw_V} {a : Nat} {st : List mw_V} {σ : mw_S} {Q : Option mw_V → mw_S → Prop} (hr : mw_rc a = 12) (h8 : (st.map mw_cat).sum ≤ 8) : mw_WP d 204 119 [l0, l1, l2] (v0 :: jR a :: st) σ Q ↔ mw_Call d 199 [jR a, v0] σ (fun r1 s1 => mw_WP d 204 122 [l0, l1, l2] (r1.toList ++ st) s1 Q) := WP_inv (as := [v0]) mq204 dd204_119 (by decide) mq199 rfl hr h8
theorem dd204_122 : decode cX12_canDo 122 = .ok (.iconst (-1), 1) := by decide +kernel
theorem ww204_122 {d : Nat} {l0 l1 l2 : Option mw_V} {st : List mw_V} {σ : mw_S} {Q : Option mw_V → mw_S → Prop} : mw_WP d 204 122 [l0, l1, l2] st σ Q ↔ mw_WP d 204 123 [l0, l1, l2] (jI (-1) :: st) σ Q := WP_iconst mq204 dd204_122 (by decide)
theorem dd204_123 : decode cX12_canDo 123 = .ok (.if_icmp .ne 16, 3) := by decide +kernel
theorem ww204_123 {d : Nat} {l0 l1 l2 : Option mw_V} {x y : Int} {st : List mw_V} {σ : mw_S} {Q : Option mw_V → mw_S → Prop} : mw_WP d 204 123 [l0, l1, l2] (jI y :: jI x :: st) σ Q ↔ (if ¬ x = y then mw_WP d 204 139 [l0, l1, l2] st σ Q else mw_WP d 204 126 [l0, l1, l2] st σ Q) := WP_icmp_ne mq204 dd204_123 (by decide)
theorem dd204_126 : decode cX12_canDo 126 = .ok (.aload_n 0, 1) := by decide +kernel
theorem ww204_126 {d : Nat} {l1 l2 : Option mw_V} {x : Nat} {st : List mw_V} {σ : mw_S} {Q : Option mw_V → mw_S → Prop} : mw_WP d 204 126 [some (jR x), l1, l2] st σ Q ↔ mw_WP d 204 127 [some (jR x), l1, l2] (jR x :: st) σ Q := WP_aload_n mq204 dd204_126 rfl
theorem dd204_127 : decode cX12_canDo 127 = .ok (.iload_n 1, 1) := by decide +kernel
theorem ww204_127 {d : Nat} {l0 l2 : Option mw_V} {x : Int} {st : List mw_V} {σ : mw_S} {Q : Option mw_V → mw_S → Prop} : mw_WP d 204 127 [l0, some (jI x), l2] st σ Q ↔ mw_WP d 204 128 [l0, some (jI x), l2] (jI x :: st) σ Q := WP_iload_n mq204 dd204_127 rfl
theorem dd204_128 : decode cX12_canDo 128 = .ok (.invokevirtual 228, 3) := by decide +kernel
theorem ww204_128 {d : Nat} {l0 l1 l2 : Option mw_V} {v0 : mw_V} {a : Nat} {st : List mw_V} {σ : mw_S} {Q : Option mw_V → mw_S → Prop} (hr : mw_rc a = 12) (h8 : (st.map mw_cat).sum ≤ 8) : mw_WP d 204 128 [l0, l1, l2] (v0 :: jR a :: st) σ Q ↔ mw_Call d 200 [jR a, v0] σ (fun r1 s1 => mw_WP d 204 131 [l0, l1, l2] (r1.toList ++ st) s1 Q) := WP_inv (as := [v0]) mq204 dd204_128 (by decide) mq200 rfl hr h8
theorem dd204_131 : decode cX12_canDo 131 = .ok (.iconst (-1), 1) := by decide +kernel
theorem ww204_131 {d : Nat} {l0 l1 l2 : Option mw_V} {st : List mw_V} {σ : mw_S} {Q : Option mw_V → mw_S → Prop} : mw_WP d 204 131 [l0, l1, l2] st σ Q ↔ mw_WP d 204 132 [l0, l1, l2] (jI (-1) :: st) σ Q := WP_iconst mq204 dd204_131 (by decide)
theorem dd204_132 : decode cX12_canDo 132 = .ok (.if_icmp .eq 7, 3) := by decide +kernel
theorem ww204_132 {d : Nat} {l0 l1 l2 : Option mw_V} {x y : Int} {st : List mw_V} {σ : mw_S} {Q : Option mw_V → mw_S → Prop} : mw_WP d 204 132 [l0, l1, l2] (jI y :: jI x :: st) σ Q ↔ (if x = y then mw_WP d 204 139 [l0, l1, l2] st σ Q else mw_WP d 204 135 [l0, l1, l2] st σ Q) := WP_icmp_eq mq204 dd204_132 (by decide)
theorem dd204_135 : decode cX12_canDo 135 = .ok (.iconst 1, 1) := by decide +kernel
theorem ww204_135 {d : Nat} {l0 l1 l2 : Option mw_V} {st : List mw_V} {σ : mw_S} {Q : Option mw_V → mw_S → Prop} : mw_WP d 204 135 [l0, l1, l2] st σ Q ↔ mw_WP d 204 136 [l0, l1, l2] (jI (1) :: st) σ Q := WP_iconst mq204 dd204_135 (by decide)
theorem dd204_136 : decode cX12_canDo 136 = .ok (.goto 4, 3) := by decide +kernel
theorem ww204_136 {d : Nat} {l0 l1 l2 : Option mw_V} {st : List mw_V} {σ : mw_S} {Q : Option mw_V → mw_S → Prop} : mw_WP d 204 136 [l0, l1, l2] st σ Q ↔ mw_WP d 204 140 [l0, l1, l2] st σ Q := WP_goto mq204 dd204_136 (by decide)
theorem dd204_139 : decode cX12_canDo 139 = .ok (.iconst 0, 1) := by decide +kernel
theorem ww204_139 {d : Nat} {l0 l1 l2 : Option mw_V} {st : List mw_V} {σ : mw_S} {Q : Option mw_V → mw_S → Prop} : mw_WP d 204 139 [l0, l1, l2] st σ Q ↔ mw_WP d 204 140 [l0, l1, l2] (jI (0) :: st) σ Q := WP_iconst mq204 dd204_139 (by decide)
theorem dd204_140 : decode cX12_canDo 140 = .ok (.ireturn, 1) := by decide +kernel
theorem ww204_140 {d : Nat} {l0 l1 l2 : Option mw_V} {z : Int} {σ : mw_S} {Q : Option mw_V → mw_S → Prop} (h : z = 0 ∨ z = 1) : mw_WP d 204 140 [l0, l1, l2] [jI z] σ Q ↔ Q (some (jI z)) σ := WP_ireturn (ty := .boolean) mq204 dd204_140 rfl (by rcases h with rfl | rfl <;> decide)
theorem dd204_141 : decode cX12_canDo 141 = .ok (.aload_n 0, 1) := by decide +kernel
theorem ww204_141 {d : Nat} {l1 l2 : Option mw_V} {x : Nat} {st : List mw_V} {σ : mw_S} {Q : Option mw_V → mw_S → Prop} : mw_WP d 204 141 [some (jR x), l1, l2] st σ Q ↔ mw_WP d 204 142 [some (jR x), l1, l2] (jR x :: st) σ Q := WP_aload_n mq204 dd204_141 rfl
theorem dd204_142 : decode cX12_canDo 142 = .ok (.iload_n 1, 1) := by decide +kernel
theorem ww204_142 {d : Nat} {l0 l2 : Option mw_V} {x : Int} {st : List mw_V} {σ : mw_S} {Q : Option mw_V → mw_S → Prop} : mw_WP d 204 142 [l0, some (jI x), l2] st σ Q ↔ mw_WP d 204 143 [l0, some (jI x), l2] (jI x :: st) σ Q := WP_iload_n mq204 dd204_142 rfl
theorem dd204_143 : decode cX12_canDo 143 = .ok (.iload_n 2, 1) := by decide +kernel
theorem ww204_143 {d : Nat} {l0 l1 : Option mw_V} {x : Int} {st : List mw_V} {σ : mw_S} {Q : Option mw_V → mw_S → Prop} : mw_WP d 204 143 [l0, l1, some (jI x)] st σ Q ↔ mw_WP d 204 144 [l0, l1, some (jI x)] (jI x :: st) σ Q := WP_iload_n mq204 dd204_143 rfl
theorem dd204_144 : decode cX12_canDo 144 = .ok (.iconst 5, 1) := by decide +kernel
theorem ww204_144 {d : Nat} {l0 l1 l2 : Option mw_V} {st : List mw_V} {σ : mw_S} {Q : Option mw_V → mw_S → Prop} : mw_WP d 204 144 [l0, l1, l2] st σ Q ↔ mw_WP d 204 145 [l0, l1, l2] (jI (5) :: st) σ Q := WP_iconst mq204 dd204_144 (by decide)
theorem dd204_145 : decode cX12_canDo 145 = .ok (.isub, 1) := by decide +kernel
theorem ww204_145 {d : Nat} {l0 l1 l2 : Option mw_V} {x y : Int} {st : List mw_V} {σ : mw_S} {Q : Option mw_V → mw_S → Prop} : mw_WP d 204 145 [l0, l1, l2] (jI y :: jI x :: st) σ Q ↔ mw_WP d 204 146 [l0, l1, l2] (jI (w32 (x - y)) :: st) σ Q := WP_isub mq204 dd204_145
theorem dd204_146 : decode cX12_canDo 146 = .ok (.invokestatic 225, 3) := by decide +kernel
theorem ww204_146 {d : Nat} {l0 l1 l2 : Option mw_V} {v0 v1 : mw_V} {st : List mw_V} {σ : mw_S} {Q : Option mw_V → mw_S → Prop} (h8 : (st.map mw_cat).sum ≤ 8) : mw_WP d 204 146 [l0, l1, l2] (v1 :: v0 :: st) σ Q ↔ mw_Call d 198 [v0, v1] σ (fun r1 s1 => mw_WP d 204 149 [l0, l1, l2] (r1.toList ++ st) s1 Q) := WP_invs (as := [v1, v0]) mq204 dd204_146 (by decide) mq198 rfl rfl h8
theorem dd204_149 : decode cX12_canDo 149 = .ok (.invokevirtual 219, 3) := by decide +kernel
theorem ww204_149 {d : Nat} {l0 l1 l2 : Option mw_V} {v0 : mw_V} {a : Nat} {st : List mw_V} {σ : mw_S} {Q : Option mw_V → mw_S → Prop} (hr : mw_rc a = 12) (h8 : (st.map mw_cat).sum ≤ 8) : mw_WP d 204 149 [l0, l1, l2] (v0 :: jR a :: st) σ Q ↔ mw_Call d 199 [jR a, v0] σ (fun r1 s1 => mw_WP d 204 152 [l0, l1, l2] (r1.toList ++ st) s1 Q) := WP_inv (as := [v0]) mq204 dd204_149 (by decide) mq199 rfl hr h8
theorem dd204_152 : decode cX12_canDo 152 = .ok (.iconst (-1), 1) := by decide +kernel
theorem ww204_152 {d : Nat} {l0 l1 l2 : Option mw_V} {st : List mw_V} {σ : mw_S} {Q : Option mw_V → mw_S → Prop} : mw_WP d 204 152 [l0, l1, l2] st σ Q ↔ mw_WP d 204 153 [l0, l1, l2] (jI (-1) :: st) σ Q := WP_iconst mq204 dd204_152 (by decide)
theorem dd204_153 : decode cX12_canDo 153 = .ok (.if_icmp .eq 7, 3) := by decide +kernel
theorem ww204_153 {d : Nat} {l0 l1 l2 : Option mw_V} {x y : Int} {st : List mw_V} {σ : mw_S} {Q : Option mw_V → mw_S → Prop} : mw_WP d 204 153 [l0, l1, l2] (jI y :: jI x :: st) σ Q ↔ (if x = y then mw_WP d 204 160 [l0, l1, l2] st σ Q else mw_WP d 204 156 [l0, l1, l2] st σ Q) := WP_icmp_eq mq204 dd204_153 (by decide)
theorem dd204_156 : decode cX12_canDo 156 = .ok (.iconst 1, 1) := by decide +kernel
theorem ww204_156 {d : Nat} {l0 l1 l2 : Option mw_V} {st : List mw_V} {σ : mw_S} {Q : Option mw_V → mw_S → Prop} : mw_WP d 204 156 [l0, l1, l2] st σ Q ↔ mw_WP d 204 157 [l0, l1, l2] (jI (1) :: st) σ Q := WP_iconst mq204 dd204_156 (by decide)
theorem dd204_157 : decode cX12_canDo 157 = .ok (.goto 4, 3) := by decide +kernel
theorem ww204_157 {d : Nat} {l0 l1 l2 : Option mw_V} {st : List mw_V} {σ : mw_S} {Q : Option mw_V → mw_S → Prop} : mw_WP d 204 157 [l0, l1, l2] st σ Q ↔ mw_WP d 204 161 [l0, l1, l2] st σ Q := WP_goto mq204 dd204_157 (by decide)
theorem dd204_160 : decode cX12_canDo 160 = .ok (.iconst 0, 1) := by decide +kernel
theorem ww204_160 {d : Nat} {l0 l1 l2 : Option mw_V} {st : List mw_V} {σ : mw_S} {Q : Option mw_V → mw_S → Prop} : mw_WP d 204 160 [l0, l1, l2] st σ Q ↔ mw_WP d 204 161 [l0, l1, l2] (jI (0) :: st) σ Q := WP_iconst mq204 dd204_160 (by decide)
theorem dd204_161 : decode cX12_canDo 161 = .ok (.ireturn, 1) := by decide +kernel
theorem ww204_161 {d : Nat} {l0 l1 l2 : Option mw_V} {z : Int} {σ : mw_S} {Q : Option mw_V → mw_S → Prop} (h : z = 0 ∨ z = 1) : mw_WP d 204 161 [l0, l1, l2] [jI z] σ Q ↔ Q (some (jI z)) σ := WP_ireturn (ty := .boolean) mq204 dd204_161 rfl (by rcases h with rfl | rfl <;> decide)
theorem ee205 {d : Nat} {a : Nat} {z0 : Int} {z1 : Int} {σ : mw_S} {Q : Option mw_V → mw_S → Prop} : mw_Call (d + 1) 205 [jR a, jI z0, jI z1] σ Q ↔ mw_WP d 205 0 [some (jR a), some (jI z0), some (jI z1)] [] σ Q := CL_u mq205 (Nat.le_of_ble_eq_true rfl) rfl
theorem dd205_0 : decode cX12_does 0 = .ok (.aload_n 0, 1) := by decide +kernel
theorem ww205_0 {d : Nat} {l1 l2 : Option mw_V} {x : Nat} {st : List mw_V} {σ : mw_S} {Q : Option mw_V → mw_S → Prop} : mw_WP d 205 0 [some (jR x), l1, l2] st σ Q ↔ mw_WP d 205 1 [some (jR x), l1, l2] (jR x :: st) σ Q := WP_aload_n mq205 dd205_0 rfl
theorem dd205_1 : decode cX12_does 1 = .ok (.iload_n 1, 1) := by decide +kernel
theorem ww205_1 {d : Nat} {l0 l2 : Option mw_V} {x : Int} {st : List mw_V} {σ : mw_S} {Q : Option mw_V → mw_S → Prop} : mw_WP d 205 1 [l0, some (jI x), l2] st σ Q ↔ mw_WP d 205 2 [l0, some (jI x), l2] (jI x :: st) σ Q := WP_iload_n mq205 dd205_1 rfl
theorem dd205_2 : decode cX12_does 2 = .ok (.iload_n 2, 1) := by decide +kernel
theorem ww205_2 {d : Nat} {l0 l1 : Option mw_V} {x : Int} {st : List mw_V} {σ : mw_S} {Q : Option mw_V → mw_S → Prop} : mw_WP d 205 2 [l0, l1, some (jI x)] st σ Q ↔ mw_WP d 205 3 [l0, l1, some (jI x)] (jI x :: st) σ Q := WP_iload_n mq205 dd205_2 rfl
theorem dd205_3 : decode cX12_does 3 = .ok (.invokevirtual 231, 3) := by decide +kernel
theorem ww205_3 {d : Nat} {l0 l1 l2 : Option mw_V} {v0 v1 : mw_V} {a : Nat} {st : List mw_V} {σ : mw_S} {Q : Option mw_V → mw_S → Prop} (hr : mw_rc a = 12) (h8 : (st.map mw_cat).sum ≤ 8) : mw_WP d 205 3 [l0, l1, l2] (v1 :: v0 :: jR a :: st) σ Q ↔ mw_Call d 204 [jR a, v0, v1] σ (fun r1 s1 => mw_WP d 205 6 [l0, l1, l2] (r1.toList ++ st) s1 Q) := WP_inv (as := [v1, v0]) mq205 dd205_3 (by decide) mq204 rfl hr h8
theorem dd205_6 : decode cX12_does 6 = .ok (.ifCond .ne 5, 3) := by decide +kernel
theorem ww205_6 {d : Nat} {l0 l1 l2 : Option mw_V} {x : Int} {st : List mw_V} {σ : mw_S} {Q : Option mw_V → mw_S → Prop} : mw_WP d 205 6 [l0, l1, l2] (jI x :: st) σ Q ↔ (if ¬ x = 0 then mw_WP d 205 11 [l0, l1, l2] st σ Q else mw_WP d 205 9 [l0, l1, l2] st σ Q) := WP_if_ne mq205 dd205_6 (by decide)
theorem dd205_9 : decode cX12_does 9 = .ok (.iconst 0, 1) := by decide +kernel
theorem ww205_9 {d : Nat} {l0 l1 l2 : Option mw_V} {st : List mw_V} {σ : mw_S} {Q : Option mw_V → mw_S → Prop} : mw_WP d 205 9 [l0, l1, l2] st σ Q ↔ mw_WP d 205 10 [l0, l1, l2] (jI (0) :: st) σ Q := WP_iconst mq205 dd205_9 (by decide)
theorem dd205_10 : decode cX12_does 10 = .ok (.ireturn, 1) := by decide +kernel
theorem ww205_10 {d : Nat} {l0 l1 l2 : Option mw_V} {z : Int} {σ : mw_S} {Q : Option mw_V → mw_S → Prop} (h : z = 0 ∨ z = 1) : mw_WP d 205 10 [l0, l1, l2] [jI z] σ Q ↔ Q (some (jI z)) σ := WP_ireturn (ty := .boolean) mq205 dd205_10 rfl (by rcases h with rfl | rfl <;> decide)
theorem dd205_11 : decode cX12_does 11 = .ok (.iload_n 2, 1) := by decide +kernel
theorem ww205_11 {d : Nat} {l0 l1 : Option mw_V} {x : Int} {st : List mw_V} {σ : mw_S} {Q : Option mw_V → mw_S → Prop} : mw_WP d 205 11 [l0, l1, some (jI x)] st σ Q ↔ mw_WP d 205 12 [l0, l1, some (jI x)] (jI x :: st) σ Q := WP_iload_n mq205 dd205_11 rfl
theorem dd205_12 : decode cX12_does 12 = .ok (.iconst 1, 1) := by decide +kernel
theorem ww205_12 {d : Nat} {l0 l1 l2 : Option mw_V} {st : List mw_V} {σ : mw_S} {Q : Option mw_V → mw_S → Prop} : mw_WP d 205 12 [l0, l1, l2] st σ Q ↔ mw_WP d 205 13 [l0, l1, l2] (jI (1) :: st) σ Q := WP_iconst mq205 dd205_12 (by decide)
theorem dd205_13 : decode cX12_does 13 = .ok (.if_icmp .ne 16, 3) := by decide +kernel
theorem ww205_13 {d : Nat} {l0 l1 l2 : Option mw_V} {x y : Int} {st : List mw_V} {σ : mw_S} {Q : Option mw_V → mw_S → Prop} : mw_WP d 205 13 [l0, l1, l2] (jI y :: jI x :: st) σ Q ↔ (if ¬ x = y then mw_WP d 205 29 [l0, l1, l2] st σ Q else mw_WP d 205 16 [l0, l1, l2] st σ Q) := WP_icmp_ne mq205 dd205_13 (by decide)
theorem dd205_16 : decode cX12_does 16 = .ok (.aload_n 0, 1) := by decide +kernel
theorem ww205_16 {d : Nat} {l1 l2 : Option mw_V} {x : Nat} {st : List mw_V} {σ : mw_S} {Q : Option mw_V → mw_S → Prop} : mw_WP d 205 16 [some (jR x), l1, l2] st σ Q ↔ mw_WP d 205 17 [some (jR x), l1, l2] (jR x :: st) σ Q := WP_aload_n mq205 dd205_16 rfl
theorem dd205_17 : decode cX12_does 17 = .ok (.getfield 13, 3) := by decide +kernel
theorem ww205_17 {d : Nat} {l0 l1 l2 : Option mw_V} {st : List mw_V} {σ : mw_S} {Q : Option mw_V → mw_S → Prop} : mw_WP d 205 17 [l0, l1, l2] (jR 100 :: st) σ Q ↔ mw_WP d 205 20 [l0, l1, l2] (jR 101 :: st) σ Q := WP_getR (ci := 11) (k := 1) mq205 dd205_17 (by decide) rfl
theorem dd205_20 : decode cX12_does 20 = .ok (.bipush 41, 2) := by decide +kernel
theorem ww205_20 {d : Nat} {l0 l1 l2 : Option mw_V} {st : List mw_V} {σ : mw_S} {Q : Option mw_V → mw_S → Prop} : mw_WP d 205 20 [l0, l1, l2] st σ Q ↔ mw_WP d 205 22 [l0, l1, l2] (jI (41) :: st) σ Q := WP_bipush mq205 dd205_20 (by decide)
theorem dd205_22 : decode cX12_does 22 = .ok (.iload_n 1, 1) := by decide +kernel
theorem ww205_22 {d : Nat} {l0 l2 : Option mw_V} {x : Int} {st : List mw_V} {σ : mw_S} {Q : Option mw_V → mw_S → Prop} : mw_WP d 205 22 [l0, some (jI x), l2] st σ Q ↔ mw_WP d 205 23 [l0, some (jI x), l2] (jI x :: st) σ Q := WP_iload_n mq205 dd205_22 rfl
theorem dd205_23 : decode cX12_does 23 = .ok (.iadd, 1) := by decide +kernel
theorem ww205_23 {d : Nat} {l0 l1 l2 : Option mw_V} {x y : Int} {st : List mw_V} {σ : mw_S} {Q : Option mw_V → mw_S → Prop} : mw_WP d 205 23 [l0, l1, l2] (jI y :: jI x :: st) σ Q ↔ mw_WP d 205 24 [l0, l1, l2] (jI (w32 (x + y)) :: st) σ Q := WP_iadd mq205 dd205_23
theorem dd205_24 : decode cX12_does 24 = .ok (.dup2, 1) := by decide +kernel
theorem ww205_24 {d : Nat} {l0 l1 l2 : Option mw_V} {v w : mw_V} {st : List mw_V} {σ : mw_S} {Q : Option mw_V → mw_S → Prop} (h : mw_cat v = 1) (h2 : mw_cat w = 1) : mw_WP d 205 24 [l0, l1, l2] (v :: w :: st) σ Q ↔ mw_WP d 205 25 [l0, l1, l2] (v :: w :: v :: w :: st) σ Q := WP_dup2 mq205 dd205_24 h h2
theorem dd205_25 : decode cX12_does 25 = .ok (.iaload, 1) := by decide +kernel
theorem ww205_25 {d : Nat} {l0 l1 l2 : Option mw_V} {z : Int} {a : Nat} {st : List mw_V} {σ : mw_S} {Q : Option mw_V → mw_S → Prop} : mw_WP d 205 25 [l0, l1, l2] (jI z :: jR a :: st) σ Q ↔ ((0 ≤ z ∧ z < mw_lenI a) ∧ mw_WP d 205 26 [l0, l1, l2] (jI (mw_rdI σ a z.toNat) :: st) σ Q) := WP_iaload mq205 dd205_25
theorem dd205_26 : decode cX12_does 26 = .ok (.iconst 1, 1) := by decide +kernel
theorem ww205_26 {d : Nat} {l0 l1 l2 : Option mw_V} {st : List mw_V} {σ : mw_S} {Q : Option mw_V → mw_S → Prop} : mw_WP d 205 26 [l0, l1, l2] st σ Q ↔ mw_WP d 205 27 [l0, l1, l2] (jI (1) :: st) σ Q := WP_iconst mq205 dd205_26 (by decide)
theorem dd205_27 : decode cX12_does 27 = .ok (.isub, 1) := by decide +kernel
theorem ww205_27 {d : Nat} {l0 l1 l2 : Option mw_V} {x y : Int} {st : List mw_V} {σ : mw_S} {Q : Option mw_V → mw_S → Prop} : mw_WP d 205 27 [l0, l1, l2] (jI y :: jI x :: st) σ Q ↔ mw_WP d 205 28 [l0, l1, l2] (jI (w32 (x - y)) :: st) σ Q := WP_isub mq205 dd205_27
theorem dd205_28 : decode cX12_does 28 = .ok (.iastore, 1) := by decide +kernel
theorem ww205_28 {d : Nat} {l0 l1 l2 : Option mw_V} {x z : Int} {a : Nat} {st : List mw_V} {σ : mw_S} {Q : Option mw_V → mw_S → Prop} : mw_WP d 205 28 [l0, l1, l2] (jI x :: jI z :: jR a :: st) σ Q ↔ ((0 ≤ z ∧ z < mw_lenW 0 a) ∧ mw_WP d 205 29 [l0, l1, l2] st (upS σ a z.toNat x) Q) := WP_iastore mq205 dd205_28
theorem dd205_29 : decode cX12_does 29 = .ok (.iload_n 2, 1) := by decide +kernel
theorem ww205_29 {d : Nat} {l0 l1 : Option mw_V} {x : Int} {st : List mw_V} {σ : mw_S} {Q : Option mw_V → mw_S → Prop} : mw_WP d 205 29 [l0, l1, some (jI x)] st σ Q ↔ mw_WP d 205 30 [l0, l1, some (jI x)] (jI x :: st) σ Q := WP_iload_n mq205 dd205_29 rfl
theorem dd205_30 : decode cX12_does 30 = .ok (.iconst 2, 1) := by decide +kernel
theorem ww205_30 {d : Nat} {l0 l1 l2 : Option mw_V} {st : List mw_V} {σ : mw_S} {Q : Option mw_V → mw_S → Prop} : mw_WP d 205 30 [l0, l1, l2] st σ Q ↔ mw_WP d 205 31 [l0, l1, l2] (jI (2) :: st) σ Q := WP_iconst mq205 dd205_30 (by decide)
theorem dd205_31 : decode cX12_does 31 = .ok (.if_icmp .ne 16, 3) := by decide +kernel
theorem ww205_31 {d : Nat} {l0 l1 l2 : Option mw_V} {x y : Int} {st : List mw_V} {σ : mw_S} {Q : Option mw_V → mw_S → Prop} : mw_WP d 205 31 [l0, l1, l2] (jI y :: jI x :: st) σ Q ↔ (if ¬ x = y then mw_WP d 205 47 [l0, l1, l2] st σ Q else mw_WP d 205 34 [l0, l1, l2] st σ Q) := WP_icmp_ne mq205 dd205_31 (by decide)
theorem dd205_34 : decode cX12_does 34 = .ok (.aload_n 0, 1) := by decide +kernel
theorem ww205_34 {d : Nat} {l1 l2 : Option mw_V} {x : Nat} {st : List mw_V} {σ : mw_S} {Q : Option mw_V → mw_S → Prop} : mw_WP d 205 34 [some (jR x), l1, l2] st σ Q ↔ mw_WP d 205 35 [some (jR x), l1, l2] (jR x :: st) σ Q := WP_aload_n mq205 dd205_34 rfl
theorem dd205_35 : decode cX12_does 35 = .ok (.getfield 13, 3) := by decide +kernel
theorem ww205_35 {d : Nat} {l0 l1 l2 : Option mw_V} {st : List mw_V} {σ : mw_S} {Q : Option mw_V → mw_S → Prop} : mw_WP d 205 35 [l0, l1, l2] (jR 100 :: st) σ Q ↔ mw_WP d 205 38 [l0, l1, l2] (jR 101 :: st) σ Q := WP_getR (ci := 11) (k := 1) mq205 dd205_35 (by decide) rfl
theorem dd205_38 : decode cX12_does 38 = .ok (.bipush 41, 2) := by decide +kernel
theorem ww205_38 {d : Nat} {l0 l1 l2 : Option mw_V} {st : List mw_V} {σ : mw_S} {Q : Option mw_V → mw_S → Prop} : mw_WP d 205 38 [l0, l1, l2] st σ Q ↔ mw_WP d 205 40 [l0, l1, l2] (jI (41) :: st) σ Q := WP_bipush mq205 dd205_38 (by decide)
theorem dd205_40 : decode cX12_does 40 = .ok (.iload_n 1, 1) := by decide +kernel
theorem ww205_40 {d : Nat} {l0 l2 : Option mw_V} {x : Int} {st : List mw_V} {σ : mw_S} {Q : Option mw_V → mw_S → Prop} : mw_WP d 205 40 [l0, some (jI x), l2] st σ Q ↔ mw_WP d 205 41 [l0, some (jI x), l2] (jI x :: st) σ Q := WP_iload_n mq205 dd205_40 rfl
theorem dd205_41 : decode cX12_does 41 = .ok (.iadd, 1) := by decide +kernel
theorem ww205_41 {d : Nat} {l0 l1 l2 : Option mw_V} {x y : Int} {st : List mw_V} {σ : mw_S} {Q : Option mw_V → mw_S → Prop} : mw_WP d 205 41 [l0, l1, l2] (jI y :: jI x :: st) σ Q ↔ mw_WP d 205 42 [l0, l1, l2] (jI (w32 (x + y)) :: st) σ Q := WP_iadd mq205 dd205_41
theorem dd205_42 : decode cX12_does 42 = .ok (.dup2, 1) := by decide +kernel
theorem ww205_42 {d : Nat} {l0 l1 l2 : Option mw_V} {v w : mw_V} {st : List mw_V} {σ : mw_S} {Q : Option mw_V → mw_S → Prop} (h : mw_cat v = 1) (h2 : mw_cat w = 1) : mw_WP d 205 42 [l0, l1, l2] (v :: w :: st) σ Q ↔ mw_WP d 205 43 [l0, l1, l2] (v :: w :: v :: w :: st) σ Q := WP_dup2 mq205 dd205_42 h h2
theorem dd205_43 : decode cX12_does 43 = .ok (.iaload, 1) := by decide +kernel
theorem ww205_43 {d : Nat} {l0 l1 l2 : Option mw_V} {z : Int} {a : Nat} {st : List mw_V} {σ : mw_S} {Q : Option mw_V → mw_S → Prop} : mw_WP d 205 43 [l0, l1, l2] (jI z :: jR a :: st) σ Q ↔ ((0 ≤ z ∧ z < mw_lenI a) ∧ mw_WP d 205 44 [l0, l1, l2] (jI (mw_rdI σ a z.toNat) :: st) σ Q) := WP_iaload mq205 dd205_43
theorem dd205_44 : decode cX12_does 44 = .ok (.iconst 1, 1) := by decide +kernel
theorem ww205_44 {d : Nat} {l0 l1 l2 : Option mw_V} {st : List mw_V} {σ : mw_S} {Q : Option mw_V → mw_S → Prop} : mw_WP d 205 44 [l0, l1, l2] st σ Q ↔ mw_WP d 205 45 [l0, l1, l2] (jI (1) :: st) σ Q := WP_iconst mq205 dd205_44 (by decide)
theorem dd205_45 : decode cX12_does 45 = .ok (.iadd, 1) := by decide +kernel
theorem ww205_45 {d : Nat} {l0 l1 l2 : Option mw_V} {x y : Int} {st : List mw_V} {σ : mw_S} {Q : Option mw_V → mw_S → Prop} : mw_WP d 205 45 [l0, l1, l2] (jI y :: jI x :: st) σ Q ↔ mw_WP d 205 46 [l0, l1, l2] (jI (w32 (x + y)) :: st) σ Q := WP_iadd mq205 dd205_45
theorem dd205_46 : decode cX12_does 46 = .ok (.iastore, 1) := by decide +kernel
theorem ww205_46 {d : Nat} {l0 l1 l2 : Option mw_V} {x z : Int} {a : Nat} {st : List mw_V} {σ : mw_S} {Q : Option mw_V → mw_S → Prop} : mw_WP d 205 46 [l0, l1, l2] (jI x :: jI z :: jR a :: st) σ Q ↔ ((0 ≤ z ∧ z < mw_lenW 0 a) ∧ mw_WP d 205 47 [l0, l1, l2] st (upS σ a z.toNat x) Q) := WP_iastore mq205 dd205_46
theorem dd205_47 : decode cX12_does 47 = .ok (.iload_n 2, 1) := by decide +kernel
theorem ww205_47 {d : Nat} {l0 l1 : Option mw_V} {x : Int} {st : List mw_V} {σ : mw_S} {Q : Option mw_V → mw_S → Prop} : mw_WP d 205 47 [l0, l1, some (jI x)] st σ Q ↔ mw_WP d 205 48 [l0, l1, some (jI x)] (jI x :: st) σ Q := WP_iload_n mq205 dd205_47 rfl
theorem dd205_48 : decode cX12_does 48 = .ok (.iconst 3, 1) := by decide +kernel
theorem ww205_48 {d : Nat} {l0 l1 l2 : Option mw_V} {st : List mw_V} {σ : mw_S} {Q : Option mw_V → mw_S → Prop} : mw_WP d 205 48 [l0, l1, l2] st σ Q ↔ mw_WP d 205 49 [l0, l1, l2] (jI (3) :: st) σ Q := WP_iconst mq205 dd205_48 (by decide)
theorem dd205_49 : decode cX12_does 49 = .ok (.if_icmp .eq 8, 3) := by decide +kernel
theorem ww205_49 {d : Nat} {l0 l1 l2 : Option mw_V} {x y : Int} {st : List mw_V} {σ : mw_S} {Q : Option mw_V → mw_S → Prop} : mw_WP d 205 49 [l0, l1, l2] (jI y :: jI x :: st) σ Q ↔ (if x = y then mw_WP d 205 57 [l0, l1, l2] st σ Q else mw_WP d 205 52 [l0, l1, l2] st σ Q) := WP_icmp_eq mq205 dd205_49 (by decide)
theorem dd205_52 : decode cX12_does 52 = .ok (.iload_n 2, 1) := by decide +kernel
theorem ww205_52 {d : Nat} {l0 l1 : Option mw_V} {x : Int} {st : List mw_V} {σ : mw_S} {Q : Option mw_V → mw_S → Prop} : mw_WP d 205 52 [l0, l1, some (jI x)] st σ Q ↔ mw_WP d 205 53 [l0, l1, some (jI x)] (jI x :: st) σ Q := WP_iload_n mq205 dd205_52 rfl
theorem dd205_53 : decode cX12_does 53 = .ok (.iconst 4, 1) := by decide +kernel
theorem ww205_53 {d : Nat} {l0 l1 l2 : Option mw_V} {st : List mw_V} {σ : mw_S} {Q : Option mw_V → mw_S → Prop} : mw_WP d 205 53 [l0, l1, l2] st σ Q ↔ mw_WP d 205 54 [l0, l1, l2] (jI (4) :: st) σ Q := WP_iconst mq205 dd205_53 (by decide)
theorem dd205_54 : decode cX12_does 54 = .ok (.if_icmp .ne 23, 3) := by decide +kernel
theorem ww205_54 {d : Nat} {l0 l1 l2 : Option mw_V} {x y : Int} {st : List mw_V} {σ : mw_S} {Q : Option mw_V → mw_S → Prop} : mw_WP d 205 54 [l0, l1, l2] (jI y :: jI x :: st) σ Q ↔ (if ¬ x = y then mw_WP d 205 77 [l0, l1, l2] st σ Q else mw_WP d 205 57 [l0, l1, l2] st σ Q) := WP_icmp_ne mq205 dd205_54 (by decide)
theorem dd205_57 : decode cX12_does 57 = .ok (.aload_n 0, 1) := by decide +kernel
theorem ww205_57 {d : Nat} {l1 l2 : Option mw_V} {x : Nat} {st : List mw_V} {σ : mw_S} {Q : Option mw_V → mw_S → Prop} : mw_WP d 205 57 [some (jR x), l1, l2] st σ Q ↔ mw_WP d 205 58 [some (jR x), l1, l2] (jR x :: st) σ Q := WP_aload_n mq205 dd205_57 rfl
theorem dd205_58 : decode cX12_does 58 = .ok (.getfield 13, 3) := by decide +kernel
theorem ww205_58 {d : Nat} {l0 l1 l2 : Option mw_V} {st : List mw_V} {σ : mw_S} {Q : Option mw_V → mw_S → Prop} : mw_WP d 205 58 [l0, l1, l2] (jR 100 :: st) σ Q ↔ mw_WP d 205 61 [l0, l1, l2] (jR 101 :: st) σ Q := WP_getR (ci := 11) (k := 1) mq205 dd205_58 (by decide) rfl
theorem dd205_61 : decode cX12_does 61 = .ok (.bipush 50, 2) := by decide +kernel
theorem ww205_61 {d : Nat} {l0 l1 l2 : Option mw_V} {st : List mw_V} {σ : mw_S} {Q : Option mw_V → mw_S → Prop} : mw_WP d 205 61 [l0, l1, l2] st σ Q ↔ mw_WP d 205 63 [l0, l1, l2] (jI (50) :: st) σ Q := WP_bipush mq205 dd205_61 (by decide)
theorem dd205_63 : decode cX12_does 63 = .ok (.aload_n 0, 1) := by decide +kernel
theorem ww205_63 {d : Nat} {l1 l2 : Option mw_V} {x : Nat} {st : List mw_V} {σ : mw_S} {Q : Option mw_V → mw_S → Prop} : mw_WP d 205 63 [some (jR x), l1, l2] st σ Q ↔ mw_WP d 205 64 [some (jR x), l1, l2] (jR x :: st) σ Q := WP_aload_n mq205 dd205_63 rfl
theorem dd205_64 : decode cX12_does 64 = .ok (.iload_n 1, 1) := by decide +kernel
theorem ww205_64 {d : Nat} {l0 l2 : Option mw_V} {x : Int} {st : List mw_V} {σ : mw_S} {Q : Option mw_V → mw_S → Prop} : mw_WP d 205 64 [l0, some (jI x), l2] st σ Q ↔ mw_WP d 205 65 [l0, some (jI x), l2] (jI x :: st) σ Q := WP_iload_n mq205 dd205_64 rfl
theorem dd205_65 : decode cX12_does 65 = .ok (.invokevirtual 228, 3) := by decide +kernel
theorem ww205_65 {d : Nat} {l0 l1 l2 : Option mw_V} {v0 : mw_V} {a : Nat} {st : List mw_V} {σ : mw_S} {Q : Option mw_V → mw_S → Prop} (hr : mw_rc a = 12) (h8 : (st.map mw_cat).sum ≤ 8) : mw_WP d 205 65 [l0, l1, l2] (v0 :: jR a :: st) σ Q ↔ mw_Call d 200 [jR a, v0] σ (fun r1 s1 => mw_WP d 205 68 [l0, l1, l2] (r1.toList ++ st) s1 Q) := WP_inv (as := [v0]) mq205 dd205_65 (by decide) mq200 rfl hr h8
theorem dd205_68 : decode cX12_does 68 = .ok (.iadd, 1) := by decide +kernel
theorem ww205_68 {d : Nat} {l0 l1 l2 : Option mw_V} {x y : Int} {st : List mw_V} {σ : mw_S} {Q : Option mw_V → mw_S → Prop} : mw_WP d 205 68 [l0, l1, l2] (jI y :: jI x :: st) σ Q ↔ mw_WP d 205 69 [l0, l1, l2] (jI (w32 (x + y)) :: st) σ Q := WP_iadd mq205 dd205_68
theorem dd205_69 : decode cX12_does 69 = .ok (.iload_n 1, 1) := by decide +kernel
theorem ww205_69 {d : Nat} {l0 l2 : Option mw_V} {x : Int} {st : List mw_V} {σ : mw_S} {Q : Option mw_V → mw_S → Prop} : mw_WP d 205 69 [l0, some (jI x), l2] st σ Q ↔ mw_WP d 205 70 [l0, some (jI x), l2] (jI x :: st) σ Q := WP_iload_n mq205 dd205_69 rfl
theorem dd205_70 : decode cX12_does 70 = .ok (.iload_n 2, 1) := by decide +kernel
theorem ww205_70 {d : Nat} {l0 l1 : Option mw_V} {x : Int} {st : List mw_V} {σ : mw_S} {Q : Option mw_V → mw_S → Prop} : mw_WP d 205 70 [l0, l1, some (jI x)] st σ Q ↔ mw_WP d 205 71 [l0, l1, some (jI x)] (jI x :: st) σ Q := WP_iload_n mq205 dd205_70 rfl
theorem dd205_71 : decode cX12_does 71 = .ok (.iconst 3, 1) := by decide +kernel
theorem ww205_71 {d : Nat} {l0 l1 l2 : Option mw_V} {st : List mw_V} {σ : mw_S} {Q : Option mw_V → mw_S → Prop} : mw_WP d 205 71 [l0, l1, l2] st σ Q ↔ mw_WP d 205 72 [l0, l1, l2] (jI (3) :: st) σ Q := WP_iconst mq205 dd205_71 (by decide)
theorem dd205_72 : decode cX12_does 72 = .ok (.isub, 1) := by decide +kernel
theorem ww205_72 {d : Nat} {l0 l1 l2 : Option mw_V} {x y : Int} {st : List mw_V} {σ : mw_S} {Q : Option mw_V → mw_S → Prop} : mw_WP d 205 72 [l0, l1, l2] (jI y :: jI x :: st) σ Q ↔ mw_WP d 205 73 [l0, l1, l2] (jI (w32 (x - y)) :: st) σ Q := WP_isub mq205 dd205_72
theorem dd205_73 : decode cX12_does 73 = .ok (.invokestatic 225, 3) := by decide +kernel
theorem ww205_73 {d : Nat} {l0 l1 l2 : Option mw_V} {v0 v1 : mw_V} {st : List mw_V} {σ : mw_S} {Q : Option mw_V → mw_S → Prop} (h8 : (st.map mw_cat).sum ≤ 8) : mw_WP d 205 73 [l0, l1, l2] (v1 :: v0 :: st) σ Q ↔ mw_Call d 198 [v0, v1] σ (fun r1 s1 => mw_WP d 205 76 [l0, l1, l2] (r1.toList ++ st) s1 Q) := WP_invs (as := [v1, v0]) mq205 dd205_73 (by decide) mq198 rfl rfl h8
theorem dd205_76 : decode cX12_does 76 = .ok (.iastore, 1) := by decide +kernel
theorem ww205_76 {d : Nat} {l0 l1 l2 : Option mw_V} {x z : Int} {a : Nat} {st : List mw_V} {σ : mw_S} {Q : Option mw_V → mw_S → Prop} : mw_WP d 205 76 [l0, l1, l2] (jI x :: jI z :: jR a :: st) σ Q ↔ ((0 ≤ z ∧ z < mw_lenW 0 a) ∧ mw_WP d 205 77 [l0, l1, l2] st (upS σ a z.toNat x) Q) := WP_iastore mq205 dd205_76
theorem dd205_77 : decode cX12_does 77 = .ok (.iload_n 2, 1) := by decide +kernel
theorem ww205_77 {d : Nat} {l0 l1 : Option mw_V} {x : Int} {st : List mw_V} {σ : mw_S} {Q : Option mw_V → mw_S → Prop} : mw_WP d 205 77 [l0, l1, some (jI x)] st σ Q ↔ mw_WP d 205 78 [l0, l1, some (jI x)] (jI x :: st) σ Q := WP_iload_n mq205 dd205_77 rfl
theorem dd205_78 : decode cX12_does 78 = .ok (.iconst 5, 1) := by decide +kernel
theorem ww205_78 {d : Nat} {l0 l1 l2 : Option mw_V} {st : List mw_V} {σ : mw_S} {Q : Option mw_V → mw_S → Prop} : mw_WP d 205 78 [l0, l1, l2] st σ Q ↔ mw_WP d 205 79 [l0, l1, l2] (jI (5) :: st) σ Q := WP_iconst mq205 dd205_78 (by decide)
theorem dd205_79 : decode cX12_does 79 = .ok (.if_icmp .eq 9, 3) := by decide +kernel
theorem ww205_79 {d : Nat} {l0 l1 l2 : Option mw_V} {x y : Int} {st : List mw_V} {σ : mw_S} {Q : Option mw_V → mw_S → Prop} : mw_WP d 205 79 [l0, l1, l2] (jI y :: jI x :: st) σ Q ↔ (if x = y then mw_WP d 205 88 [l0, l1, l2] st σ Q else mw_WP d 205 82 [l0, l1, l2] st σ Q) := WP_icmp_eq mq205 dd205_79 (by decide)
theorem dd205_82 : decode cX12_does 82 = .ok (.iload_n 2, 1) := by decide +kernel
theorem ww205_82 {d : Nat} {l0 l1 : Option mw_V} {x : Int} {st : List mw_V} {σ : mw_S} {Q : Option mw_V → mw_S → Prop} : mw_WP d 205 82 [l0, l1, some (jI x)] st σ Q ↔ mw_WP d 205 83 [l0, l1, some (jI x)] (jI x :: st) σ Q := WP_iload_n mq205 dd205_82 rfl
theorem dd205_83 : decode cX12_does 83 = .ok (.bipush 6, 2) := by decide +kernel
theorem ww205_83 {d : Nat} {l0 l1 l2 : Option mw_V} {st : List mw_V} {σ : mw_S} {Q : Option mw_V → mw_S → Prop} : mw_WP d 205 83 [l0, l1, l2] st σ Q ↔ mw_WP d 205 85 [l0, l1, l2] (jI (6) :: st) σ Q := WP_bipush mq205 dd205_83 (by decide)
theorem dd205_85 : decode cX12_does 85 = .ok (.if_icmp .ne 39, 3) := by decide +kernel
theorem ww205_85 {d : Nat} {l0 l1 l2 : Option mw_V} {x y : Int} {st : List mw_V} {σ : mw_S} {Q : Option mw_V → mw_S → Prop} : mw_WP d 205 85 [l0, l1, l2] (jI y :: jI x :: st) σ Q ↔ (if ¬ x = y then mw_WP d 205 124 [l0, l1, l2] st σ Q else mw_WP d 205 88 [l0, l1, l2] st σ Q) := WP_icmp_ne mq205 dd205_85 (by decide)
theorem dd205_88 : decode cX12_does 88 = .ok (.aload_n 0, 1) := by decide +kernel
theorem ww205_88 {d : Nat} {l1 l2 : Option mw_V} {x : Nat} {st : List mw_V} {σ : mw_S} {Q : Option mw_V → mw_S → Prop} : mw_WP d 205 88 [some (jR x), l1, l2] st σ Q ↔ mw_WP d 205 89 [some (jR x), l1, l2] (jR x :: st) σ Q := WP_aload_n mq205 dd205_88 rfl
theorem dd205_89 : decode cX12_does 89 = .ok (.getfield 13, 3) := by decide +kernel
theorem ww205_89 {d : Nat} {l0 l1 l2 : Option mw_V} {st : List mw_V} {σ : mw_S} {Q : Option mw_V → mw_S → Prop} : mw_WP d 205 89 [l0, l1, l2] (jR 100 :: st) σ Q ↔ mw_WP d 205 92 [l0, l1, l2] (jR 101 :: st) σ Q := WP_getR (ci := 11) (k := 1) mq205 dd205_89 (by decide) rfl
theorem dd205_92 : decode cX12_does 92 = .ok (.bipush 50, 2) := by decide +kernel
theorem ww205_92 {d : Nat} {l0 l1 l2 : Option mw_V} {st : List mw_V} {σ : mw_S} {Q : Option mw_V → mw_S → Prop} : mw_WP d 205 92 [l0, l1, l2] st σ Q ↔ mw_WP d 205 94 [l0, l1, l2] (jI (50) :: st) σ Q := WP_bipush mq205 dd205_92 (by decide)
theorem dd205_94 : decode cX12_does 94 = .ok (.aload_n 0, 1) := by decide +kernel
theorem ww205_94 {d : Nat} {l1 l2 : Option mw_V} {x : Nat} {st : List mw_V} {σ : mw_S} {Q : Option mw_V → mw_S → Prop} : mw_WP d 205 94 [some (jR x), l1, l2] st σ Q ↔ mw_WP d 205 95 [some (jR x), l1, l2] (jR x :: st) σ Q := WP_aload_n mq205 dd205_94 rfl
theorem dd205_95 : decode cX12_does 95 = .ok (.iload_n 1, 1) := by decide +kernel
theorem ww205_95 {d : Nat} {l0 l2 : Option mw_V} {x : Int} {st : List mw_V} {σ : mw_S} {Q : Option mw_V → mw_S → Prop} : mw_WP d 205 95 [l0, some (jI x), l2] st σ Q ↔ mw_WP d 205 96 [l0, some (jI x), l2] (jI x :: st) σ Q := WP_iload_n mq205 dd205_95 rfl
theorem dd205_96 : decode cX12_does 96 = .ok (.iload_n 2, 1) := by decide +kernel
theorem ww205_96 {d : Nat} {l0 l1 : Option mw_V} {x : Int} {st : List mw_V} {σ : mw_S} {Q : Option mw_V → mw_S → Prop} : mw_WP d 205 96 [l0, l1, some (jI x)] st σ Q ↔ mw_WP d 205 97 [l0, l1, some (jI x)] (jI x :: st) σ Q := WP_iload_n mq205 dd205_96 rfl
theorem dd205_97 : decode cX12_does 97 = .ok (.iconst 5, 1) := by decide +kernel
theorem ww205_97 {d : Nat} {l0 l1 l2 : Option mw_V} {st : List mw_V} {σ : mw_S} {Q : Option mw_V → mw_S → Prop} : mw_WP d 205 97 [l0, l1, l2] st σ Q ↔ mw_WP d 205 98 [l0, l1, l2] (jI (5) :: st) σ Q := WP_iconst mq205 dd205_97 (by decide)
theorem dd205_98 : decode cX12_does 98 = .ok (.isub, 1) := by decide +kernel
theorem ww205_98 {d : Nat} {l0 l1 l2 : Option mw_V} {x y : Int} {st : List mw_V} {σ : mw_S} {Q : Option mw_V → mw_S → Prop} : mw_WP d 205 98 [l0, l1, l2] (jI y :: jI x :: st) σ Q ↔ mw_WP d 205 99 [l0, l1, l2] (jI (w32 (x - y)) :: st) σ Q := WP_isub mq205 dd205_98
theorem dd205_99 : decode cX12_does 99 = .ok (.invokestatic 225, 3) := by decide +kernel
theorem ww205_99 {d : Nat} {l0 l1 l2 : Option mw_V} {v0 v1 : mw_V} {st : List mw_V} {σ : mw_S} {Q : Option mw_V → mw_S → Prop} (h8 : (st.map mw_cat).sum ≤ 8) : mw_WP d 205 99 [l0, l1, l2] (v1 :: v0 :: st) σ Q ↔ mw_Call d 198 [v0, v1] σ (fun r1 s1 => mw_WP d 205 102 [l0, l1, l2] (r1.toList ++ st) s1 Q) := WP_invs (as := [v1, v0]) mq205 dd205_99 (by decide) mq198 rfl rfl h8
theorem dd205_102 : decode cX12_does 102 = .ok (.invokevirtual 219, 3) := by decide +kernel
theorem ww205_102 {d : Nat} {l0 l1 l2 : Option mw_V} {v0 : mw_V} {a : Nat} {st : List mw_V} {σ : mw_S} {Q : Option mw_V → mw_S → Prop} (hr : mw_rc a = 12) (h8 : (st.map mw_cat).sum ≤ 8) : mw_WP d 205 102 [l0, l1, l2] (v0 :: jR a :: st) σ Q ↔ mw_Call d 199 [jR a, v0] σ (fun r1 s1 => mw_WP d 205 105 [l0, l1, l2] (r1.toList ++ st) s1 Q) := WP_inv (as := [v0]) mq205 dd205_102 (by decide) mq199 rfl hr h8
theorem dd205_105 : decode cX12_does 105 = .ok (.iadd, 1) := by decide +kernel
theorem ww205_105 {d : Nat} {l0 l1 l2 : Option mw_V} {x y : Int} {st : List mw_V} {σ : mw_S} {Q : Option mw_V → mw_S → Prop} : mw_WP d 205 105 [l0, l1, l2] (jI y :: jI x :: st) σ Q ↔ mw_WP d 205 106 [l0, l1, l2] (jI (w32 (x + y)) :: st) σ Q := WP_iadd mq205 dd205_105
theorem dd205_106 : decode cX12_does 106 = .ok (.aload_n 0, 1) := by decide +kernel
theorem ww205_106 {d : Nat} {l1 l2 : Option mw_V} {x : Nat} {st : List mw_V} {σ : mw_S} {Q : Option mw_V → mw_S → Prop} : mw_WP d 205 106 [some (jR x), l1, l2] st σ Q ↔ mw_WP d 205 107 [some (jR x), l1, l2] (jR x :: st) σ Q := WP_aload_n mq205 dd205_106 rfl
theorem dd205_107 : decode cX12_does 107 = .ok (.iload_n 1, 1) := by decide +kernel
theorem ww205_107 {d : Nat} {l0 l2 : Option mw_V} {x : Int} {st : List mw_V} {σ : mw_S} {Q : Option mw_V → mw_S → Prop} : mw_WP d 205 107 [l0, some (jI x), l2] st σ Q ↔ mw_WP d 205 108 [l0, some (jI x), l2] (jI x :: st) σ Q := WP_iload_n mq205 dd205_107 rfl
theorem dd205_108 : decode cX12_does 108 = .ok (.invokevirtual 216, 3) := by decide +kernel
theorem ww205_108 {d : Nat} {l0 l1 l2 : Option mw_V} {v0 : mw_V} {a : Nat} {st : List mw_V} {σ : mw_S} {Q : Option mw_V → mw_S → Prop} (hr : mw_rc a = 12) (h8 : (st.map mw_cat).sum ≤ 8) : mw_WP d 205 108 [l0, l1, l2] (v0 :: jR a :: st) σ Q ↔ mw_Call d 197 [jR a, v0] σ (fun r1 s1 => mw_WP d 205 111 [l0, l1, l2] (r1.toList ++ st) s1 Q) := WP_inv (as := [v0]) mq205 dd205_108 (by decide) mq197 rfl hr h8
theorem dd205_111 : decode cX12_does 111 = .ok (.iload_n 1, 1) := by decide +kernel
theorem ww205_111 {d : Nat} {l0 l2 : Option mw_V} {x : Int} {st : List mw_V} {σ : mw_S} {Q : Option mw_V → mw_S → Prop} : mw_WP d 205 111 [l0, some (jI x), l2] st σ Q ↔ mw_WP d 205 112 [l0, some (jI x), l2] (jI x :: st) σ Q := WP_iload_n mq205 dd205_111 rfl
theorem dd205_112 : decode cX12_does 112 = .ok (.iconst 3, 1) := by decide +kernel
theorem ww205_112 {d : Nat} {l0 l1 l2 : Option mw_V} {st : List mw_V} {σ : mw_S} {Q : Option mw_V → mw_S → Prop} : mw_WP d 205 112 [l0, l1, l2] st σ Q ↔ mw_WP d 205 113 [l0, l1, l2] (jI (3) :: st) σ Q := WP_iconst mq205 dd205_112 (by decide)
theorem dd205_113 : decode cX12_does 113 = .ok (.if_icmp .ge 7, 3) := by decide +kernel
theorem ww205_113 {d : Nat} {l0 l1 l2 : Option mw_V} {x y : Int} {st : List mw_V} {σ : mw_S} {Q : Option mw_V → mw_S → Prop} : mw_WP d 205 113 [l0, l1, l2] (jI y :: jI x :: st) σ Q ↔ (if y ≤ x then mw_WP d 205 120 [l0, l1, l2] st σ Q else mw_WP d 205 116 [l0, l1, l2] st σ Q) := WP_icmp_ge mq205 dd205_113 (by decide)
theorem dd205_116 : decode cX12_does 116 = .ok (.iconst 0, 1) := by decide +kernel
theorem ww205_116 {d : Nat} {l0 l1 l2 : Option mw_V} {st : List mw_V} {σ : mw_S} {Q : Option mw_V → mw_S → Prop} : mw_WP d 205 116 [l0, l1, l2] st σ Q ↔ mw_WP d 205 117 [l0, l1, l2] (jI (0) :: st) σ Q := WP_iconst mq205 dd205_116 (by decide)
theorem dd205_117 : decode cX12_does 117 = .ok (.goto 5, 3) := by decide +kernel
theorem ww205_117 {d : Nat} {l0 l1 l2 : Option mw_V} {st : List mw_V} {σ : mw_S} {Q : Option mw_V → mw_S → Prop} : mw_WP d 205 117 [l0, l1, l2] st σ Q ↔ mw_WP d 205 122 [l0, l1, l2] st σ Q := WP_goto mq205 dd205_117 (by decide)
theorem dd205_120 : decode cX12_does 120 = .ok (.bipush 10, 2) := by decide +kernel
theorem ww205_120 {d : Nat} {l0 l1 l2 : Option mw_V} {st : List mw_V} {σ : mw_S} {Q : Option mw_V → mw_S → Prop} : mw_WP d 205 120 [l0, l1, l2] st σ Q ↔ mw_WP d 205 122 [l0, l1, l2] (jI (10) :: st) σ Q := WP_bipush mq205 dd205_120 (by decide)
theorem dd205_122 : decode cX12_does 122 = .ok (.iadd, 1) := by decide +kernel
theorem ww205_122 {d : Nat} {l0 l1 l2 : Option mw_V} {x y : Int} {st : List mw_V} {σ : mw_S} {Q : Option mw_V → mw_S → Prop} : mw_WP d 205 122 [l0, l1, l2] (jI y :: jI x :: st) σ Q ↔ mw_WP d 205 123 [l0, l1, l2] (jI (w32 (x + y)) :: st) σ Q := WP_iadd mq205 dd205_122
theorem dd205_123 : decode cX12_does 123 = .ok (.iastore, 1) := by decide +kernel
theorem ww205_123 {d : Nat} {l0 l1 l2 : Option mw_V} {x z : Int} {a : Nat} {st : List mw_V} {σ : mw_S} {Q : Option mw_V → mw_S → Prop} : mw_WP d 205 123 [l0, l1, l2] (jI x :: jI z :: jR a :: st) σ Q ↔ ((0 ≤ z ∧ z < mw_lenW 0 a) ∧ mw_WP d 205 124 [l0, l1, l2] st (upS σ a z.toNat x) Q) := WP_iastore mq205 dd205_123
theorem dd205_124 : decode cX12_does 124 = .ok (.iconst 1, 1) := by decide +kernel
theorem ww205_124 {d : Nat} {l0 l1 l2 : Option mw_V} {st : List mw_V} {σ : mw_S} {Q : Option mw_V → mw_S → Prop} : mw_WP d 205 124 [l0, l1, l2] st σ Q ↔ mw_WP d 205 125 [l0, l1, l2] (jI (1) :: st) σ Q := WP_iconst mq205 dd205_124 (by decide)
theorem dd205_125 : decode cX12_does 125 = .ok (.ireturn, 1) := by decide +kernel
theorem ww205_125 {d : Nat} {l0 l1 l2 : Option mw_V} {z : Int} {σ : mw_S} {Q : Option mw_V → mw_S → Prop} (h : z = 0 ∨ z = 1) : mw_WP d 205 125 [l0, l1, l2] [jI z] σ Q ↔ Q (some (jI z)) σ := WP_ireturn (ty := .boolean) mq205 dd205_125 rfl (by rcases h with rfl | rfl <;> decide)
