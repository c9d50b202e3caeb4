/-! 13.m3: rows that decode each instruction, and its rule -/
theorem ee258 {d : Nat} {a : Nat} {z0 : Int} {z1 : Int} {z2 : Int} {z3 : Int} {σ : mw_S} {Q : Option mw_V → mw_S → Prop} : mw_Call (d + 1) 258 [jR a, jI z0, jI z1, jI z2, jI z3] σ Q ↔ mw_WP d 258 0 [some (jR a), some (jI z0), some (jI z1), some (jI z2), some (jI z3), none, none, none] [] σ Q := CL_u mq258 (Nat.le_of_ble_eq_true rfl) rfl
theorem dd258_0 : decode cX12_canWin 0 = .ok (.bipush 125, 2) := by decide +kernel
theorem ww258_0 {d : Nat} {l0 l1 l2 l3 l4 l5 l6 l7 : Option mw_V} {st : List mw_V} {σ : mw_S} {Q : Option mw_V → mw_S → Prop} : mw_WP d 258 0 [l0, l1, l2, l3, l4, l5, l6, l7] st σ Q ↔ mw_WP d 258 2 [l0, l1, l2, l3, l4, l5, l6, l7] (jI (125) :: st) σ Q := WP_bipush mq258 dd258_0 (by decide)
theorem dd258_2 : decode cX12_canWin 2 = .ok (.iload_n 1, 1) := by decide +kernel
theorem ww258_2 {d : Nat} {l0 l2 l3 l4 l5 l6 l7 : Option mw_V} {x : Int} {st : List mw_V} {σ : mw_S} {Q : Option mw_V → mw_S → Prop} : mw_WP d 258 2 [l0, some (jI x), l2, l3, l4, l5, l6, l7] st σ Q ↔ mw_WP d 258 3 [l0, some (jI x), l2, l3, l4, l5, l6, l7] (jI x :: st) σ Q := WP_iload_n mq258 dd258_2 rfl
theorem dd258_3 : decode cX12_canWin 3 = .ok (.imul, 1) := by decide +kernel
theorem ww258_3 {d : Nat} {l0 l1 l2 l3 l4 l5 l6 l7 : Option mw_V} {x y : Int} {st : List mw_V} {σ : mw_S} {Q : Option mw_V → mw_S → Prop} : mw_WP d 258 3 [l0, l1, l2, l3, l4, l5, l6, l7] (jI y :: jI x :: st) σ Q ↔ mw_WP d 258 4 [l0, l1, l2, l3, l4, l5, l6, l7] (jI (w32 (x * y)) :: st) σ Q := WP_imul mq258 dd258_3
theorem dd258_4 : decode cX12_canWin 4 = .ok (.bipush 25, 2) := by decide +kernel
theorem ww258_4 {d : Nat} {l0 l1 l2 l3 l4 l5 l6 l7 : Option mw_V} {st : List mw_V} {σ : mw_S} {Q : Option mw_V → mw_S → Prop} : mw_WP d 258 4 [l0, l1, l2, l3, l4, l5, l6, l7] st σ Q ↔ mw_WP d 258 6 [l0, l1, l2, l3, l4, l5, l6, l7] (jI (25) :: st) σ Q := WP_bipush mq258 dd258_4 (by decide)
theorem dd258_6 : decode cX12_canWin 6 = .ok (.iload_n 2, 1) := by decide +kernel
theorem ww258_6 {d : Nat} {l0 l1 l3 l4 l5 l6 l7 : Option mw_V} {x : Int} {st : List mw_V} {σ : mw_S} {Q : Option mw_V → mw_S → Prop} : mw_WP d 258 6 [l0, l1, some (jI x), l3, l4, l5, l6, l7] st σ Q ↔ mw_WP d 258 7 [l0, l1, some (jI x), l3, l4, l5, l6, l7] (jI x :: st) σ Q := WP_iload_n mq258 dd258_6 rfl
theorem dd258_7 : decode cX12_canWin 7 = .ok (.imul, 1) := by decide +kernel
theorem ww258_7 {d : Nat} {l0 l1 l2 l3 l4 l5 l6 l7 : Option mw_V} {x y : Int} {st : List mw_V} {σ : mw_S} {Q : Option mw_V → mw_S → Prop} : mw_WP d 258 7 [l0, l1, l2, l3, l4, l5, l6, l7] (jI y :: jI x :: st) σ Q ↔ mw_WP d 258 8 [l0, l1, l2, l3, l4, l5, l6, l7] (jI (w32 (x * y)) :: st) σ Q := WP_imul mq258 dd258_7
theorem dd258_8 : decode cX12_canWin 8 = .ok (.iadd, 1) := by decide +kernel
theorem ww258_8 {d : Nat} {l0 l1 l2 l3 l4 l5 l6 l7 : Option mw_V} {x y : Int} {st : List mw_V} {σ : mw_S} {Q : Option mw_V → mw_S → Prop} : mw_WP d 258 8 [l0, l1, l2, l3, l4, l5, l6, l7] (jI y :: jI x :: st) σ Q ↔ mw_WP d 258 9 [l0, l1, l2, l3, l4, l5, l6, l7] (jI (w32 (x + y)) :: st) σ Q := WP_iadd mq258 dd258_8
theorem dd258_9 : decode cX12_canWin 9 = .ok (.iconst 5, 1) := by decide +kernel
theorem ww258_9 {d : Nat} {l0 l1 l2 l3 l4 l5 l6 l7 : Option mw_V} {st : List mw_V} {σ : mw_S} {Q : Option mw_V → mw_S → Prop} : mw_WP d 258 9 [l0, l1, l2, l3, l4, l5, l6, l7] st σ Q ↔ mw_WP d 258 10 [l0, l1, l2, l3, l4, l5, l6, l7] (jI (5) :: st) σ Q := WP_iconst mq258 dd258_9 (by decide)
theorem dd258_10 : decode cX12_canWin 10 = .ok (.iload_n 3, 1) := by decide +kernel
theorem ww258_10 {d : Nat} {l0 l1 l2 l4 l5 l6 l7 : Option mw_V} {x : Int} {st : List mw_V} {σ : mw_S} {Q : Option mw_V → mw_S → Prop} : mw_WP d 258 10 [l0, l1, l2, some (jI x), l4, l5, l6, l7] st σ Q ↔ mw_WP d 258 11 [l0, l1, l2, some (jI x), l4, l5, l6, l7] (jI x :: st) σ Q := WP_iload_n mq258 dd258_10 rfl
theorem dd258_11 : decode cX12_canWin 11 = .ok (.imul, 1) := by decide +kernel
theorem ww258_11 {d : Nat} {l0 l1 l2 l3 l4 l5 l6 l7 : Option mw_V} {x y : Int} {st : List mw_V} {σ : mw_S} {Q : Option mw_V → mw_S → Prop} : mw_WP d 258 11 [l0, l1, l2, l3, l4, l5, l6, l7] (jI y :: jI x :: st) σ Q ↔ mw_WP d 258 12 [l0, l1, l2, l3, l4, l5, l6, l7] (jI (w32 (x * y)) :: st) σ Q := WP_imul mq258 dd258_11
theorem dd258_12 : decode cX12_canWin 12 = .ok (.iadd, 1) := by decide +kernel
theorem ww258_12 {d : Nat} {l0 l1 l2 l3 l4 l5 l6 l7 : Option mw_V} {x y : Int} {st : List mw_V} {σ : mw_S} {Q : Option mw_V → mw_S → Prop} : mw_WP d 258 12 [l0, l1, l2, l3, l4, l5, l6, l7] (jI y :: jI x :: st) σ Q ↔ mw_WP d 258 13 [l0, l1, l2, l3, l4, l5, l6, l7] (jI (w32 (x + y)) :: st) σ Q := WP_iadd mq258 dd258_12
theorem dd258_13 : decode cX12_canWin 13 = .ok (.iload 4, 2) := by decide +kernel
theorem ww258_13 {d : Nat} {l0 l1 l2 l3 l5 l6 l7 : Option mw_V} {x : Int} {st : List mw_V} {σ : mw_S} {Q : Option mw_V → mw_S → Prop} : mw_WP d 258 13 [l0, l1, l2, l3, some (jI x), l5, l6, l7] st σ Q ↔ mw_WP d 258 15 [l0, l1, l2, l3, some (jI x), l5, l6, l7] (jI x :: st) σ Q := WP_iload mq258 dd258_13 rfl
theorem dd258_15 : decode cX12_canWin 15 = .ok (.iadd, 1) := by decide +kernel
theorem ww258_15 {d : Nat} {l0 l1 l2 l3 l4 l5 l6 l7 : Option mw_V} {x y : Int} {st : List mw_V} {σ : mw_S} {Q : Option mw_V → mw_S → Prop} : mw_WP d 258 15 [l0, l1, l2, l3, l4, l5, l6, l7] (jI y :: jI x :: st) σ Q ↔ mw_WP d 258 16 [l0, l1, l2, l3, l4, l5, l6, l7] (jI (w32 (x + y)) :: st) σ Q := WP_iadd mq258 dd258_15
theorem dd258_16 : decode cX12_canWin 16 = .ok (.istore 5, 2) := by decide +kernel
theorem ww258_16 {d : Nat} {l0 l1 l2 l3 l4 l5 l6 l7 : Option mw_V} {x : Int} {st : List mw_V} {σ : mw_S} {Q : Option mw_V → mw_S → Prop} (h : mw_nlo l4 = true) : mw_WP d 258 16 [l0, l1, l2, l3, l4, l5, l6, l7] (jI x :: st) σ Q ↔ mw_WP d 258 18 [l0, l1, l2, l3, l4, some (jI x), l6, l7] st σ Q := WP_istore mq258 dd258_16 (Nat.le_of_ble_eq_true rfl) (mw_nl_of (i := 4) rfl h) rfl
theorem dd258_18 : decode cX12_canWin 18 = .ok (.aload_n 0, 1) := by decide +kernel
theorem ww258_18 {d : Nat} {l1 l2 l3 l4 l5 l6 l7 : Option mw_V} {x : Nat} {st : List mw_V} {σ : mw_S} {Q : Option mw_V → mw_S → Prop} : mw_WP d 258 18 [some (jR x), l1, l2, l3, l4, l5, l6, l7] st σ Q ↔ mw_WP d 258 19 [some (jR x), l1, l2, l3, l4, l5, l6, l7] (jR x :: st) σ Q := WP_aload_n mq258 dd258_18 rfl
theorem dd258_19 : decode cX12_canWin 19 = .ok (.getfield 81, 3) := by decide +kernel
theorem ww258_19 {d : Nat} {l0 l1 l2 l3 l4 l5 l6 l7 : Option mw_V} {st : List mw_V} {σ : mw_S} {Q : Option mw_V → mw_S → Prop} : mw_WP d 258 19 [l0, l1, l2, l3, l4, l5, l6, l7] (jR 100 :: st) σ Q ↔ mw_WP d 258 22 [l0, l1, l2, l3, l4, l5, l6, l7] (jR 121 :: st) σ Q := WP_getR (ci := 11) (k := 45) mq258 dd258_19 (by decide) rfl
theorem dd258_22 : decode cX12_canWin 22 = .ok (.iload 5, 2) := by decide +kernel
theorem ww258_22 {d : Nat} {l0 l1 l2 l3 l4 l6 l7 : Option mw_V} {x : Int} {st : List mw_V} {σ : mw_S} {Q : Option mw_V → mw_S → Prop} : mw_WP d 258 22 [l0, l1, l2, l3, l4, some (jI x), l6, l7] st σ Q ↔ mw_WP d 258 24 [l0, l1, l2, l3, l4, some (jI x), l6, l7] (jI x :: st) σ Q := WP_iload mq258 dd258_22 rfl
theorem dd258_24 : decode cX12_canWin 24 = .ok (.iaload, 1) := by decide +kernel
theorem ww258_24 {d : Nat} {l0 l1 l2 l3 l4 l5 l6 l7 : Option mw_V} {z : Int} {a : Nat} {st : List mw_V} {σ : mw_S} {Q : Option mw_V → mw_S → Prop} : mw_WP d 258 24 [l0, l1, l2, l3, l4, l5, l6, l7] (jI z :: jR a :: st) σ Q ↔ ((0 ≤ z ∧ z < mw_lenI a) ∧ mw_WP d 258 25 [l0, l1, l2, l3, l4, l5, l6, l7] (jI (mw_rdI σ a z.toNat) :: st) σ Q) := WP_iaload mq258 dd258_24
theorem dd258_25 : decode cX12_canWin 25 = .ok (.iconst (-1), 1) := by decide +kernel
theorem ww258_25 {d : Nat} {l0 l1 l2 l3 l4 l5 l6 l7 : Option mw_V} {st : List mw_V} {σ : mw_S} {Q : Option mw_V → mw_S → Prop} : mw_WP d 258 25 [l0, l1, l2, l3, l4, l5, l6, l7] st σ Q ↔ mw_WP d 258 26 [l0, l1, l2, l3, l4, l5, l6, l7] (jI (-1) :: st) σ Q := WP_iconst mq258 dd258_25 (by decide)
theorem dd258_26 : decode cX12_canWin 26 = .ok (.if_icmp .eq 20, 3) := by decide +kernel
theorem ww258_26 {d : Nat} {l0 l1 l2 l3 l4 l5 l6 l7 : Option mw_V} {x y : Int} {st : List mw_V} {σ : mw_S} {Q : Option mw_V → mw_S → Prop} : mw_WP d 258 26 [l0, l1, l2, l3, l4, l5, l6, l7] (jI y :: jI x :: st) σ Q ↔ (if x = y then mw_WP d 258 46 [l0, l1, l2, l3, l4, l5, l6, l7] st σ Q else mw_WP d 258 29 [l0, l1, l2, l3, l4, l5, l6, l7] st σ Q) := WP_icmp_eq mq258 dd258_26 (by decide)
theorem dd258_29 : decode cX12_canWin 29 = .ok (.aload_n 0, 1) := by decide +kernel
theorem ww258_29 {d : Nat} {l1 l2 l3 l4 l5 l6 l7 : Option mw_V} {x : Nat} {st : List mw_V} {σ : mw_S} {Q : Option mw_V → mw_S → Prop} : mw_WP d 258 29 [some (jR x), l1, l2, l3, l4, l5, l6, l7] st σ Q ↔ mw_WP d 258 30 [some (jR x), l1, l2, l3, l4, l5, l6, l7] (jR x :: st) σ Q := WP_aload_n mq258 dd258_29 rfl
theorem dd258_30 : decode cX12_canWin 30 = .ok (.getfield 81, 3) := by decide +kernel
theorem ww258_30 {d : Nat} {l0 l1 l2 l3 l4 l5 l6 l7 : Option mw_V} {st : List mw_V} {σ : mw_S} {Q : Option mw_V → mw_S → Prop} : mw_WP d 258 30 [l0, l1, l2, l3, l4, l5, l6, l7] (jR 100 :: st) σ Q ↔ mw_WP d 258 33 [l0, l1, l2, l3, l4, l5, l6, l7] (jR 121 :: st) σ Q := WP_getR (ci := 11) (k := 45) mq258 dd258_30 (by decide) rfl
theorem dd258_33 : decode cX12_canWin 33 = .ok (.iload 5, 2) := by decide +kernel
theorem ww258_33 {d : Nat} {l0 l1 l2 l3 l4 l6 l7 : Option mw_V} {x : Int} {st : List mw_V} {σ : mw_S} {Q : Option mw_V → mw_S → Prop} : mw_WP d 258 33 [l0, l1, l2, l3, l4, some (jI x), l6, l7] st σ Q ↔ mw_WP d 258 35 [l0, l1, l2, l3, l4, some (jI x), l6, l7] (jI x :: st) σ Q := WP_iload mq258 dd258_33 rfl
theorem dd258_35 : decode cX12_canWin 35 = .ok (.iaload, 1) := by decide +kernel
theorem ww258_35 {d : Nat} {l0 l1 l2 l3 l4 l5 l6 l7 : Option mw_V} {z : Int} {a : Nat} {st : List mw_V} {σ : mw_S} {Q : Option mw_V → mw_S → Prop} : mw_WP d 258 35 [l0, l1, l2, l3, l4, l5, l6, l7] (jI z :: jR a :: st) σ Q ↔ ((0 ≤ z ∧ z < mw_lenI a) ∧ mw_WP d 258 36 [l0, l1, l2, l3, l4, l5, l6, l7] (jI (mw_rdI σ a z.toNat) :: st) σ Q) := WP_iaload mq258 dd258_35
theorem dd258_36 : decode cX12_canWin 36 = .ok (.iconst 1, 1) := by decide +kernel
theorem ww258_36 {d : Nat} {l0 l1 l2 l3 l4 l5 l6 l7 : Option mw_V} {st : List mw_V} {σ : mw_S} {Q : Option mw_V → mw_S → Prop} : mw_WP d 258 36 [l0, l1, l2, l3, l4, l5, l6, l7] st σ Q ↔ mw_WP d 258 37 [l0, l1, l2, l3, l4, l5, l6, l7] (jI (1) :: st) σ Q := WP_iconst mq258 dd258_36 (by decide)
theorem dd258_37 : decode cX12_canWin 37 = .ok (.if_icmp .ne 7, 3) := by decide +kernel
theorem ww258_37 {d : Nat} {l0 l1 l2 l3 l4 l5 l6 l7 : Option mw_V} {x y : Int} {st : List mw_V} {σ : mw_S} {Q : Option mw_V → mw_S → Prop} : mw_WP d 258 37 [l0, l1, l2, l3, l4, l5, l6, l7] (jI y :: jI x :: st) σ Q ↔ (if ¬ x = y then mw_WP d 258 44 [l0, l1, l2, l3, l4, l5, l6, l7] st σ Q else mw_WP d 258 40 [l0, l1, l2, l3, l4, l5, l6, l7] st σ Q) := WP_icmp_ne mq258 dd258_37 (by decide)
theorem dd258_40 : decode cX12_canWin 40 = .ok (.iconst 1, 1) := by decide +kernel
theorem ww258_40 {d : Nat} {l0 l1 l2 l3 l4 l5 l6 l7 : Option mw_V} {st : List mw_V} {σ : mw_S} {Q : Option mw_V → mw_S → Prop} : mw_WP d 258 40 [l0, l1, l2, l3, l4, l5, l6, l7] st σ Q ↔ mw_WP d 258 41 [l0, l1, l2, l3, l4, l5, l6, l7] (jI (1) :: st) σ Q := WP_iconst mq258 dd258_40 (by decide)
theorem dd258_41 : decode cX12_canWin 41 = .ok (.goto 4, 3) := by decide +kernel
theorem ww258_41 {d : Nat} {l0 l1 l2 l3 l4 l5 l6 l7 : Option mw_V} {st : List mw_V} {σ : mw_S} {Q : Option mw_V → mw_S → Prop} : mw_WP d 258 41 [l0, l1, l2, l3, l4, l5, l6, l7] st σ Q ↔ mw_WP d 258 45 [l0, l1, l2, l3, l4, l5, l6, l7] st σ Q := WP_goto mq258 dd258_41 (by decide)
theorem dd258_44 : decode cX12_canWin 44 = .ok (.iconst 0, 1) := by decide +kernel
theorem ww258_44 {d : Nat} {l0 l1 l2 l3 l4 l5 l6 l7 : Option mw_V} {st : List mw_V} {σ : mw_S} {Q : Option mw_V → mw_S → Prop} : mw_WP d 258 44 [l0, l1, l2, l3, l4, l5, l6, l7] st σ Q ↔ mw_WP d 258 45 [l0, l1, l2, l3, l4, l5, l6, l7] (jI (0) :: st) σ Q := WP_iconst mq258 dd258_44 (by decide)
theorem dd258_45 : decode cX12_canWin 45 = .ok (.ireturn, 1) := by decide +kernel
theorem ww258_45 {d : Nat} {l0 l1 l2 l3 l4 l5 l6 l7 : Option mw_V} {z : Int} {σ : mw_S} {Q : Option mw_V → mw_S → Prop} (h : z = 0 ∨ z = 1) : mw_WP d 258 45 [l0, l1, l2, l3, l4, l5, l6, l7] [jI z] σ Q ↔ Q (some (jI z)) σ := WP_ireturn (ty := .boolean) mq258 dd258_45 rfl (by rcases h with rfl | rfl <;> decide)
theorem dd258_46 : decode cX12_canWin 46 = .ok (.iconst 0, 1) := by decide +kernel
theorem ww258_46 {d : Nat} {l0 l1 l2 l3 l4 l5 l6 l7 : Option mw_V} {st : List mw_V} {σ : mw_S} {Q : Option mw_V → mw_S → Prop} : mw_WP d 258 46 [l0, l1, l2, l3, l4, l5, l6, l7] st σ Q ↔ mw_WP d 258 47 [l0, l1, l2, l3, l4, l5, l6, l7] (jI (0) :: st) σ Q := WP_iconst mq258 dd258_46 (by decide)
theorem dd258_47 : decode cX12_canWin 47 = .ok (.istore 6, 2) := by decide +kernel
theorem ww258_47 {d : Nat} {l0 l1 l2 l3 l4 l5 l6 l7 : Option mw_V} {x : Int} {st : List mw_V} {σ : mw_S} {Q : Option mw_V → mw_S → Prop} (h : mw_nlo l5 = true) : mw_WP d 258 47 [l0, l1, l2, l3, l4, l5, l6, l7] (jI x :: st) σ Q ↔ mw_WP d 258 49 [l0, l1, l2, l3, l4, l5, some (jI x), l7] st σ Q := WP_istore mq258 dd258_47 (Nat.le_of_ble_eq_true rfl) (mw_nl_of (i := 5) rfl h) rfl
theorem dd258_49 : decode cX12_canWin 49 = .ok (.iconst 1, 1) := by decide +kernel
theorem ww258_49 {d : Nat} {l0 l1 l2 l3 l4 l5 l6 l7 : Option mw_V} {st : List mw_V} {σ : mw_S} {Q : Option mw_V → mw_S → Prop} : mw_WP d 258 49 [l0, l1, l2, l3, l4, l5, l6, l7] st σ Q ↔ mw_WP d 258 50 [l0, l1, l2, l3, l4, l5, l6, l7] (jI (1) :: st) σ Q := WP_iconst mq258 dd258_49 (by decide)
theorem dd258_50 : decode cX12_canWin 50 = .ok (.istore 7, 2) := by decide +kernel
theorem ww258_50 {d : Nat} {l0 l1 l2 l3 l4 l5 l6 l7 : Option mw_V} {x : Int} {st : List mw_V} {σ : mw_S} {Q : Option mw_V → mw_S → Prop} (h : mw_nlo l6 = true) : mw_WP d 258 50 [l0, l1, l2, l3, l4, l5, l6, l7] (jI x :: st) σ Q ↔ mw_WP d 258 52 [l0, l1, l2, l3, l4, l5, l6, some (jI x)] st σ Q := WP_istore mq258 dd258_50 (Nat.le_of_ble_eq_true rfl) (mw_nl_of (i := 6) rfl h) rfl
theorem dd258_52 : decode cX12_canWin 52 = .ok (.iload 7, 2) := by decide +kernel
theorem ww258_52 {d : Nat} {l0 l1 l2 l3 l4 l5 l6 : Option mw_V} {x : Int} {st : List mw_V} {σ : mw_S} {Q : Option mw_V → mw_S → Prop} : mw_WP d 258 52 [l0, l1, l2, l3, l4, l5, l6, some (jI x)] st σ Q ↔ mw_WP d 258 54 [l0, l1, l2, l3, l4, l5, l6, some (jI x)] (jI x :: st) σ Q := WP_iload mq258 dd258_52 rfl
theorem dd258_54 : decode cX12_canWin 54 = .ok (.aload_n 0, 1) := by decide +kernel
theorem ww258_54 {d : Nat} {l1 l2 l3 l4 l5 l6 l7 : Option mw_V} {x : Nat} {st : List mw_V} {σ : mw_S} {Q : Option mw_V → mw_S → Prop} : mw_WP d 258 54 [some (jR x), l1, l2, l3, l4, l5, l6, l7] st σ Q ↔ mw_WP d 258 55 [some (jR x), l1, l2, l3, l4, l5, l6, l7] (jR x :: st) σ Q := WP_aload_n mq258 dd258_54 rfl
theorem dd258_55 : decode cX12_canWin 55 = .ok (.getfield 422, 3) := by decide +kernel
theorem ww258_55 {d : Nat} {l0 l1 l2 l3 l4 l5 l6 l7 : Option mw_V} {st : List mw_V} {σ : mw_S} {Q : Option mw_V → mw_S → Prop} : mw_WP d 258 55 [l0, l1, l2, l3, l4, l5, l6, l7] (jR 100 :: st) σ Q ↔ mw_WP d 258 58 [l0, l1, l2, l3, l4, l5, l6, l7] (jI (σ 100 46) :: st) σ Q := WP_getI (ci := 11) (k := 46) mq258 dd258_55 (by decide) (Or.inl rfl)
theorem dd258_58 : decode cX12_canWin 58 = .ok (.if_icmp .gt 33, 3) := by decide +kernel
theorem ww258_58 {d : Nat} {l0 l1 l2 l3 l4 l5 l6 l7 : Option mw_V} {x y : Int} {st : List mw_V} {σ : mw_S} {Q : Option mw_V → mw_S → Prop} : mw_WP d 258 58 [l0, l1, l2, l3, l4, l5, l6, l7] (jI y :: jI x :: st) σ Q ↔ (if y < x then mw_WP d 258 91 [l0, l1, l2, l3, l4, l5, l6, l7] st σ Q else mw_WP d 258 61 [l0, l1, l2, l3, l4, l5, l6, l7] st σ Q) := WP_icmp_gt mq258 dd258_58 (by decide)
theorem dd258_61 : decode cX12_canWin 61 = .ok (.iload 7, 2) := by decide +kernel
theorem ww258_61 {d : Nat} {l0 l1 l2 l3 l4 l5 l6 : Option mw_V} {x : Int} {st : List mw_V} {σ : mw_S} {Q : Option mw_V → mw_S → Prop} : mw_WP d 258 61 [l0, l1, l2, l3, l4, l5, l6, some (jI x)] st σ Q ↔ mw_WP d 258 63 [l0, l1, l2, l3, l4, l5, l6, some (jI x)] (jI x :: st) σ Q := WP_iload mq258 dd258_61 rfl
theorem dd258_63 : decode cX12_canWin 63 = .ok (.iload_n 1, 1) := by decide +kernel
theorem ww258_63 {d : Nat} {l0 l2 l3 l4 l5 l6 l7 : Option mw_V} {x : Int} {st : List mw_V} {σ : mw_S} {Q : Option mw_V → mw_S → Prop} : mw_WP d 258 63 [l0, some (jI x), l2, l3, l4, l5, l6, l7] st σ Q ↔ mw_WP d 258 64 [l0, some (jI x), l2, l3, l4, l5, l6, l7] (jI x :: st) σ Q := WP_iload_n mq258 dd258_63 rfl
theorem dd258_64 : decode cX12_canWin 64 = .ok (.if_icmp .gt 27, 3) := by decide +kernel
theorem ww258_64 {d : Nat} {l0 l1 l2 l3 l4 l5 l6 l7 : Option mw_V} {x y : Int} {st : List mw_V} {σ : mw_S} {Q : Option mw_V → mw_S → Prop} : mw_WP d 258 64 [l0, l1, l2, l3, l4, l5, l6, l7] (jI y :: jI x :: st) σ Q ↔ (if y < x then mw_WP d 258 91 [l0, l1, l2, l3, l4, l5, l6, l7] st σ Q else mw_WP d 258 67 [l0, l1, l2, l3, l4, l5, l6, l7] st σ Q) := WP_icmp_gt mq258 dd258_64 (by decide)
theorem dd258_67 : decode cX12_canWin 67 = .ok (.iload 6, 2) := by decide +kernel
theorem ww258_67 {d : Nat} {l0 l1 l2 l3 l4 l5 l7 : Option mw_V} {x : Int} {st : List mw_V} {σ : mw_S} {Q : Option mw_V → mw_S → Prop} : mw_WP d 258 67 [l0, l1, l2, l3, l4, l5, some (jI x), l7] st σ Q ↔ mw_WP d 258 69 [l0, l1, l2, l3, l4, l5, some (jI x), l7] (jI x :: st) σ Q := WP_iload mq258 dd258_67 rfl
theorem dd258_69 : decode cX12_canWin 69 = .ok (.ifCond .ne 22, 3) := by decide +kernel
theorem ww258_69 {d : Nat} {l0 l1 l2 l3 l4 l5 l6 l7 : Option mw_V} {x : Int} {st : List mw_V} {σ : mw_S} {Q : Option mw_V → mw_S → Prop} : mw_WP d 258 69 [l0, l1, l2, l3, l4, l5, l6, l7] (jI x :: st) σ Q ↔ (if ¬ x = 0 then mw_WP d 258 91 [l0, l1, l2, l3, l4, l5, l6, l7] st σ Q else mw_WP d 258 72 [l0, l1, l2, l3, l4, l5, l6, l7] st σ Q) := WP_if_ne mq258 dd258_69 (by decide)
theorem dd258_72 : decode cX12_canWin 72 = .ok (.aload_n 0, 1) := by decide +kernel
theorem ww258_72 {d : Nat} {l1 l2 l3 l4 l5 l6 l7 : Option mw_V} {x : Nat} {st : List mw_V} {σ : mw_S} {Q : Option mw_V → mw_S → Prop} : mw_WP d 258 72 [some (jR x), l1, l2, l3, l4, l5, l6, l7] st σ Q ↔ mw_WP d 258 73 [some (jR x), l1, l2, l3, l4, l5, l6, l7] (jR x :: st) σ Q := WP_aload_n mq258 dd258_72 rfl
theorem dd258_73 : decode cX12_canWin 73 = .ok (.iload_n 1, 1) := by decide +kernel
theorem ww258_73 {d : Nat} {l0 l2 l3 l4 l5 l6 l7 : Option mw_V} {x : Int} {st : List mw_V} {σ : mw_S} {Q : Option mw_V → mw_S → Prop} : mw_WP d 258 73 [l0, some (jI x), l2, l3, l4, l5, l6, l7] st σ Q ↔ mw_WP d 258 74 [l0, some (jI x), l2, l3, l4, l5, l6, l7] (jI x :: st) σ Q := WP_iload_n mq258 dd258_73 rfl
theorem dd258_74 : decode cX12_canWin 74 = .ok (.iload 7, 2) := by decide +kernel
theorem ww258_74 {d : Nat} {l0 l1 l2 l3 l4 l5 l6 : Option mw_V} {x : Int} {st : List mw_V} {σ : mw_S} {Q : Option mw_V → mw_S → Prop} : mw_WP d 258 74 [l0, l1, l2, l3, l4, l5, l6, some (jI x)] st σ Q ↔ mw_WP d 258 76 [l0, l1, l2, l3, l4, l5, l6, some (jI x)] (jI x :: st) σ Q := WP_iload mq258 dd258_74 rfl
theorem dd258_76 : decode cX12_canWin 76 = .ok (.iload_n 2, 1) := by decide +kernel
theorem ww258_76 {d : Nat} {l0 l1 l3 l4 l5 l6 l7 : Option mw_V} {x : Int} {st : List mw_V} {σ : mw_S} {Q : Option mw_V → mw_S → Prop} : mw_WP d 258 76 [l0, l1, some (jI x), l3, l4, l5, l6, l7] st σ Q ↔ mw_WP d 258 77 [l0, l1, some (jI x), l3, l4, l5, l6, l7] (jI x :: st) σ Q := WP_iload_n mq258 dd258_76 rfl
theorem dd258_77 : decode cX12_canWin 77 = .ok (.iload_n 3, 1) := by decide +kernel
theorem ww258_77 {d : Nat} {l0 l1 l2 l4 l5 l6 l7 : Option mw_V} {x : Int} {st : List mw_V} {σ : mw_S} {Q : Option mw_V → mw_S → Prop} : mw_WP d 258 77 [l0, l1, l2, some (jI x), l4, l5, l6, l7] st σ Q ↔ mw_WP d 258 78 [l0, l1, l2, some (jI x), l4, l5, l6, l7] (jI x :: st) σ Q := WP_iload_n mq258 dd258_77 rfl
theorem dd258_78 : decode cX12_canWin 78 = .ok (.iload 4, 2) := by decide +kernel
theorem ww258_78 {d : Nat} {l0 l1 l2 l3 l5 l6 l7 : Option mw_V} {x : Int} {st : List mw_V} {σ : mw_S} {Q : Option mw_V → mw_S → Prop} : mw_WP d 258 78 [l0, l1, l2, l3, some (jI x), l5, l6, l7] st σ Q ↔ mw_WP d 258 80 [l0, l1, l2, l3, some (jI x), l5, l6, l7] (jI x :: st) σ Q := WP_iload mq258 dd258_78 rfl
theorem dd258_80 : decode cX12_canWin 80 = .ok (.invokevirtual 425, 3) := by decide +kernel
theorem ww258_80 {d : Nat} {l0 l1 l2 l3 l4 l5 l6 l7 : Option mw_V} {v0 v1 v2 v3 v4 : mw_V} {a : Nat} {st : List mw_V} {σ : mw_S} {Q : Option mw_V → mw_S → Prop} (hr : mw_rc a = 12) (h8 : (st.map mw_cat).sum ≤ 8) : mw_WP d 258 80 [l0, l1, l2, l3, l4, l5, l6, l7] (v4 :: v3 :: v2 :: v1 :: v0 :: jR a :: st) σ Q ↔ mw_Call d 259 [jR a, v0, v1, v2, v3, v4] σ (fun r1 s1 => mw_WP d 258 83 [l0, l1, l2, l3, l4, l5, l6, l7] (r1.toList ++ st) s1 Q) := WP_inv (as := [v4, v3, v2, v1, v0]) mq258 dd258_80 (by decide) mq259 rfl hr h8
theorem dd258_83 : decode cX12_canWin 83 = .ok (.istore 6, 2) := by decide +kernel
theorem ww258_83 {d : Nat} {l0 l1 l2 l3 l4 l5 l6 l7 : Option mw_V} {x : Int} {st : List mw_V} {σ : mw_S} {Q : Option mw_V → mw_S → Prop} (h : mw_nlo l5 = true) : mw_WP d 258 83 [l0, l1, l2, l3, l4, l5, l6, l7] (jI x :: st) σ Q ↔ mw_WP d 258 85 [l0, l1, l2, l3, l4, l5, some (jI x), l7] st σ Q := WP_istore mq258 dd258_83 (Nat.le_of_ble_eq_true rfl) (mw_nl_of (i := 5) rfl h) rfl
theorem dd258_85 : decode cX12_canWin 85 = .ok (.iinc 7 1, 3) := by decide +kernel
theorem ww258_85 {d : Nat} {l0 l1 l2 l3 l4 l5 l6 : Option mw_V} {x : Int} {st : List mw_V} {σ : mw_S} {Q : Option mw_V → mw_S → Prop} (h : mw_nlo l6 = true) : mw_WP d 258 85 [l0, l1, l2, l3, l4, l5, l6, some (jI x)] st σ Q ↔ mw_WP d 258 88 [l0, l1, l2, l3, l4, l5, l6, some (jI (w32 (x + (1))))] st σ Q := WP_iinc mq258 dd258_85 rfl (Nat.le_of_ble_eq_true rfl) (mw_nl_of (i := 6) rfl h) rfl
theorem dd258_88 : decode cX12_canWin 88 = .ok (.goto (-36), 3) := by decide +kernel
theorem ww258_88 {d : Nat} {l0 l1 l2 l3 l4 l5 l6 l7 : Option mw_V} {st : List mw_V} {σ : mw_S} {Q : Option mw_V → mw_S → Prop} : mw_WP d 258 88 [l0, l1, l2, l3, l4, l5, l6, l7] st σ Q ↔ mw_WP d 258 52 [l0, l1, l2, l3, l4, l5, l6, l7] st σ Q := WP_goto mq258 dd258_88 (by decide)
theorem dd258_91 : decode cX12_canWin 91 = .ok (.aload_n 0, 1) := by decide +kernel
theorem ww258_91 {d : Nat} {l1 l2 l3 l4 l5 l6 l7 : Option mw_V} {x : Nat} {st : List mw_V} {σ : mw_S} {Q : Option mw_V → mw_S → Prop} : mw_WP d 258 91 [some (jR x), l1, l2, l3, l4, l5, l6, l7] st σ Q ↔ mw_WP d 258 92 [some (jR x), l1, l2, l3, l4, l5, l6, l7] (jR x :: st) σ Q := WP_aload_n mq258 dd258_91 rfl
theorem dd258_92 : decode cX12_canWin 92 = .ok (.getfield 81, 3) := by decide +kernel
theorem ww258_92 {d : Nat} {l0 l1 l2 l3 l4 l5 l6 l7 : Option mw_V} {st : List mw_V} {σ : mw_S} {Q : Option mw_V → mw_S → Prop} : mw_WP d 258 92 [l0, l1, l2, l3, l4, l5, l6, l7] (jR 100 :: st) σ Q ↔ mw_WP d 258 95 [l0, l1, l2, l3, l4, l5, l6, l7] (jR 121 :: st) σ Q := WP_getR (ci := 11) (k := 45) mq258 dd258_92 (by decide) rfl
theorem dd258_95 : decode cX12_canWin 95 = .ok (.iload 5, 2) := by decide +kernel
theorem ww258_95 {d : Nat} {l0 l1 l2 l3 l4 l6 l7 : Option mw_V} {x : Int} {st : List mw_V} {σ : mw_S} {Q : Option mw_V → mw_S → Prop} : mw_WP d 258 95 [l0, l1, l2, l3, l4, some (jI x), l6, l7] st σ Q ↔ mw_WP d 258 97 [l0, l1, l2, l3, l4, some (jI x), l6, l7] (jI x :: st) σ Q := WP_iload mq258 dd258_95 rfl
theorem dd258_97 : decode cX12_canWin 97 = .ok (.iload 6, 2) := by decide +kernel
theorem ww258_97 {d : Nat} {l0 l1 l2 l3 l4 l5 l7 : Option mw_V} {x : Int} {st : List mw_V} {σ : mw_S} {Q : Option mw_V → mw_S → Prop} : mw_WP d 258 97 [l0, l1, l2, l3, l4, l5, some (jI x), l7] st σ Q ↔ mw_WP d 258 99 [l0, l1, l2, l3, l4, l5, some (jI x), l7] (jI x :: st) σ Q := WP_iload mq258 dd258_97 rfl
theorem dd258_99 : decode cX12_canWin 99 = .ok (.ifCond .eq 7, 3) := by decide +kernel
theorem ww258_99 {d : Nat} {l0 l1 l2 l3 l4 l5 l6 l7 : Option mw_V} {x : Int} {st : List mw_V} {σ : mw_S} {Q : Option mw_V → mw_S → Prop} : mw_WP d 258 99 [l0, l1, l2, l3, l4, l5, l6, l7] (jI x :: st) σ Q ↔ (if x = 0 then mw_WP d 258 106 [l0, l1, l2, l3, l4, l5, l6, l7] st σ Q else mw_WP d 258 102 [l0, l1, l2, l3, l4, l5, l6, l7] st σ Q) := WP_if_eq mq258 dd258_99 (by decide)
theorem dd258_102 : decode cX12_canWin 102 = .ok (.iconst 1, 1) := by decide +kernel
theorem ww258_102 {d : Nat} {l0 l1 l2 l3 l4 l5 l6 l7 : Option mw_V} {st : List mw_V} {σ : mw_S} {Q : Option mw_V → mw_S → Prop} : mw_WP d 258 102 [l0, l1, l2, l3, l4, l5, l6, l7] st σ Q ↔ mw_WP d 258 103 [l0, l1, l2, l3, l4, l5, l6, l7] (jI (1) :: st) σ Q := WP_iconst mq258 dd258_102 (by decide)
theorem dd258_103 : decode cX12_canWin 103 = .ok (.goto 4, 3) := by decide +kernel
theorem ww258_103 {d : Nat} {l0 l1 l2 l3 l4 l5 l6 l7 : Option mw_V} {st : List mw_V} {σ : mw_S} {Q : Option mw_V → mw_S → Prop} : mw_WP d 258 103 [l0, l1, l2, l3, l4, l5, l6, l7] st σ Q ↔ mw_WP d 258 107 [l0, l1, l2, l3, l4, l5, l6, l7] st σ Q := WP_goto mq258 dd258_103 (by decide)
theorem dd258_106 : decode cX12_canWin 106 = .ok (.iconst 0, 1) := by decide +kernel
theorem ww258_106 {d : Nat} {l0 l1 l2 l3 l4 l5 l6 l7 : Option mw_V} {st : List mw_V} {σ : mw_S} {Q : Option mw_V → mw_S → Prop} : mw_WP d 258 106 [l0, l1, l2, l3, l4, l5, l6, l7] st σ Q ↔ mw_WP d 258 107 [l0, l1, l2, l3, l4, l5, l6, l7] (jI (0) :: st) σ Q := WP_iconst mq258 dd258_106 (by decide)
theorem dd258_107 : decode cX12_canWin 107 = .ok (.iastore, 1) := by decide +kernel
theorem ww258_107 {d : Nat} {l0 l1 l2 l3 l4 l5 l6 l7 : Option mw_V} {x z : Int} {a : Nat} {st : List mw_V} {σ : mw_S} {Q : Option mw_V → mw_S → Prop} : mw_WP d 258 107 [l0, l1, l2, l3, l4, l5, l6, l7] (jI x :: jI z :: jR a :: st) σ Q ↔ ((0 ≤ z ∧ z < mw_lenW 0 a) ∧ mw_WP d 258 108 [l0, l1, l2, l3, l4, l5, l6, l7] st (upS σ a z.toNat x) Q) := WP_iastore mq258 dd258_107
theorem dd258_108 : decode cX12_canWin 108 = .ok (.iload 6, 2) := by decide +kernel
theorem ww258_108 {d : Nat} {l0 l1 l2 l3 l4 l5 l7 : Option mw_V} {x : Int} {st : List mw_V} {σ : mw_S} {Q : Option mw_V → mw_S → Prop} : mw_WP d 258 108 [l0, l1, l2, l3, l4, l5, some (jI x), l7] st σ Q ↔ mw_WP d 258 110 [l0, l1, l2, l3, l4, l5, some (jI x), l7] (jI x :: st) σ Q := WP_iload mq258 dd258_108 rfl
theorem dd258_110 : decode cX12_canWin 110 = .ok (.ireturn, 1) := by decide +kernel
theorem ww258_110 {d : Nat} {l0 l1 l2 l3 l4 l5 l6 l7 : Option mw_V} {z : Int} {σ : mw_S} {Q : Option mw_V → mw_S → Prop} (h : z = 0 ∨ z = 1) : mw_WP d 258 110 [l0, l1, l2, l3, l4, l5, l6, l7] [jI z] σ Q ↔ Q (some (jI z)) σ := WP_ireturn (ty := .boolean) mq258 dd258_110 rfl (by rcases h with rfl | rfl <;> decide)
theorem ee259 {d : Nat} {a : Nat} {z0 : Int} {z1 : Int} {z2 : Int} {z3 : Int} {z4 : Int} {σ : mw_S} {Q : Option mw_V → mw_S → Prop} : mw_Call (d + 1) 259 [jR a, jI z0, jI z1, jI z2, jI z3, jI z4] σ Q ↔ mw_WP d 259 0 [some (jR a), some (jI z0), some (jI z1), some (jI z2), some (jI z3), some (jI z4), none] [] σ Q := CL_u mq259 (Nat.le_of_ble_eq_true rfl) rfl
theorem dd259_0 : decode cX12_winsBy 0 = .ok (.iload_n 2, 1) := by decide +kernel
theorem ww259_0 {d : Nat} {l0 l1 l3 l4 l5 l6 : Option mw_V} {x : Int} {st : List mw_V} {σ : mw_S} {Q : Option mw_V → mw_S → Prop} : mw_WP d 259 0 [l0, l1, some (jI x), l3, l4, l5, l6] st σ Q ↔ mw_WP d 259 1 [l0, l1, some (jI x), l3, l4, l5, l6] (jI x :: st) σ Q := WP_iload_n mq259 dd259_0 rfl
theorem dd259_1 : decode cX12_winsBy 1 = .ok (.iload_n 1, 1) := by decide +kernel
theorem ww259_1 {d : Nat} {l0 l2 l3 l4 l5 l6 : Option mw_V} {x : Int} {st : List mw_V} {σ : mw_S} {Q : Option mw_V → mw_S → Prop} : mw_WP d 259 1 [l0, some (jI x), l2, l3, l4, l5, l6] st σ Q ↔ mw_WP d 259 2 [l0, some (jI x), l2, l3, l4, l5, l6] (jI x :: st) σ Q := WP_iload_n mq259 dd259_1 rfl
theorem dd259_2 : decode cX12_winsBy 2 = .ok (.if_icmp .ne 5, 3) := by decide +kernel
theorem ww259_2 {d : Nat} {l0 l1 l2 l3 l4 l5 l6 : Option mw_V} {x y : Int} {st : List mw_V} {σ : mw_S} {Q : Option mw_V → mw_S → Prop} : mw_WP d 259 2 [l0, l1, l2, l3, l4, l5, l6] (jI y :: jI x :: st) σ Q ↔ (if ¬ x = y then mw_WP d 259 7 [l0, l1, l2, l3, l4, l5, l6] st σ Q else mw_WP d 259 5 [l0, l1, l2, l3, l4, l5, l6] st σ Q) := WP_icmp_ne mq259 dd259_2 (by decide)
theorem dd259_5 : decode cX12_winsBy 5 = .ok (.iconst 1, 1) := by decide +kernel
theorem ww259_5 {d : Nat} {l0 l1 l2 l3 l4 l5 l6 : Option mw_V} {st : List mw_V} {σ : mw_S} {Q : Option mw_V → mw_S → Prop} : mw_WP d 259 5 [l0, l1, l2, l3, l4, l5, l6] st σ Q ↔ mw_WP d 259 6 [l0, l1, l2, l3, l4, l5, l6] (jI (1) :: st) σ Q := WP_iconst mq259 dd259_5 (by decide)
theorem dd259_6 : decode cX12_winsBy 6 = .ok (.ireturn, 1) := by decide +kernel
theorem ww259_6 {d : Nat} {l0 l1 l2 l3 l4 l5 l6 : Option mw_V} {z : Int} {σ : mw_S} {Q : Option mw_V → mw_S → Prop} (h : z = 0 ∨ z = 1) : mw_WP d 259 6 [l0, l1, l2, l3, l4, l5, l6] [jI z] σ Q ↔ Q (some (jI z)) σ := WP_ireturn (ty := .boolean) mq259 dd259_6 rfl (by rcases h with rfl | rfl <;> decide)
theorem dd259_7 : decode cX12_winsBy 7 = .ok (.aload_n 0, 1) := by decide +kernel
theorem ww259_7 {d : Nat} {l1 l2 l3 l4 l5 l6 : Option mw_V} {x : Nat} {st : List mw_V} {σ : mw_S} {Q : Option mw_V → mw_S → Prop} : mw_WP d 259 7 [some (jR x), l1, l2, l3, l4, l5, l6] st σ Q ↔ mw_WP d 259 8 [some (jR x), l1, l2, l3, l4, l5, l6] (jR x :: st) σ Q := WP_aload_n mq259 dd259_7 rfl
theorem dd259_8 : decode cX12_winsBy 8 = .ok (.getfield 429, 3) := by decide +kernel
theorem ww259_8 {d : Nat} {l0 l1 l2 l3 l4 l5 l6 : Option mw_V} {st : List mw_V} {σ : mw_S} {Q : Option mw_V → mw_S → Prop} : mw_WP d 259 8 [l0, l1, l2, l3, l4, l5, l6] (jR 100 :: st) σ Q ↔ mw_WP d 259 11 [l0, l1, l2, l3, l4, l5, l6] (jI (σ 100 47) :: st) σ Q := WP_getI (ci := 11) (k := 47) mq259 dd259_8 (by decide) (Or.inl rfl)
theorem dd259_11 : decode cX12_winsBy 11 = .ok (.ifCond .ne 7, 3) := by decide +kernel
theorem ww259_11 {d : Nat} {l0 l1 l2 l3 l4 l5 l6 : Option mw_V} {x : Int} {st : List mw_V} {σ : mw_S} {Q : Option mw_V → mw_S → Prop} : mw_WP d 259 11 [l0, l1, l2, l3, l4, l5, l6] (jI x :: st) σ Q ↔ (if ¬ x = 0 then mw_WP d 259 18 [l0, l1, l2, l3, l4, l5, l6] st σ Q else mw_WP d 259 14 [l0, l1, l2, l3, l4, l5, l6] st σ Q) := WP_if_ne mq259 dd259_11 (by decide)
theorem dd259_14 : decode cX12_winsBy 14 = .ok (.iload_n 2, 1) := by decide +kernel
theorem ww259_14 {d : Nat} {l0 l1 l3 l4 l5 l6 : Option mw_V} {x : Int} {st : List mw_V} {σ : mw_S} {Q : Option mw_V → mw_S → Prop} : mw_WP d 259 14 [l0, l1, some (jI x), l3, l4, l5, l6] st σ Q ↔ mw_WP d 259 15 [l0, l1, some (jI x), l3, l4, l5, l6] (jI x :: st) σ Q := WP_iload_n mq259 dd259_14 rfl
theorem dd259_15 : decode cX12_winsBy 15 = .ok (.goto 30, 3) := by decide +kernel
theorem ww259_15 {d : Nat} {l0 l1 l2 l3 l4 l5 l6 : Option mw_V} {st : List mw_V} {σ : mw_S} {Q : Option mw_V → mw_S → Prop} : mw_WP d 259 15 [l0, l1, l2, l3, l4, l5, l6] st σ Q ↔ mw_WP d 259 45 [l0, l1, l2, l3, l4, l5, l6] st σ Q := WP_goto mq259 dd259_15 (by decide)
theorem dd259_18 : decode cX12_winsBy 18 = .ok (.aload_n 0, 1) := by decide +kernel
theorem ww259_18 {d : Nat} {l1 l2 l3 l4 l5 l6 : Option mw_V} {x : Nat} {st : List mw_V} {σ : mw_S} {Q : Option mw_V → mw_S → Prop} : mw_WP d 259 18 [some (jR x), l1, l2, l3, l4, l5, l6] st σ Q ↔ mw_WP d 259 19 [some (jR x), l1, l2, l3, l4, l5, l6] (jR x :: st) σ Q := WP_aload_n mq259 dd259_18 rfl
theorem dd259_19 : decode cX12_winsBy 19 = .ok (.getfield 429, 3) := by decide +kernel
theorem ww259_19 {d : Nat} {l0 l1 l2 l3 l4 l5 l6 : Option mw_V} {st : List mw_V} {σ : mw_S} {Q : Option mw_V → mw_S → Prop} : mw_WP d 259 19 [l0, l1, l2, l3, l4, l5, l6] (jR 100 :: st) σ Q ↔ mw_WP d 259 22 [l0, l1, l2, l3, l4, l5, l6] (jI (σ 100 47) :: st) σ Q := WP_getI (ci := 11) (k := 47) mq259 dd259_19 (by decide) (Or.inl rfl)
theorem dd259_22 : decode cX12_winsBy 22 = .ok (.iconst 1, 1) := by decide +kernel
theorem ww259_22 {d : Nat} {l0 l1 l2 l3 l4 l5 l6 : Option mw_V} {st : List mw_V} {σ : mw_S} {Q : Option mw_V → mw_S → Prop} : mw_WP d 259 22 [l0, l1, l2, l3, l4, l5, l6] st σ Q ↔ mw_WP d 259 23 [l0, l1, l2, l3, l4, l5, l6] (jI (1) :: st) σ Q := WP_iconst mq259 dd259_22 (by decide)
theorem dd259_23 : decode cX12_winsBy 23 = .ok (.if_icmp .ne 7, 3) := by decide +kernel
theorem ww259_23 {d : Nat} {l0 l1 l2 l3 l4 l5 l6 : Option mw_V} {x y : Int} {st : List mw_V} {σ : mw_S} {Q : Option mw_V → mw_S → Prop} : mw_WP d 259 23 [l0, l1, l2, l3, l4, l5, l6] (jI y :: jI x :: st) σ Q ↔ (if ¬ x = y then mw_WP d 259 30 [l0, l1, l2, l3, l4, l5, l6] st σ Q else mw_WP d 259 26 [l0, l1, l2, l3, l4, l5, l6] st σ Q) := WP_icmp_ne mq259 dd259_23 (by decide)
theorem dd259_26 : decode cX12_winsBy 26 = .ok (.iload_n 3, 1) := by decide +kernel
theorem ww259_26 {d : Nat} {l0 l1 l2 l4 l5 l6 : Option mw_V} {x : Int} {st : List mw_V} {σ : mw_S} {Q : Option mw_V → mw_S → Prop} : mw_WP d 259 26 [l0, l1, l2, some (jI x), l4, l5, l6] st σ Q ↔ mw_WP d 259 27 [l0, l1, l2, some (jI x), l4, l5, l6] (jI x :: st) σ Q := WP_iload_n mq259 dd259_26 rfl
theorem dd259_27 : decode cX12_winsBy 27 = .ok (.goto 18, 3) := by decide +kernel
theorem ww259_27 {d : Nat} {l0 l1 l2 l3 l4 l5 l6 : Option mw_V} {st : List mw_V} {σ : mw_S} {Q : Option mw_V → mw_S → Prop} : mw_WP d 259 27 [l0, l1, l2, l3, l4, l5, l6] st σ Q ↔ mw_WP d 259 45 [l0, l1, l2, l3, l4, l5, l6] st σ Q := WP_goto mq259 dd259_27 (by decide)
theorem dd259_30 : decode cX12_winsBy 30 = .ok (.aload_n 0, 1) := by decide +kernel
theorem ww259_30 {d : Nat} {l1 l2 l3 l4 l5 l6 : Option mw_V} {x : Nat} {st : List mw_V} {σ : mw_S} {Q : Option mw_V → mw_S → Prop} : mw_WP d 259 30 [some (jR x), l1, l2, l3, l4, l5, l6] st σ Q ↔ mw_WP d 259 31 [some (jR x), l1, l2, l3, l4, l5, l6] (jR x :: st) σ Q := WP_aload_n mq259 dd259_30 rfl
theorem dd259_31 : decode cX12_winsBy 31 = .ok (.getfield 429, 3) := by decide +kernel
theorem ww259_31 {d : Nat} {l0 l1 l2 l3 l4 l5 l6 : Option mw_V} {st : List mw_V} {σ : mw_S} {Q : Option mw_V → mw_S → Prop} : mw_WP d 259 31 [l0, l1, l2, l3, l4, l5, l6] (jR 100 :: st) σ Q ↔ mw_WP d 259 34 [l0, l1, l2, l3, l4, l5, l6] (jI (σ 100 47) :: st) σ Q := WP_getI (ci := 11) (k := 47) mq259 dd259_31 (by decide) (Or.inl rfl)
theorem dd259_34 : decode cX12_winsBy 34 = .ok (.iconst 2, 1) := by decide +kernel
theorem ww259_34 {d : Nat} {l0 l1 l2 l3 l4 l5 l6 : Option mw_V} {st : List mw_V} {σ : mw_S} {Q : Option mw_V → mw_S → Prop} : mw_WP d 259 34 [l0, l1, l2, l3, l4, l5, l6] st σ Q ↔ mw_WP d 259 35 [l0, l1, l2, l3, l4, l5, l6] (jI (2) :: st) σ Q := WP_iconst mq259 dd259_34 (by decide)
theorem dd259_35 : decode cX12_winsBy 35 = .ok (.if_icmp .ne 8, 3) := by decide +kernel
theorem ww259_35 {d : Nat} {l0 l1 l2 l3 l4 l5 l6 : Option mw_V} {x y : Int} {st : List mw_V} {σ : mw_S} {Q : Option mw_V → mw_S → Prop} : mw_WP d 259 35 [l0, l1, l2, l3, l4, l5, l6] (jI y :: jI x :: st) σ Q ↔ (if ¬ x = y then mw_WP d 259 43 [l0, l1, l2, l3, l4, l5, l6] st σ Q else mw_WP d 259 38 [l0, l1, l2, l3, l4, l5, l6] st σ Q) := WP_icmp_ne mq259 dd259_35 (by decide)
theorem dd259_38 : decode cX12_winsBy 38 = .ok (.iload 4, 2) := by decide +kernel
theorem ww259_38 {d : Nat} {l0 l1 l2 l3 l5 l6 : Option mw_V} {x : Int} {st : List mw_V} {σ : mw_S} {Q : Option mw_V → mw_S → Prop} : mw_WP d 259 38 [l0, l1, l2, l3, some (jI x), l5, l6] st σ Q ↔ mw_WP d 259 40 [l0, l1, l2, l3, some (jI x), l5, l6] (jI x :: st) σ Q := WP_iload mq259 dd259_38 rfl
theorem dd259_40 : decode cX12_winsBy 40 = .ok (.goto 5, 3) := by decide +kernel
theorem ww259_40 {d : Nat} {l0 l1 l2 l3 l4 l5 l6 : Option mw_V} {st : List mw_V} {σ : mw_S} {Q : Option mw_V → mw_S → Prop} : mw_WP d 259 40 [l0, l1, l2, l3, l4, l5, l6] st σ Q ↔ mw_WP d 259 45 [l0, l1, l2, l3, l4, l5, l6] st σ Q := WP_goto mq259 dd259_40 (by decide)
theorem dd259_43 : decode cX12_winsBy 43 = .ok (.iload 5, 2) := by decide +kernel
theorem ww259_43 {d : Nat} {l0 l1 l2 l3 l4 l6 : Option mw_V} {x : Int} {st : List mw_V} {σ : mw_S} {Q : Option mw_V → mw_S → Prop} : mw_WP d 259 43 [l0, l1, l2, l3, l4, some (jI x), l6] st σ Q ↔ mw_WP d 259 45 [l0, l1, l2, l3, l4, some (jI x), l6] (jI x :: st) σ Q := WP_iload mq259 dd259_43 rfl
theorem dd259_45 : decode cX12_winsBy 45 = .ok (.istore 6, 2) := by decide +kernel
theorem ww259_45 {d : Nat} {l0 l1 l2 l3 l4 l5 l6 : Option mw_V} {x : Int} {st : List mw_V} {σ : mw_S} {Q : Option mw_V → mw_S → Prop} (h : mw_nlo l5 = true) : mw_WP d 259 45 [l0, l1, l2, l3, l4, l5, l6] (jI x :: st) σ Q ↔ mw_WP d 259 47 [l0, l1, l2, l3, l4, l5, some (jI x)] st σ Q := WP_istore mq259 dd259_45 (Nat.le_of_ble_eq_true rfl) (mw_nl_of (i := 5) rfl h) rfl
theorem dd259_47 : decode cX12_winsBy 47 = .ok (.iload 6, 2) := by decide +kernel
theorem ww259_47 {d : Nat} {l0 l1 l2 l3 l4 l5 : Option mw_V} {x : Int} {st : List mw_V} {σ : mw_S} {Q : Option mw_V → mw_S → Prop} : mw_WP d 259 47 [l0, l1, l2, l3, l4, l5, some (jI x)] st σ Q ↔ mw_WP d 259 49 [l0, l1, l2, l3, l4, l5, some (jI x)] (jI x :: st) σ Q := WP_iload mq259 dd259_47 rfl
theorem dd259_49 : decode cX12_winsBy 49 = .ok (.iload_n 1, 1) := by decide +kernel
theorem ww259_49 {d : Nat} {l0 l2 l3 l4 l5 l6 : Option mw_V} {x : Int} {st : List mw_V} {σ : mw_S} {Q : Option mw_V → mw_S → Prop} : mw_WP d 259 49 [l0, some (jI x), l2, l3, l4, l5, l6] st σ Q ↔ mw_WP d 259 50 [l0, some (jI x), l2, l3, l4, l5, l6] (jI x :: st) σ Q := WP_iload_n mq259 dd259_49 rfl
theorem dd259_50 : decode cX12_winsBy 50 = .ok (.iload_n 2, 1) := by decide +kernel
theorem ww259_50 {d : Nat} {l0 l1 l3 l4 l5 l6 : Option mw_V} {x : Int} {st : List mw_V} {σ : mw_S} {Q : Option mw_V → mw_S → Prop} : mw_WP d 259 50 [l0, l1, some (jI x), l3, l4, l5, l6] st σ Q ↔ mw_WP d 259 51 [l0, l1, some (jI x), l3, l4, l5, l6] (jI x :: st) σ Q := WP_iload_n mq259 dd259_50 rfl
theorem dd259_51 : decode cX12_winsBy 51 = .ok (.isub, 1) := by decide +kernel
theorem ww259_51 {d : Nat} {l0 l1 l2 l3 l4 l5 l6 : Option mw_V} {x y : Int} {st : List mw_V} {σ : mw_S} {Q : Option mw_V → mw_S → Prop} : mw_WP d 259 51 [l0, l1, l2, l3, l4, l5, l6] (jI y :: jI x :: st) σ Q ↔ mw_WP d 259 52 [l0, l1, l2, l3, l4, l5, l6] (jI (w32 (x - y)) :: st) σ Q := WP_isub mq259 dd259_51
theorem dd259_52 : decode cX12_winsBy 52 = .ok (.if_icmp .ge 24, 3) := by decide +kernel
theorem ww259_52 {d : Nat} {l0 l1 l2 l3 l4 l5 l6 : Option mw_V} {x y : Int} {st : List mw_V} {σ : mw_S} {Q : Option mw_V → mw_S → Prop} : mw_WP d 259 52 [l0, l1, l2, l3, l4, l5, l6] (jI y :: jI x :: st) σ Q ↔ (if y ≤ x then mw_WP d 259 76 [l0, l1, l2, l3, l4, l5, l6] st σ Q else mw_WP d 259 55 [l0, l1, l2, l3, l4, l5, l6] st σ Q) := WP_icmp_ge mq259 dd259_52 (by decide)
theorem dd259_55 : decode cX12_winsBy 55 = .ok (.aload_n 0, 1) := by decide +kernel
theorem ww259_55 {d : Nat} {l1 l2 l3 l4 l5 l6 : Option mw_V} {x : Nat} {st : List mw_V} {σ : mw_S} {Q : Option mw_V → mw_S → Prop} : mw_WP d 259 55 [some (jR x), l1, l2, l3, l4, l5, l6] st σ Q ↔ mw_WP d 259 56 [some (jR x), l1, l2, l3, l4, l5, l6] (jR x :: st) σ Q := WP_aload_n mq259 dd259_55 rfl
theorem dd259_56 : decode cX12_winsBy 56 = .ok (.iload_n 1, 1) := by decide +kernel
theorem ww259_56 {d : Nat} {l0 l2 l3 l4 l5 l6 : Option mw_V} {x : Int} {st : List mw_V} {σ : mw_S} {Q : Option mw_V → mw_S → Prop} : mw_WP d 259 56 [l0, some (jI x), l2, l3, l4, l5, l6] st σ Q ↔ mw_WP d 259 57 [l0, some (jI x), l2, l3, l4, l5, l6] (jI x :: st) σ Q := WP_iload_n mq259 dd259_56 rfl
theorem dd259_57 : decode cX12_winsBy 57 = .ok (.iload_n 2, 1) := by decide +kernel
theorem ww259_57 {d : Nat} {l0 l1 l3 l4 l5 l6 : Option mw_V} {x : Int} {st : List mw_V} {σ : mw_S} {Q : Option mw_V → mw_S → Prop} : mw_WP d 259 57 [l0, l1, some (jI x), l3, l4, l5, l6] st σ Q ↔ mw_WP d 259 58 [l0, l1, some (jI x), l3, l4, l5, l6] (jI x :: st) σ Q := WP_iload_n mq259 dd259_57 rfl
theorem dd259_58 : decode cX12_winsBy 58 = .ok (.isub, 1) := by decide +kernel
theorem ww259_58 {d : Nat} {l0 l1 l2 l3 l4 l5 l6 : Option mw_V} {x y : Int} {st : List mw_V} {σ : mw_S} {Q : Option mw_V → mw_S → Prop} : mw_WP d 259 58 [l0, l1, l2, l3, l4, l5, l6] (jI y :: jI x :: st) σ Q ↔ mw_WP d 259 59 [l0, l1, l2, l3, l4, l5, l6] (jI (w32 (x - y)) :: st) σ Q := WP_isub mq259 dd259_58
theorem dd259_59 : decode cX12_winsBy 59 = .ok (.iload 6, 2) := by decide +kernel
theorem ww259_59 {d : Nat} {l0 l1 l2 l3 l4 l5 : Option mw_V} {x : Int} {st : List mw_V} {σ : mw_S} {Q : Option mw_V → mw_S → Prop} : mw_WP d 259 59 [l0, l1, l2, l3, l4, l5, some (jI x)] st σ Q ↔ mw_WP d 259 61 [l0, l1, l2, l3, l4, l5, some (jI x)] (jI x :: st) σ Q := WP_iload mq259 dd259_59 rfl
theorem dd259_61 : decode cX12_winsBy 61 = .ok (.isub, 1) := by decide +kernel
theorem ww259_61 {d : Nat} {l0 l1 l2 l3 l4 l5 l6 : Option mw_V} {x y : Int} {st : List mw_V} {σ : mw_S} {Q : Option mw_V → mw_S → Prop} : mw_WP d 259 61 [l0, l1, l2, l3, l4, l5, l6] (jI y :: jI x :: st) σ Q ↔ mw_WP d 259 62 [l0, l1, l2, l3, l4, l5, l6] (jI (w32 (x - y)) :: st) σ Q := WP_isub mq259 dd259_61
theorem dd259_62 : decode cX12_winsBy 62 = .ok (.iload_n 2, 1) := by decide +kernel
theorem ww259_62 {d : Nat} {l0 l1 l3 l4 l5 l6 : Option mw_V} {x : Int} {st : List mw_V} {σ : mw_S} {Q : Option mw_V → mw_S → Prop} : mw_WP d 259 62 [l0, l1, some (jI x), l3, l4, l5, l6] st σ Q ↔ mw_WP d 259 63 [l0, l1, some (jI x), l3, l4, l5, l6] (jI x :: st) σ Q := WP_iload_n mq259 dd259_62 rfl
theorem dd259_63 : decode cX12_winsBy 63 = .ok (.iload_n 3, 1) := by decide +kernel
theorem ww259_63 {d : Nat} {l0 l1 l2 l4 l5 l6 : Option mw_V} {x : Int} {st : List mw_V} {σ : mw_S} {Q : Option mw_V → mw_S → Prop} : mw_WP d 259 63 [l0, l1, l2, some (jI x), l4, l5, l6] st σ Q ↔ mw_WP d 259 64 [l0, l1, l2, some (jI x), l4, l5, l6] (jI x :: st) σ Q := WP_iload_n mq259 dd259_63 rfl
theorem dd259_64 : decode cX12_winsBy 64 = .ok (.iload 4, 2) := by decide +kernel
theorem ww259_64 {d : Nat} {l0 l1 l2 l3 l5 l6 : Option mw_V} {x : Int} {st : List mw_V} {σ : mw_S} {Q : Option mw_V → mw_S → Prop} : mw_WP d 259 64 [l0, l1, l2, l3, some (jI x), l5, l6] st σ Q ↔ mw_WP d 259 66 [l0, l1, l2, l3, some (jI x), l5, l6] (jI x :: st) σ Q := WP_iload mq259 dd259_64 rfl
theorem dd259_66 : decode cX12_winsBy 66 = .ok (.invokevirtual 432, 3) := by decide +kernel
theorem ww259_66 {d : Nat} {l0 l1 l2 l3 l4 l5 l6 : Option mw_V} {v0 v1 v2 v3 : mw_V} {a : Nat} {st : List mw_V} {σ : mw_S} {Q : Option mw_V → mw_S → Prop} (hr : mw_rc a = 12) (h8 : (st.map mw_cat).sum ≤ 8) : mw_WP d 259 66 [l0, l1, l2, l3, l4, l5, l6] (v3 :: v2 :: v1 :: v0 :: jR a :: st) σ Q ↔ mw_Call d 258 [jR a, v0, v1, v2, v3] σ (fun r1 s1 => mw_WP d 259 69 [l0, l1, l2, l3, l4, l5, l6] (r1.toList ++ st) s1 Q) := WP_inv (as := [v3, v2, v1, v0]) mq259 dd259_66 (by decide) mq258 rfl hr h8
theorem dd259_69 : decode cX12_winsBy 69 = .ok (.ifCond .eq 7, 3) := by decide +kernel
theorem ww259_69 {d : Nat} {l0 l1 l2 l3 l4 l5 l6 : Option mw_V} {x : Int} {st : List mw_V} {σ : mw_S} {Q : Option mw_V → mw_S → Prop} : mw_WP d 259 69 [l0, l1, l2, l3, l4, l5, l6] (jI x :: st) σ Q ↔ (if x = 0 then mw_WP d 259 76 [l0, l1, l2, l3, l4, l5, l6] st σ Q else mw_WP d 259 72 [l0, l1, l2, l3, l4, l5, l6] st σ Q) := WP_if_eq mq259 dd259_69 (by decide)
theorem dd259_72 : decode cX12_winsBy 72 = .ok (.iconst 1, 1) := by decide +kernel
theorem ww259_72 {d : Nat} {l0 l1 l2 l3 l4 l5 l6 : Option mw_V} {st : List mw_V} {σ : mw_S} {Q : Option mw_V → mw_S → Prop} : mw_WP d 259 72 [l0, l1, l2, l3, l4, l5, l6] st σ Q ↔ mw_WP d 259 73 [l0, l1, l2, l3, l4, l5, l6] (jI (1) :: st) σ Q := WP_iconst mq259 dd259_72 (by decide)
theorem dd259_73 : decode cX12_winsBy 73 = .ok (.goto 4, 3) := by decide +kernel
theorem ww259_73 {d : Nat} {l0 l1 l2 l3 l4 l5 l6 : Option mw_V} {st : List mw_V} {σ : mw_S} {Q : Option mw_V → mw_S → Prop} : mw_WP d 259 73 [l0, l1, l2, l3, l4, l5, l6] st σ Q ↔ mw_WP d 259 77 [l0, l1, l2, l3, l4, l5, l6] st σ Q := WP_goto mq259 dd259_73 (by decide)
theorem dd259_76 : decode cX12_winsBy 76 = .ok (.iconst 0, 1) := by decide +kernel
theorem ww259_76 {d : Nat} {l0 l1 l2 l3 l4 l5 l6 : Option mw_V} {st : List mw_V} {σ : mw_S} {Q : Option mw_V → mw_S → Prop} : mw_WP d 259 76 [l0, l1, l2, l3, l4, l5, l6] st σ Q ↔ mw_WP d 259 77 [l0, l1, l2, l3, l4, l5, l6] (jI (0) :: st) σ Q := WP_iconst mq259 dd259_76 (by decide)
theorem dd259_77 : decode cX12_winsBy 77 = .ok (.ireturn, 1) := by decide +kernel
theorem ww259_77 {d : Nat} {l0 l1 l2 l3 l4 l5 l6 : Option mw_V} {z : Int} {σ : mw_S} {Q : Option mw_V → mw_S → Prop} (h : z = 0 ∨ z = 1) : mw_WP d 259 77 [l0, l1, l2, l3, l4, l5, l6] [jI z] σ Q ↔ Q (some (jI z)) σ := WP_ireturn (ty := .boolean) mq259 dd259_77 rfl (by rcases h with rfl | rfl <;> decide)
theorem ee260 {d : Nat} {a : Nat} {z0 : Int} {z1 : Int} {z2 : Int} {σ : mw_S} {Q : Option mw_V → mw_S → Prop} : mw_Call (d + 1) 260 [jR a, jI z0, jI z1, jI z2] σ Q ↔ mw_WP d 260 0 [some (jR a), some (jI z0), some (jI z1), some (jI z2), none] [] σ Q := CL_u mq260 (Nat.le_of_ble_eq_true rfl) rfl
theorem dd260_0 : decode cX12_winOf 0 = .ok (.aload_n 0, 1) := by decide +kernel
theorem ww260_0 {d : Nat} {l1 l2 l3 l4 : Option mw_V} {x : Nat} {st : List mw_V} {σ : mw_S} {Q : Option mw_V → mw_S → Prop} : mw_WP d 260 0 [some (jR x), l1, l2, l3, l4] st σ Q ↔ mw_WP d 260 1 [some (jR x), l1, l2, l3, l4] (jR x :: st) σ Q := WP_aload_n mq260 dd260_0 rfl
theorem dd260_1 : decode cX12_winOf 1 = .ok (.iload_n 2, 1) := by decide +kernel
theorem ww260_1 {d : Nat} {l0 l1 l3 l4 : Option mw_V} {x : Int} {st : List mw_V} {σ : mw_S} {Q : Option mw_V → mw_S → Prop} : mw_WP d 260 1 [l0, l1, some (jI x), l3, l4] st σ Q ↔ mw_WP d 260 2 [l0, l1, some (jI x), l3, l4] (jI x :: st) σ Q := WP_iload_n mq260 dd260_1 rfl
theorem dd260_2 : decode cX12_winOf 2 = .ok (.putfield 422, 3) := by decide +kernel
theorem ww260_2 {d : Nat} {l0 l1 l2 l3 l4 : Option mw_V} {v : Int} {st : List mw_V} {σ : mw_S} {Q : Option mw_V → mw_S → Prop} : mw_WP d 260 2 [l0, l1, l2, l3, l4] (jI v :: jR 100 :: st) σ Q ↔ mw_WP d 260 5 [l0, l1, l2, l3, l4] st (upS σ 100 46 v) Q := WP_putI (ci := 11) (k := 46) mq260 dd260_2 (by decide) rfl
theorem dd260_5 : decode cX12_winOf 5 = .ok (.aload_n 0, 1) := by decide +kernel
theorem ww260_5 {d : Nat} {l1 l2 l3 l4 : Option mw_V} {x : Nat} {st : List mw_V} {σ : mw_S} {Q : Option mw_V → mw_S → Prop} : mw_WP d 260 5 [some (jR x), l1, l2, l3, l4] st σ Q ↔ mw_WP d 260 6 [some (jR x), l1, l2, l3, l4] (jR x :: st) σ Q := WP_aload_n mq260 dd260_5 rfl
theorem dd260_6 : decode cX12_winOf 6 = .ok (.iload_n 3, 1) := by decide +kernel
theorem ww260_6 {d : Nat} {l0 l1 l2 l4 : Option mw_V} {x : Int} {st : List mw_V} {σ : mw_S} {Q : Option mw_V → mw_S → Prop} : mw_WP d 260 6 [l0, l1, l2, some (jI x), l4] st σ Q ↔ mw_WP d 260 7 [l0, l1, l2, some (jI x), l4] (jI x :: st) σ Q := WP_iload_n mq260 dd260_6 rfl
theorem dd260_7 : decode cX12_winOf 7 = .ok (.putfield 429, 3) := by decide +kernel
theorem ww260_7 {d : Nat} {l0 l1 l2 l3 l4 : Option mw_V} {v : Int} {st : List mw_V} {σ : mw_S} {Q : Option mw_V → mw_S → Prop} : mw_WP d 260 7 [l0, l1, l2, l3, l4] (jI v :: jR 100 :: st) σ Q ↔ mw_WP d 260 10 [l0, l1, l2, l3, l4] st (upS σ 100 47 v) Q := WP_putI (ci := 11) (k := 47) mq260 dd260_7 (by decide) rfl
theorem dd260_10 : decode cX12_winOf 10 = .ok (.iconst 0, 1) := by decide +kernel
theorem ww260_10 {d : Nat} {l0 l1 l2 l3 l4 : Option mw_V} {st : List mw_V} {σ : mw_S} {Q : Option mw_V → mw_S → Prop} : mw_WP d 260 10 [l0, l1, l2, l3, l4] st σ Q ↔ mw_WP d 260 11 [l0, l1, l2, l3, l4] (jI (0) :: st) σ Q := WP_iconst mq260 dd260_10 (by decide)
theorem dd260_11 : decode cX12_winOf 11 = .ok (.istore 4, 2) := by decide +kernel
theorem ww260_11 {d : Nat} {l0 l1 l2 l3 l4 : Option mw_V} {x : Int} {st : List mw_V} {σ : mw_S} {Q : Option mw_V → mw_S → Prop} (h : mw_nlo l3 = true) : mw_WP d 260 11 [l0, l1, l2, l3, l4] (jI x :: st) σ Q ↔ mw_WP d 260 13 [l0, l1, l2, l3, some (jI x)] st σ Q := WP_istore mq260 dd260_11 (Nat.le_of_ble_eq_true rfl) (mw_nl_of (i := 3) rfl h) rfl
theorem dd260_13 : decode cX12_winOf 13 = .ok (.iload 4, 2) := by decide +kernel
theorem ww260_13 {d : Nat} {l0 l1 l2 l3 : Option mw_V} {x : Int} {st : List mw_V} {σ : mw_S} {Q : Option mw_V → mw_S → Prop} : mw_WP d 260 13 [l0, l1, l2, l3, some (jI x)] st σ Q ↔ mw_WP d 260 15 [l0, l1, l2, l3, some (jI x)] (jI x :: st) σ Q := WP_iload mq260 dd260_13 rfl
theorem dd260_15 : decode cX12_winOf 15 = .ok (.sipush 7625, 3) := by decide +kernel
theorem ww260_15 {d : Nat} {l0 l1 l2 l3 l4 : Option mw_V} {st : List mw_V} {σ : mw_S} {Q : Option mw_V → mw_S → Prop} : mw_WP d 260 15 [l0, l1, l2, l3, l4] st σ Q ↔ mw_WP d 260 18 [l0, l1, l2, l3, l4] (jI (7625) :: st) σ Q := WP_sipush mq260 dd260_15 (by decide)
theorem dd260_18 : decode cX12_winOf 18 = .ok (.if_icmp .ge 17, 3) := by decide +kernel
theorem ww260_18 {d : Nat} {l0 l1 l2 l3 l4 : Option mw_V} {x y : Int} {st : List mw_V} {σ : mw_S} {Q : Option mw_V → mw_S → Prop} : mw_WP d 260 18 [l0, l1, l2, l3, l4] (jI y :: jI x :: st) σ Q ↔ (if y ≤ x then mw_WP d 260 35 [l0, l1, l2, l3, l4] st σ Q else mw_WP d 260 21 [l0, l1, l2, l3, l4] st σ Q) := WP_icmp_ge mq260 dd260_18 (by decide)
theorem dd260_21 : decode cX12_winOf 21 = .ok (.aload_n 0, 1) := by decide +kernel
theorem ww260_21 {d : Nat} {l1 l2 l3 l4 : Option mw_V} {x : Nat} {st : List mw_V} {σ : mw_S} {Q : Option mw_V → mw_S → Prop} : mw_WP d 260 21 [some (jR x), l1, l2, l3, l4] st σ Q ↔ mw_WP d 260 22 [some (jR x), l1, l2, l3, l4] (jR x :: st) σ Q := WP_aload_n mq260 dd260_21 rfl
theorem dd260_22 : decode cX12_winOf 22 = .ok (.getfield 81, 3) := by decide +kernel
theorem ww260_22 {d : Nat} {l0 l1 l2 l3 l4 : Option mw_V} {st : List mw_V} {σ : mw_S} {Q : Option mw_V → mw_S → Prop} : mw_WP d 260 22 [l0, l1, l2, l3, l4] (jR 100 :: st) σ Q ↔ mw_WP d 260 25 [l0, l1, l2, l3, l4] (jR 121 :: st) σ Q := WP_getR (ci := 11) (k := 45) mq260 dd260_22 (by decide) rfl
theorem dd260_25 : decode cX12_winOf 25 = .ok (.iload 4, 2) := by decide +kernel
theorem ww260_25 {d : Nat} {l0 l1 l2 l3 : Option mw_V} {x : Int} {st : List mw_V} {σ : mw_S} {Q : Option mw_V → mw_S → Prop} : mw_WP d 260 25 [l0, l1, l2, l3, some (jI x)] st σ Q ↔ mw_WP d 260 27 [l0, l1, l2, l3, some (jI x)] (jI x :: st) σ Q := WP_iload mq260 dd260_25 rfl
theorem dd260_27 : decode cX12_winOf 27 = .ok (.iconst (-1), 1) := by decide +kernel
theorem ww260_27 {d : Nat} {l0 l1 l2 l3 l4 : Option mw_V} {st : List mw_V} {σ : mw_S} {Q : Option mw_V → mw_S → Prop} : mw_WP d 260 27 [l0, l1, l2, l3, l4] st σ Q ↔ mw_WP d 260 28 [l0, l1, l2, l3, l4] (jI (-1) :: st) σ Q := WP_iconst mq260 dd260_27 (by decide)
theorem dd260_28 : decode cX12_winOf 28 = .ok (.iastore, 1) := by decide +kernel
theorem ww260_28 {d : Nat} {l0 l1 l2 l3 l4 : Option mw_V} {x z : Int} {a : Nat} {st : List mw_V} {σ : mw_S} {Q : Option mw_V → mw_S → Prop} : mw_WP d 260 28 [l0, l1, l2, l3, l4] (jI x :: jI z :: jR a :: st) σ Q ↔ ((0 ≤ z ∧ z < mw_lenW 0 a) ∧ mw_WP d 260 29 [l0, l1, l2, l3, l4] st (upS σ a z.toNat x) Q) := WP_iastore mq260 dd260_28
theorem dd260_29 : decode cX12_winOf 29 = .ok (.iinc 4 1, 3) := by decide +kernel
theorem ww260_29 {d : Nat} {l0 l1 l2 l3 : Option mw_V} {x : Int} {st : List mw_V} {σ : mw_S} {Q : Option mw_V → mw_S → Prop} (h : mw_nlo l3 = true) : mw_WP d 260 29 [l0, l1, l2, l3, some (jI x)] st σ Q ↔ mw_WP d 260 32 [l0, l1, l2, l3, some (jI (w32 (x + (1))))] st σ Q := WP_iinc mq260 dd260_29 rfl (Nat.le_of_ble_eq_true rfl) (mw_nl_of (i := 3) rfl h) rfl
theorem dd260_32 : decode cX12_winOf 32 = .ok (.goto (-19), 3) := by decide +kernel
theorem ww260_32 {d : Nat} {l0 l1 l2 l3 l4 : Option mw_V} {st : List mw_V} {σ : mw_S} {Q : Option mw_V → mw_S → Prop} : mw_WP d 260 32 [l0, l1, l2, l3, l4] st σ Q ↔ mw_WP d 260 13 [l0, l1, l2, l3, l4] st σ Q := WP_goto mq260 dd260_32 (by decide)
theorem dd260_35 : decode cX12_winOf 35 = .ok (.iconst 1, 1) := by decide +kernel
theorem ww260_35 {d : Nat} {l0 l1 l2 l3 l4 : Option mw_V} {st : List mw_V} {σ : mw_S} {Q : Option mw_V → mw_S → Prop} : mw_WP d 260 35 [l0, l1, l2, l3, l4] st σ Q ↔ mw_WP d 260 36 [l0, l1, l2, l3, l4] (jI (1) :: st) σ Q := WP_iconst mq260 dd260_35 (by decide)
theorem dd260_36 : decode cX12_winOf 36 = .ok (.istore 4, 2) := by decide +kernel
theorem ww260_36 {d : Nat} {l0 l1 l2 l3 l4 : Option mw_V} {x : Int} {st : List mw_V} {σ : mw_S} {Q : Option mw_V → mw_S → Prop} (h : mw_nlo l3 = true) : mw_WP d 260 36 [l0, l1, l2, l3, l4] (jI x :: st) σ Q ↔ mw_WP d 260 38 [l0, l1, l2, l3, some (jI x)] st σ Q := WP_istore mq260 dd260_36 (Nat.le_of_ble_eq_true rfl) (mw_nl_of (i := 3) rfl h) rfl
theorem dd260_38 : decode cX12_winOf 38 = .ok (.iload 4, 2) := by decide +kernel
theorem ww260_38 {d : Nat} {l0 l1 l2 l3 : Option mw_V} {x : Int} {st : List mw_V} {σ : mw_S} {Q : Option mw_V → mw_S → Prop} : mw_WP d 260 38 [l0, l1, l2, l3, some (jI x)] st σ Q ↔ mw_WP d 260 40 [l0, l1, l2, l3, some (jI x)] (jI x :: st) σ Q := WP_iload mq260 dd260_38 rfl
theorem dd260_40 : decode cX12_winOf 40 = .ok (.iload_n 2, 1) := by decide +kernel
theorem ww260_40 {d : Nat} {l0 l1 l3 l4 : Option mw_V} {x : Int} {st : List mw_V} {σ : mw_S} {Q : Option mw_V → mw_S → Prop} : mw_WP d 260 40 [l0, l1, some (jI x), l3, l4] st σ Q ↔ mw_WP d 260 41 [l0, l1, some (jI x), l3, l4] (jI x :: st) σ Q := WP_iload_n mq260 dd260_40 rfl
theorem dd260_41 : decode cX12_winOf 41 = .ok (.if_icmp .gt 31, 3) := by decide +kernel
theorem ww260_41 {d : Nat} {l0 l1 l2 l3 l4 : Option mw_V} {x y : Int} {st : List mw_V} {σ : mw_S} {Q : Option mw_V → mw_S → Prop} : mw_WP d 260 41 [l0, l1, l2, l3, l4] (jI y :: jI x :: st) σ Q ↔ (if y < x then mw_WP d 260 72 [l0, l1, l2, l3, l4] st σ Q else mw_WP d 260 44 [l0, l1, l2, l3, l4] st σ Q) := WP_icmp_gt mq260 dd260_41 (by decide)
theorem dd260_44 : decode cX12_winOf 44 = .ok (.iload 4, 2) := by decide +kernel
theorem ww260_44 {d : Nat} {l0 l1 l2 l3 : Option mw_V} {x : Int} {st : List mw_V} {σ : mw_S} {Q : Option mw_V → mw_S → Prop} : mw_WP d 260 44 [l0, l1, l2, l3, some (jI x)] st σ Q ↔ mw_WP d 260 46 [l0, l1, l2, l3, some (jI x)] (jI x :: st) σ Q := WP_iload mq260 dd260_44 rfl
theorem dd260_46 : decode cX12_winOf 46 = .ok (.iload_n 1, 1) := by decide +kernel
theorem ww260_46 {d : Nat} {l0 l2 l3 l4 : Option mw_V} {x : Int} {st : List mw_V} {σ : mw_S} {Q : Option mw_V → mw_S → Prop} : mw_WP d 260 46 [l0, some (jI x), l2, l3, l4] st σ Q ↔ mw_WP d 260 47 [l0, some (jI x), l2, l3, l4] (jI x :: st) σ Q := WP_iload_n mq260 dd260_46 rfl
theorem dd260_47 : decode cX12_winOf 47 = .ok (.if_icmp .gt 25, 3) := by decide +kernel
theorem ww260_47 {d : Nat} {l0 l1 l2 l3 l4 : Option mw_V} {x y : Int} {st : List mw_V} {σ : mw_S} {Q : Option mw_V → mw_S → Prop} : mw_WP d 260 47 [l0, l1, l2, l3, l4] (jI y :: jI x :: st) σ Q ↔ (if y < x then mw_WP d 260 72 [l0, l1, l2, l3, l4] st σ Q else mw_WP d 260 50 [l0, l1, l2, l3, l4] st σ Q) := WP_icmp_gt mq260 dd260_47 (by decide)
theorem dd260_50 : decode cX12_winOf 50 = .ok (.aload_n 0, 1) := by decide +kernel
theorem ww260_50 {d : Nat} {l1 l2 l3 l4 : Option mw_V} {x : Nat} {st : List mw_V} {σ : mw_S} {Q : Option mw_V → mw_S → Prop} : mw_WP d 260 50 [some (jR x), l1, l2, l3, l4] st σ Q ↔ mw_WP d 260 51 [some (jR x), l1, l2, l3, l4] (jR x :: st) σ Q := WP_aload_n mq260 dd260_50 rfl
theorem dd260_51 : decode cX12_winOf 51 = .ok (.iload_n 1, 1) := by decide +kernel
theorem ww260_51 {d : Nat} {l0 l2 l3 l4 : Option mw_V} {x : Int} {st : List mw_V} {σ : mw_S} {Q : Option mw_V → mw_S → Prop} : mw_WP d 260 51 [l0, some (jI x), l2, l3, l4] st σ Q ↔ mw_WP d 260 52 [l0, some (jI x), l2, l3, l4] (jI x :: st) σ Q := WP_iload_n mq260 dd260_51 rfl
theorem dd260_52 : decode cX12_winOf 52 = .ok (.iload 4, 2) := by decide +kernel
theorem ww260_52 {d : Nat} {l0 l1 l2 l3 : Option mw_V} {x : Int} {st : List mw_V} {σ : mw_S} {Q : Option mw_V → mw_S → Prop} : mw_WP d 260 52 [l0, l1, l2, l3, some (jI x)] st σ Q ↔ mw_WP d 260 54 [l0, l1, l2, l3, some (jI x)] (jI x :: st) σ Q := WP_iload mq260 dd260_52 rfl
theorem dd260_54 : decode cX12_winOf 54 = .ok (.iconst 0, 1) := by decide +kernel
theorem ww260_54 {d : Nat} {l0 l1 l2 l3 l4 : Option mw_V} {st : List mw_V} {σ : mw_S} {Q : Option mw_V → mw_S → Prop} : mw_WP d 260 54 [l0, l1, l2, l3, l4] st σ Q ↔ mw_WP d 260 55 [l0, l1, l2, l3, l4] (jI (0) :: st) σ Q := WP_iconst mq260 dd260_54 (by decide)
theorem dd260_55 : decode cX12_winOf 55 = .ok (.iconst 0, 1) := by decide +kernel
theorem ww260_55 {d : Nat} {l0 l1 l2 l3 l4 : Option mw_V} {st : List mw_V} {σ : mw_S} {Q : Option mw_V → mw_S → Prop} : mw_WP d 260 55 [l0, l1, l2, l3, l4] st σ Q ↔ mw_WP d 260 56 [l0, l1, l2, l3, l4] (jI (0) :: st) σ Q := WP_iconst mq260 dd260_55 (by decide)
theorem dd260_56 : decode cX12_winOf 56 = .ok (.iconst 0, 1) := by decide +kernel
theorem ww260_56 {d : Nat} {l0 l1 l2 l3 l4 : Option mw_V} {st : List mw_V} {σ : mw_S} {Q : Option mw_V → mw_S → Prop} : mw_WP d 260 56 [l0, l1, l2, l3, l4] st σ Q ↔ mw_WP d 260 57 [l0, l1, l2, l3, l4] (jI (0) :: st) σ Q := WP_iconst mq260 dd260_56 (by decide)
theorem dd260_57 : decode cX12_winOf 57 = .ok (.invokevirtual 425, 3) := by decide +kernel
theorem ww260_57 {d : Nat} {l0 l1 l2 l3 l4 : Option mw_V} {v0 v1 v2 v3 v4 : mw_V} {a : Nat} {st : List mw_V} {σ : mw_S} {Q : Option mw_V → mw_S → Prop} (hr : mw_rc a = 12) (h8 : (st.map mw_cat).sum ≤ 8) : mw_WP d 260 57 [l0, l1, l2, l3, l4] (v4 :: v3 :: v2 :: v1 :: v0 :: jR a :: st) σ Q ↔ mw_Call d 259 [jR a, v0, v1, v2, v3, v4] σ (fun r1 s1 => mw_WP d 260 60 [l0, l1, l2, l3, l4] (r1.toList ++ st) s1 Q) := WP_inv (as := [v4, v3, v2, v1, v0]) mq260 dd260_57 (by decide) mq259 rfl hr h8
theorem dd260_60 : decode cX12_winOf 60 = .ok (.ifCond .eq 6, 3) := by decide +kernel
theorem ww260_60 {d : Nat} {l0 l1 l2 l3 l4 : Option mw_V} {x : Int} {st : List mw_V} {σ : mw_S} {Q : Option mw_V → mw_S → Prop} : mw_WP d 260 60 [l0, l1, l2, l3, l4] (jI x :: st) σ Q ↔ (if x = 0 then mw_WP d 260 66 [l0, l1, l2, l3, l4] st σ Q else mw_WP d 260 63 [l0, l1, l2, l3, l4] st σ Q) := WP_if_eq mq260 dd260_60 (by decide)
theorem dd260_63 : decode cX12_winOf 63 = .ok (.iload 4, 2) := by decide +kernel
theorem ww260_63 {d : Nat} {l0 l1 l2 l3 : Option mw_V} {x : Int} {st : List mw_V} {σ : mw_S} {Q : Option mw_V → mw_S → Prop} : mw_WP d 260 63 [l0, l1, l2, l3, some (jI x)] st σ Q ↔ mw_WP d 260 65 [l0, l1, l2, l3, some (jI x)] (jI x :: st) σ Q := WP_iload mq260 dd260_63 rfl
theorem dd260_65 : decode cX12_winOf 65 = .ok (.ireturn, 1) := by decide +kernel
theorem ww260_65 {d : Nat} {l0 l1 l2 l3 l4 : Option mw_V} {z : Int} {σ : mw_S} {Q : Option mw_V → mw_S → Prop} : mw_WP d 260 65 [l0, l1, l2, l3, l4] [jI z] σ Q ↔ Q (some (jI z)) σ := WP_ireturn (ty := .int) mq260 dd260_65 rfl rfl
theorem dd260_66 : decode cX12_winOf 66 = .ok (.iinc 4 1, 3) := by decide +kernel
theorem ww260_66 {d : Nat} {l0 l1 l2 l3 : Option mw_V} {x : Int} {st : List mw_V} {σ : mw_S} {Q : Option mw_V → mw_S → Prop} (h : mw_nlo l3 = true) : mw_WP d 260 66 [l0, l1, l2, l3, some (jI x)] st σ Q ↔ mw_WP d 260 69 [l0, l1, l2, l3, some (jI (w32 (x + (1))))] st σ Q := WP_iinc mq260 dd260_66 rfl (Nat.le_of_ble_eq_true rfl) (mw_nl_of (i := 3) rfl h) rfl
theorem dd260_69 : decode cX12_winOf 69 = .ok (.goto (-31), 3) := by decide +kernel
theorem ww260_69 {d : Nat} {l0 l1 l2 l3 l4 : Option mw_V} {st : List mw_V} {σ : mw_S} {Q : Option mw_V → mw_S → Prop} : mw_WP d 260 69 [l0, l1, l2, l3, l4] st σ Q ↔ mw_WP d 260 38 [l0, l1, l2, l3, l4] st σ Q := WP_goto mq260 dd260_69 (by decide)
theorem dd260_72 : decode cX12_winOf 72 = .ok (.iconst 0, 1) := by decide +kernel
theorem ww260_72 {d : Nat} {l0 l1 l2 l3 l4 : Option mw_V} {st : List mw_V} {σ : mw_S} {Q : Option mw_V → mw_S → Prop} : mw_WP d 260 72 [l0, l1, l2, l3, l4] st σ Q ↔ mw_WP d 260 73 [l0, l1, l2, l3, l4] (jI (0) :: st) σ Q := WP_iconst mq260 dd260_72 (by decide)
theorem dd260_73 : decode cX12_winOf 73 = .ok (.ireturn, 1) := by decide +kernel
theorem ww260_73 {d : Nat} {l0 l1 l2 l3 l4 : Option mw_V} {z : Int} {σ : mw_S} {Q : Option mw_V → mw_S → Prop} : mw_WP d 260 73 [l0, l1, l2, l3, l4] [jI z] σ Q ↔ Q (some (jI z)) σ := WP_ireturn (ty := .int) mq260 dd260_73 rfl rfl
theorem ee261 {d : Nat} {z0 : Int} {z1 : Int} {σ : mw_S} {Q : Option mw_V → mw_S → Prop} : mw_Call (d + 1) 261 [jI z0, jI z1] σ Q ↔ mw_WP d 261 0 [some (jI z0), some (jI z1)] [] σ Q := CL_u mq261 (Nat.le_of_ble_eq_true rfl) rfl
theorem dd261_0 : decode cX12_isGame 0 = .ok (.iload_n 0, 1) := by decide +kernel
theorem ww261_0 {d : Nat} {l1 : Option mw_V} {x : Int} {st : List mw_V} {σ : mw_S} {Q : Option mw_V → mw_S → Prop} : mw_WP d 261 0 [some (jI x), l1] st σ Q ↔ mw_WP d 261 1 [some (jI x), l1] (jI x :: st) σ Q := WP_iload_n mq261 dd261_0 rfl
theorem dd261_1 : decode cX12_isGame 1 = .ok (.i2l, 1) := by decide +kernel
theorem ww261_1 {d : Nat} {l0 l1 : Option mw_V} {x : Int} {st : List mw_V} {σ : mw_S} {Q : Option mw_V → mw_S → Prop} : mw_WP d 261 1 [l0, l1] (jI x :: st) σ Q ↔ mw_WP d 261 2 [l0, l1] (jL (yL x) :: st) σ Q := WP_i2l mq261 dd261_1
theorem dd261_2 : decode cX12_isGame 2 = .ok (.lconst 1, 1) := by decide +kernel
theorem ww261_2 {d : Nat} {l0 l1 : Option mw_V} {st : List mw_V} {σ : mw_S} {Q : Option mw_V → mw_S → Prop} : mw_WP d 261 2 [l0, l1] st σ Q ↔ mw_WP d 261 3 [l0, l1] (jL (1) :: st) σ Q := WP_lconst mq261 dd261_2 (by decide)
theorem dd261_3 : decode cX12_isGame 3 = .ok (.ldc2_w 361, 3) := by decide +kernel
theorem ww261_3 {d : Nat} {l0 l1 : Option mw_V} {st : List mw_V} {σ : mw_S} {Q : Option mw_V → mw_S → Prop} : mw_WP d 261 3 [l0, l1] st σ Q ↔ mw_WP d 261 6 [l0, l1] (jL (4) :: st) σ Q := WP_ldc2_w (v := 4) mq261 dd261_3 (by decide) (by decide)
theorem dd261_6 : decode cX12_isGame 6 = .ok (.invokestatic 159, 3) := by decide +kernel
theorem ww261_6 {d : Nat} {l0 l1 : Option mw_V} {v0 v1 v2 : mw_V} {st : List mw_V} {σ : mw_S} {Q : Option mw_V → mw_S → Prop} (h8 : (st.map mw_cat).sum ≤ 8) : mw_WP d 261 6 [l0, l1] (v2 :: v1 :: v0 :: st) σ Q ↔ mw_Call d 170 [v0, v1, v2] σ (fun r1 s1 => mw_WP d 261 9 [l0, l1] (r1.toList ++ st) s1 Q) := WP_invs (as := [v2, v1, v0]) mq261 dd261_6 (by decide) mq170 rfl rfl h8
theorem dd261_9 : decode cX12_isGame 9 = .ok (.ifCond .eq 19, 3) := by decide +kernel
theorem ww261_9 {d : Nat} {l0 l1 : Option mw_V} {x : Int} {st : List mw_V} {σ : mw_S} {Q : Option mw_V → mw_S → Prop} : mw_WP d 261 9 [l0, l1] (jI x :: st) σ Q ↔ (if x = 0 then mw_WP d 261 28 [l0, l1] st σ Q else mw_WP d 261 12 [l0, l1] st σ Q) := WP_if_eq mq261 dd261_9 (by decide)
theorem dd261_12 : decode cX12_isGame 12 = .ok (.iload_n 1, 1) := by decide +kernel
theorem ww261_12 {d : Nat} {l0 : Option mw_V} {x : Int} {st : List mw_V} {σ : mw_S} {Q : Option mw_V → mw_S → Prop} : mw_WP d 261 12 [l0, some (jI x)] st σ Q ↔ mw_WP d 261 13 [l0, some (jI x)] (jI x :: st) σ Q := WP_iload_n mq261 dd261_12 rfl
theorem dd261_13 : decode cX12_isGame 13 = .ok (.i2l, 1) := by decide +kernel
theorem ww261_13 {d : Nat} {l0 l1 : Option mw_V} {x : Int} {st : List mw_V} {σ : mw_S} {Q : Option mw_V → mw_S → Prop} : mw_WP d 261 13 [l0, l1] (jI x :: st) σ Q ↔ mw_WP d 261 14 [l0, l1] (jL (yL x) :: st) σ Q := WP_i2l mq261 dd261_13
theorem dd261_14 : decode cX12_isGame 14 = .ok (.lconst 0, 1) := by decide +kernel
theorem ww261_14 {d : Nat} {l0 l1 : Option mw_V} {st : List mw_V} {σ : mw_S} {Q : Option mw_V → mw_S → Prop} : mw_WP d 261 14 [l0, l1] st σ Q ↔ mw_WP d 261 15 [l0, l1] (jL (0) :: st) σ Q := WP_lconst mq261 dd261_14 (by decide)
theorem dd261_15 : decode cX12_isGame 15 = .ok (.ldc2_w 308, 3) := by decide +kernel
theorem ww261_15 {d : Nat} {l0 l1 : Option mw_V} {st : List mw_V} {σ : mw_S} {Q : Option mw_V → mw_S → Prop} : mw_WP d 261 15 [l0, l1] st σ Q ↔ mw_WP d 261 18 [l0, l1] (jL (3) :: st) σ Q := WP_ldc2_w (v := 3) mq261 dd261_15 (by decide) (by decide)
theorem dd261_18 : decode cX12_isGame 18 = .ok (.invokestatic 159, 3) := by decide +kernel
theorem ww261_18 {d : Nat} {l0 l1 : Option mw_V} {v0 v1 v2 : mw_V} {st : List mw_V} {σ : mw_S} {Q : Option mw_V → mw_S → Prop} (h8 : (st.map mw_cat).sum ≤ 8) : mw_WP d 261 18 [l0, l1] (v2 :: v1 :: v0 :: st) σ Q ↔ mw_Call d 170 [v0, v1, v2] σ (fun r1 s1 => mw_WP d 261 21 [l0, l1] (r1.toList ++ st) s1 Q) := WP_invs (as := [v2, v1, v0]) mq261 dd261_18 (by decide) mq170 rfl rfl h8
theorem dd261_21 : decode cX12_isGame 21 = .ok (.ifCond .eq 7, 3) := by decide +kernel
theorem ww261_21 {d : Nat} {l0 l1 : Option mw_V} {x : Int} {st : List mw_V} {σ : mw_S} {Q : Option mw_V → mw_S → Prop} : mw_WP d 261 21 [l0, l1] (jI x :: st) σ Q ↔ (if x = 0 then mw_WP d 261 28 [l0, l1] st σ Q else mw_WP d 261 24 [l0, l1] st σ Q) := WP_if_eq mq261 dd261_21 (by decide)
theorem dd261_24 : decode cX12_isGame 24 = .ok (.iconst 1, 1) := by decide +kernel
theorem ww261_24 {d : Nat} {l0 l1 : Option mw_V} {st : List mw_V} {σ : mw_S} {Q : Option mw_V → mw_S → Prop} : mw_WP d 261 24 [l0, l1] st σ Q ↔ mw_WP d 261 25 [l0, l1] (jI (1) :: st) σ Q := WP_iconst mq261 dd261_24 (by decide)
theorem dd261_25 : decode cX12_isGame 25 = .ok (.goto 4, 3) := by decide +kernel
theorem ww261_25 {d : Nat} {l0 l1 : Option mw_V} {st : List mw_V} {σ : mw_S} {Q : Option mw_V → mw_S → Prop} : mw_WP d 261 25 [l0, l1] st σ Q ↔ mw_WP d 261 29 [l0, l1] st σ Q := WP_goto mq261 dd261_25 (by decide)
theorem dd261_28 : decode cX12_isGame 28 = .ok (.iconst 0, 1) := by decide +kernel
theorem ww261_28 {d : Nat} {l0 l1 : Option mw_V} {st : List mw_V} {σ : mw_S} {Q : Option mw_V → mw_S → Prop} : mw_WP d 261 28 [l0, l1] st σ Q ↔ mw_WP d 261 29 [l0, l1] (jI (0) :: st) σ Q := WP_iconst mq261 dd261_28 (by decide)
theorem dd261_29 : decode cX12_isGame 29 = .ok (.ireturn, 1) := by decide +kernel
theorem ww261_29 {d : Nat} {l0 l1 : Option mw_V} {z : Int} {σ : mw_S} {Q : Option mw_V → mw_S → Prop} (h : z = 0 ∨ z = 1) : mw_WP d 261 29 [l0, l1] [jI z] σ Q ↔ Q (some (jI z)) σ := WP_ireturn (ty := .boolean) mq261 dd261_29 rfl (by rcases h with rfl | rfl <;> decide)
theorem ee262 {d : Nat} {a : Nat} {z0 : Int} {z1 : Int} {z2 : Int} {σ : mw_S} {Q : Option mw_V → mw_S → Prop} : mw_Call (d + 1) 262 [jR a, jI z0, jI z1, jI z2] σ Q ↔ mw_WP d 262 0 [some (jR a), some (jI z0), some (jI z1), some (jI z2)] [] σ Q := CL_u mq262 (Nat.le_of_ble_eq_true rfl) rfl
theorem dd262_0 : decode cX12_win 0 = .ok (.aload_n 0, 1) := by decide +kernel
theorem ww262_0 {d : Nat} {l1 l2 l3 : Option mw_V} {x : Nat} {st : List mw_V} {σ : mw_S} {Q : Option mw_V → mw_S → Prop} : mw_WP d 262 0 [some (jR x), l1, l2, l3] st σ Q ↔ mw_WP d 262 1 [some (jR x), l1, l2, l3] (jR x :: st) σ Q := WP_aload_n mq262 dd262_0 rfl
theorem dd262_1 : decode cX12_win 1 = .ok (.iconst 0, 1) := by decide +kernel
theorem ww262_1 {d : Nat} {l0 l1 l2 l3 : Option mw_V} {st : List mw_V} {σ : mw_S} {Q : Option mw_V → mw_S → Prop} : mw_WP d 262 1 [l0, l1, l2, l3] st σ Q ↔ mw_WP d 262 2 [l0, l1, l2, l3] (jI (0) :: st) σ Q := WP_iconst mq262 dd262_1 (by decide)
theorem dd262_2 : decode cX12_win 2 = .ok (.putfield 1, 3) := by decide +kernel
theorem ww262_2 {d : Nat} {l0 l1 l2 l3 : Option mw_V} {v : Int} {st : List mw_V} {σ : mw_S} {Q : Option mw_V → mw_S → Prop} : mw_WP d 262 2 [l0, l1, l2, l3] (jI v :: jR 100 :: st) σ Q ↔ mw_WP d 262 5 [l0, l1, l2, l3] st (upS σ 100 0 v) Q := WP_putI (ci := 11) (k := 0) mq262 dd262_2 (by decide) rfl
theorem dd262_5 : decode cX12_win 5 = .ok (.iload_n 1, 1) := by decide +kernel
theorem ww262_5 {d : Nat} {l0 l2 l3 : Option mw_V} {x : Int} {st : List mw_V} {σ : mw_S} {Q : Option mw_V → mw_S → Prop} : mw_WP d 262 5 [l0, some (jI x), l2, l3] st σ Q ↔ mw_WP d 262 6 [l0, some (jI x), l2, l3] (jI x :: st) σ Q := WP_iload_n mq262 dd262_5 rfl
theorem dd262_6 : decode cX12_win 6 = .ok (.i2l, 1) := by decide +kernel
theorem ww262_6 {d : Nat} {l0 l1 l2 l3 : Option mw_V} {x : Int} {st : List mw_V} {σ : mw_S} {Q : Option mw_V → mw_S → Prop} : mw_WP d 262 6 [l0, l1, l2, l3] (jI x :: st) σ Q ↔ mw_WP d 262 7 [l0, l1, l2, l3] (jL (yL x) :: st) σ Q := WP_i2l mq262 dd262_6
theorem dd262_7 : decode cX12_win 7 = .ok (.lconst 0, 1) := by decide +kernel
theorem ww262_7 {d : Nat} {l0 l1 l2 l3 : Option mw_V} {st : List mw_V} {σ : mw_S} {Q : Option mw_V → mw_S → Prop} : mw_WP d 262 7 [l0, l1, l2, l3] st σ Q ↔ mw_WP d 262 8 [l0, l1, l2, l3] (jL (0) :: st) σ Q := WP_lconst mq262 dd262_7 (by decide)
theorem dd262_8 : decode cX12_win 8 = .ok (.ldc2_w 320, 3) := by decide +kernel
theorem ww262_8 {d : Nat} {l0 l1 l2 l3 : Option mw_V} {st : List mw_V} {σ : mw_S} {Q : Option mw_V → mw_S → Prop} : mw_WP d 262 8 [l0, l1, l2, l3] st σ Q ↔ mw_WP d 262 11 [l0, l1, l2, l3] (jL (60) :: st) σ Q := WP_ldc2_w (v := 60) mq262 dd262_8 (by decide) (by decide)
theorem dd262_11 : decode cX12_win 11 = .ok (.invokestatic 159, 3) := by decide +kernel
theorem ww262_11 {d : Nat} {l0 l1 l2 l3 : Option mw_V} {v0 v1 v2 : mw_V} {st : List mw_V} {σ : mw_S} {Q : Option mw_V → mw_S → Prop} (h8 : (st.map mw_cat).sum ≤ 8) : mw_WP d 262 11 [l0, l1, l2, l3] (v2 :: v1 :: v0 :: st) σ Q ↔ mw_Call d 170 [v0, v1, v2] σ (fun r1 s1 => mw_WP d 262 14 [l0, l1, l2, l3] (r1.toList ++ st) s1 Q) := WP_invs (as := [v2, v1, v0]) mq262 dd262_11 (by decide) mq170 rfl rfl h8
theorem dd262_14 : decode cX12_win 14 = .ok (.ifCond .eq 21, 3) := by decide +kernel
theorem ww262_14 {d : Nat} {l0 l1 l2 l3 : Option mw_V} {x : Int} {st : List mw_V} {σ : mw_S} {Q : Option mw_V → mw_S → Prop} : mw_WP d 262 14 [l0, l1, l2, l3] (jI x :: st) σ Q ↔ (if x = 0 then mw_WP d 262 35 [l0, l1, l2, l3] st σ Q else mw_WP d 262 17 [l0, l1, l2, l3] st σ Q) := WP_if_eq mq262 dd262_14 (by decide)
theorem dd262_17 : decode cX12_win 17 = .ok (.iload_n 2, 1) := by decide +kernel
theorem ww262_17 {d : Nat} {l0 l1 l3 : Option mw_V} {x : Int} {st : List mw_V} {σ : mw_S} {Q : Option mw_V → mw_S → Prop} : mw_WP d 262 17 [l0, l1, some (jI x), l3] st σ Q ↔ mw_WP d 262 18 [l0, l1, some (jI x), l3] (jI x :: st) σ Q := WP_iload_n mq262 dd262_17 rfl
theorem dd262_18 : decode cX12_win 18 = .ok (.iload_n 3, 1) := by decide +kernel
theorem ww262_18 {d : Nat} {l0 l1 l2 : Option mw_V} {x : Int} {st : List mw_V} {σ : mw_S} {Q : Option mw_V → mw_S → Prop} : mw_WP d 262 18 [l0, l1, l2, some (jI x)] st σ Q ↔ mw_WP d 262 19 [l0, l1, l2, some (jI x)] (jI x :: st) σ Q := WP_iload_n mq262 dd262_18 rfl
theorem dd262_19 : decode cX12_win 19 = .ok (.invokestatic 436, 3) := by decide +kernel
theorem ww262_19 {d : Nat} {l0 l1 l2 l3 : Option mw_V} {v0 v1 : mw_V} {st : List mw_V} {σ : mw_S} {Q : Option mw_V → mw_S → Prop} (h8 : (st.map mw_cat).sum ≤ 8) : mw_WP d 262 19 [l0, l1, l2, l3] (v1 :: v0 :: st) σ Q ↔ mw_Call d 261 [v0, v1] σ (fun r1 s1 => mw_WP d 262 22 [l0, l1, l2, l3] (r1.toList ++ st) s1 Q) := WP_invs (as := [v1, v0]) mq262 dd262_19 (by decide) mq261 rfl rfl h8
theorem dd262_22 : decode cX12_win 22 = .ok (.ifCond .eq 13, 3) := by decide +kernel
theorem ww262_22 {d : Nat} {l0 l1 l2 l3 : Option mw_V} {x : Int} {st : List mw_V} {σ : mw_S} {Q : Option mw_V → mw_S → Prop} : mw_WP d 262 22 [l0, l1, l2, l3] (jI x :: st) σ Q ↔ (if x = 0 then mw_WP d 262 35 [l0, l1, l2, l3] st σ Q else mw_WP d 262 25 [l0, l1, l2, l3] st σ Q) := WP_if_eq mq262 dd262_22 (by decide)
theorem dd262_25 : decode cX12_win 25 = .ok (.aload_n 0, 1) := by decide +kernel
theorem ww262_25 {d : Nat} {l1 l2 l3 : Option mw_V} {x : Nat} {st : List mw_V} {σ : mw_S} {Q : Option mw_V → mw_S → Prop} : mw_WP d 262 25 [some (jR x), l1, l2, l3] st σ Q ↔ mw_WP d 262 26 [some (jR x), l1, l2, l3] (jR x :: st) σ Q := WP_aload_n mq262 dd262_25 rfl
theorem dd262_26 : decode cX12_win 26 = .ok (.iload_n 1, 1) := by decide +kernel
theorem ww262_26 {d : Nat} {l0 l2 l3 : Option mw_V} {x : Int} {st : List mw_V} {σ : mw_S} {Q : Option mw_V → mw_S → Prop} : mw_WP d 262 26 [l0, some (jI x), l2, l3] st σ Q ↔ mw_WP d 262 27 [l0, some (jI x), l2, l3] (jI x :: st) σ Q := WP_iload_n mq262 dd262_26 rfl
theorem dd262_27 : decode cX12_win 27 = .ok (.iload_n 2, 1) := by decide +kernel
theorem ww262_27 {d : Nat} {l0 l1 l3 : Option mw_V} {x : Int} {st : List mw_V} {σ : mw_S} {Q : Option mw_V → mw_S → Prop} : mw_WP d 262 27 [l0, l1, some (jI x), l3] st σ Q ↔ mw_WP d 262 28 [l0, l1, some (jI x), l3] (jI x :: st) σ Q := WP_iload_n mq262 dd262_27 rfl
theorem dd262_28 : decode cX12_win 28 = .ok (.iload_n 3, 1) := by decide +kernel
theorem ww262_28 {d : Nat} {l0 l1 l2 : Option mw_V} {x : Int} {st : List mw_V} {σ : mw_S} {Q : Option mw_V → mw_S → Prop} : mw_WP d 262 28 [l0, l1, l2, some (jI x)] st σ Q ↔ mw_WP d 262 29 [l0, l1, l2, some (jI x)] (jI x :: st) σ Q := WP_iload_n mq262 dd262_28 rfl
theorem dd262_29 : decode cX12_win 29 = .ok (.invokevirtual 439, 3) := by decide +kernel
theorem ww262_29 {d : Nat} {l0 l1 l2 l3 : Option mw_V} {v0 v1 v2 : mw_V} {a : Nat} {st : List mw_V} {σ : mw_S} {Q : Option mw_V → mw_S → Prop} (hr : mw_rc a = 12) (h8 : (st.map mw_cat).sum ≤ 8) : mw_WP d 262 29 [l0, l1, l2, l3] (v2 :: v1 :: v0 :: jR a :: st) σ Q ↔ mw_Call d 260 [jR a, v0, v1, v2] σ (fun r1 s1 => mw_WP d 262 32 [l0, l1, l2, l3] (r1.toList ++ st) s1 Q) := WP_inv (as := [v2, v1, v0]) mq262 dd262_29 (by decide) mq260 rfl hr h8
theorem dd262_32 : decode cX12_win 32 = .ok (.goto 5, 3) := by decide +kernel
theorem ww262_32 {d : Nat} {l0 l1 l2 l3 : Option mw_V} {st : List mw_V} {σ : mw_S} {Q : Option mw_V → mw_S → Prop} : mw_WP d 262 32 [l0, l1, l2, l3] st σ Q ↔ mw_WP d 262 37 [l0, l1, l2, l3] st σ Q := WP_goto mq262 dd262_32 (by decide)
theorem dd262_35 : decode cX12_win 35 = .ok (.bipush (-3), 2) := by decide +kernel
theorem ww262_35 {d : Nat} {l0 l1 l2 l3 : Option mw_V} {st : List mw_V} {σ : mw_S} {Q : Option mw_V → mw_S → Prop} : mw_WP d 262 35 [l0, l1, l2, l3] st σ Q ↔ mw_WP d 262 37 [l0, l1, l2, l3] (jI (-3) :: st) σ Q := WP_bipush mq262 dd262_35 (by decide)
theorem dd262_37 : decode cX12_win 37 = .ok (.ireturn, 1) := by decide +kernel
theorem ww262_37 {d : Nat} {l0 l1 l2 l3 : Option mw_V} {z : Int} {σ : mw_S} {Q : Option mw_V → mw_S → Prop} : mw_WP d 262 37 [l0, l1, l2, l3] [jI z] σ Q ↔ Q (some (jI z)) σ := WP_ireturn (ty := .int) mq262 dd262_37 rfl rfl
theorem ee263 {d : Nat} {a : Nat} {z0 : Int} {z1 : Int} {σ : mw_S} {Q : Option mw_V → mw_S → Prop} : mw_Call (d + 1) 263 [jR a, jI z0, jI z1] σ Q ↔ mw_WP d 263 0 [some (jR a), some (jI z0), some (jI z1), none, none] [] σ Q := CL_u mq263 (Nat.le_of_ble_eq_true rfl) rfl
theorem dd263_0 : decode cX12_wins 0 = .ok (.aload_n 0, 1) := by decide +kernel
theorem ww263_0 {d : Nat} {l1 l2 l3 l4 : Option mw_V} {x : Nat} {st : List mw_V} {σ : mw_S} {Q : Option mw_V → mw_S → Prop} : mw_WP d 263 0 [some (jR x), l1, l2, l3, l4] st σ Q ↔ mw_WP d 263 1 [some (jR x), l1, l2, l3, l4] (jR x :: st) σ Q := WP_aload_n mq263 dd263_0 rfl
theorem dd263_1 : decode cX12_wins 1 = .ok (.iconst 0, 1) := by decide +kernel
theorem ww263_1 {d : Nat} {l0 l1 l2 l3 l4 : Option mw_V} {st : List mw_V} {σ : mw_S} {Q : Option mw_V → mw_S → Prop} : mw_WP d 263 1 [l0, l1, l2, l3, l4] st σ Q ↔ mw_WP d 263 2 [l0, l1, l2, l3, l4] (jI (0) :: st) σ Q := WP_iconst mq263 dd263_1 (by decide)
theorem dd263_2 : decode cX12_wins 2 = .ok (.putfield 1, 3) := by decide +kernel
theorem ww263_2 {d : Nat} {l0 l1 l2 l3 l4 : Option mw_V} {v : Int} {st : List mw_V} {σ : mw_S} {Q : Option mw_V → mw_S → Prop} : mw_WP d 263 2 [l0, l1, l2, l3, l4] (jI v :: jR 100 :: st) σ Q ↔ mw_WP d 263 5 [l0, l1, l2, l3, l4] st (upS σ 100 0 v) Q := WP_putI (ci := 11) (k := 0) mq263 dd263_2 (by decide) rfl
theorem dd263_5 : decode cX12_wins 5 = .ok (.iload_n 1, 1) := by decide +kernel
theorem ww263_5 {d : Nat} {l0 l2 l3 l4 : Option mw_V} {x : Int} {st : List mw_V} {σ : mw_S} {Q : Option mw_V → mw_S → Prop} : mw_WP d 263 5 [l0, some (jI x), l2, l3, l4] st σ Q ↔ mw_WP d 263 6 [l0, some (jI x), l2, l3, l4] (jI x :: st) σ Q := WP_iload_n mq263 dd263_5 rfl
theorem dd263_6 : decode cX12_wins 6 = .ok (.iload_n 2, 1) := by decide +kernel
theorem ww263_6 {d : Nat} {l0 l1 l3 l4 : Option mw_V} {x : Int} {st : List mw_V} {σ : mw_S} {Q : Option mw_V → mw_S → Prop} : mw_WP d 263 6 [l0, l1, some (jI x), l3, l4] st σ Q ↔ mw_WP d 263 7 [l0, l1, some (jI x), l3, l4] (jI x :: st) σ Q := WP_iload_n mq263 dd263_6 rfl
theorem dd263_7 : decode cX12_wins 7 = .ok (.invokestatic 436, 3) := by decide +kernel
theorem ww263_7 {d : Nat} {l0 l1 l2 l3 l4 : Option mw_V} {v0 v1 : mw_V} {st : List mw_V} {σ : mw_S} {Q : Option mw_V → mw_S → Prop} (h8 : (st.map mw_cat).sum ≤ 8) : mw_WP d 263 7 [l0, l1, l2, l3, l4] (v1 :: v0 :: st) σ Q ↔ mw_Call d 261 [v0, v1] σ (fun r1 s1 => mw_WP d 263 10 [l0, l1, l2, l3, l4] (r1.toList ++ st) s1 Q) := WP_invs (as := [v1, v0]) mq263 dd263_7 (by decide) mq261 rfl rfl h8
theorem dd263_10 : decode cX12_wins 10 = .ok (.ifCond .ne 6, 3) := by decide +kernel
theorem ww263_10 {d : Nat} {l0 l1 l2 l3 l4 : Option mw_V} {x : Int} {st : List mw_V} {σ : mw_S} {Q : Option mw_V → mw_S → Prop} : mw_WP d 263 10 [l0, l1, l2, l3, l4] (jI x :: st) σ Q ↔ (if ¬ x = 0 then mw_WP d 263 16 [l0, l1, l2, l3, l4] st σ Q else mw_WP d 263 13 [l0, l1, l2, l3, l4] st σ Q) := WP_if_ne mq263 dd263_10 (by decide)
theorem dd263_13 : decode cX12_wins 13 = .ok (.bipush (-3), 2) := by decide +kernel
theorem ww263_13 {d : Nat} {l0 l1 l2 l3 l4 : Option mw_V} {st : List mw_V} {σ : mw_S} {Q : Option mw_V → mw_S → Prop} : mw_WP d 263 13 [l0, l1, l2, l3, l4] st σ Q ↔ mw_WP d 263 15 [l0, l1, l2, l3, l4] (jI (-3) :: st) σ Q := WP_bipush mq263 dd263_13 (by decide)
theorem dd263_15 : decode cX12_wins 15 = .ok (.ireturn, 1) := by decide +kernel
theorem ww263_15 {d : Nat} {l0 l1 l2 l3 l4 : Option mw_V} {z : Int} {σ : mw_S} {Q : Option mw_V → mw_S → Prop} : mw_WP d 263 15 [l0, l1, l2, l3, l4] [jI z] σ Q ↔ Q (some (jI z)) σ := WP_ireturn (ty := .int) mq263 dd263_15 rfl rfl
theorem dd263_16 : decode cX12_wins 16 = .ok (.iconst 0, 1) := by decide +kernel
theorem ww263_16 {d : Nat} {l0 l1 l2 l3 l4 : Option mw_V} {st : List mw_V} {σ : mw_S} {Q : Option mw_V → mw_S → Prop} : mw_WP d 263 16 [l0, l1, l2, l3, l4] st σ Q ↔ mw_WP d 263 17 [l0, l1, l2, l3, l4] (jI (0) :: st) σ Q := WP_iconst mq263 dd263_16 (by decide)
theorem dd263_17 : decode cX12_wins 17 = .ok (.istore_n 3, 1) := by decide +kernel
theorem ww263_17 {d : Nat} {l0 l1 l2 l3 l4 : Option mw_V} {x : Int} {st : List mw_V} {σ : mw_S} {Q : Option mw_V → mw_S → Prop} (h : mw_nlo l2 = true) : mw_WP d 263 17 [l0, l1, l2, l3, l4] (jI x :: st) σ Q ↔ mw_WP d 263 18 [l0, l1, l2, some (jI x), l4] st σ Q := WP_istore_n mq263 dd263_17 (Nat.le_of_ble_eq_true rfl) (mw_nl_of (i := 2) rfl h) rfl
theorem dd263_18 : decode cX12_wins 18 = .ok (.iconst 0, 1) := by decide +kernel
theorem ww263_18 {d : Nat} {l0 l1 l2 l3 l4 : Option mw_V} {st : List mw_V} {σ : mw_S} {Q : Option mw_V → mw_S → Prop} : mw_WP d 263 18 [l0, l1, l2, l3, l4] st σ Q ↔ mw_WP d 263 19 [l0, l1, l2, l3, l4] (jI (0) :: st) σ Q := WP_iconst mq263 dd263_18 (by decide)
theorem dd263_19 : decode cX12_wins 19 = .ok (.istore 4, 2) := by decide +kernel
theorem ww263_19 {d : Nat} {l0 l1 l2 l3 l4 : Option mw_V} {x : Int} {st : List mw_V} {σ : mw_S} {Q : Option mw_V → mw_S → Prop} (h : mw_nlo l3 = true) : mw_WP d 263 19 [l0, l1, l2, l3, l4] (jI x :: st) σ Q ↔ mw_WP d 263 21 [l0, l1, l2, l3, some (jI x)] st σ Q := WP_istore mq263 dd263_19 (Nat.le_of_ble_eq_true rfl) (mw_nl_of (i := 3) rfl h) rfl
theorem dd263_21 : decode cX12_wins 21 = .ok (.iload 4, 2) := by decide +kernel
theorem ww263_21 {d : Nat} {l0 l1 l2 l3 : Option mw_V} {x : Int} {st : List mw_V} {σ : mw_S} {Q : Option mw_V → mw_S → Prop} : mw_WP d 263 21 [l0, l1, l2, l3, some (jI x)] st σ Q ↔ mw_WP d 263 23 [l0, l1, l2, l3, some (jI x)] (jI x :: st) σ Q := WP_iload mq263 dd263_21 rfl
theorem dd263_23 : decode cX12_wins 23 = .ok (.bipush 60, 2) := by decide +kernel
theorem ww263_23 {d : Nat} {l0 l1 l2 l3 l4 : Option mw_V} {st : List mw_V} {σ : mw_S} {Q : Option mw_V → mw_S → Prop} : mw_WP d 263 23 [l0, l1, l2, l3, l4] st σ Q ↔ mw_WP d 263 25 [l0, l1, l2, l3, l4] (jI (60) :: st) σ Q := WP_bipush mq263 dd263_23 (by decide)
theorem dd263_25 : decode cX12_wins 25 = .ok (.if_icmp .gt 28, 3) := by decide +kernel
theorem ww263_25 {d : Nat} {l0 l1 l2 l3 l4 : Option mw_V} {x y : Int} {st : List mw_V} {σ : mw_S} {Q : Option mw_V → mw_S → Prop} : mw_WP d 263 25 [l0, l1, l2, l3, l4] (jI y :: jI x :: st) σ Q ↔ (if y < x then mw_WP d 263 53 [l0, l1, l2, l3, l4] st σ Q else mw_WP d 263 28 [l0, l1, l2, l3, l4] st σ Q) := WP_icmp_gt mq263 dd263_25 (by decide)
theorem dd263_28 : decode cX12_wins 28 = .ok (.iload_n 3, 1) := by decide +kernel
theorem ww263_28 {d : Nat} {l0 l1 l2 l4 : Option mw_V} {x : Int} {st : List mw_V} {σ : mw_S} {Q : Option mw_V → mw_S → Prop} : mw_WP d 263 28 [l0, l1, l2, some (jI x), l4] st σ Q ↔ mw_WP d 263 29 [l0, l1, l2, some (jI x), l4] (jI x :: st) σ Q := WP_iload_n mq263 dd263_28 rfl
theorem dd263_29 : decode cX12_wins 29 = .ok (.aload_n 0, 1) := by decide +kernel
theorem ww263_29 {d : Nat} {l1 l2 l3 l4 : Option mw_V} {x : Nat} {st : List mw_V} {σ : mw_S} {Q : Option mw_V → mw_S → Prop} : mw_WP d 263 29 [some (jR x), l1, l2, l3, l4] st σ Q ↔ mw_WP d 263 30 [some (jR x), l1, l2, l3, l4] (jR x :: st) σ Q := WP_aload_n mq263 dd263_29 rfl
theorem dd263_30 : decode cX12_wins 30 = .ok (.iload 4, 2) := by decide +kernel
theorem ww263_30 {d : Nat} {l0 l1 l2 l3 : Option mw_V} {x : Int} {st : List mw_V} {σ : mw_S} {Q : Option mw_V → mw_S → Prop} : mw_WP d 263 30 [l0, l1, l2, l3, some (jI x)] st σ Q ↔ mw_WP d 263 32 [l0, l1, l2, l3, some (jI x)] (jI x :: st) σ Q := WP_iload mq263 dd263_30 rfl
theorem dd263_32 : decode cX12_wins 32 = .ok (.iload_n 1, 1) := by decide +kernel
theorem ww263_32 {d : Nat} {l0 l2 l3 l4 : Option mw_V} {x : Int} {st : List mw_V} {σ : mw_S} {Q : Option mw_V → mw_S → Prop} : mw_WP d 263 32 [l0, some (jI x), l2, l3, l4] st σ Q ↔ mw_WP d 263 33 [l0, some (jI x), l2, l3, l4] (jI x :: st) σ Q := WP_iload_n mq263 dd263_32 rfl
theorem dd263_33 : decode cX12_wins 33 = .ok (.iload_n 2, 1) := by decide +kernel
theorem ww263_33 {d : Nat} {l0 l1 l3 l4 : Option mw_V} {x : Int} {st : List mw_V} {σ : mw_S} {Q : Option mw_V → mw_S → Prop} : mw_WP d 263 33 [l0, l1, some (jI x), l3, l4] st σ Q ↔ mw_WP d 263 34 [l0, l1, some (jI x), l3, l4] (jI x :: st) σ Q := WP_iload_n mq263 dd263_33 rfl
theorem dd263_34 : decode cX12_wins 34 = .ok (.invokevirtual 439, 3) := by decide +kernel
theorem ww263_34 {d : Nat} {l0 l1 l2 l3 l4 : Option mw_V} {v0 v1 v2 : mw_V} {a : Nat} {st : List mw_V} {σ : mw_S} {Q : Option mw_V → mw_S → Prop} (hr : mw_rc a = 12) (h8 : (st.map mw_cat).sum ≤ 8) : mw_WP d 263 34 [l0, l1, l2, l3, l4] (v2 :: v1 :: v0 :: jR a :: st) σ Q ↔ mw_Call d 260 [jR a, v0, v1, v2] σ (fun r1 s1 => mw_WP d 263 37 [l0, l1, l2, l3, l4] (r1.toList ++ st) s1 Q) := WP_inv (as := [v2, v1, v0]) mq263 dd263_34 (by decide) mq260 rfl hr h8
theorem dd263_37 : decode cX12_wins 37 = .ok (.ifCond .le 7, 3) := by decide +kernel
theorem ww263_37 {d : Nat} {l0 l1 l2 l3 l4 : Option mw_V} {x : Int} {st : List mw_V} {σ : mw_S} {Q : Option mw_V → mw_S → Prop} : mw_WP d 263 37 [l0, l1, l2, l3, l4] (jI x :: st) σ Q ↔ (if x ≤ 0 then mw_WP d 263 44 [l0, l1, l2, l3, l4] st σ Q else mw_WP d 263 40 [l0, l1, l2, l3, l4] st σ Q) := WP_if_le mq263 dd263_37 (by decide)
theorem dd263_40 : decode cX12_wins 40 = .ok (.iconst 1, 1) := by decide +kernel
theorem ww263_40 {d : Nat} {l0 l1 l2 l3 l4 : Option mw_V} {st : List mw_V} {σ : mw_S} {Q : Option mw_V → mw_S → Prop} : mw_WP d 263 40 [l0, l1, l2, l3, l4] st σ Q ↔ mw_WP d 263 41 [l0, l1, l2, l3, l4] (jI (1) :: st) σ Q := WP_iconst mq263 dd263_40 (by decide)
theorem dd263_41 : decode cX12_wins 41 = .ok (.goto 4, 3) := by decide +kernel
theorem ww263_41 {d : Nat} {l0 l1 l2 l3 l4 : Option mw_V} {st : List mw_V} {σ : mw_S} {Q : Option mw_V → mw_S → Prop} : mw_WP d 263 41 [l0, l1, l2, l3, l4] st σ Q ↔ mw_WP d 263 45 [l0, l1, l2, l3, l4] st σ Q := WP_goto mq263 dd263_41 (by decide)
theorem dd263_44 : decode cX12_wins 44 = .ok (.iconst 0, 1) := by decide +kernel
theorem ww263_44 {d : Nat} {l0 l1 l2 l3 l4 : Option mw_V} {st : List mw_V} {σ : mw_S} {Q : Option mw_V → mw_S → Prop} : mw_WP d 263 44 [l0, l1, l2, l3, l4] st σ Q ↔ mw_WP d 263 45 [l0, l1, l2, l3, l4] (jI (0) :: st) σ Q := WP_iconst mq263 dd263_44 (by decide)
theorem dd263_45 : decode cX12_wins 45 = .ok (.iadd, 1) := by decide +kernel
theorem ww263_45 {d : Nat} {l0 l1 l2 l3 l4 : Option mw_V} {x y : Int} {st : List mw_V} {σ : mw_S} {Q : Option mw_V → mw_S → Prop} : mw_WP d 263 45 [l0, l1, l2, l3, l4] (jI y :: jI x :: st) σ Q ↔ mw_WP d 263 46 [l0, l1, l2, l3, l4] (jI (w32 (x + y)) :: st) σ Q := WP_iadd mq263 dd263_45
theorem dd263_46 : decode cX12_wins 46 = .ok (.istore_n 3, 1) := by decide +kernel
theorem ww263_46 {d : Nat} {l0 l1 l2 l3 l4 : Option mw_V} {x : Int} {st : List mw_V} {σ : mw_S} {Q : Option mw_V → mw_S → Prop} (h : mw_nlo l2 = true) : mw_WP d 263 46 [l0, l1, l2, l3, l4] (jI x :: st) σ Q ↔ mw_WP d 263 47 [l0, l1, l2, some (jI x), l4] st σ Q := WP_istore_n mq263 dd263_46 (Nat.le_of_ble_eq_true rfl) (mw_nl_of (i := 2) rfl h) rfl
theorem dd263_47 : decode cX12_wins 47 = .ok (.iinc 4 1, 3) := by decide +kernel
theorem ww263_47 {d : Nat} {l0 l1 l2 l3 : Option mw_V} {x : Int} {st : List mw_V} {σ : mw_S} {Q : Option mw_V → mw_S → Prop} (h : mw_nlo l3 = true) : mw_WP d 263 47 [l0, l1, l2, l3, some (jI x)] st σ Q ↔ mw_WP d 263 50 [l0, l1, l2, l3, some (jI (w32 (x + (1))))] st σ Q := WP_iinc mq263 dd263_47 rfl (Nat.le_of_ble_eq_true rfl) (mw_nl_of (i := 3) rfl h) rfl
theorem dd263_50 : decode cX12_wins 50 = .ok (.goto (-29), 3) := by decide +kernel
theorem ww263_50 {d : Nat} {l0 l1 l2 l3 l4 : Option mw_V} {st : List mw_V} {σ : mw_S} {Q : Option mw_V → mw_S → Prop} : mw_WP d 263 50 [l0, l1, l2, l3, l4] st σ Q ↔ mw_WP d 263 21 [l0, l1, l2, l3, l4] st σ Q := WP_goto mq263 dd263_50 (by decide)
theorem dd263_53 : decode cX12_wins 53 = .ok (.iload_n 3, 1) := by decide +kernel
theorem ww263_53 {d : Nat} {l0 l1 l2 l4 : Option mw_V} {x : Int} {st : List mw_V} {σ : mw_S} {Q : Option mw_V → mw_S → Prop} : mw_WP d 263 53 [l0, l1, l2, some (jI x), l4] st σ Q ↔ mw_WP d 263 54 [l0, l1, l2, some (jI x), l4] (jI x :: st) σ Q := WP_iload_n mq263 dd263_53 rfl
theorem dd263_54 : decode cX12_wins 54 = .ok (.ireturn, 1) := by decide +kernel
theorem ww263_54 {d : Nat} {l0 l1 l2 l3 l4 : Option mw_V} {z : Int} {σ : mw_S} {Q : Option mw_V → mw_S → Prop} : mw_WP d 263 54 [l0, l1, l2, l3, l4] [jI z] σ Q ↔ Q (some (jI z)) σ := WP_ireturn (ty := .int) mq263 dd263_54 rfl rfl
theorem ee264 {d : Nat} {a : Nat} {z0 : Int} {z1 : Int} {σ : mw_S} {Q : Option mw_V → mw_S → Prop} : mw_Call (d + 1) 264 [jR a, jI z0, jI z1] σ Q ↔ mw_WP d 264 0 [some (jR a), some (jI z0), some (jI z1)] [] σ Q := CL_u mq264 (Nat.le_of_ble_eq_true rfl) rfl
theorem dd264_0 : decode cX12_owed 0 = .ok (.aload_n 0, 1) := by decide +kernel
theorem ww264_0 {d : Nat} {l1 l2 : Option mw_V} {x : Nat} {st : List mw_V} {σ : mw_S} {Q : Option mw_V → mw_S → Prop} : mw_WP d 264 0 [some (jR x), l1, l2] st σ Q ↔ mw_WP d 264 1 [some (jR x), l1, l2] (jR x :: st) σ Q := WP_aload_n mq264 dd264_0 rfl
theorem dd264_1 : decode cX12_owed 1 = .ok (.getfield 13, 3) := by decide +kernel
theorem ww264_1 {d : Nat} {l0 l1 l2 : Option mw_V} {st : List mw_V} {σ : mw_S} {Q : Option mw_V → mw_S → Prop} : mw_WP d 264 1 [l0, l1, l2] (jR 100 :: st) σ Q ↔ mw_WP d 264 4 [l0, l1, l2] (jR 101 :: st) σ Q := WP_getR (ci := 11) (k := 1) mq264 dd264_1 (by decide) rfl
theorem dd264_4 : decode cX12_owed 4 = .ok (.bipush 66, 2) := by decide +kernel
theorem ww264_4 {d : Nat} {l0 l1 l2 : Option mw_V} {st : List mw_V} {σ : mw_S} {Q : Option mw_V → mw_S → Prop} : mw_WP d 264 4 [l0, l1, l2] st σ Q ↔ mw_WP d 264 6 [l0, l1, l2] (jI (66) :: st) σ Q := WP_bipush mq264 dd264_4 (by decide)
theorem dd264_6 : decode cX12_owed 6 = .ok (.iconst 3, 1) := by decide +kernel
theorem ww264_6 {d : Nat} {l0 l1 l2 : Option mw_V} {st : List mw_V} {σ : mw_S} {Q : Option mw_V → mw_S → Prop} : mw_WP d 264 6 [l0, l1, l2] st σ Q ↔ mw_WP d 264 7 [l0, l1, l2] (jI (3) :: st) σ Q := WP_iconst mq264 dd264_6 (by decide)
theorem dd264_7 : decode cX12_owed 7 = .ok (.iload_n 1, 1) := by decide +kernel
theorem ww264_7 {d : Nat} {l0 l2 : Option mw_V} {x : Int} {st : List mw_V} {σ : mw_S} {Q : Option mw_V → mw_S → Prop} : mw_WP d 264 7 [l0, some (jI x), l2] st σ Q ↔ mw_WP d 264 8 [l0, some (jI x), l2] (jI x :: st) σ Q := WP_iload_n mq264 dd264_7 rfl
theorem dd264_8 : decode cX12_owed 8 = .ok (.imul, 1) := by decide +kernel
theorem ww264_8 {d : Nat} {l0 l1 l2 : Option mw_V} {x y : Int} {st : List mw_V} {σ : mw_S} {Q : Option mw_V → mw_S → Prop} : mw_WP d 264 8 [l0, l1, l2] (jI y :: jI x :: st) σ Q ↔ mw_WP d 264 9 [l0, l1, l2] (jI (w32 (x * y)) :: st) σ Q := WP_imul mq264 dd264_8
theorem dd264_9 : decode cX12_owed 9 = .ok (.iadd, 1) := by decide +kernel
theorem ww264_9 {d : Nat} {l0 l1 l2 : Option mw_V} {x y : Int} {st : List mw_V} {σ : mw_S} {Q : Option mw_V → mw_S → Prop} : mw_WP d 264 9 [l0, l1, l2] (jI y :: jI x :: st) σ Q ↔ mw_WP d 264 10 [l0, l1, l2] (jI (w32 (x + y)) :: st) σ Q := WP_iadd mq264 dd264_9
theorem dd264_10 : decode cX12_owed 10 = .ok (.iload_n 2, 1) := by decide +kernel
theorem ww264_10 {d : Nat} {l0 l1 : Option mw_V} {x : Int} {st : List mw_V} {σ : mw_S} {Q : Option mw_V → mw_S → Prop} : mw_WP d 264 10 [l0, l1, some (jI x)] st σ Q ↔ mw_WP d 264 11 [l0, l1, some (jI x)] (jI x :: st) σ Q := WP_iload_n mq264 dd264_10 rfl
theorem dd264_11 : decode cX12_owed 11 = .ok (.iadd, 1) := by decide +kernel
theorem ww264_11 {d : Nat} {l0 l1 l2 : Option mw_V} {x y : Int} {st : List mw_V} {σ : mw_S} {Q : Option mw_V → mw_S → Prop} : mw_WP d 264 11 [l0, l1, l2] (jI y :: jI x :: st) σ Q ↔ mw_WP d 264 12 [l0, l1, l2] (jI (w32 (x + y)) :: st) σ Q := WP_iadd mq264 dd264_11
theorem dd264_12 : decode cX12_owed 12 = .ok (.iaload, 1) := by decide +kernel
theorem ww264_12 {d : Nat} {l0 l1 l2 : Option mw_V} {z : Int} {a : Nat} {st : List mw_V} {σ : mw_S} {Q : Option mw_V → mw_S → Prop} : mw_WP d 264 12 [l0, l1, l2] (jI z :: jR a :: st) σ Q ↔ ((0 ≤ z ∧ z < mw_lenI a) ∧ mw_WP d 264 13 [l0, l1, l2] (jI (mw_rdI σ a z.toNat) :: st) σ Q) := WP_iaload mq264 dd264_12
theorem dd264_13 : decode cX12_owed 13 = .ok (.ireturn, 1) := by decide +kernel
theorem ww264_13 {d : Nat} {l0 l1 l2 : Option mw_V} {z : Int} {σ : mw_S} {Q : Option mw_V → mw_S → Prop} : mw_WP d 264 13 [l0, l1, l2] [jI z] σ Q ↔ Q (some (jI z)) σ := WP_ireturn (ty := .int) mq264 dd264_13 rfl rfl
theorem ee265 {d : Nat} {a : Nat} {z0 : Int} {z1 : Int} {z2 : Int} {σ : mw_S} {Q : Option mw_V → mw_S → Prop} : mw_Call (d + 1) 265 [jR a, jI z0, jI z1, jI z2] σ Q ↔ mw_WP d 265 0 [some (jR a), some (jI z0), some (jI z1), some (jI z2)] [] σ Q := CL_u mq265 (Nat.le_of_ble_eq_true rfl) rfl
theorem dd265_0 : decode cX12_lends 0 = .ok (.aload_n 0, 1) := by decide +kernel
theorem ww265_0 {d : Nat} {l1 l2 l3 : Option mw_V} {x : Nat} {st : List mw_V} {σ : mw_S} {Q : Option mw_V → mw_S → Prop} : mw_WP d 265 0 [some (jR x), l1, l2, l3] st σ Q ↔ mw_WP d 265 1 [some (jR x), l1, l2, l3] (jR x :: st) σ Q := WP_aload_n mq265 dd265_0 rfl
theorem dd265_1 : decode cX12_lends 1 = .ok (.iconst 0, 1) := by decide +kernel
theorem ww265_1 {d : Nat} {l0 l1 l2 l3 : Option mw_V} {st : List mw_V} {σ : mw_S} {Q : Option mw_V → mw_S → Prop} : mw_WP d 265 1 [l0, l1, l2, l3] st σ Q ↔ mw_WP d 265 2 [l0, l1, l2, l3] (jI (0) :: st) σ Q := WP_iconst mq265 dd265_1 (by decide)
theorem dd265_2 : decode cX12_lends 2 = .ok (.putfield 1, 3) := by decide +kernel
theorem ww265_2 {d : Nat} {l0 l1 l2 l3 : Option mw_V} {v : Int} {st : List mw_V} {σ : mw_S} {Q : Option mw_V → mw_S → Prop} : mw_WP d 265 2 [l0, l1, l2, l3] (jI v :: jR 100 :: st) σ Q ↔ mw_WP d 265 5 [l0, l1, l2, l3] st (upS σ 100 0 v) Q := WP_putI (ci := 11) (k := 0) mq265 dd265_2 (by decide) rfl
theorem dd265_5 : decode cX12_lends 5 = .ok (.aload_n 0, 1) := by decide +kernel
theorem ww265_5 {d : Nat} {l1 l2 l3 : Option mw_V} {x : Nat} {st : List mw_V} {σ : mw_S} {Q : Option mw_V → mw_S → Prop} : mw_WP d 265 5 [some (jR x), l1, l2, l3] st σ Q ↔ mw_WP d 265 6 [some (jR x), l1, l2, l3] (jR x :: st) σ Q := WP_aload_n mq265 dd265_5 rfl
theorem dd265_6 : decode cX12_lends 6 = .ok (.iload_n 1, 1) := by decide +kernel
theorem ww265_6 {d : Nat} {l0 l2 l3 : Option mw_V} {x : Int} {st : List mw_V} {σ : mw_S} {Q : Option mw_V → mw_S → Prop} : mw_WP d 265 6 [l0, some (jI x), l2, l3] st σ Q ↔ mw_WP d 265 7 [l0, some (jI x), l2, l3] (jI x :: st) σ Q := WP_iload_n mq265 dd265_6 rfl
theorem dd265_7 : decode cX12_lends 7 = .ok (.invokevirtual 222, 3) := by decide +kernel
theorem ww265_7 {d : Nat} {l0 l1 l2 l3 : Option mw_V} {v0 : mw_V} {a : Nat} {st : List mw_V} {σ : mw_S} {Q : Option mw_V → mw_S → Prop} (hr : mw_rc a = 12) (h8 : (st.map mw_cat).sum ≤ 8) : mw_WP d 265 7 [l0, l1, l2, l3] (v0 :: jR a :: st) σ Q ↔ mw_Call d 196 [jR a, v0] σ (fun r1 s1 => mw_WP d 265 10 [l0, l1, l2, l3] (r1.toList ++ st) s1 Q) := WP_inv (as := [v0]) mq265 dd265_7 (by decide) mq196 rfl hr h8
theorem dd265_10 : decode cX12_lends 10 = .ok (.ifCond .eq 16, 3) := by decide +kernel
theorem ww265_10 {d : Nat} {l0 l1 l2 l3 : Option mw_V} {x : Int} {st : List mw_V} {σ : mw_S} {Q : Option mw_V → mw_S → Prop} : mw_WP d 265 10 [l0, l1, l2, l3] (jI x :: st) σ Q ↔ (if x = 0 then mw_WP d 265 26 [l0, l1, l2, l3] st σ Q else mw_WP d 265 13 [l0, l1, l2, l3] st σ Q) := WP_if_eq mq265 dd265_10 (by decide)
theorem dd265_13 : decode cX12_lends 13 = .ok (.aload_n 0, 1) := by decide +kernel
theorem ww265_13 {d : Nat} {l1 l2 l3 : Option mw_V} {x : Nat} {st : List mw_V} {σ : mw_S} {Q : Option mw_V → mw_S → Prop} : mw_WP d 265 13 [some (jR x), l1, l2, l3] st σ Q ↔ mw_WP d 265 14 [some (jR x), l1, l2, l3] (jR x :: st) σ Q := WP_aload_n mq265 dd265_13 rfl
theorem dd265_14 : decode cX12_lends 14 = .ok (.iload_n 2, 1) := by decide +kernel
theorem ww265_14 {d : Nat} {l0 l1 l3 : Option mw_V} {x : Int} {st : List mw_V} {σ : mw_S} {Q : Option mw_V → mw_S → Prop} : mw_WP d 265 14 [l0, l1, some (jI x), l3] st σ Q ↔ mw_WP d 265 15 [l0, l1, some (jI x), l3] (jI x :: st) σ Q := WP_iload_n mq265 dd265_14 rfl
theorem dd265_15 : decode cX12_lends 15 = .ok (.invokevirtual 222, 3) := by decide +kernel
theorem ww265_15 {d : Nat} {l0 l1 l2 l3 : Option mw_V} {v0 : mw_V} {a : Nat} {st : List mw_V} {σ : mw_S} {Q : Option mw_V → mw_S → Prop} (hr : mw_rc a = 12) (h8 : (st.map mw_cat).sum ≤ 8) : mw_WP d 265 15 [l0, l1, l2, l3] (v0 :: jR a :: st) σ Q ↔ mw_Call d 196 [jR a, v0] σ (fun r1 s1 => mw_WP d 265 18 [l0, l1, l2, l3] (r1.toList ++ st) s1 Q) := WP_inv (as := [v0]) mq265 dd265_15 (by decide) mq196 rfl hr h8
theorem dd265_18 : decode cX12_lends 18 = .ok (.ifCond .eq 8, 3) := by decide +kernel
theorem ww265_18 {d : Nat} {l0 l1 l2 l3 : Option mw_V} {x : Int} {st : List mw_V} {σ : mw_S} {Q : Option mw_V → mw_S → Prop} : mw_WP d 265 18 [l0, l1, l2, l3] (jI x :: st) σ Q ↔ (if x = 0 then mw_WP d 265 26 [l0, l1, l2, l3] st σ Q else mw_WP d 265 21 [l0, l1, l2, l3] st σ Q) := WP_if_eq mq265 dd265_18 (by decide)
theorem dd265_21 : decode cX12_lends 21 = .ok (.iload_n 1, 1) := by decide +kernel
theorem ww265_21 {d : Nat} {l0 l2 l3 : Option mw_V} {x : Int} {st : List mw_V} {σ : mw_S} {Q : Option mw_V → mw_S → Prop} : mw_WP d 265 21 [l0, some (jI x), l2, l3] st σ Q ↔ mw_WP d 265 22 [l0, some (jI x), l2, l3] (jI x :: st) σ Q := WP_iload_n mq265 dd265_21 rfl
theorem dd265_22 : decode cX12_lends 22 = .ok (.iload_n 2, 1) := by decide +kernel
theorem ww265_22 {d : Nat} {l0 l1 l3 : Option mw_V} {x : Int} {st : List mw_V} {σ : mw_S} {Q : Option mw_V → mw_S → Prop} : mw_WP d 265 22 [l0, l1, some (jI x), l3] st σ Q ↔ mw_WP d 265 23 [l0, l1, some (jI x), l3] (jI x :: st) σ Q := WP_iload_n mq265 dd265_22 rfl
theorem dd265_23 : decode cX12_lends 23 = .ok (.if_icmp .ne 6, 3) := by decide +kernel
theorem ww265_23 {d : Nat} {l0 l1 l2 l3 : Option mw_V} {x y : Int} {st : List mw_V} {σ : mw_S} {Q : Option mw_V → mw_S → Prop} : mw_WP d 265 23 [l0, l1, l2, l3] (jI y :: jI x :: st) σ Q ↔ (if ¬ x = y then mw_WP d 265 29 [l0, l1, l2, l3] st σ Q else mw_WP d 265 26 [l0, l1, l2, l3] st σ Q) := WP_icmp_ne mq265 dd265_23 (by decide)
theorem dd265_26 : decode cX12_lends 26 = .ok (.bipush (-2), 2) := by decide +kernel
theorem ww265_26 {d : Nat} {l0 l1 l2 l3 : Option mw_V} {st : List mw_V} {σ : mw_S} {Q : Option mw_V → mw_S → Prop} : mw_WP d 265 26 [l0, l1, l2, l3] st σ Q ↔ mw_WP d 265 28 [l0, l1, l2, l3] (jI (-2) :: st) σ Q := WP_bipush mq265 dd265_26 (by decide)
theorem dd265_28 : decode cX12_lends 28 = .ok (.ireturn, 1) := by decide +kernel
theorem ww265_28 {d : Nat} {l0 l1 l2 l3 : Option mw_V} {z : Int} {σ : mw_S} {Q : Option mw_V → mw_S → Prop} : mw_WP d 265 28 [l0, l1, l2, l3] [jI z] σ Q ↔ Q (some (jI z)) σ := WP_ireturn (ty := .int) mq265 dd265_28 rfl rfl
theorem dd265_29 : decode cX12_lends 29 = .ok (.iload_n 3, 1) := by decide +kernel
theorem ww265_29 {d : Nat} {l0 l1 l2 : Option mw_V} {x : Int} {st : List mw_V} {σ : mw_S} {Q : Option mw_V → mw_S → Prop} : mw_WP d 265 29 [l0, l1, l2, some (jI x)] st σ Q ↔ mw_WP d 265 30 [l0, l1, l2, some (jI x)] (jI x :: st) σ Q := WP_iload_n mq265 dd265_29 rfl
theorem dd265_30 : decode cX12_lends 30 = .ok (.i2l, 1) := by decide +kernel
theorem ww265_30 {d : Nat} {l0 l1 l2 l3 : Option mw_V} {x : Int} {st : List mw_V} {σ : mw_S} {Q : Option mw_V → mw_S → Prop} : mw_WP d 265 30 [l0, l1, l2, l3] (jI x :: st) σ Q ↔ mw_WP d 265 31 [l0, l1, l2, l3] (jL (yL x) :: st) σ Q := WP_i2l mq265 dd265_30
theorem dd265_31 : decode cX12_lends 31 = .ok (.lconst 1, 1) := by decide +kernel
theorem ww265_31 {d : Nat} {l0 l1 l2 l3 : Option mw_V} {st : List mw_V} {σ : mw_S} {Q : Option mw_V → mw_S → Prop} : mw_WP d 265 31 [l0, l1, l2, l3] st σ Q ↔ mw_WP d 265 32 [l0, l1, l2, l3] (jL (1) :: st) σ Q := WP_lconst mq265 dd265_31 (by decide)
theorem dd265_32 : decode cX12_lends 32 = .ok (.ldc2_w 442, 3) := by decide +kernel
theorem ww265_32 {d : Nat} {l0 l1 l2 l3 : Option mw_V} {st : List mw_V} {σ : mw_S} {Q : Option mw_V → mw_S → Prop} : mw_WP d 265 32 [l0, l1, l2, l3] st σ Q ↔ mw_WP d 265 35 [l0, l1, l2, l3] (jL (999) :: st) σ Q := WP_ldc2_w (v := 999) mq265 dd265_32 (by decide) (by decide)
theorem dd265_35 : decode cX12_lends 35 = .ok (.invokestatic 159, 3) := by decide +kernel
theorem ww265_35 {d : Nat} {l0 l1 l2 l3 : Option mw_V} {v0 v1 v2 : mw_V} {st : List mw_V} {σ : mw_S} {Q : Option mw_V → mw_S → Prop} (h8 : (st.map mw_cat).sum ≤ 8) : mw_WP d 265 35 [l0, l1, l2, l3] (v2 :: v1 :: v0 :: st) σ Q ↔ mw_Call d 170 [v0, v1, v2] σ (fun r1 s1 => mw_WP d 265 38 [l0, l1, l2, l3] (r1.toList ++ st) s1 Q) := WP_invs (as := [v2, v1, v0]) mq265 dd265_35 (by decide) mq170 rfl rfl h8
theorem dd265_38 : decode cX12_lends 38 = .ok (.ifCond .ne 6, 3) := by decide +kernel
theorem ww265_38 {d : Nat} {l0 l1 l2 l3 : Option mw_V} {x : Int} {st : List mw_V} {σ : mw_S} {Q : Option mw_V → mw_S → Prop} : mw_WP d 265 38 [l0, l1, l2, l3] (jI x :: st) σ Q ↔ (if ¬ x = 0 then mw_WP d 265 44 [l0, l1, l2, l3] st σ Q else mw_WP d 265 41 [l0, l1, l2, l3] st σ Q) := WP_if_ne mq265 dd265_38 (by decide)
theorem dd265_41 : decode cX12_lends 41 = .ok (.bipush (-3), 2) := by decide +kernel
theorem ww265_41 {d : Nat} {l0 l1 l2 l3 : Option mw_V} {st : List mw_V} {σ : mw_S} {Q : Option mw_V → mw_S → Prop} : mw_WP d 265 41 [l0, l1, l2, l3] st σ Q ↔ mw_WP d 265 43 [l0, l1, l2, l3] (jI (-3) :: st) σ Q := WP_bipush mq265 dd265_41 (by decide)
theorem dd265_43 : decode cX12_lends 43 = .ok (.ireturn, 1) := by decide +kernel
theorem ww265_43 {d : Nat} {l0 l1 l2 l3 : Option mw_V} {z : Int} {σ : mw_S} {Q : Option mw_V → mw_S → Prop} : mw_WP d 265 43 [l0, l1, l2, l3] [jI z] σ Q ↔ Q (some (jI z)) σ := WP_ireturn (ty := .int) mq265 dd265_43 rfl rfl
theorem dd265_44 : decode cX12_lends 44 = .ok (.aload_n 0, 1) := by decide +kernel
theorem ww265_44 {d : Nat} {l1 l2 l3 : Option mw_V} {x : Nat} {st : List mw_V} {σ : mw_S} {Q : Option mw_V → mw_S → Prop} : mw_WP d 265 44 [some (jR x), l1, l2, l3] st σ Q ↔ mw_WP d 265 45 [some (jR x), l1, l2, l3] (jR x :: st) σ Q := WP_aload_n mq265 dd265_44 rfl
theorem dd265_45 : decode cX12_lends 45 = .ok (.iload_n 1, 1) := by decide +kernel
theorem ww265_45 {d : Nat} {l0 l2 l3 : Option mw_V} {x : Int} {st : List mw_V} {σ : mw_S} {Q : Option mw_V → mw_S → Prop} : mw_WP d 265 45 [l0, some (jI x), l2, l3] st σ Q ↔ mw_WP d 265 46 [l0, some (jI x), l2, l3] (jI x :: st) σ Q := WP_iload_n mq265 dd265_45 rfl
theorem dd265_46 : decode cX12_lends 46 = .ok (.iload_n 2, 1) := by decide +kernel
theorem ww265_46 {d : Nat} {l0 l1 l3 : Option mw_V} {x : Int} {st : List mw_V} {σ : mw_S} {Q : Option mw_V → mw_S → Prop} : mw_WP d 265 46 [l0, l1, some (jI x), l3] st σ Q ↔ mw_WP d 265 47 [l0, l1, some (jI x), l3] (jI x :: st) σ Q := WP_iload_n mq265 dd265_46 rfl
theorem dd265_47 : decode cX12_lends 47 = .ok (.invokevirtual 444, 3) := by decide +kernel
theorem ww265_47 {d : Nat} {l0 l1 l2 l3 : Option mw_V} {v0 v1 : mw_V} {a : Nat} {st : List mw_V} {σ : mw_S} {Q : Option mw_V → mw_S → Prop} (hr : mw_rc a = 12) (h8 : (st.map mw_cat).sum ≤ 8) : mw_WP d 265 47 [l0, l1, l2, l3] (v1 :: v0 :: jR a :: st) σ Q ↔ mw_Call d 264 [jR a, v0, v1] σ (fun r1 s1 => mw_WP d 265 50 [l0, l1, l2, l3] (r1.toList ++ st) s1 Q) := WP_inv (as := [v1, v0]) mq265 dd265_47 (by decide) mq264 rfl hr h8
theorem dd265_50 : decode cX12_lends 50 = .ok (.iload_n 3, 1) := by decide +kernel
theorem ww265_50 {d : Nat} {l0 l1 l2 : Option mw_V} {x : Int} {st : List mw_V} {σ : mw_S} {Q : Option mw_V → mw_S → Prop} : mw_WP d 265 50 [l0, l1, l2, some (jI x)] st σ Q ↔ mw_WP d 265 51 [l0, l1, l2, some (jI x)] (jI x :: st) σ Q := WP_iload_n mq265 dd265_50 rfl
theorem dd265_51 : decode cX12_lends 51 = .ok (.iadd, 1) := by decide +kernel
theorem ww265_51 {d : Nat} {l0 l1 l2 l3 : Option mw_V} {x y : Int} {st : List mw_V} {σ : mw_S} {Q : Option mw_V → mw_S → Prop} : mw_WP d 265 51 [l0, l1, l2, l3] (jI y :: jI x :: st) σ Q ↔ mw_WP d 265 52 [l0, l1, l2, l3] (jI (w32 (x + y)) :: st) σ Q := WP_iadd mq265 dd265_51
theorem dd265_52 : decode cX12_lends 52 = .ok (.ldc_w 447, 3) := by decide +kernel
theorem ww265_52 {d : Nat} {l0 l1 l2 l3 : Option mw_V} {st : List mw_V} {σ : mw_S} {Q : Option mw_V → mw_S → Prop} : mw_WP d 265 52 [l0, l1, l2, l3] st σ Q ↔ mw_WP d 265 55 [l0, l1, l2, l3] (jI (99999) :: st) σ Q := WP_ldc_w (v := 99999) mq265 dd265_52 (by decide) (by decide)
theorem dd265_55 : decode cX12_lends 55 = .ok (.if_icmp .le 6, 3) := by decide +kernel
theorem ww265_55 {d : Nat} {l0 l1 l2 l3 : Option mw_V} {x y : Int} {st : List mw_V} {σ : mw_S} {Q : Option mw_V → mw_S → Prop} : mw_WP d 265 55 [l0, l1, l2, l3] (jI y :: jI x :: st) σ Q ↔ (if x ≤ y then mw_WP d 265 61 [l0, l1, l2, l3] st σ Q else mw_WP d 265 58 [l0, l1, l2, l3] st σ Q) := WP_icmp_le mq265 dd265_55 (by decide)
theorem dd265_58 : decode cX12_lends 58 = .ok (.bipush (-4), 2) := by decide +kernel
theorem ww265_58 {d : Nat} {l0 l1 l2 l3 : Option mw_V} {st : List mw_V} {σ : mw_S} {Q : Option mw_V → mw_S → Prop} : mw_WP d 265 58 [l0, l1, l2, l3] st σ Q ↔ mw_WP d 265 60 [l0, l1, l2, l3] (jI (-4) :: st) σ Q := WP_bipush mq265 dd265_58 (by decide)
theorem dd265_60 : decode cX12_lends 60 = .ok (.ireturn, 1) := by decide +kernel
theorem ww265_60 {d : Nat} {l0 l1 l2 l3 : Option mw_V} {z : Int} {σ : mw_S} {Q : Option mw_V → mw_S → Prop} : mw_WP d 265 60 [l0, l1, l2, l3] [jI z] σ Q ↔ Q (some (jI z)) σ := WP_ireturn (ty := .int) mq265 dd265_60 rfl rfl
theorem dd265_61 : decode cX12_lends 61 = .ok (.aload_n 0, 1) := by decide +kernel
theorem ww265_61 {d : Nat} {l1 l2 l3 : Option mw_V} {x : Nat} {st : List mw_V} {σ : mw_S} {Q : Option mw_V → mw_S → Prop} : mw_WP d 265 61 [some (jR x), l1, l2, l3] st σ Q ↔ mw_WP d 265 62 [some (jR x), l1, l2, l3] (jR x :: st) σ Q := WP_aload_n mq265 dd265_61 rfl
theorem dd265_62 : decode cX12_lends 62 = .ok (.invokevirtual 275, 3) := by decide +kernel
theorem ww265_62 {d : Nat} {l0 l1 l2 l3 : Option mw_V} {a : Nat} {st : List mw_V} {σ : mw_S} {Q : Option mw_V → mw_S → Prop} (hr : mw_rc a = 12) (h8 : (st.map mw_cat).sum ≤ 8) : mw_WP d 265 62 [l0, l1, l2, l3] (jR a :: st) σ Q ↔ mw_Call d 214 [jR a] σ (fun r1 s1 => mw_WP d 265 65 [l0, l1, l2, l3] (r1.toList ++ st) s1 Q) := WP_inv (as := []) mq265 dd265_62 (by decide) mq214 rfl hr h8
theorem dd265_65 : decode cX12_lends 65 = .ok (.aload_n 0, 1) := by decide +kernel
theorem ww265_65 {d : Nat} {l1 l2 l3 : Option mw_V} {x : Nat} {st : List mw_V} {σ : mw_S} {Q : Option mw_V → mw_S → Prop} : mw_WP d 265 65 [some (jR x), l1, l2, l3] st σ Q ↔ mw_WP d 265 66 [some (jR x), l1, l2, l3] (jR x :: st) σ Q := WP_aload_n mq265 dd265_65 rfl
theorem dd265_66 : decode cX12_lends 66 = .ok (.getfield 13, 3) := by decide +kernel
theorem ww265_66 {d : Nat} {l0 l1 l2 l3 : Option mw_V} {st : List mw_V} {σ : mw_S} {Q : Option mw_V → mw_S → Prop} : mw_WP d 265 66 [l0, l1, l2, l3] (jR 100 :: st) σ Q ↔ mw_WP d 265 69 [l0, l1, l2, l3] (jR 101 :: st) σ Q := WP_getR (ci := 11) (k := 1) mq265 dd265_66 (by decide) rfl
theorem dd265_69 : decode cX12_lends 69 = .ok (.bipush 66, 2) := by decide +kernel
theorem ww265_69 {d : Nat} {l0 l1 l2 l3 : Option mw_V} {st : List mw_V} {σ : mw_S} {Q : Option mw_V → mw_S → Prop} : mw_WP d 265 69 [l0, l1, l2, l3] st σ Q ↔ mw_WP d 265 71 [l0, l1, l2, l3] (jI (66) :: st) σ Q := WP_bipush mq265 dd265_69 (by decide)
theorem dd265_71 : decode cX12_lends 71 = .ok (.iconst 3, 1) := by decide +kernel
theorem ww265_71 {d : Nat} {l0 l1 l2 l3 : Option mw_V} {st : List mw_V} {σ : mw_S} {Q : Option mw_V → mw_S → Prop} : mw_WP d 265 71 [l0, l1, l2, l3] st σ Q ↔ mw_WP d 265 72 [l0, l1, l2, l3] (jI (3) :: st) σ Q := WP_iconst mq265 dd265_71 (by decide)
theorem dd265_72 : decode cX12_lends 72 = .ok (.iload_n 1, 1) := by decide +kernel
theorem ww265_72 {d : Nat} {l0 l2 l3 : Option mw_V} {x : Int} {st : List mw_V} {σ : mw_S} {Q : Option mw_V → mw_S → Prop} : mw_WP d 265 72 [l0, some (jI x), l2, l3] st σ Q ↔ mw_WP d 265 73 [l0, some (jI x), l2, l3] (jI x :: st) σ Q := WP_iload_n mq265 dd265_72 rfl
theorem dd265_73 : decode cX12_lends 73 = .ok (.imul, 1) := by decide +kernel
theorem ww265_73 {d : Nat} {l0 l1 l2 l3 : Option mw_V} {x y : Int} {st : List mw_V} {σ : mw_S} {Q : Option mw_V → mw_S → Prop} : mw_WP d 265 73 [l0, l1, l2, l3] (jI y :: jI x :: st) σ Q ↔ mw_WP d 265 74 [l0, l1, l2, l3] (jI (w32 (x * y)) :: st) σ Q := WP_imul mq265 dd265_73
theorem dd265_74 : decode cX12_lends 74 = .ok (.iadd, 1) := by decide +kernel
theorem ww265_74 {d : Nat} {l0 l1 l2 l3 : Option mw_V} {x y : Int} {st : List mw_V} {σ : mw_S} {Q : Option mw_V → mw_S → Prop} : mw_WP d 265 74 [l0, l1, l2, l3] (jI y :: jI x :: st) σ Q ↔ mw_WP d 265 75 [l0, l1, l2, l3] (jI (w32 (x + y)) :: st) σ Q := WP_iadd mq265 dd265_74
theorem dd265_75 : decode cX12_lends 75 = .ok (.iload_n 2, 1) := by decide +kernel
theorem ww265_75 {d : Nat} {l0 l1 l3 : Option mw_V} {x : Int} {st : List mw_V} {σ : mw_S} {Q : Option mw_V → mw_S → Prop} : mw_WP d 265 75 [l0, l1, some (jI x), l3] st σ Q ↔ mw_WP d 265 76 [l0, l1, some (jI x), l3] (jI x :: st) σ Q := WP_iload_n mq265 dd265_75 rfl
theorem dd265_76 : decode cX12_lends 76 = .ok (.iadd, 1) := by decide +kernel
theorem ww265_76 {d : Nat} {l0 l1 l2 l3 : Option mw_V} {x y : Int} {st : List mw_V} {σ : mw_S} {Q : Option mw_V → mw_S → Prop} : mw_WP d 265 76 [l0, l1, l2, l3] (jI y :: jI x :: st) σ Q ↔ mw_WP d 265 77 [l0, l1, l2, l3] (jI (w32 (x + y)) :: st) σ Q := WP_iadd mq265 dd265_76
theorem dd265_77 : decode cX12_lends 77 = .ok (.dup2, 1) := by decide +kernel
theorem ww265_77 {d : Nat} {l0 l1 l2 l3 : Option mw_V} {v w : mw_V} {st : List mw_V} {σ : mw_S} {Q : Option mw_V → mw_S → Prop} (h : mw_cat v = 1) (h2 : mw_cat w = 1) : mw_WP d 265 77 [l0, l1, l2, l3] (v :: w :: st) σ Q ↔ mw_WP d 265 78 [l0, l1, l2, l3] (v :: w :: v :: w :: st) σ Q := WP_dup2 mq265 dd265_77 h h2
theorem dd265_78 : decode cX12_lends 78 = .ok (.iaload, 1) := by decide +kernel
theorem ww265_78 {d : Nat} {l0 l1 l2 l3 : Option mw_V} {z : Int} {a : Nat} {st : List mw_V} {σ : mw_S} {Q : Option mw_V → mw_S → Prop} : mw_WP d 265 78 [l0, l1, l2, l3] (jI z :: jR a :: st) σ Q ↔ ((0 ≤ z ∧ z < mw_lenI a) ∧ mw_WP d 265 79 [l0, l1, l2, l3] (jI (mw_rdI σ a z.toNat) :: st) σ Q) := WP_iaload mq265 dd265_78
theorem dd265_79 : decode cX12_lends 79 = .ok (.iload_n 3, 1) := by decide +kernel
theorem ww265_79 {d : Nat} {l0 l1 l2 : Option mw_V} {x : Int} {st : List mw_V} {σ : mw_S} {Q : Option mw_V → mw_S → Prop} : mw_WP d 265 79 [l0, l1, l2, some (jI x)] st σ Q ↔ mw_WP d 265 80 [l0, l1, l2, some (jI x)] (jI x :: st) σ Q := WP_iload_n mq265 dd265_79 rfl
theorem dd265_80 : decode cX12_lends 80 = .ok (.iadd, 1) := by decide +kernel
theorem ww265_80 {d : Nat} {l0 l1 l2 l3 : Option mw_V} {x y : Int} {st : List mw_V} {σ : mw_S} {Q : Option mw_V → mw_S → Prop} : mw_WP d 265 80 [l0, l1, l2, l3] (jI y :: jI x :: st) σ Q ↔ mw_WP d 265 81 [l0, l1, l2, l3] (jI (w32 (x + y)) :: st) σ Q := WP_iadd mq265 dd265_80
theorem dd265_81 : decode cX12_lends 81 = .ok (.iastore, 1) := by decide +kernel
theorem ww265_81 {d : Nat} {l0 l1 l2 l3 : Option mw_V} {x z : Int} {a : Nat} {st : List mw_V} {σ : mw_S} {Q : Option mw_V → mw_S → Prop} : mw_WP d 265 81 [l0, l1, l2, l3] (jI x :: jI z :: jR a :: st) σ Q ↔ ((0 ≤ z ∧ z < mw_lenW 0 a) ∧ mw_WP d 265 82 [l0, l1, l2, l3] st (upS σ a z.toNat x) Q) := WP_iastore mq265 dd265_81
theorem dd265_82 : decode cX12_lends 82 = .ok (.aload_n 0, 1) := by decide +kernel
theorem ww265_82 {d : Nat} {l1 l2 l3 : Option mw_V} {x : Nat} {st : List mw_V} {σ : mw_S} {Q : Option mw_V → mw_S → Prop} : mw_WP d 265 82 [some (jR x), l1, l2, l3] st σ Q ↔ mw_WP d 265 83 [some (jR x), l1, l2, l3] (jR x :: st) σ Q := WP_aload_n mq265 dd265_82 rfl
theorem dd265_83 : decode cX12_lends 83 = .ok (.invokevirtual 291, 3) := by decide +kernel
theorem ww265_83 {d : Nat} {l0 l1 l2 l3 : Option mw_V} {a : Nat} {st : List mw_V} {σ : mw_S} {Q : Option mw_V → mw_S → Prop} (hr : mw_rc a = 12) (h8 : (st.map mw_cat).sum ≤ 8) : mw_WP d 265 83 [l0, l1, l2, l3] (jR a :: st) σ Q ↔ mw_Call d 216 [jR a] σ (fun r1 s1 => mw_WP d 265 86 [l0, l1, l2, l3] (r1.toList ++ st) s1 Q) := WP_inv (as := []) mq265 dd265_83 (by decide) mq216 rfl hr h8
theorem dd265_86 : decode cX12_lends 86 = .ok (.aload_n 0, 1) := by decide +kernel
theorem ww265_86 {d : Nat} {l1 l2 l3 : Option mw_V} {x : Nat} {st : List mw_V} {σ : mw_S} {Q : Option mw_V → mw_S → Prop} : mw_WP d 265 86 [some (jR x), l1, l2, l3] st σ Q ↔ mw_WP d 265 87 [some (jR x), l1, l2, l3] (jR x :: st) σ Q := WP_aload_n mq265 dd265_86 rfl
theorem dd265_87 : decode cX12_lends 87 = .ok (.iload_n 1, 1) := by decide +kernel
theorem ww265_87 {d : Nat} {l0 l2 l3 : Option mw_V} {x : Int} {st : List mw_V} {σ : mw_S} {Q : Option mw_V → mw_S → Prop} : mw_WP d 265 87 [l0, some (jI x), l2, l3] st σ Q ↔ mw_WP d 265 88 [l0, some (jI x), l2, l3] (jI x :: st) σ Q := WP_iload_n mq265 dd265_87 rfl
theorem dd265_88 : decode cX12_lends 88 = .ok (.iload_n 2, 1) := by decide +kernel
theorem ww265_88 {d : Nat} {l0 l1 l3 : Option mw_V} {x : Int} {st : List mw_V} {σ : mw_S} {Q : Option mw_V → mw_S → Prop} : mw_WP d 265 88 [l0, l1, some (jI x), l3] st σ Q ↔ mw_WP d 265 89 [l0, l1, some (jI x), l3] (jI x :: st) σ Q := WP_iload_n mq265 dd265_88 rfl
theorem dd265_89 : decode cX12_lends 89 = .ok (.invokevirtual 444, 3) := by decide +kernel
theorem ww265_89 {d : Nat} {l0 l1 l2 l3 : Option mw_V} {v0 v1 : mw_V} {a : Nat} {st : List mw_V} {σ : mw_S} {Q : Option mw_V → mw_S → Prop} (hr : mw_rc a = 12) (h8 : (st.map mw_cat).sum ≤ 8) : mw_WP d 265 89 [l0, l1, l2, l3] (v1 :: v0 :: jR a :: st) σ Q ↔ mw_Call d 264 [jR a, v0, v1] σ (fun r1 s1 => mw_WP d 265 92 [l0, l1, l2, l3] (r1.toList ++ st) s1 Q) := WP_inv (as := [v1, v0]) mq265 dd265_89 (by decide) mq264 rfl hr h8
theorem dd265_92 : decode cX12_lends 92 = .ok (.ireturn, 1) := by decide +kernel
theorem ww265_92 {d : Nat} {l0 l1 l2 l3 : Option mw_V} {z : Int} {σ : mw_S} {Q : Option mw_V → mw_S → Prop} : mw_WP d 265 92 [l0, l1, l2, l3] [jI z] σ Q ↔ Q (some (jI z)) σ := WP_ireturn (ty := .int) mq265 dd265_92 rfl rfl
theorem ee266 {d : Nat} {a : Nat} {z0 : Int} {z1 : Int} {z2 : Int} {σ : mw_S} {Q : Option mw_V → mw_S → Prop} : mw_Call (d + 1) 266 [jR a, jI z0, jI z1, jI z2] σ Q ↔ mw_WP d 266 0 [some (jR a), some (jI z0), some (jI z1), some (jI z2)] [] σ Q := CL_u mq266 (Nat.le_of_ble_eq_true rfl) rfl
theorem dd266_0 : decode cX12_owes 0 = .ok (.aload_n 0, 1) := by decide +kernel
theorem ww266_0 {d : Nat} {l1 l2 l3 : Option mw_V} {x : Nat} {st : List mw_V} {σ : mw_S} {Q : Option mw_V → mw_S → Prop} : mw_WP d 266 0 [some (jR x), l1, l2, l3] st σ Q ↔ mw_WP d 266 1 [some (jR x), l1, l2, l3] (jR x :: st) σ Q := WP_aload_n mq266 dd266_0 rfl
theorem dd266_1 : decode cX12_owes 1 = .ok (.iconst 0, 1) := by decide +kernel
theorem ww266_1 {d : Nat} {l0 l1 l2 l3 : Option mw_V} {st : List mw_V} {σ : mw_S} {Q : Option mw_V → mw_S → Prop} : mw_WP d 266 1 [l0, l1, l2, l3] st σ Q ↔ mw_WP d 266 2 [l0, l1, l2, l3] (jI (0) :: st) σ Q := WP_iconst mq266 dd266_1 (by decide)
theorem dd266_2 : decode cX12_owes 2 = .ok (.putfield 1, 3) := by decide +kernel
theorem ww266_2 {d : Nat} {l0 l1 l2 l3 : Option mw_V} {v : Int} {st : List mw_V} {σ : mw_S} {Q : Option mw_V → mw_S → Prop} : mw_WP d 266 2 [l0, l1, l2, l3] (jI v :: jR 100 :: st) σ Q ↔ mw_WP d 266 5 [l0, l1, l2, l3] st (upS σ 100 0 v) Q := WP_putI (ci := 11) (k := 0) mq266 dd266_2 (by decide) rfl
theorem dd266_5 : decode cX12_owes 5 = .ok (.aload_n 0, 1) := by decide +kernel
theorem ww266_5 {d : Nat} {l1 l2 l3 : Option mw_V} {x : Nat} {st : List mw_V} {σ : mw_S} {Q : Option mw_V → mw_S → Prop} : mw_WP d 266 5 [some (jR x), l1, l2, l3] st σ Q ↔ mw_WP d 266 6 [some (jR x), l1, l2, l3] (jR x :: st) σ Q := WP_aload_n mq266 dd266_5 rfl
theorem dd266_6 : decode cX12_owes 6 = .ok (.iload_n 1, 1) := by decide +kernel
theorem ww266_6 {d : Nat} {l0 l2 l3 : Option mw_V} {x : Int} {st : List mw_V} {σ : mw_S} {Q : Option mw_V → mw_S → Prop} : mw_WP d 266 6 [l0, some (jI x), l2, l3] st σ Q ↔ mw_WP d 266 7 [l0, some (jI x), l2, l3] (jI x :: st) σ Q := WP_iload_n mq266 dd266_6 rfl
theorem dd266_7 : decode cX12_owes 7 = .ok (.invokevirtual 222, 3) := by decide +kernel
theorem ww266_7 {d : Nat} {l0 l1 l2 l3 : Option mw_V} {v0 : mw_V} {a : Nat} {st : List mw_V} {σ : mw_S} {Q : Option mw_V → mw_S → Prop} (hr : mw_rc a = 12) (h8 : (st.map mw_cat).sum ≤ 8) : mw_WP d 266 7 [l0, l1, l2, l3] (v0 :: jR a :: st) σ Q ↔ mw_Call d 196 [jR a, v0] σ (fun r1 s1 => mw_WP d 266 10 [l0, l1, l2, l3] (r1.toList ++ st) s1 Q) := WP_inv (as := [v0]) mq266 dd266_7 (by decide) mq196 rfl hr h8
theorem dd266_10 : decode cX12_owes 10 = .ok (.ifCond .eq 16, 3) := by decide +kernel
theorem ww266_10 {d : Nat} {l0 l1 l2 l3 : Option mw_V} {x : Int} {st : List mw_V} {σ : mw_S} {Q : Option mw_V → mw_S → Prop} : mw_WP d 266 10 [l0, l1, l2, l3] (jI x :: st) σ Q ↔ (if x = 0 then mw_WP d 266 26 [l0, l1, l2, l3] st σ Q else mw_WP d 266 13 [l0, l1, l2, l3] st σ Q) := WP_if_eq mq266 dd266_10 (by decide)
theorem dd266_13 : decode cX12_owes 13 = .ok (.aload_n 0, 1) := by decide +kernel
theorem ww266_13 {d : Nat} {l1 l2 l3 : Option mw_V} {x : Nat} {st : List mw_V} {σ : mw_S} {Q : Option mw_V → mw_S → Prop} : mw_WP d 266 13 [some (jR x), l1, l2, l3] st σ Q ↔ mw_WP d 266 14 [some (jR x), l1, l2, l3] (jR x :: st) σ Q := WP_aload_n mq266 dd266_13 rfl
theorem dd266_14 : decode cX12_owes 14 = .ok (.iload_n 2, 1) := by decide +kernel
theorem ww266_14 {d : Nat} {l0 l1 l3 : Option mw_V} {x : Int} {st : List mw_V} {σ : mw_S} {Q : Option mw_V → mw_S → Prop} : mw_WP d 266 14 [l0, l1, some (jI x), l3] st σ Q ↔ mw_WP d 266 15 [l0, l1, some (jI x), l3] (jI x :: st) σ Q := WP_iload_n mq266 dd266_14 rfl
theorem dd266_15 : decode cX12_owes 15 = .ok (.invokevirtual 222, 3) := by decide +kernel
theorem ww266_15 {d : Nat} {l0 l1 l2 l3 : Option mw_V} {v0 : mw_V} {a : Nat} {st : List mw_V} {σ : mw_S} {Q : Option mw_V → mw_S → Prop} (hr : mw_rc a = 12) (h8 : (st.map mw_cat).sum ≤ 8) : mw_WP d 266 15 [l0, l1, l2, l3] (v0 :: jR a :: st) σ Q ↔ mw_Call d 196 [jR a, v0] σ (fun r1 s1 => mw_WP d 266 18 [l0, l1, l2, l3] (r1.toList ++ st) s1 Q) := WP_inv (as := [v0]) mq266 dd266_15 (by decide) mq196 rfl hr h8
theorem dd266_18 : decode cX12_owes 18 = .ok (.ifCond .eq 8, 3) := by decide +kernel
theorem ww266_18 {d : Nat} {l0 l1 l2 l3 : Option mw_V} {x : Int} {st : List mw_V} {σ : mw_S} {Q : Option mw_V → mw_S → Prop} : mw_WP d 266 18 [l0, l1, l2, l3] (jI x :: st) σ Q ↔ (if x = 0 then mw_WP d 266 26 [l0, l1, l2, l3] st σ Q else mw_WP d 266 21 [l0, l1, l2, l3] st σ Q) := WP_if_eq mq266 dd266_18 (by decide)
theorem dd266_21 : decode cX12_owes 21 = .ok (.iload_n 1, 1) := by decide +kernel
theorem ww266_21 {d : Nat} {l0 l2 l3 : Option mw_V} {x : Int} {st : List mw_V} {σ : mw_S} {Q : Option mw_V → mw_S → Prop} : mw_WP d 266 21 [l0, some (jI x), l2, l3] st σ Q ↔ mw_WP d 266 22 [l0, some (jI x), l2, l3] (jI x :: st) σ Q := WP_iload_n mq266 dd266_21 rfl
theorem dd266_22 : decode cX12_owes 22 = .ok (.iload_n 2, 1) := by decide +kernel
theorem ww266_22 {d : Nat} {l0 l1 l3 : Option mw_V} {x : Int} {st : List mw_V} {σ : mw_S} {Q : Option mw_V → mw_S → Prop} : mw_WP d 266 22 [l0, l1, some (jI x), l3] st σ Q ↔ mw_WP d 266 23 [l0, l1, some (jI x), l3] (jI x :: st) σ Q := WP_iload_n mq266 dd266_22 rfl
theorem dd266_23 : decode cX12_owes 23 = .ok (.if_icmp .ne 6, 3) := by decide +kernel
theorem ww266_23 {d : Nat} {l0 l1 l2 l3 : Option mw_V} {x y : Int} {st : List mw_V} {σ : mw_S} {Q : Option mw_V → mw_S → Prop} : mw_WP d 266 23 [l0, l1, l2, l3] (jI y :: jI x :: st) σ Q ↔ (if ¬ x = y then mw_WP d 266 29 [l0, l1, l2, l3] st σ Q else mw_WP d 266 26 [l0, l1, l2, l3] st σ Q) := WP_icmp_ne mq266 dd266_23 (by decide)
theorem dd266_26 : decode cX12_owes 26 = .ok (.bipush (-2), 2) := by decide +kernel
theorem ww266_26 {d : Nat} {l0 l1 l2 l3 : Option mw_V} {st : List mw_V} {σ : mw_S} {Q : Option mw_V → mw_S → Prop} : mw_WP d 266 26 [l0, l1, l2, l3] st σ Q ↔ mw_WP d 266 28 [l0, l1, l2, l3] (jI (-2) :: st) σ Q := WP_bipush mq266 dd266_26 (by decide)
theorem dd266_28 : decode cX12_owes 28 = .ok (.ireturn, 1) := by decide +kernel
theorem ww266_28 {d : Nat} {l0 l1 l2 l3 : Option mw_V} {z : Int} {σ : mw_S} {Q : Option mw_V → mw_S → Prop} : mw_WP d 266 28 [l0, l1, l2, l3] [jI z] σ Q ↔ Q (some (jI z)) σ := WP_ireturn (ty := .int) mq266 dd266_28 rfl rfl
theorem dd266_29 : decode cX12_owes 29 = .ok (.iload_n 3, 1) := by decide +kernel
theorem ww266_29 {d : Nat} {l0 l1 l2 : Option mw_V} {x : Int} {st : List mw_V} {σ : mw_S} {Q : Option mw_V → mw_S → Prop} : mw_WP d 266 29 [l0, l1, l2, some (jI x)] st σ Q ↔ mw_WP d 266 30 [l0, l1, l2, some (jI x)] (jI x :: st) σ Q := WP_iload_n mq266 dd266_29 rfl
theorem dd266_30 : decode cX12_owes 30 = .ok (.ifCond .eq 12, 3) := by decide +kernel
theorem ww266_30 {d : Nat} {l0 l1 l2 l3 : Option mw_V} {x : Int} {st : List mw_V} {σ : mw_S} {Q : Option mw_V → mw_S → Prop} : mw_WP d 266 30 [l0, l1, l2, l3] (jI x :: st) σ Q ↔ (if x = 0 then mw_WP d 266 42 [l0, l1, l2, l3] st σ Q else mw_WP d 266 33 [l0, l1, l2, l3] st σ Q) := WP_if_eq mq266 dd266_30 (by decide)
theorem dd266_33 : decode cX12_owes 33 = .ok (.aload_n 0, 1) := by decide +kernel
theorem ww266_33 {d : Nat} {l1 l2 l3 : Option mw_V} {x : Nat} {st : List mw_V} {σ : mw_S} {Q : Option mw_V → mw_S → Prop} : mw_WP d 266 33 [some (jR x), l1, l2, l3] st σ Q ↔ mw_WP d 266 34 [some (jR x), l1, l2, l3] (jR x :: st) σ Q := WP_aload_n mq266 dd266_33 rfl
theorem dd266_34 : decode cX12_owes 34 = .ok (.iload_n 2, 1) := by decide +kernel
theorem ww266_34 {d : Nat} {l0 l1 l3 : Option mw_V} {x : Int} {st : List mw_V} {σ : mw_S} {Q : Option mw_V → mw_S → Prop} : mw_WP d 266 34 [l0, l1, some (jI x), l3] st σ Q ↔ mw_WP d 266 35 [l0, l1, some (jI x), l3] (jI x :: st) σ Q := WP_iload_n mq266 dd266_34 rfl
theorem dd266_35 : decode cX12_owes 35 = .ok (.iload_n 1, 1) := by decide +kernel
theorem ww266_35 {d : Nat} {l0 l2 l3 : Option mw_V} {x : Int} {st : List mw_V} {σ : mw_S} {Q : Option mw_V → mw_S → Prop} : mw_WP d 266 35 [l0, some (jI x), l2, l3] st σ Q ↔ mw_WP d 266 36 [l0, some (jI x), l2, l3] (jI x :: st) σ Q := WP_iload_n mq266 dd266_35 rfl
theorem dd266_36 : decode cX12_owes 36 = .ok (.invokevirtual 444, 3) := by decide +kernel
theorem ww266_36 {d : Nat} {l0 l1 l2 l3 : Option mw_V} {v0 v1 : mw_V} {a : Nat} {st : List mw_V} {σ : mw_S} {Q : Option mw_V → mw_S → Prop} (hr : mw_rc a = 12) (h8 : (st.map mw_cat).sum ≤ 8) : mw_WP d 266 36 [l0, l1, l2, l3] (v1 :: v0 :: jR a :: st) σ Q ↔ mw_Call d 264 [jR a, v0, v1] σ (fun r1 s1 => mw_WP d 266 39 [l0, l1, l2, l3] (r1.toList ++ st) s1 Q) := WP_inv (as := [v1, v0]) mq266 dd266_36 (by decide) mq264 rfl hr h8
theorem dd266_39 : decode cX12_owes 39 = .ok (.goto 9, 3) := by decide +kernel
theorem ww266_39 {d : Nat} {l0 l1 l2 l3 : Option mw_V} {st : List mw_V} {σ : mw_S} {Q : Option mw_V → mw_S → Prop} : mw_WP d 266 39 [l0, l1, l2, l3] st σ Q ↔ mw_WP d 266 48 [l0, l1, l2, l3] st σ Q := WP_goto mq266 dd266_39 (by decide)
theorem dd266_42 : decode cX12_owes 42 = .ok (.aload_n 0, 1) := by decide +kernel
theorem ww266_42 {d : Nat} {l1 l2 l3 : Option mw_V} {x : Nat} {st : List mw_V} {σ : mw_S} {Q : Option mw_V → mw_S → Prop} : mw_WP d 266 42 [some (jR x), l1, l2, l3] st σ Q ↔ mw_WP d 266 43 [some (jR x), l1, l2, l3] (jR x :: st) σ Q := WP_aload_n mq266 dd266_42 rfl
theorem dd266_43 : decode cX12_owes 43 = .ok (.iload_n 1, 1) := by decide +kernel
theorem ww266_43 {d : Nat} {l0 l2 l3 : Option mw_V} {x : Int} {st : List mw_V} {σ : mw_S} {Q : Option mw_V → mw_S → Prop} : mw_WP d 266 43 [l0, some (jI x), l2, l3] st σ Q ↔ mw_WP d 266 44 [l0, some (jI x), l2, l3] (jI x :: st) σ Q := WP_iload_n mq266 dd266_43 rfl
theorem dd266_44 : decode cX12_owes 44 = .ok (.iload_n 2, 1) := by decide +kernel
theorem ww266_44 {d : Nat} {l0 l1 l3 : Option mw_V} {x : Int} {st : List mw_V} {σ : mw_S} {Q : Option mw_V → mw_S → Prop} : mw_WP d 266 44 [l0, l1, some (jI x), l3] st σ Q ↔ mw_WP d 266 45 [l0, l1, some (jI x), l3] (jI x :: st) σ Q := WP_iload_n mq266 dd266_44 rfl
theorem dd266_45 : decode cX12_owes 45 = .ok (.invokevirtual 444, 3) := by decide +kernel
theorem ww266_45 {d : Nat} {l0 l1 l2 l3 : Option mw_V} {v0 v1 : mw_V} {a : Nat} {st : List mw_V} {σ : mw_S} {Q : Option mw_V → mw_S → Prop} (hr : mw_rc a = 12) (h8 : (st.map mw_cat).sum ≤ 8) : mw_WP d 266 45 [l0, l1, l2, l3] (v1 :: v0 :: jR a :: st) σ Q ↔ mw_Call d 264 [jR a, v0, v1] σ (fun r1 s1 => mw_WP d 266 48 [l0, l1, l2, l3] (r1.toList ++ st) s1 Q) := WP_inv (as := [v1, v0]) mq266 dd266_45 (by decide) mq264 rfl hr h8
theorem dd266_48 : decode cX12_owes 48 = .ok (.ireturn, 1) := by decide +kernel
theorem ww266_48 {d : Nat} {l0 l1 l2 l3 : Option mw_V} {z : Int} {σ : mw_S} {Q : Option mw_V → mw_S → Prop} : mw_WP d 266 48 [l0, l1, l2, l3] [jI z] σ Q ↔ Q (some (jI z)) σ := WP_ireturn (ty := .int) mq266 dd266_48 rfl rfl
theorem ee267 {d : Nat} {a : Nat} {z0 : Int} {σ : mw_S} {Q : Option mw_V → mw_S → Prop} : mw_Call (d + 1) 267 [jR a, jI z0] σ Q ↔ mw_WP d 267 0 [some (jR a), some (jI z0), none, none] [] σ Q := CL_u mq267 (Nat.le_of_ble_eq_true rfl) rfl
theorem dd267_0 : decode cX12_balanceOf 0 = .ok (.iconst 0, 1) := by decide +kernel
theorem ww267_0 {d : Nat} {l0 l1 l2 l3 : Option mw_V} {st : List mw_V} {σ : mw_S} {Q : Option mw_V → mw_S → Prop} : mw_WP d 267 0 [l0, l1, l2, l3] st σ Q ↔ mw_WP d 267 1 [l0, l1, l2, l3] (jI (0) :: st) σ Q := WP_iconst mq267 dd267_0 (by decide)
theorem dd267_1 : decode cX12_balanceOf 1 = .ok (.istore_n 2, 1) := by decide +kernel
theorem ww267_1 {d : Nat} {l0 l1 l2 l3 : Option mw_V} {x : Int} {st : List mw_V} {σ : mw_S} {Q : Option mw_V → mw_S → Prop} (h : mw_nlo l1 = true) : mw_WP d 267 1 [l0, l1, l2, l3] (jI x :: st) σ Q ↔ mw_WP d 267 2 [l0, l1, some (jI x), l3] st σ Q := WP_istore_n mq267 dd267_1 (Nat.le_of_ble_eq_true rfl) (mw_nl_of (i := 1) rfl h) rfl
theorem dd267_2 : decode cX12_balanceOf 2 = .ok (.iconst 0, 1) := by decide +kernel
theorem ww267_2 {d : Nat} {l0 l1 l2 l3 : Option mw_V} {st : List mw_V} {σ : mw_S} {Q : Option mw_V → mw_S → Prop} : mw_WP d 267 2 [l0, l1, l2, l3] st σ Q ↔ mw_WP d 267 3 [l0, l1, l2, l3] (jI (0) :: st) σ Q := WP_iconst mq267 dd267_2 (by decide)
theorem dd267_3 : decode cX12_balanceOf 3 = .ok (.istore_n 3, 1) := by decide +kernel
theorem ww267_3 {d : Nat} {l0 l1 l2 l3 : Option mw_V} {x : Int} {st : List mw_V} {σ : mw_S} {Q : Option mw_V → mw_S → Prop} (h : mw_nlo l2 = true) : mw_WP d 267 3 [l0, l1, l2, l3] (jI x :: st) σ Q ↔ mw_WP d 267 4 [l0, l1, l2, some (jI x)] st σ Q := WP_istore_n mq267 dd267_3 (Nat.le_of_ble_eq_true rfl) (mw_nl_of (i := 2) rfl h) rfl
theorem dd267_4 : decode cX12_balanceOf 4 = .ok (.iload_n 3, 1) := by decide +kernel
theorem ww267_4 {d : Nat} {l0 l1 l2 : Option mw_V} {x : Int} {st : List mw_V} {σ : mw_S} {Q : Option mw_V → mw_S → Prop} : mw_WP d 267 4 [l0, l1, l2, some (jI x)] st σ Q ↔ mw_WP d 267 5 [l0, l1, l2, some (jI x)] (jI x :: st) σ Q := WP_iload_n mq267 dd267_4 rfl
theorem dd267_5 : decode cX12_balanceOf 5 = .ok (.aload_n 0, 1) := by decide +kernel
theorem ww267_5 {d : Nat} {l1 l2 l3 : Option mw_V} {x : Nat} {st : List mw_V} {σ : mw_S} {Q : Option mw_V → mw_S → Prop} : mw_WP d 267 5 [some (jR x), l1, l2, l3] st σ Q ↔ mw_WP d 267 6 [some (jR x), l1, l2, l3] (jR x :: st) σ Q := WP_aload_n mq267 dd267_5 rfl
theorem dd267_6 : decode cX12_balanceOf 6 = .ok (.getfield 13, 3) := by decide +kernel
theorem ww267_6 {d : Nat} {l0 l1 l2 l3 : Option mw_V} {st : List mw_V} {σ : mw_S} {Q : Option mw_V → mw_S → Prop} : mw_WP d 267 6 [l0, l1, l2, l3] (jR 100 :: st) σ Q ↔ mw_WP d 267 9 [l0, l1, l2, l3] (jR 101 :: st) σ Q := WP_getR (ci := 11) (k := 1) mq267 dd267_6 (by decide) rfl
theorem dd267_9 : decode cX12_balanceOf 9 = .ok (.iconst 2, 1) := by decide +kernel
theorem ww267_9 {d : Nat} {l0 l1 l2 l3 : Option mw_V} {st : List mw_V} {σ : mw_S} {Q : Option mw_V → mw_S → Prop} : mw_WP d 267 9 [l0, l1, l2, l3] st σ Q ↔ mw_WP d 267 10 [l0, l1, l2, l3] (jI (2) :: st) σ Q := WP_iconst mq267 dd267_9 (by decide)
theorem dd267_10 : decode cX12_balanceOf 10 = .ok (.iaload, 1) := by decide +kernel
theorem ww267_10 {d : Nat} {l0 l1 l2 l3 : Option mw_V} {z : Int} {a : Nat} {st : List mw_V} {σ : mw_S} {Q : Option mw_V → mw_S → Prop} : mw_WP d 267 10 [l0, l1, l2, l3] (jI z :: jR a :: st) σ Q ↔ ((0 ≤ z ∧ z < mw_lenI a) ∧ mw_WP d 267 11 [l0, l1, l2, l3] (jI (mw_rdI σ a z.toNat) :: st) σ Q) := WP_iaload mq267 dd267_10
theorem dd267_11 : decode cX12_balanceOf 11 = .ok (.if_icmp .ge 25, 3) := by decide +kernel
theorem ww267_11 {d : Nat} {l0 l1 l2 l3 : Option mw_V} {x y : Int} {st : List mw_V} {σ : mw_S} {Q : Option mw_V → mw_S → Prop} : mw_WP d 267 11 [l0, l1, l2, l3] (jI y :: jI x :: st) σ Q ↔ (if y ≤ x then mw_WP d 267 36 [l0, l1, l2, l3] st σ Q else mw_WP d 267 14 [l0, l1, l2, l3] st σ Q) := WP_icmp_ge mq267 dd267_11 (by decide)
theorem dd267_14 : decode cX12_balanceOf 14 = .ok (.iload_n 2, 1) := by decide +kernel
theorem ww267_14 {d : Nat} {l0 l1 l3 : Option mw_V} {x : Int} {st : List mw_V} {σ : mw_S} {Q : Option mw_V → mw_S → Prop} : mw_WP d 267 14 [l0, l1, some (jI x), l3] st σ Q ↔ mw_WP d 267 15 [l0, l1, some (jI x), l3] (jI x :: st) σ Q := WP_iload_n mq267 dd267_14 rfl
theorem dd267_15 : decode cX12_balanceOf 15 = .ok (.aload_n 0, 1) := by decide +kernel
theorem ww267_15 {d : Nat} {l1 l2 l3 : Option mw_V} {x : Nat} {st : List mw_V} {σ : mw_S} {Q : Option mw_V → mw_S → Prop} : mw_WP d 267 15 [some (jR x), l1, l2, l3] st σ Q ↔ mw_WP d 267 16 [some (jR x), l1, l2, l3] (jR x :: st) σ Q := WP_aload_n mq267 dd267_15 rfl
theorem dd267_16 : decode cX12_balanceOf 16 = .ok (.iload_n 3, 1) := by decide +kernel
theorem ww267_16 {d : Nat} {l0 l1 l2 : Option mw_V} {x : Int} {st : List mw_V} {σ : mw_S} {Q : Option mw_V → mw_S → Prop} : mw_WP d 267 16 [l0, l1, l2, some (jI x)] st σ Q ↔ mw_WP d 267 17 [l0, l1, l2, some (jI x)] (jI x :: st) σ Q := WP_iload_n mq267 dd267_16 rfl
theorem dd267_17 : decode cX12_balanceOf 17 = .ok (.iload_n 1, 1) := by decide +kernel
theorem ww267_17 {d : Nat} {l0 l2 l3 : Option mw_V} {x : Int} {st : List mw_V} {σ : mw_S} {Q : Option mw_V → mw_S → Prop} : mw_WP d 267 17 [l0, some (jI x), l2, l3] st σ Q ↔ mw_WP d 267 18 [l0, some (jI x), l2, l3] (jI x :: st) σ Q := WP_iload_n mq267 dd267_17 rfl
theorem dd267_18 : decode cX12_balanceOf 18 = .ok (.invokevirtual 444, 3) := by decide +kernel
theorem ww267_18 {d : Nat} {l0 l1 l2 l3 : Option mw_V} {v0 v1 : mw_V} {a : Nat} {st : List mw_V} {σ : mw_S} {Q : Option mw_V → mw_S → Prop} (hr : mw_rc a = 12) (h8 : (st.map mw_cat).sum ≤ 8) : mw_WP d 267 18 [l0, l1, l2, l3] (v1 :: v0 :: jR a :: st) σ Q ↔ mw_Call d 264 [jR a, v0, v1] σ (fun r1 s1 => mw_WP d 267 21 [l0, l1, l2, l3] (r1.toList ++ st) s1 Q) := WP_inv (as := [v1, v0]) mq267 dd267_18 (by decide) mq264 rfl hr h8
theorem dd267_21 : decode cX12_balanceOf 21 = .ok (.aload_n 0, 1) := by decide +kernel
theorem ww267_21 {d : Nat} {l1 l2 l3 : Option mw_V} {x : Nat} {st : List mw_V} {σ : mw_S} {Q : Option mw_V → mw_S → Prop} : mw_WP d 267 21 [some (jR x), l1, l2, l3] st σ Q ↔ mw_WP d 267 22 [some (jR x), l1, l2, l3] (jR x :: st) σ Q := WP_aload_n mq267 dd267_21 rfl
theorem dd267_22 : decode cX12_balanceOf 22 = .ok (.iload_n 1, 1) := by decide +kernel
theorem ww267_22 {d : Nat} {l0 l2 l3 : Option mw_V} {x : Int} {st : List mw_V} {σ : mw_S} {Q : Option mw_V → mw_S → Prop} : mw_WP d 267 22 [l0, some (jI x), l2, l3] st σ Q ↔ mw_WP d 267 23 [l0, some (jI x), l2, l3] (jI x :: st) σ Q := WP_iload_n mq267 dd267_22 rfl
theorem dd267_23 : decode cX12_balanceOf 23 = .ok (.iload_n 3, 1) := by decide +kernel
theorem ww267_23 {d : Nat} {l0 l1 l2 : Option mw_V} {x : Int} {st : List mw_V} {σ : mw_S} {Q : Option mw_V → mw_S → Prop} : mw_WP d 267 23 [l0, l1, l2, some (jI x)] st σ Q ↔ mw_WP d 267 24 [l0, l1, l2, some (jI x)] (jI x :: st) σ Q := WP_iload_n mq267 dd267_23 rfl
theorem dd267_24 : decode cX12_balanceOf 24 = .ok (.invokevirtual 444, 3) := by decide +kernel
theorem ww267_24 {d : Nat} {l0 l1 l2 l3 : Option mw_V} {v0 v1 : mw_V} {a : Nat} {st : List mw_V} {σ : mw_S} {Q : Option mw_V → mw_S → Prop} (hr : mw_rc a = 12) (h8 : (st.map mw_cat).sum ≤ 8) : mw_WP d 267 24 [l0, l1, l2, l3] (v1 :: v0 :: jR a :: st) σ Q ↔ mw_Call d 264 [jR a, v0, v1] σ (fun r1 s1 => mw_WP d 267 27 [l0, l1, l2, l3] (r1.toList ++ st) s1 Q) := WP_inv (as := [v1, v0]) mq267 dd267_24 (by decide) mq264 rfl hr h8
theorem dd267_27 : decode cX12_balanceOf 27 = .ok (.isub, 1) := by decide +kernel
theorem ww267_27 {d : Nat} {l0 l1 l2 l3 : Option mw_V} {x y : Int} {st : List mw_V} {σ : mw_S} {Q : Option mw_V → mw_S → Prop} : mw_WP d 267 27 [l0, l1, l2, l3] (jI y :: jI x :: st) σ Q ↔ mw_WP d 267 28 [l0, l1, l2, l3] (jI (w32 (x - y)) :: st) σ Q := WP_isub mq267 dd267_27
theorem dd267_28 : decode cX12_balanceOf 28 = .ok (.iadd, 1) := by decide +kernel
theorem ww267_28 {d : Nat} {l0 l1 l2 l3 : Option mw_V} {x y : Int} {st : List mw_V} {σ : mw_S} {Q : Option mw_V → mw_S → Prop} : mw_WP d 267 28 [l0, l1, l2, l3] (jI y :: jI x :: st) σ Q ↔ mw_WP d 267 29 [l0, l1, l2, l3] (jI (w32 (x + y)) :: st) σ Q := WP_iadd mq267 dd267_28
theorem dd267_29 : decode cX12_balanceOf 29 = .ok (.istore_n 2, 1) := by decide +kernel
theorem ww267_29 {d : Nat} {l0 l1 l2 l3 : Option mw_V} {x : Int} {st : List mw_V} {σ : mw_S} {Q : Option mw_V → mw_S → Prop} (h : mw_nlo l1 = true) : mw_WP d 267 29 [l0, l1, l2, l3] (jI x :: st) σ Q ↔ mw_WP d 267 30 [l0, l1, some (jI x), l3] st σ Q := WP_istore_n mq267 dd267_29 (Nat.le_of_ble_eq_true rfl) (mw_nl_of (i := 1) rfl h) rfl
theorem dd267_30 : decode cX12_balanceOf 30 = .ok (.iinc 3 1, 3) := by decide +kernel
theorem ww267_30 {d : Nat} {l0 l1 l2 : Option mw_V} {x : Int} {st : List mw_V} {σ : mw_S} {Q : Option mw_V → mw_S → Prop} (h : mw_nlo l2 = true) : mw_WP d 267 30 [l0, l1, l2, some (jI x)] st σ Q ↔ mw_WP d 267 33 [l0, l1, l2, some (jI (w32 (x + (1))))] st σ Q := WP_iinc mq267 dd267_30 rfl (Nat.le_of_ble_eq_true rfl) (mw_nl_of (i := 2) rfl h) rfl
theorem dd267_33 : decode cX12_balanceOf 33 = .ok (.goto (-29), 3) := by decide +kernel
theorem ww267_33 {d : Nat} {l0 l1 l2 l3 : Option mw_V} {st : List mw_V} {σ : mw_S} {Q : Option mw_V → mw_S → Prop} : mw_WP d 267 33 [l0, l1, l2, l3] st σ Q ↔ mw_WP d 267 4 [l0, l1, l2, l3] st σ Q := WP_goto mq267 dd267_33 (by decide)
theorem dd267_36 : decode cX12_balanceOf 36 = .ok (.iload_n 2, 1) := by decide +kernel
theorem ww267_36 {d : Nat} {l0 l1 l3 : Option mw_V} {x : Int} {st : List mw_V} {σ : mw_S} {Q : Option mw_V → mw_S → Prop} : mw_WP d 267 36 [l0, l1, some (jI x), l3] st σ Q ↔ mw_WP d 267 37 [l0, l1, some (jI x), l3] (jI x :: st) σ Q := WP_iload_n mq267 dd267_36 rfl
theorem dd267_37 : decode cX12_balanceOf 37 = .ok (.ireturn, 1) := by decide +kernel
theorem ww267_37 {d : Nat} {l0 l1 l2 l3 : Option mw_V} {z : Int} {σ : mw_S} {Q : Option mw_V → mw_S → Prop} : mw_WP d 267 37 [l0, l1, l2, l3] [jI z] σ Q ↔ Q (some (jI z)) σ := WP_ireturn (ty := .int) mq267 dd267_37 rfl rfl
theorem ee268 {d : Nat} {a : Nat} {z0 : Int} {z1 : Int} {σ : mw_S} {Q : Option mw_V → mw_S → Prop} : mw_Call (d + 1) 268 [jR a, jI z0, jI z1] σ Q ↔ mw_WP d 268 0 [some (jR a), some (jI z0), some (jI z1)] [] σ Q := CL_u mq268 (Nat.le_of_ble_eq_true rfl) rfl
theorem dd268_0 : decode cX12_balance 0 = .ok (.aload_n 0, 1) := by decide +kernel
theorem ww268_0 {d : Nat} {l1 l2 : Option mw_V} {x : Nat} {st : List mw_V} {σ : mw_S} {Q : Option mw_V → mw_S → Prop} : mw_WP d 268 0 [some (jR x), l1, l2] st σ Q ↔ mw_WP d 268 1 [some (jR x), l1, l2] (jR x :: st) σ Q := WP_aload_n mq268 dd268_0 rfl
theorem dd268_1 : decode cX12_balance 1 = .ok (.iconst 0, 1) := by decide +kernel
theorem ww268_1 {d : Nat} {l0 l1 l2 : Option mw_V} {st : List mw_V} {σ : mw_S} {Q : Option mw_V → mw_S → Prop} : mw_WP d 268 1 [l0, l1, l2] st σ Q ↔ mw_WP d 268 2 [l0, l1, l2] (jI (0) :: st) σ Q := WP_iconst mq268 dd268_1 (by decide)
theorem dd268_2 : decode cX12_balance 2 = .ok (.putfield 1, 3) := by decide +kernel
theorem ww268_2 {d : Nat} {l0 l1 l2 : Option mw_V} {v : Int} {st : List mw_V} {σ : mw_S} {Q : Option mw_V → mw_S → Prop} : mw_WP d 268 2 [l0, l1, l2] (jI v :: jR 100 :: st) σ Q ↔ mw_WP d 268 5 [l0, l1, l2] st (upS σ 100 0 v) Q := WP_putI (ci := 11) (k := 0) mq268 dd268_2 (by decide) rfl
theorem dd268_5 : decode cX12_balance 5 = .ok (.aload_n 0, 1) := by decide +kernel
theorem ww268_5 {d : Nat} {l1 l2 : Option mw_V} {x : Nat} {st : List mw_V} {σ : mw_S} {Q : Option mw_V → mw_S → Prop} : mw_WP d 268 5 [some (jR x), l1, l2] st σ Q ↔ mw_WP d 268 6 [some (jR x), l1, l2] (jR x :: st) σ Q := WP_aload_n mq268 dd268_5 rfl
theorem dd268_6 : decode cX12_balance 6 = .ok (.iload_n 1, 1) := by decide +kernel
theorem ww268_6 {d : Nat} {l0 l2 : Option mw_V} {x : Int} {st : List mw_V} {σ : mw_S} {Q : Option mw_V → mw_S → Prop} : mw_WP d 268 6 [l0, some (jI x), l2] st σ Q ↔ mw_WP d 268 7 [l0, some (jI x), l2] (jI x :: st) σ Q := WP_iload_n mq268 dd268_6 rfl
theorem dd268_7 : decode cX12_balance 7 = .ok (.invokevirtual 222, 3) := by decide +kernel
theorem ww268_7 {d : Nat} {l0 l1 l2 : Option mw_V} {v0 : mw_V} {a : Nat} {st : List mw_V} {σ : mw_S} {Q : Option mw_V → mw_S → Prop} (hr : mw_rc a = 12) (h8 : (st.map mw_cat).sum ≤ 8) : mw_WP d 268 7 [l0, l1, l2] (v0 :: jR a :: st) σ Q ↔ mw_Call d 196 [jR a, v0] σ (fun r1 s1 => mw_WP d 268 10 [l0, l1, l2] (r1.toList ++ st) s1 Q) := WP_inv (as := [v0]) mq268 dd268_7 (by decide) mq196 rfl hr h8
theorem dd268_10 : decode cX12_balance 10 = .ok (.ifCond .ne 8, 3) := by decide +kernel
theorem ww268_10 {d : Nat} {l0 l1 l2 : Option mw_V} {x : Int} {st : List mw_V} {σ : mw_S} {Q : Option mw_V → mw_S → Prop} : mw_WP d 268 10 [l0, l1, l2] (jI x :: st) σ Q ↔ (if ¬ x = 0 then mw_WP d 268 18 [l0, l1, l2] st σ Q else mw_WP d 268 13 [l0, l1, l2] st σ Q) := WP_if_ne mq268 dd268_10 (by decide)
theorem dd268_13 : decode cX12_balance 13 = .ok (.bipush (-2), 2) := by decide +kernel
theorem ww268_13 {d : Nat} {l0 l1 l2 : Option mw_V} {st : List mw_V} {σ : mw_S} {Q : Option mw_V → mw_S → Prop} : mw_WP d 268 13 [l0, l1, l2] st σ Q ↔ mw_WP d 268 15 [l0, l1, l2] (jI (-2) :: st) σ Q := WP_bipush mq268 dd268_13 (by decide)
theorem dd268_15 : decode cX12_balance 15 = .ok (.goto 21, 3) := by decide +kernel
theorem ww268_15 {d : Nat} {l0 l1 l2 : Option mw_V} {st : List mw_V} {σ : mw_S} {Q : Option mw_V → mw_S → Prop} : mw_WP d 268 15 [l0, l1, l2] st σ Q ↔ mw_WP d 268 36 [l0, l1, l2] st σ Q := WP_goto mq268 dd268_15 (by decide)
theorem dd268_18 : decode cX12_balance 18 = .ok (.iload_n 2, 1) := by decide +kernel
theorem ww268_18 {d : Nat} {l0 l1 : Option mw_V} {x : Int} {st : List mw_V} {σ : mw_S} {Q : Option mw_V → mw_S → Prop} : mw_WP d 268 18 [l0, l1, some (jI x)] st σ Q ↔ mw_WP d 268 19 [l0, l1, some (jI x)] (jI x :: st) σ Q := WP_iload_n mq268 dd268_18 rfl
theorem dd268_19 : decode cX12_balance 19 = .ok (.ifCond .eq 12, 3) := by decide +kernel
theorem ww268_19 {d : Nat} {l0 l1 l2 : Option mw_V} {x : Int} {st : List mw_V} {σ : mw_S} {Q : Option mw_V → mw_S → Prop} : mw_WP d 268 19 [l0, l1, l2] (jI x :: st) σ Q ↔ (if x = 0 then mw_WP d 268 31 [l0, l1, l2] st σ Q else mw_WP d 268 22 [l0, l1, l2] st σ Q) := WP_if_eq mq268 dd268_19 (by decide)
theorem dd268_22 : decode cX12_balance 22 = .ok (.aload_n 0, 1) := by decide +kernel
theorem ww268_22 {d : Nat} {l1 l2 : Option mw_V} {x : Nat} {st : List mw_V} {σ : mw_S} {Q : Option mw_V → mw_S → Prop} : mw_WP d 268 22 [some (jR x), l1, l2] st σ Q ↔ mw_WP d 268 23 [some (jR x), l1, l2] (jR x :: st) σ Q := WP_aload_n mq268 dd268_22 rfl
theorem dd268_23 : decode cX12_balance 23 = .ok (.iload_n 1, 1) := by decide +kernel
theorem ww268_23 {d : Nat} {l0 l2 : Option mw_V} {x : Int} {st : List mw_V} {σ : mw_S} {Q : Option mw_V → mw_S → Prop} : mw_WP d 268 23 [l0, some (jI x), l2] st σ Q ↔ mw_WP d 268 24 [l0, some (jI x), l2] (jI x :: st) σ Q := WP_iload_n mq268 dd268_23 rfl
theorem dd268_24 : decode cX12_balance 24 = .ok (.invokevirtual 448, 3) := by decide +kernel
theorem ww268_24 {d : Nat} {l0 l1 l2 : Option mw_V} {v0 : mw_V} {a : Nat} {st : List mw_V} {σ : mw_S} {Q : Option mw_V → mw_S → Prop} (hr : mw_rc a = 12) (h8 : (st.map mw_cat).sum ≤ 8) : mw_WP d 268 24 [l0, l1, l2] (v0 :: jR a :: st) σ Q ↔ mw_Call d 267 [jR a, v0] σ (fun r1 s1 => mw_WP d 268 27 [l0, l1, l2] (r1.toList ++ st) s1 Q) := WP_inv (as := [v0]) mq268 dd268_24 (by decide) mq267 rfl hr h8
theorem dd268_27 : decode cX12_balance 27 = .ok (.ineg, 1) := by decide +kernel
theorem ww268_27 {d : Nat} {l0 l1 l2 : Option mw_V} {x : Int} {st : List mw_V} {σ : mw_S} {Q : Option mw_V → mw_S → Prop} : mw_WP d 268 27 [l0, l1, l2] (jI x :: st) σ Q ↔ mw_WP d 268 28 [l0, l1, l2] (jI (w32 (-x)) :: st) σ Q := WP_ineg mq268 dd268_27
theorem dd268_28 : decode cX12_balance 28 = .ok (.goto 8, 3) := by decide +kernel
theorem ww268_28 {d : Nat} {l0 l1 l2 : Option mw_V} {st : List mw_V} {σ : mw_S} {Q : Option mw_V → mw_S → Prop} : mw_WP d 268 28 [l0, l1, l2] st σ Q ↔ mw_WP d 268 36 [l0, l1, l2] st σ Q := WP_goto mq268 dd268_28 (by decide)
theorem dd268_31 : decode cX12_balance 31 = .ok (.aload_n 0, 1) := by decide +kernel
theorem ww268_31 {d : Nat} {l1 l2 : Option mw_V} {x : Nat} {st : List mw_V} {σ : mw_S} {Q : Option mw_V → mw_S → Prop} : mw_WP d 268 31 [some (jR x), l1, l2] st σ Q ↔ mw_WP d 268 32 [some (jR x), l1, l2] (jR x :: st) σ Q := WP_aload_n mq268 dd268_31 rfl
theorem dd268_32 : decode cX12_balance 32 = .ok (.iload_n 1, 1) := by decide +kernel
theorem ww268_32 {d : Nat} {l0 l2 : Option mw_V} {x : Int} {st : List mw_V} {σ : mw_S} {Q : Option mw_V → mw_S → Prop} : mw_WP d 268 32 [l0, some (jI x), l2] st σ Q ↔ mw_WP d 268 33 [l0, some (jI x), l2] (jI x :: st) σ Q := WP_iload_n mq268 dd268_32 rfl
theorem dd268_33 : decode cX12_balance 33 = .ok (.invokevirtual 448, 3) := by decide +kernel
theorem ww268_33 {d : Nat} {l0 l1 l2 : Option mw_V} {v0 : mw_V} {a : Nat} {st : List mw_V} {σ : mw_S} {Q : Option mw_V → mw_S → Prop} (hr : mw_rc a = 12) (h8 : (st.map mw_cat).sum ≤ 8) : mw_WP d 268 33 [l0, l1, l2] (v0 :: jR a :: st) σ Q ↔ mw_Call d 267 [jR a, v0] σ (fun r1 s1 => mw_WP d 268 36 [l0, l1, l2] (r1.toList ++ st) s1 Q) := WP_inv (as := [v0]) mq268 dd268_33 (by decide) mq267 rfl hr h8
theorem dd268_36 : decode cX12_balance 36 = .ok (.ireturn, 1) := by decide +kernel
theorem ww268_36 {d : Nat} {l0 l1 l2 : Option mw_V} {z : Int} {σ : mw_S} {Q : Option mw_V → mw_S → Prop} : mw_WP d 268 36 [l0, l1, l2] [jI z] σ Q ↔ Q (some (jI z)) σ := WP_ireturn (ty := .int) mq268 dd268_36 rfl rfl
theorem ee269 {d : Nat} {a : Nat} {z0 : Int} {z1 : Int} {z2 : Int} {σ : mw_S} {Q : Option mw_V → mw_S → Prop} : mw_Call (d + 1) 269 [jR a, jI z0, jI z1, jI z2] σ Q ↔ mw_WP d 269 0 [some (jR a), some (jI z0), some (jI z1), some (jI z2), none] [] σ Q := CL_u mq269 (Nat.le_of_ble_eq_true rfl) rfl
theorem dd269_0 : decode cX12_clears 0 = .ok (.aload_n 0, 1) := by decide +kernel
theorem ww269_0 {d : Nat} {l1 l2 l3 l4 : Option mw_V} {x : Nat} {st : List mw_V} {σ : mw_S} {Q : Option mw_V → mw_S → Prop} : mw_WP d 269 0 [some (jR x), l1, l2, l3, l4] st σ Q ↔ mw_WP d 269 1 [some (jR x), l1, l2, l3, l4] (jR x :: st) σ Q := WP_aload_n mq269 dd269_0 rfl
theorem dd269_1 : decode cX12_clears 1 = .ok (.iload_n 1, 1) := by decide +kernel
theorem ww269_1 {d : Nat} {l0 l2 l3 l4 : Option mw_V} {x : Int} {st : List mw_V} {σ : mw_S} {Q : Option mw_V → mw_S → Prop} : mw_WP d 269 1 [l0, some (jI x), l2, l3, l4] st σ Q ↔ mw_WP d 269 2 [l0, some (jI x), l2, l3, l4] (jI x :: st) σ Q := WP_iload_n mq269 dd269_1 rfl
theorem dd269_2 : decode cX12_clears 2 = .ok (.iload_n 2, 1) := by decide +kernel
theorem ww269_2 {d : Nat} {l0 l1 l3 l4 : Option mw_V} {x : Int} {st : List mw_V} {σ : mw_S} {Q : Option mw_V → mw_S → Prop} : mw_WP d 269 2 [l0, l1, some (jI x), l3, l4] st σ Q ↔ mw_WP d 269 3 [l0, l1, some (jI x), l3, l4] (jI x :: st) σ Q := WP_iload_n mq269 dd269_2 rfl
theorem dd269_3 : decode cX12_clears 3 = .ok (.invokevirtual 444, 3) := by decide +kernel
theorem ww269_3 {d : Nat} {l0 l1 l2 l3 l4 : Option mw_V} {v0 v1 : mw_V} {a : Nat} {st : List mw_V} {σ : mw_S} {Q : Option mw_V → mw_S → Prop} (hr : mw_rc a = 12) (h8 : (st.map mw_cat).sum ≤ 8) : mw_WP d 269 3 [l0, l1, l2, l3, l4] (v1 :: v0 :: jR a :: st) σ Q ↔ mw_Call d 264 [jR a, v0, v1] σ (fun r1 s1 => mw_WP d 269 6 [l0, l1, l2, l3, l4] (r1.toList ++ st) s1 Q) := WP_inv (as := [v1, v0]) mq269 dd269_3 (by decide) mq264 rfl hr h8
theorem dd269_6 : decode cX12_clears 6 = .ok (.aload_n 0, 1) := by decide +kernel
theorem ww269_6 {d : Nat} {l1 l2 l3 l4 : Option mw_V} {x : Nat} {st : List mw_V} {σ : mw_S} {Q : Option mw_V → mw_S → Prop} : mw_WP d 269 6 [some (jR x), l1, l2, l3, l4] st σ Q ↔ mw_WP d 269 7 [some (jR x), l1, l2, l3, l4] (jR x :: st) σ Q := WP_aload_n mq269 dd269_6 rfl
theorem dd269_7 : decode cX12_clears 7 = .ok (.iload_n 2, 1) := by decide +kernel
theorem ww269_7 {d : Nat} {l0 l1 l3 l4 : Option mw_V} {x : Int} {st : List mw_V} {σ : mw_S} {Q : Option mw_V → mw_S → Prop} : mw_WP d 269 7 [l0, l1, some (jI x), l3, l4] st σ Q ↔ mw_WP d 269 8 [l0, l1, some (jI x), l3, l4] (jI x :: st) σ Q := WP_iload_n mq269 dd269_7 rfl
theorem dd269_8 : decode cX12_clears 8 = .ok (.iload_n 3, 1) := by decide +kernel
theorem ww269_8 {d : Nat} {l0 l1 l2 l4 : Option mw_V} {x : Int} {st : List mw_V} {σ : mw_S} {Q : Option mw_V → mw_S → Prop} : mw_WP d 269 8 [l0, l1, l2, some (jI x), l4] st σ Q ↔ mw_WP d 269 9 [l0, l1, l2, some (jI x), l4] (jI x :: st) σ Q := WP_iload_n mq269 dd269_8 rfl
theorem dd269_9 : decode cX12_clears 9 = .ok (.invokevirtual 444, 3) := by decide +kernel
theorem ww269_9 {d : Nat} {l0 l1 l2 l3 l4 : Option mw_V} {v0 v1 : mw_V} {a : Nat} {st : List mw_V} {σ : mw_S} {Q : Option mw_V → mw_S → Prop} (hr : mw_rc a = 12) (h8 : (st.map mw_cat).sum ≤ 8) : mw_WP d 269 9 [l0, l1, l2, l3, l4] (v1 :: v0 :: jR a :: st) σ Q ↔ mw_Call d 264 [jR a, v0, v1] σ (fun r1 s1 => mw_WP d 269 12 [l0, l1, l2, l3, l4] (r1.toList ++ st) s1 Q) := WP_inv (as := [v1, v0]) mq269 dd269_9 (by decide) mq264 rfl hr h8
theorem dd269_12 : decode cX12_clears 12 = .ok (.if_icmp .ge 12, 3) := by decide +kernel
theorem ww269_12 {d : Nat} {l0 l1 l2 l3 l4 : Option mw_V} {x y : Int} {st : List mw_V} {σ : mw_S} {Q : Option mw_V → mw_S → Prop} : mw_WP d 269 12 [l0, l1, l2, l3, l4] (jI y :: jI x :: st) σ Q ↔ (if y ≤ x then mw_WP d 269 24 [l0, l1, l2, l3, l4] st σ Q else mw_WP d 269 15 [l0, l1, l2, l3, l4] st σ Q) := WP_icmp_ge mq269 dd269_12 (by decide)
theorem dd269_15 : decode cX12_clears 15 = .ok (.aload_n 0, 1) := by decide +kernel
theorem ww269_15 {d : Nat} {l1 l2 l3 l4 : Option mw_V} {x : Nat} {st : List mw_V} {σ : mw_S} {Q : Option mw_V → mw_S → Prop} : mw_WP d 269 15 [some (jR x), l1, l2, l3, l4] st σ Q ↔ mw_WP d 269 16 [some (jR x), l1, l2, l3, l4] (jR x :: st) σ Q := WP_aload_n mq269 dd269_15 rfl
theorem dd269_16 : decode cX12_clears 16 = .ok (.iload_n 1, 1) := by decide +kernel
theorem ww269_16 {d : Nat} {l0 l2 l3 l4 : Option mw_V} {x : Int} {st : List mw_V} {σ : mw_S} {Q : Option mw_V → mw_S → Prop} : mw_WP d 269 16 [l0, some (jI x), l2, l3, l4] st σ Q ↔ mw_WP d 269 17 [l0, some (jI x), l2, l3, l4] (jI x :: st) σ Q := WP_iload_n mq269 dd269_16 rfl
theorem dd269_17 : decode cX12_clears 17 = .ok (.iload_n 2, 1) := by decide +kernel
theorem ww269_17 {d : Nat} {l0 l1 l3 l4 : Option mw_V} {x : Int} {st : List mw_V} {σ : mw_S} {Q : Option mw_V → mw_S → Prop} : mw_WP d 269 17 [l0, l1, some (jI x), l3, l4] st σ Q ↔ mw_WP d 269 18 [l0, l1, some (jI x), l3, l4] (jI x :: st) σ Q := WP_iload_n mq269 dd269_17 rfl
theorem dd269_18 : decode cX12_clears 18 = .ok (.invokevirtual 444, 3) := by decide +kernel
theorem ww269_18 {d : Nat} {l0 l1 l2 l3 l4 : Option mw_V} {v0 v1 : mw_V} {a : Nat} {st : List mw_V} {σ : mw_S} {Q : Option mw_V → mw_S → Prop} (hr : mw_rc a = 12) (h8 : (st.map mw_cat).sum ≤ 8) : mw_WP d 269 18 [l0, l1, l2, l3, l4] (v1 :: v0 :: jR a :: st) σ Q ↔ mw_Call d 264 [jR a, v0, v1] σ (fun r1 s1 => mw_WP d 269 21 [l0, l1, l2, l3, l4] (r1.toList ++ st) s1 Q) := WP_inv (as := [v1, v0]) mq269 dd269_18 (by decide) mq264 rfl hr h8
theorem dd269_21 : decode cX12_clears 21 = .ok (.goto 9, 3) := by decide +kernel
theorem ww269_21 {d : Nat} {l0 l1 l2 l3 l4 : Option mw_V} {st : List mw_V} {σ : mw_S} {Q : Option mw_V → mw_S → Prop} : mw_WP d 269 21 [l0, l1, l2, l3, l4] st σ Q ↔ mw_WP d 269 30 [l0, l1, l2, l3, l4] st σ Q := WP_goto mq269 dd269_21 (by decide)
theorem dd269_24 : decode cX12_clears 24 = .ok (.aload_n 0, 1) := by decide +kernel
theorem ww269_24 {d : Nat} {l1 l2 l3 l4 : Option mw_V} {x : Nat} {st : List mw_V} {σ : mw_S} {Q : Option mw_V → mw_S → Prop} : mw_WP d 269 24 [some (jR x), l1, l2, l3, l4] st σ Q ↔ mw_WP d 269 25 [some (jR x), l1, l2, l3, l4] (jR x :: st) σ Q := WP_aload_n mq269 dd269_24 rfl
theorem dd269_25 : decode cX12_clears 25 = .ok (.iload_n 2, 1) := by decide +kernel
theorem ww269_25 {d : Nat} {l0 l1 l3 l4 : Option mw_V} {x : Int} {st : List mw_V} {σ : mw_S} {Q : Option mw_V → mw_S → Prop} : mw_WP d 269 25 [l0, l1, some (jI x), l3, l4] st σ Q ↔ mw_WP d 269 26 [l0, l1, some (jI x), l3, l4] (jI x :: st) σ Q := WP_iload_n mq269 dd269_25 rfl
theorem dd269_26 : decode cX12_clears 26 = .ok (.iload_n 3, 1) := by decide +kernel
theorem ww269_26 {d : Nat} {l0 l1 l2 l4 : Option mw_V} {x : Int} {st : List mw_V} {σ : mw_S} {Q : Option mw_V → mw_S → Prop} : mw_WP d 269 26 [l0, l1, l2, some (jI x), l4] st σ Q ↔ mw_WP d 269 27 [l0, l1, l2, some (jI x), l4] (jI x :: st) σ Q := WP_iload_n mq269 dd269_26 rfl
theorem dd269_27 : decode cX12_clears 27 = .ok (.invokevirtual 444, 3) := by decide +kernel
theorem ww269_27 {d : Nat} {l0 l1 l2 l3 l4 : Option mw_V} {v0 v1 : mw_V} {a : Nat} {st : List mw_V} {σ : mw_S} {Q : Option mw_V → mw_S → Prop} (hr : mw_rc a = 12) (h8 : (st.map mw_cat).sum ≤ 8) : mw_WP d 269 27 [l0, l1, l2, l3, l4] (v1 :: v0 :: jR a :: st) σ Q ↔ mw_Call d 264 [jR a, v0, v1] σ (fun r1 s1 => mw_WP d 269 30 [l0, l1, l2, l3, l4] (r1.toList ++ st) s1 Q) := WP_inv (as := [v1, v0]) mq269 dd269_27 (by decide) mq264 rfl hr h8
theorem dd269_30 : decode cX12_clears 30 = .ok (.istore 4, 2) := by decide +kernel
theorem ww269_30 {d : Nat} {l0 l1 l2 l3 l4 : Option mw_V} {x : Int} {st : List mw_V} {σ : mw_S} {Q : Option mw_V → mw_S → Prop} (h : mw_nlo l3 = true) : mw_WP d 269 30 [l0, l1, l2, l3, l4] (jI x :: st) σ Q ↔ mw_WP d 269 32 [l0, l1, l2, l3, some (jI x)] st σ Q := WP_istore mq269 dd269_30 (Nat.le_of_ble_eq_true rfl) (mw_nl_of (i := 3) rfl h) rfl
theorem dd269_32 : decode cX12_clears 32 = .ok (.iload_n 3, 1) := by decide +kernel
theorem ww269_32 {d : Nat} {l0 l1 l2 l4 : Option mw_V} {x : Int} {st : List mw_V} {σ : mw_S} {Q : Option mw_V → mw_S → Prop} : mw_WP d 269 32 [l0, l1, l2, some (jI x), l4] st σ Q ↔ mw_WP d 269 33 [l0, l1, l2, some (jI x), l4] (jI x :: st) σ Q := WP_iload_n mq269 dd269_32 rfl
theorem dd269_33 : decode cX12_clears 33 = .ok (.iload_n 1, 1) := by decide +kernel
theorem ww269_33 {d : Nat} {l0 l2 l3 l4 : Option mw_V} {x : Int} {st : List mw_V} {σ : mw_S} {Q : Option mw_V → mw_S → Prop} : mw_WP d 269 33 [l0, some (jI x), l2, l3, l4] st σ Q ↔ mw_WP d 269 34 [l0, some (jI x), l2, l3, l4] (jI x :: st) σ Q := WP_iload_n mq269 dd269_33 rfl
theorem dd269_34 : decode cX12_clears 34 = .ok (.if_icmp .eq 22, 3) := by decide +kernel
theorem ww269_34 {d : Nat} {l0 l1 l2 l3 l4 : Option mw_V} {x y : Int} {st : List mw_V} {σ : mw_S} {Q : Option mw_V → mw_S → Prop} : mw_WP d 269 34 [l0, l1, l2, l3, l4] (jI y :: jI x :: st) σ Q ↔ (if x = y then mw_WP d 269 56 [l0, l1, l2, l3, l4] st σ Q else mw_WP d 269 37 [l0, l1, l2, l3, l4] st σ Q) := WP_icmp_eq mq269 dd269_34 (by decide)
theorem dd269_37 : decode cX12_clears 37 = .ok (.aload_n 0, 1) := by decide +kernel
theorem ww269_37 {d : Nat} {l1 l2 l3 l4 : Option mw_V} {x : Nat} {st : List mw_V} {σ : mw_S} {Q : Option mw_V → mw_S → Prop} : mw_WP d 269 37 [some (jR x), l1, l2, l3, l4] st σ Q ↔ mw_WP d 269 38 [some (jR x), l1, l2, l3, l4] (jR x :: st) σ Q := WP_aload_n mq269 dd269_37 rfl
theorem dd269_38 : decode cX12_clears 38 = .ok (.iload_n 3, 1) := by decide +kernel
theorem ww269_38 {d : Nat} {l0 l1 l2 l4 : Option mw_V} {x : Int} {st : List mw_V} {σ : mw_S} {Q : Option mw_V → mw_S → Prop} : mw_WP d 269 38 [l0, l1, l2, some (jI x), l4] st σ Q ↔ mw_WP d 269 39 [l0, l1, l2, some (jI x), l4] (jI x :: st) σ Q := WP_iload_n mq269 dd269_38 rfl
theorem dd269_39 : decode cX12_clears 39 = .ok (.iload_n 1, 1) := by decide +kernel
theorem ww269_39 {d : Nat} {l0 l2 l3 l4 : Option mw_V} {x : Int} {st : List mw_V} {σ : mw_S} {Q : Option mw_V → mw_S → Prop} : mw_WP d 269 39 [l0, some (jI x), l2, l3, l4] st σ Q ↔ mw_WP d 269 40 [l0, some (jI x), l2, l3, l4] (jI x :: st) σ Q := WP_iload_n mq269 dd269_39 rfl
theorem dd269_40 : decode cX12_clears 40 = .ok (.invokevirtual 444, 3) := by decide +kernel
theorem ww269_40 {d : Nat} {l0 l1 l2 l3 l4 : Option mw_V} {v0 v1 : mw_V} {a : Nat} {st : List mw_V} {σ : mw_S} {Q : Option mw_V → mw_S → Prop} (hr : mw_rc a = 12) (h8 : (st.map mw_cat).sum ≤ 8) : mw_WP d 269 40 [l0, l1, l2, l3, l4] (v1 :: v0 :: jR a :: st) σ Q ↔ mw_Call d 264 [jR a, v0, v1] σ (fun r1 s1 => mw_WP d 269 43 [l0, l1, l2, l3, l4] (r1.toList ++ st) s1 Q) := WP_inv (as := [v1, v0]) mq269 dd269_40 (by decide) mq264 rfl hr h8
theorem dd269_43 : decode cX12_clears 43 = .ok (.iload 4, 2) := by decide +kernel
theorem ww269_43 {d : Nat} {l0 l1 l2 l3 : Option mw_V} {x : Int} {st : List mw_V} {σ : mw_S} {Q : Option mw_V → mw_S → Prop} : mw_WP d 269 43 [l0, l1, l2, l3, some (jI x)] st σ Q ↔ mw_WP d 269 45 [l0, l1, l2, l3, some (jI x)] (jI x :: st) σ Q := WP_iload mq269 dd269_43 rfl
theorem dd269_45 : decode cX12_clears 45 = .ok (.if_icmp .ge 11, 3) := by decide +kernel
theorem ww269_45 {d : Nat} {l0 l1 l2 l3 l4 : Option mw_V} {x y : Int} {st : List mw_V} {σ : mw_S} {Q : Option mw_V → mw_S → Prop} : mw_WP d 269 45 [l0, l1, l2, l3, l4] (jI y :: jI x :: st) σ Q ↔ (if y ≤ x then mw_WP d 269 56 [l0, l1, l2, l3, l4] st σ Q else mw_WP d 269 48 [l0, l1, l2, l3, l4] st σ Q) := WP_icmp_ge mq269 dd269_45 (by decide)
theorem dd269_48 : decode cX12_clears 48 = .ok (.aload_n 0, 1) := by decide +kernel
theorem ww269_48 {d : Nat} {l1 l2 l3 l4 : Option mw_V} {x : Nat} {st : List mw_V} {σ : mw_S} {Q : Option mw_V → mw_S → Prop} : mw_WP d 269 48 [some (jR x), l1, l2, l3, l4] st σ Q ↔ mw_WP d 269 49 [some (jR x), l1, l2, l3, l4] (jR x :: st) σ Q := WP_aload_n mq269 dd269_48 rfl
theorem dd269_49 : decode cX12_clears 49 = .ok (.iload_n 3, 1) := by decide +kernel
theorem ww269_49 {d : Nat} {l0 l1 l2 l4 : Option mw_V} {x : Int} {st : List mw_V} {σ : mw_S} {Q : Option mw_V → mw_S → Prop} : mw_WP d 269 49 [l0, l1, l2, some (jI x), l4] st σ Q ↔ mw_WP d 269 50 [l0, l1, l2, some (jI x), l4] (jI x :: st) σ Q := WP_iload_n mq269 dd269_49 rfl
theorem dd269_50 : decode cX12_clears 50 = .ok (.iload_n 1, 1) := by decide +kernel
theorem ww269_50 {d : Nat} {l0 l2 l3 l4 : Option mw_V} {x : Int} {st : List mw_V} {σ : mw_S} {Q : Option mw_V → mw_S → Prop} : mw_WP d 269 50 [l0, some (jI x), l2, l3, l4] st σ Q ↔ mw_WP d 269 51 [l0, some (jI x), l2, l3, l4] (jI x :: st) σ Q := WP_iload_n mq269 dd269_50 rfl
theorem dd269_51 : decode cX12_clears 51 = .ok (.invokevirtual 444, 3) := by decide +kernel
theorem ww269_51 {d : Nat} {l0 l1 l2 l3 l4 : Option mw_V} {v0 v1 : mw_V} {a : Nat} {st : List mw_V} {σ : mw_S} {Q : Option mw_V → mw_S → Prop} (hr : mw_rc a = 12) (h8 : (st.map mw_cat).sum ≤ 8) : mw_WP d 269 51 [l0, l1, l2, l3, l4] (v1 :: v0 :: jR a :: st) σ Q ↔ mw_Call d 264 [jR a, v0, v1] σ (fun r1 s1 => mw_WP d 269 54 [l0, l1, l2, l3, l4] (r1.toList ++ st) s1 Q) := WP_inv (as := [v1, v0]) mq269 dd269_51 (by decide) mq264 rfl hr h8
theorem dd269_54 : decode cX12_clears 54 = .ok (.istore 4, 2) := by decide +kernel
theorem ww269_54 {d : Nat} {l0 l1 l2 l3 l4 : Option mw_V} {x : Int} {st : List mw_V} {σ : mw_S} {Q : Option mw_V → mw_S → Prop} (h : mw_nlo l3 = true) : mw_WP d 269 54 [l0, l1, l2, l3, l4] (jI x :: st) σ Q ↔ mw_WP d 269 56 [l0, l1, l2, l3, some (jI x)] st σ Q := WP_istore mq269 dd269_54 (Nat.le_of_ble_eq_true rfl) (mw_nl_of (i := 3) rfl h) rfl
theorem dd269_56 : decode cX12_clears 56 = .ok (.aload_n 0, 1) := by decide +kernel
theorem ww269_56 {d : Nat} {l1 l2 l3 l4 : Option mw_V} {x : Nat} {st : List mw_V} {σ : mw_S} {Q : Option mw_V → mw_S → Prop} : mw_WP d 269 56 [some (jR x), l1, l2, l3, l4] st σ Q ↔ mw_WP d 269 57 [some (jR x), l1, l2, l3, l4] (jR x :: st) σ Q := WP_aload_n mq269 dd269_56 rfl
theorem dd269_57 : decode cX12_clears 57 = .ok (.getfield 13, 3) := by decide +kernel
theorem ww269_57 {d : Nat} {l0 l1 l2 l3 l4 : Option mw_V} {st : List mw_V} {σ : mw_S} {Q : Option mw_V → mw_S → Prop} : mw_WP d 269 57 [l0, l1, l2, l3, l4] (jR 100 :: st) σ Q ↔ mw_WP d 269 60 [l0, l1, l2, l3, l4] (jR 101 :: st) σ Q := WP_getR (ci := 11) (k := 1) mq269 dd269_57 (by decide) rfl
theorem dd269_60 : decode cX12_clears 60 = .ok (.bipush 66, 2) := by decide +kernel
theorem ww269_60 {d : Nat} {l0 l1 l2 l3 l4 : Option mw_V} {st : List mw_V} {σ : mw_S} {Q : Option mw_V → mw_S → Prop} : mw_WP d 269 60 [l0, l1, l2, l3, l4] st σ Q ↔ mw_WP d 269 62 [l0, l1, l2, l3, l4] (jI (66) :: st) σ Q := WP_bipush mq269 dd269_60 (by decide)
theorem dd269_62 : decode cX12_clears 62 = .ok (.iconst 3, 1) := by decide +kernel
theorem ww269_62 {d : Nat} {l0 l1 l2 l3 l4 : Option mw_V} {st : List mw_V} {σ : mw_S} {Q : Option mw_V → mw_S → Prop} : mw_WP d 269 62 [l0, l1, l2, l3, l4] st σ Q ↔ mw_WP d 269 63 [l0, l1, l2, l3, l4] (jI (3) :: st) σ Q := WP_iconst mq269 dd269_62 (by decide)
theorem dd269_63 : decode cX12_clears 63 = .ok (.iload_n 1, 1) := by decide +kernel
theorem ww269_63 {d : Nat} {l0 l2 l3 l4 : Option mw_V} {x : Int} {st : List mw_V} {σ : mw_S} {Q : Option mw_V → mw_S → Prop} : mw_WP d 269 63 [l0, some (jI x), l2, l3, l4] st σ Q ↔ mw_WP d 269 64 [l0, some (jI x), l2, l3, l4] (jI x :: st) σ Q := WP_iload_n mq269 dd269_63 rfl
theorem dd269_64 : decode cX12_clears 64 = .ok (.imul, 1) := by decide +kernel
theorem ww269_64 {d : Nat} {l0 l1 l2 l3 l4 : Option mw_V} {x y : Int} {st : List mw_V} {σ : mw_S} {Q : Option mw_V → mw_S → Prop} : mw_WP d 269 64 [l0, l1, l2, l3, l4] (jI y :: jI x :: st) σ Q ↔ mw_WP d 269 65 [l0, l1, l2, l3, l4] (jI (w32 (x * y)) :: st) σ Q := WP_imul mq269 dd269_64
theorem dd269_65 : decode cX12_clears 65 = .ok (.iadd, 1) := by decide +kernel
theorem ww269_65 {d : Nat} {l0 l1 l2 l3 l4 : Option mw_V} {x y : Int} {st : List mw_V} {σ : mw_S} {Q : Option mw_V → mw_S → Prop} : mw_WP d 269 65 [l0, l1, l2, l3, l4] (jI y :: jI x :: st) σ Q ↔ mw_WP d 269 66 [l0, l1, l2, l3, l4] (jI (w32 (x + y)) :: st) σ Q := WP_iadd mq269 dd269_65
theorem dd269_66 : decode cX12_clears 66 = .ok (.iload_n 2, 1) := by decide +kernel
theorem ww269_66 {d : Nat} {l0 l1 l3 l4 : Option mw_V} {x : Int} {st : List mw_V} {σ : mw_S} {Q : Option mw_V → mw_S → Prop} : mw_WP d 269 66 [l0, l1, some (jI x), l3, l4] st σ Q ↔ mw_WP d 269 67 [l0, l1, some (jI x), l3, l4] (jI x :: st) σ Q := WP_iload_n mq269 dd269_66 rfl
theorem dd269_67 : decode cX12_clears 67 = .ok (.iadd, 1) := by decide +kernel
theorem ww269_67 {d : Nat} {l0 l1 l2 l3 l4 : Option mw_V} {x y : Int} {st : List mw_V} {σ : mw_S} {Q : Option mw_V → mw_S → Prop} : mw_WP d 269 67 [l0, l1, l2, l3, l4] (jI y :: jI x :: st) σ Q ↔ mw_WP d 269 68 [l0, l1, l2, l3, l4] (jI (w32 (x + y)) :: st) σ Q := WP_iadd mq269 dd269_67
theorem dd269_68 : decode cX12_clears 68 = .ok (.dup2, 1) := by decide +kernel
theorem ww269_68 {d : Nat} {l0 l1 l2 l3 l4 : Option mw_V} {v w : mw_V} {st : List mw_V} {σ : mw_S} {Q : Option mw_V → mw_S → Prop} (h : mw_cat v = 1) (h2 : mw_cat w = 1) : mw_WP d 269 68 [l0, l1, l2, l3, l4] (v :: w :: st) σ Q ↔ mw_WP d 269 69 [l0, l1, l2, l3, l4] (v :: w :: v :: w :: st) σ Q := WP_dup2 mq269 dd269_68 h h2
theorem dd269_69 : decode cX12_clears 69 = .ok (.iaload, 1) := by decide +kernel
theorem ww269_69 {d : Nat} {l0 l1 l2 l3 l4 : Option mw_V} {z : Int} {a : Nat} {st : List mw_V} {σ : mw_S} {Q : Option mw_V → mw_S → Prop} : mw_WP d 269 69 [l0, l1, l2, l3, l4] (jI z :: jR a :: st) σ Q ↔ ((0 ≤ z ∧ z < mw_lenI a) ∧ mw_WP d 269 70 [l0, l1, l2, l3, l4] (jI (mw_rdI σ a z.toNat) :: st) σ Q) := WP_iaload mq269 dd269_69
theorem dd269_70 : decode cX12_clears 70 = .ok (.iload 4, 2) := by decide +kernel
theorem ww269_70 {d : Nat} {l0 l1 l2 l3 : Option mw_V} {x : Int} {st : List mw_V} {σ : mw_S} {Q : Option mw_V → mw_S → Prop} : mw_WP d 269 70 [l0, l1, l2, l3, some (jI x)] st σ Q ↔ mw_WP d 269 72 [l0, l1, l2, l3, some (jI x)] (jI x :: st) σ Q := WP_iload mq269 dd269_70 rfl
theorem dd269_72 : decode cX12_clears 72 = .ok (.isub, 1) := by decide +kernel
theorem ww269_72 {d : Nat} {l0 l1 l2 l3 l4 : Option mw_V} {x y : Int} {st : List mw_V} {σ : mw_S} {Q : Option mw_V → mw_S → Prop} : mw_WP d 269 72 [l0, l1, l2, l3, l4] (jI y :: jI x :: st) σ Q ↔ mw_WP d 269 73 [l0, l1, l2, l3, l4] (jI (w32 (x - y)) :: st) σ Q := WP_isub mq269 dd269_72
theorem dd269_73 : decode cX12_clears 73 = .ok (.iastore, 1) := by decide +kernel
theorem ww269_73 {d : Nat} {l0 l1 l2 l3 l4 : Option mw_V} {x z : Int} {a : Nat} {st : List mw_V} {σ : mw_S} {Q : Option mw_V → mw_S → Prop} : mw_WP d 269 73 [l0, l1, l2, l3, l4] (jI x :: jI z :: jR a :: st) σ Q ↔ ((0 ≤ z ∧ z < mw_lenW 0 a) ∧ mw_WP d 269 74 [l0, l1, l2, l3, l4] st (upS σ a z.toNat x) Q) := WP_iastore mq269 dd269_73
theorem dd269_74 : decode cX12_clears 74 = .ok (.aload_n 0, 1) := by decide +kernel
theorem ww269_74 {d : Nat} {l1 l2 l3 l4 : Option mw_V} {x : Nat} {st : List mw_V} {σ : mw_S} {Q : Option mw_V → mw_S → Prop} : mw_WP d 269 74 [some (jR x), l1, l2, l3, l4] st σ Q ↔ mw_WP d 269 75 [some (jR x), l1, l2, l3, l4] (jR x :: st) σ Q := WP_aload_n mq269 dd269_74 rfl
theorem dd269_75 : decode cX12_clears 75 = .ok (.getfield 13, 3) := by decide +kernel
theorem ww269_75 {d : Nat} {l0 l1 l2 l3 l4 : Option mw_V} {st : List mw_V} {σ : mw_S} {Q : Option mw_V → mw_S → Prop} : mw_WP d 269 75 [l0, l1, l2, l3, l4] (jR 100 :: st) σ Q ↔ mw_WP d 269 78 [l0, l1, l2, l3, l4] (jR 101 :: st) σ Q := WP_getR (ci := 11) (k := 1) mq269 dd269_75 (by decide) rfl
theorem dd269_78 : decode cX12_clears 78 = .ok (.bipush 66, 2) := by decide +kernel
theorem ww269_78 {d : Nat} {l0 l1 l2 l3 l4 : Option mw_V} {st : List mw_V} {σ : mw_S} {Q : Option mw_V → mw_S → Prop} : mw_WP d 269 78 [l0, l1, l2, l3, l4] st σ Q ↔ mw_WP d 269 80 [l0, l1, l2, l3, l4] (jI (66) :: st) σ Q := WP_bipush mq269 dd269_78 (by decide)
theorem dd269_80 : decode cX12_clears 80 = .ok (.iconst 3, 1) := by decide +kernel
theorem ww269_80 {d : Nat} {l0 l1 l2 l3 l4 : Option mw_V} {st : List mw_V} {σ : mw_S} {Q : Option mw_V → mw_S → Prop} : mw_WP d 269 80 [l0, l1, l2, l3, l4] st σ Q ↔ mw_WP d 269 81 [l0, l1, l2, l3, l4] (jI (3) :: st) σ Q := WP_iconst mq269 dd269_80 (by decide)
theorem dd269_81 : decode cX12_clears 81 = .ok (.iload_n 2, 1) := by decide +kernel
theorem ww269_81 {d : Nat} {l0 l1 l3 l4 : Option mw_V} {x : Int} {st : List mw_V} {σ : mw_S} {Q : Option mw_V → mw_S → Prop} : mw_WP d 269 81 [l0, l1, some (jI x), l3, l4] st σ Q ↔ mw_WP d 269 82 [l0, l1, some (jI x), l3, l4] (jI x :: st) σ Q := WP_iload_n mq269 dd269_81 rfl
theorem dd269_82 : decode cX12_clears 82 = .ok (.imul, 1) := by decide +kernel
theorem ww269_82 {d : Nat} {l0 l1 l2 l3 l4 : Option mw_V} {x y : Int} {st : List mw_V} {σ : mw_S} {Q : Option mw_V → mw_S → Prop} : mw_WP d 269 82 [l0, l1, l2, l3, l4] (jI y :: jI x :: st) σ Q ↔ mw_WP d 269 83 [l0, l1, l2, l3, l4] (jI (w32 (x * y)) :: st) σ Q := WP_imul mq269 dd269_82
theorem dd269_83 : decode cX12_clears 83 = .ok (.iadd, 1) := by decide +kernel
theorem ww269_83 {d : Nat} {l0 l1 l2 l3 l4 : Option mw_V} {x y : Int} {st : List mw_V} {σ : mw_S} {Q : Option mw_V → mw_S → Prop} : mw_WP d 269 83 [l0, l1, l2, l3, l4] (jI y :: jI x :: st) σ Q ↔ mw_WP d 269 84 [l0, l1, l2, l3, l4] (jI (w32 (x + y)) :: st) σ Q := WP_iadd mq269 dd269_83
theorem dd269_84 : decode cX12_clears 84 = .ok (.iload_n 3, 1) := by decide +kernel
theorem ww269_84 {d : Nat} {l0 l1 l2 l4 : Option mw_V} {x : Int} {st : List mw_V} {σ : mw_S} {Q : Option mw_V → mw_S → Prop} : mw_WP d 269 84 [l0, l1, l2, some (jI x), l4] st σ Q ↔ mw_WP d 269 85 [l0, l1, l2, some (jI x), l4] (jI x :: st) σ Q := WP_iload_n mq269 dd269_84 rfl
theorem dd269_85 : decode cX12_clears 85 = .ok (.iadd, 1) := by decide +kernel
theorem ww269_85 {d : Nat} {l0 l1 l2 l3 l4 : Option mw_V} {x y : Int} {st : List mw_V} {σ : mw_S} {Q : Option mw_V → mw_S → Prop} : mw_WP d 269 85 [l0, l1, l2, l3, l4] (jI y :: jI x :: st) σ Q ↔ mw_WP d 269 86 [l0, l1, l2, l3, l4] (jI (w32 (x + y)) :: st) σ Q := WP_iadd mq269 dd269_85
theorem dd269_86 : decode cX12_clears 86 = .ok (.dup2, 1) := by decide +kernel
theorem ww269_86 {d : Nat} {l0 l1 l2 l3 l4 : Option mw_V} {v w : mw_V} {st : List mw_V} {σ : mw_S} {Q : Option mw_V → mw_S → Prop} (h : mw_cat v = 1) (h2 : mw_cat w = 1) : mw_WP d 269 86 [l0, l1, l2, l3, l4] (v :: w :: st) σ Q ↔ mw_WP d 269 87 [l0, l1, l2, l3, l4] (v :: w :: v :: w :: st) σ Q := WP_dup2 mq269 dd269_86 h h2
theorem dd269_87 : decode cX12_clears 87 = .ok (.iaload, 1) := by decide +kernel
theorem ww269_87 {d : Nat} {l0 l1 l2 l3 l4 : Option mw_V} {z : Int} {a : Nat} {st : List mw_V} {σ : mw_S} {Q : Option mw_V → mw_S → Prop} : mw_WP d 269 87 [l0, l1, l2, l3, l4] (jI z :: jR a :: st) σ Q ↔ ((0 ≤ z ∧ z < mw_lenI a) ∧ mw_WP d 269 88 [l0, l1, l2, l3, l4] (jI (mw_rdI σ a z.toNat) :: st) σ Q) := WP_iaload mq269 dd269_87
theorem dd269_88 : decode cX12_clears 88 = .ok (.iload 4, 2) := by decide +kernel
theorem ww269_88 {d : Nat} {l0 l1 l2 l3 : Option mw_V} {x : Int} {st : List mw_V} {σ : mw_S} {Q : Option mw_V → mw_S → Prop} : mw_WP d 269 88 [l0, l1, l2, l3, some (jI x)] st σ Q ↔ mw_WP d 269 90 [l0, l1, l2, l3, some (jI x)] (jI x :: st) σ Q := WP_iload mq269 dd269_88 rfl
theorem dd269_90 : decode cX12_clears 90 = .ok (.isub, 1) := by decide +kernel
theorem ww269_90 {d : Nat} {l0 l1 l2 l3 l4 : Option mw_V} {x y : Int} {st : List mw_V} {σ : mw_S} {Q : Option mw_V → mw_S → Prop} : mw_WP d 269 90 [l0, l1, l2, l3, l4] (jI y :: jI x :: st) σ Q ↔ mw_WP d 269 91 [l0, l1, l2, l3, l4] (jI (w32 (x - y)) :: st) σ Q := WP_isub mq269 dd269_90
theorem dd269_91 : decode cX12_clears 91 = .ok (.iastore, 1) := by decide +kernel
theorem ww269_91 {d : Nat} {l0 l1 l2 l3 l4 : Option mw_V} {x z : Int} {a : Nat} {st : List mw_V} {σ : mw_S} {Q : Option mw_V → mw_S → Prop} : mw_WP d 269 91 [l0, l1, l2, l3, l4] (jI x :: jI z :: jR a :: st) σ Q ↔ ((0 ≤ z ∧ z < mw_lenW 0 a) ∧ mw_WP d 269 92 [l0, l1, l2, l3, l4] st (upS σ a z.toNat x) Q) := WP_iastore mq269 dd269_91
theorem dd269_92 : decode cX12_clears 92 = .ok (.iload_n 3, 1) := by decide +kernel
theorem ww269_92 {d : Nat} {l0 l1 l2 l4 : Option mw_V} {x : Int} {st : List mw_V} {σ : mw_S} {Q : Option mw_V → mw_S → Prop} : mw_WP d 269 92 [l0, l1, l2, some (jI x), l4] st σ Q ↔ mw_WP d 269 93 [l0, l1, l2, some (jI x), l4] (jI x :: st) σ Q := WP_iload_n mq269 dd269_92 rfl
theorem dd269_93 : decode cX12_clears 93 = .ok (.iload_n 1, 1) := by decide +kernel
theorem ww269_93 {d : Nat} {l0 l2 l3 l4 : Option mw_V} {x : Int} {st : List mw_V} {σ : mw_S} {Q : Option mw_V → mw_S → Prop} : mw_WP d 269 93 [l0, some (jI x), l2, l3, l4] st σ Q ↔ mw_WP d 269 94 [l0, some (jI x), l2, l3, l4] (jI x :: st) σ Q := WP_iload_n mq269 dd269_93 rfl
theorem dd269_94 : decode cX12_clears 94 = .ok (.if_icmp .eq 21, 3) := by decide +kernel
theorem ww269_94 {d : Nat} {l0 l1 l2 l3 l4 : Option mw_V} {x y : Int} {st : List mw_V} {σ : mw_S} {Q : Option mw_V → mw_S → Prop} : mw_WP d 269 94 [l0, l1, l2, l3, l4] (jI y :: jI x :: st) σ Q ↔ (if x = y then mw_WP d 269 115 [l0, l1, l2, l3, l4] st σ Q else mw_WP d 269 97 [l0, l1, l2, l3, l4] st σ Q) := WP_icmp_eq mq269 dd269_94 (by decide)
theorem dd269_97 : decode cX12_clears 97 = .ok (.aload_n 0, 1) := by decide +kernel
theorem ww269_97 {d : Nat} {l1 l2 l3 l4 : Option mw_V} {x : Nat} {st : List mw_V} {σ : mw_S} {Q : Option mw_V → mw_S → Prop} : mw_WP d 269 97 [some (jR x), l1, l2, l3, l4] st σ Q ↔ mw_WP d 269 98 [some (jR x), l1, l2, l3, l4] (jR x :: st) σ Q := WP_aload_n mq269 dd269_97 rfl
theorem dd269_98 : decode cX12_clears 98 = .ok (.getfield 13, 3) := by decide +kernel
theorem ww269_98 {d : Nat} {l0 l1 l2 l3 l4 : Option mw_V} {st : List mw_V} {σ : mw_S} {Q : Option mw_V → mw_S → Prop} : mw_WP d 269 98 [l0, l1, l2, l3, l4] (jR 100 :: st) σ Q ↔ mw_WP d 269 101 [l0, l1, l2, l3, l4] (jR 101 :: st) σ Q := WP_getR (ci := 11) (k := 1) mq269 dd269_98 (by decide) rfl
theorem dd269_101 : decode cX12_clears 101 = .ok (.bipush 66, 2) := by decide +kernel
theorem ww269_101 {d : Nat} {l0 l1 l2 l3 l4 : Option mw_V} {st : List mw_V} {σ : mw_S} {Q : Option mw_V → mw_S → Prop} : mw_WP d 269 101 [l0, l1, l2, l3, l4] st σ Q ↔ mw_WP d 269 103 [l0, l1, l2, l3, l4] (jI (66) :: st) σ Q := WP_bipush mq269 dd269_101 (by decide)
theorem dd269_103 : decode cX12_clears 103 = .ok (.iconst 3, 1) := by decide +kernel
theorem ww269_103 {d : Nat} {l0 l1 l2 l3 l4 : Option mw_V} {st : List mw_V} {σ : mw_S} {Q : Option mw_V → mw_S → Prop} : mw_WP d 269 103 [l0, l1, l2, l3, l4] st σ Q ↔ mw_WP d 269 104 [l0, l1, l2, l3, l4] (jI (3) :: st) σ Q := WP_iconst mq269 dd269_103 (by decide)
theorem dd269_104 : decode cX12_clears 104 = .ok (.iload_n 3, 1) := by decide +kernel
theorem ww269_104 {d : Nat} {l0 l1 l2 l4 : Option mw_V} {x : Int} {st : List mw_V} {σ : mw_S} {Q : Option mw_V → mw_S → Prop} : mw_WP d 269 104 [l0, l1, l2, some (jI x), l4] st σ Q ↔ mw_WP d 269 105 [l0, l1, l2, some (jI x), l4] (jI x :: st) σ Q := WP_iload_n mq269 dd269_104 rfl
theorem dd269_105 : decode cX12_clears 105 = .ok (.imul, 1) := by decide +kernel
theorem ww269_105 {d : Nat} {l0 l1 l2 l3 l4 : Option mw_V} {x y : Int} {st : List mw_V} {σ : mw_S} {Q : Option mw_V → mw_S → Prop} : mw_WP d 269 105 [l0, l1, l2, l3, l4] (jI y :: jI x :: st) σ Q ↔ mw_WP d 269 106 [l0, l1, l2, l3, l4] (jI (w32 (x * y)) :: st) σ Q := WP_imul mq269 dd269_105
theorem dd269_106 : decode cX12_clears 106 = .ok (.iadd, 1) := by decide +kernel
theorem ww269_106 {d : Nat} {l0 l1 l2 l3 l4 : Option mw_V} {x y : Int} {st : List mw_V} {σ : mw_S} {Q : Option mw_V → mw_S → Prop} : mw_WP d 269 106 [l0, l1, l2, l3, l4] (jI y :: jI x :: st) σ Q ↔ mw_WP d 269 107 [l0, l1, l2, l3, l4] (jI (w32 (x + y)) :: st) σ Q := WP_iadd mq269 dd269_106
theorem dd269_107 : decode cX12_clears 107 = .ok (.iload_n 1, 1) := by decide +kernel
theorem ww269_107 {d : Nat} {l0 l2 l3 l4 : Option mw_V} {x : Int} {st : List mw_V} {σ : mw_S} {Q : Option mw_V → mw_S → Prop} : mw_WP d 269 107 [l0, some (jI x), l2, l3, l4] st σ Q ↔ mw_WP d 269 108 [l0, some (jI x), l2, l3, l4] (jI x :: st) σ Q := WP_iload_n mq269 dd269_107 rfl
theorem dd269_108 : decode cX12_clears 108 = .ok (.iadd, 1) := by decide +kernel
theorem ww269_108 {d : Nat} {l0 l1 l2 l3 l4 : Option mw_V} {x y : Int} {st : List mw_V} {σ : mw_S} {Q : Option mw_V → mw_S → Prop} : mw_WP d 269 108 [l0, l1, l2, l3, l4] (jI y :: jI x :: st) σ Q ↔ mw_WP d 269 109 [l0, l1, l2, l3, l4] (jI (w32 (x + y)) :: st) σ Q := WP_iadd mq269 dd269_108
theorem dd269_109 : decode cX12_clears 109 = .ok (.dup2, 1) := by decide +kernel
theorem ww269_109 {d : Nat} {l0 l1 l2 l3 l4 : Option mw_V} {v w : mw_V} {st : List mw_V} {σ : mw_S} {Q : Option mw_V → mw_S → Prop} (h : mw_cat v = 1) (h2 : mw_cat w = 1) : mw_WP d 269 109 [l0, l1, l2, l3, l4] (v :: w :: st) σ Q ↔ mw_WP d 269 110 [l0, l1, l2, l3, l4] (v :: w :: v :: w :: st) σ Q := WP_dup2 mq269 dd269_109 h h2
theorem dd269_110 : decode cX12_clears 110 = .ok (.iaload, 1) := by decide +kernel
theorem ww269_110 {d : Nat} {l0 l1 l2 l3 l4 : Option mw_V} {z : Int} {a : Nat} {st : List mw_V} {σ : mw_S} {Q : Option mw_V → mw_S → Prop} : mw_WP d 269 110 [l0, l1, l2, l3, l4] (jI z :: jR a :: st) σ Q ↔ ((0 ≤ z ∧ z < mw_lenI a) ∧ mw_WP d 269 111 [l0, l1, l2, l3, l4] (jI (mw_rdI σ a z.toNat) :: st) σ Q) := WP_iaload mq269 dd269_110
theorem dd269_111 : decode cX12_clears 111 = .ok (.iload 4, 2) := by decide +kernel
theorem ww269_111 {d : Nat} {l0 l1 l2 l3 : Option mw_V} {x : Int} {st : List mw_V} {σ : mw_S} {Q : Option mw_V → mw_S → Prop} : mw_WP d 269 111 [l0, l1, l2, l3, some (jI x)] st σ Q ↔ mw_WP d 269 113 [l0, l1, l2, l3, some (jI x)] (jI x :: st) σ Q := WP_iload mq269 dd269_111 rfl
theorem dd269_113 : decode cX12_clears 113 = .ok (.isub, 1) := by decide +kernel
theorem ww269_113 {d : Nat} {l0 l1 l2 l3 l4 : Option mw_V} {x y : Int} {st : List mw_V} {σ : mw_S} {Q : Option mw_V → mw_S → Prop} : mw_WP d 269 113 [l0, l1, l2, l3, l4] (jI y :: jI x :: st) σ Q ↔ mw_WP d 269 114 [l0, l1, l2, l3, l4] (jI (w32 (x - y)) :: st) σ Q := WP_isub mq269 dd269_113
theorem dd269_114 : decode cX12_clears 114 = .ok (.iastore, 1) := by decide +kernel
theorem ww269_114 {d : Nat} {l0 l1 l2 l3 l4 : Option mw_V} {x z : Int} {a : Nat} {st : List mw_V} {σ : mw_S} {Q : Option mw_V → mw_S → Prop} : mw_WP d 269 114 [l0, l1, l2, l3, l4] (jI x :: jI z :: jR a :: st) σ Q ↔ ((0 ≤ z ∧ z < mw_lenW 0 a) ∧ mw_WP d 269 115 [l0, l1, l2, l3, l4] st (upS σ a z.toNat x) Q) := WP_iastore mq269 dd269_114
theorem dd269_115 : decode cX12_clears 115 = .ok (.iload_n 3, 1) := by decide +kernel
theorem ww269_115 {d : Nat} {l0 l1 l2 l4 : Option mw_V} {x : Int} {st : List mw_V} {σ : mw_S} {Q : Option mw_V → mw_S → Prop} : mw_WP d 269 115 [l0, l1, l2, some (jI x), l4] st σ Q ↔ mw_WP d 269 116 [l0, l1, l2, some (jI x), l4] (jI x :: st) σ Q := WP_iload_n mq269 dd269_115 rfl
theorem dd269_116 : decode cX12_clears 116 = .ok (.iload_n 1, 1) := by decide +kernel
theorem ww269_116 {d : Nat} {l0 l2 l3 l4 : Option mw_V} {x : Int} {st : List mw_V} {σ : mw_S} {Q : Option mw_V → mw_S → Prop} : mw_WP d 269 116 [l0, some (jI x), l2, l3, l4] st σ Q ↔ mw_WP d 269 117 [l0, some (jI x), l2, l3, l4] (jI x :: st) σ Q := WP_iload_n mq269 dd269_116 rfl
theorem dd269_117 : decode cX12_clears 117 = .ok (.if_icmp .ne 10, 3) := by decide +kernel
theorem ww269_117 {d : Nat} {l0 l1 l2 l3 l4 : Option mw_V} {x y : Int} {st : List mw_V} {σ : mw_S} {Q : Option mw_V → mw_S → Prop} : mw_WP d 269 117 [l0, l1, l2, l3, l4] (jI y :: jI x :: st) σ Q ↔ (if ¬ x = y then mw_WP d 269 127 [l0, l1, l2, l3, l4] st σ Q else mw_WP d 269 120 [l0, l1, l2, l3, l4] st σ Q) := WP_icmp_ne mq269 dd269_117 (by decide)
theorem dd269_120 : decode cX12_clears 120 = .ok (.iconst 2, 1) := by decide +kernel
theorem ww269_120 {d : Nat} {l0 l1 l2 l3 l4 : Option mw_V} {st : List mw_V} {σ : mw_S} {Q : Option mw_V → mw_S → Prop} : mw_WP d 269 120 [l0, l1, l2, l3, l4] st σ Q ↔ mw_WP d 269 121 [l0, l1, l2, l3, l4] (jI (2) :: st) σ Q := WP_iconst mq269 dd269_120 (by decide)
theorem dd269_121 : decode cX12_clears 121 = .ok (.iload 4, 2) := by decide +kernel
theorem ww269_121 {d : Nat} {l0 l1 l2 l3 : Option mw_V} {x : Int} {st : List mw_V} {σ : mw_S} {Q : Option mw_V → mw_S → Prop} : mw_WP d 269 121 [l0, l1, l2, l3, some (jI x)] st σ Q ↔ mw_WP d 269 123 [l0, l1, l2, l3, some (jI x)] (jI x :: st) σ Q := WP_iload mq269 dd269_121 rfl
theorem dd269_123 : decode cX12_clears 123 = .ok (.imul, 1) := by decide +kernel
theorem ww269_123 {d : Nat} {l0 l1 l2 l3 l4 : Option mw_V} {x y : Int} {st : List mw_V} {σ : mw_S} {Q : Option mw_V → mw_S → Prop} : mw_WP d 269 123 [l0, l1, l2, l3, l4] (jI y :: jI x :: st) σ Q ↔ mw_WP d 269 124 [l0, l1, l2, l3, l4] (jI (w32 (x * y)) :: st) σ Q := WP_imul mq269 dd269_123
theorem dd269_124 : decode cX12_clears 124 = .ok (.goto 7, 3) := by decide +kernel
theorem ww269_124 {d : Nat} {l0 l1 l2 l3 l4 : Option mw_V} {st : List mw_V} {σ : mw_S} {Q : Option mw_V → mw_S → Prop} : mw_WP d 269 124 [l0, l1, l2, l3, l4] st σ Q ↔ mw_WP d 269 131 [l0, l1, l2, l3, l4] st σ Q := WP_goto mq269 dd269_124 (by decide)
theorem dd269_127 : decode cX12_clears 127 = .ok (.iconst 3, 1) := by decide +kernel
theorem ww269_127 {d : Nat} {l0 l1 l2 l3 l4 : Option mw_V} {st : List mw_V} {σ : mw_S} {Q : Option mw_V → mw_S → Prop} : mw_WP d 269 127 [l0, l1, l2, l3, l4] st σ Q ↔ mw_WP d 269 128 [l0, l1, l2, l3, l4] (jI (3) :: st) σ Q := WP_iconst mq269 dd269_127 (by decide)
theorem dd269_128 : decode cX12_clears 128 = .ok (.iload 4, 2) := by decide +kernel
theorem ww269_128 {d : Nat} {l0 l1 l2 l3 : Option mw_V} {x : Int} {st : List mw_V} {σ : mw_S} {Q : Option mw_V → mw_S → Prop} : mw_WP d 269 128 [l0, l1, l2, l3, some (jI x)] st σ Q ↔ mw_WP d 269 130 [l0, l1, l2, l3, some (jI x)] (jI x :: st) σ Q := WP_iload mq269 dd269_128 rfl
theorem dd269_130 : decode cX12_clears 130 = .ok (.imul, 1) := by decide +kernel
theorem ww269_130 {d : Nat} {l0 l1 l2 l3 l4 : Option mw_V} {x y : Int} {st : List mw_V} {σ : mw_S} {Q : Option mw_V → mw_S → Prop} : mw_WP d 269 130 [l0, l1, l2, l3, l4] (jI y :: jI x :: st) σ Q ↔ mw_WP d 269 131 [l0, l1, l2, l3, l4] (jI (w32 (x * y)) :: st) σ Q := WP_imul mq269 dd269_130
theorem dd269_131 : decode cX12_clears 131 = .ok (.ireturn, 1) := by decide +kernel
theorem ww269_131 {d : Nat} {l0 l1 l2 l3 l4 : Option mw_V} {z : Int} {σ : mw_S} {Q : Option mw_V → mw_S → Prop} : mw_WP d 269 131 [l0, l1, l2, l3, l4] [jI z] σ Q ↔ Q (some (jI z)) σ := WP_ireturn (ty := .int) mq269 dd269_131 rfl rfl
theorem ee270 {d : Nat} {a : Nat} {σ : mw_S} {Q : Option mw_V → mw_S → Prop} : mw_Call (d + 1) 270 [jR a] σ Q ↔ mw_WP d 270 0 [some (jR a), none, none, none] [] σ Q := CL_u mq270 (Nat.le_of_ble_eq_true rfl) rfl
theorem dd270_0 : decode cX12_clear 0 = .ok (.aload_n 0, 1) := by decide +kernel
theorem ww270_0 {d : Nat} {l1 l2 l3 : Option mw_V} {x : Nat} {st : List mw_V} {σ : mw_S} {Q : Option mw_V → mw_S → Prop} : mw_WP d 270 0 [some (jR x), l1, l2, l3] st σ Q ↔ mw_WP d 270 1 [some (jR x), l1, l2, l3] (jR x :: st) σ Q := WP_aload_n mq270 dd270_0 rfl
theorem dd270_1 : decode cX12_clear 1 = .ok (.iconst 0, 1) := by decide +kernel
theorem ww270_1 {d : Nat} {l0 l1 l2 l3 : Option mw_V} {st : List mw_V} {σ : mw_S} {Q : Option mw_V → mw_S → Prop} : mw_WP d 270 1 [l0, l1, l2, l3] st σ Q ↔ mw_WP d 270 2 [l0, l1, l2, l3] (jI (0) :: st) σ Q := WP_iconst mq270 dd270_1 (by decide)
theorem dd270_2 : decode cX12_clear 2 = .ok (.putfield 1, 3) := by decide +kernel
theorem ww270_2 {d : Nat} {l0 l1 l2 l3 : Option mw_V} {v : Int} {st : List mw_V} {σ : mw_S} {Q : Option mw_V → mw_S → Prop} : mw_WP d 270 2 [l0, l1, l2, l3] (jI v :: jR 100 :: st) σ Q ↔ mw_WP d 270 5 [l0, l1, l2, l3] st (upS σ 100 0 v) Q := WP_putI (ci := 11) (k := 0) mq270 dd270_2 (by decide) rfl
theorem dd270_5 : decode cX12_clear 5 = .ok (.aload_n 0, 1) := by decide +kernel
theorem ww270_5 {d : Nat} {l1 l2 l3 : Option mw_V} {x : Nat} {st : List mw_V} {σ : mw_S} {Q : Option mw_V → mw_S → Prop} : mw_WP d 270 5 [some (jR x), l1, l2, l3] st σ Q ↔ mw_WP d 270 6 [some (jR x), l1, l2, l3] (jR x :: st) σ Q := WP_aload_n mq270 dd270_5 rfl
theorem dd270_6 : decode cX12_clear 6 = .ok (.invokevirtual 275, 3) := by decide +kernel
theorem ww270_6 {d : Nat} {l0 l1 l2 l3 : Option mw_V} {a : Nat} {st : List mw_V} {σ : mw_S} {Q : Option mw_V → mw_S → Prop} (hr : mw_rc a = 12) (h8 : (st.map mw_cat).sum ≤ 8) : mw_WP d 270 6 [l0, l1, l2, l3] (jR a :: st) σ Q ↔ mw_Call d 214 [jR a] σ (fun r1 s1 => mw_WP d 270 9 [l0, l1, l2, l3] (r1.toList ++ st) s1 Q) := WP_inv (as := []) mq270 dd270_6 (by decide) mq214 rfl hr h8
theorem dd270_9 : decode cX12_clear 9 = .ok (.iconst 0, 1) := by decide +kernel
theorem ww270_9 {d : Nat} {l0 l1 l2 l3 : Option mw_V} {st : List mw_V} {σ : mw_S} {Q : Option mw_V → mw_S → Prop} : mw_WP d 270 9 [l0, l1, l2, l3] st σ Q ↔ mw_WP d 270 10 [l0, l1, l2, l3] (jI (0) :: st) σ Q := WP_iconst mq270 dd270_9 (by decide)
theorem dd270_10 : decode cX12_clear 10 = .ok (.istore_n 1, 1) := by decide +kernel
theorem ww270_10 {d : Nat} {l0 l1 l2 l3 : Option mw_V} {x : Int} {st : List mw_V} {σ : mw_S} {Q : Option mw_V → mw_S → Prop} (h : mw_nlo l0 = true) : mw_WP d 270 10 [l0, l1, l2, l3] (jI x :: st) σ Q ↔ mw_WP d 270 11 [l0, some (jI x), l2, l3] st σ Q := WP_istore_n mq270 dd270_10 (Nat.le_of_ble_eq_true rfl) (mw_nl_of (i := 0) rfl h) rfl
theorem dd270_11 : decode cX12_clear 11 = .ok (.iconst 0, 1) := by decide +kernel
theorem ww270_11 {d : Nat} {l0 l1 l2 l3 : Option mw_V} {st : List mw_V} {σ : mw_S} {Q : Option mw_V → mw_S → Prop} : mw_WP d 270 11 [l0, l1, l2, l3] st σ Q ↔ mw_WP d 270 12 [l0, l1, l2, l3] (jI (0) :: st) σ Q := WP_iconst mq270 dd270_11 (by decide)
theorem dd270_12 : decode cX12_clear 12 = .ok (.istore_n 2, 1) := by decide +kernel
theorem ww270_12 {d : Nat} {l0 l1 l2 l3 : Option mw_V} {x : Int} {st : List mw_V} {σ : mw_S} {Q : Option mw_V → mw_S → Prop} (h : mw_nlo l1 = true) : mw_WP d 270 12 [l0, l1, l2, l3] (jI x :: st) σ Q ↔ mw_WP d 270 13 [l0, l1, some (jI x), l3] st σ Q := WP_istore_n mq270 dd270_12 (Nat.le_of_ble_eq_true rfl) (mw_nl_of (i := 1) rfl h) rfl
theorem dd270_13 : decode cX12_clear 13 = .ok (.iload_n 2, 1) := by decide +kernel
theorem ww270_13 {d : Nat} {l0 l1 l3 : Option mw_V} {x : Int} {st : List mw_V} {σ : mw_S} {Q : Option mw_V → mw_S → Prop} : mw_WP d 270 13 [l0, l1, some (jI x), l3] st σ Q ↔ mw_WP d 270 14 [l0, l1, some (jI x), l3] (jI x :: st) σ Q := WP_iload_n mq270 dd270_13 rfl
theorem dd270_14 : decode cX12_clear 14 = .ok (.aload_n 0, 1) := by decide +kernel
theorem ww270_14 {d : Nat} {l1 l2 l3 : Option mw_V} {x : Nat} {st : List mw_V} {σ : mw_S} {Q : Option mw_V → mw_S → Prop} : mw_WP d 270 14 [some (jR x), l1, l2, l3] st σ Q ↔ mw_WP d 270 15 [some (jR x), l1, l2, l3] (jR x :: st) σ Q := WP_aload_n mq270 dd270_14 rfl
theorem dd270_15 : decode cX12_clear 15 = .ok (.getfield 13, 3) := by decide +kernel
theorem ww270_15 {d : Nat} {l0 l1 l2 l3 : Option mw_V} {st : List mw_V} {σ : mw_S} {Q : Option mw_V → mw_S → Prop} : mw_WP d 270 15 [l0, l1, l2, l3] (jR 100 :: st) σ Q ↔ mw_WP d 270 18 [l0, l1, l2, l3] (jR 101 :: st) σ Q := WP_getR (ci := 11) (k := 1) mq270 dd270_15 (by decide) rfl
theorem dd270_18 : decode cX12_clear 18 = .ok (.iconst 2, 1) := by decide +kernel
theorem ww270_18 {d : Nat} {l0 l1 l2 l3 : Option mw_V} {st : List mw_V} {σ : mw_S} {Q : Option mw_V → mw_S → Prop} : mw_WP d 270 18 [l0, l1, l2, l3] st σ Q ↔ mw_WP d 270 19 [l0, l1, l2, l3] (jI (2) :: st) σ Q := WP_iconst mq270 dd270_18 (by decide)
theorem dd270_19 : decode cX12_clear 19 = .ok (.iaload, 1) := by decide +kernel
theorem ww270_19 {d : Nat} {l0 l1 l2 l3 : Option mw_V} {z : Int} {a : Nat} {st : List mw_V} {σ : mw_S} {Q : Option mw_V → mw_S → Prop} : mw_WP d 270 19 [l0, l1, l2, l3] (jI z :: jR a :: st) σ Q ↔ ((0 ≤ z ∧ z < mw_lenI a) ∧ mw_WP d 270 20 [l0, l1, l2, l3] (jI (mw_rdI σ a z.toNat) :: st) σ Q) := WP_iaload mq270 dd270_19
theorem dd270_20 : decode cX12_clear 20 = .ok (.if_icmp .ge 39, 3) := by decide +kernel
theorem ww270_20 {d : Nat} {l0 l1 l2 l3 : Option mw_V} {x y : Int} {st : List mw_V} {σ : mw_S} {Q : Option mw_V → mw_S → Prop} : mw_WP d 270 20 [l0, l1, l2, l3] (jI y :: jI x :: st) σ Q ↔ (if y ≤ x then mw_WP d 270 59 [l0, l1, l2, l3] st σ Q else mw_WP d 270 23 [l0, l1, l2, l3] st σ Q) := WP_icmp_ge mq270 dd270_20 (by decide)
theorem dd270_23 : decode cX12_clear 23 = .ok (.iload_n 2, 1) := by decide +kernel
theorem ww270_23 {d : Nat} {l0 l1 l3 : Option mw_V} {x : Int} {st : List mw_V} {σ : mw_S} {Q : Option mw_V → mw_S → Prop} : mw_WP d 270 23 [l0, l1, some (jI x), l3] st σ Q ↔ mw_WP d 270 24 [l0, l1, some (jI x), l3] (jI x :: st) σ Q := WP_iload_n mq270 dd270_23 rfl
theorem dd270_24 : decode cX12_clear 24 = .ok (.iconst 1, 1) := by decide +kernel
theorem ww270_24 {d : Nat} {l0 l1 l2 l3 : Option mw_V} {st : List mw_V} {σ : mw_S} {Q : Option mw_V → mw_S → Prop} : mw_WP d 270 24 [l0, l1, l2, l3] st σ Q ↔ mw_WP d 270 25 [l0, l1, l2, l3] (jI (1) :: st) σ Q := WP_iconst mq270 dd270_24 (by decide)
theorem dd270_25 : decode cX12_clear 25 = .ok (.iadd, 1) := by decide +kernel
theorem ww270_25 {d : Nat} {l0 l1 l2 l3 : Option mw_V} {x y : Int} {st : List mw_V} {σ : mw_S} {Q : Option mw_V → mw_S → Prop} : mw_WP d 270 25 [l0, l1, l2, l3] (jI y :: jI x :: st) σ Q ↔ mw_WP d 270 26 [l0, l1, l2, l3] (jI (w32 (x + y)) :: st) σ Q := WP_iadd mq270 dd270_25
theorem dd270_26 : decode cX12_clear 26 = .ok (.istore_n 3, 1) := by decide +kernel
theorem ww270_26 {d : Nat} {l0 l1 l2 l3 : Option mw_V} {x : Int} {st : List mw_V} {σ : mw_S} {Q : Option mw_V → mw_S → Prop} (h : mw_nlo l2 = true) : mw_WP d 270 26 [l0, l1, l2, l3] (jI x :: st) σ Q ↔ mw_WP d 270 27 [l0, l1, l2, some (jI x)] st σ Q := WP_istore_n mq270 dd270_26 (Nat.le_of_ble_eq_true rfl) (mw_nl_of (i := 2) rfl h) rfl
theorem dd270_27 : decode cX12_clear 27 = .ok (.iload_n 3, 1) := by decide +kernel
theorem ww270_27 {d : Nat} {l0 l1 l2 : Option mw_V} {x : Int} {st : List mw_V} {σ : mw_S} {Q : Option mw_V → mw_S → Prop} : mw_WP d 270 27 [l0, l1, l2, some (jI x)] st σ Q ↔ mw_WP d 270 28 [l0, l1, l2, some (jI x)] (jI x :: st) σ Q := WP_iload_n mq270 dd270_27 rfl
theorem dd270_28 : decode cX12_clear 28 = .ok (.aload_n 0, 1) := by decide +kernel
theorem ww270_28 {d : Nat} {l1 l2 l3 : Option mw_V} {x : Nat} {st : List mw_V} {σ : mw_S} {Q : Option mw_V → mw_S → Prop} : mw_WP d 270 28 [some (jR x), l1, l2, l3] st σ Q ↔ mw_WP d 270 29 [some (jR x), l1, l2, l3] (jR x :: st) σ Q := WP_aload_n mq270 dd270_28 rfl
theorem dd270_29 : decode cX12_clear 29 = .ok (.getfield 13, 3) := by decide +kernel
theorem ww270_29 {d : Nat} {l0 l1 l2 l3 : Option mw_V} {st : List mw_V} {σ : mw_S} {Q : Option mw_V → mw_S → Prop} : mw_WP d 270 29 [l0, l1, l2, l3] (jR 100 :: st) σ Q ↔ mw_WP d 270 32 [l0, l1, l2, l3] (jR 101 :: st) σ Q := WP_getR (ci := 11) (k := 1) mq270 dd270_29 (by decide) rfl
theorem dd270_32 : decode cX12_clear 32 = .ok (.iconst 2, 1) := by decide +kernel
theorem ww270_32 {d : Nat} {l0 l1 l2 l3 : Option mw_V} {st : List mw_V} {σ : mw_S} {Q : Option mw_V → mw_S → Prop} : mw_WP d 270 32 [l0, l1, l2, l3] st σ Q ↔ mw_WP d 270 33 [l0, l1, l2, l3] (jI (2) :: st) σ Q := WP_iconst mq270 dd270_32 (by decide)
theorem dd270_33 : decode cX12_clear 33 = .ok (.iaload, 1) := by decide +kernel
theorem ww270_33 {d : Nat} {l0 l1 l2 l3 : Option mw_V} {z : Int} {a : Nat} {st : List mw_V} {σ : mw_S} {Q : Option mw_V → mw_S → Prop} : mw_WP d 270 33 [l0, l1, l2, l3] (jI z :: jR a :: st) σ Q ↔ ((0 ≤ z ∧ z < mw_lenI a) ∧ mw_WP d 270 34 [l0, l1, l2, l3] (jI (mw_rdI σ a z.toNat) :: st) σ Q) := WP_iaload mq270 dd270_33
theorem dd270_34 : decode cX12_clear 34 = .ok (.if_icmp .ge 19, 3) := by decide +kernel
theorem ww270_34 {d : Nat} {l0 l1 l2 l3 : Option mw_V} {x y : Int} {st : List mw_V} {σ : mw_S} {Q : Option mw_V → mw_S → Prop} : mw_WP d 270 34 [l0, l1, l2, l3] (jI y :: jI x :: st) σ Q ↔ (if y ≤ x then mw_WP d 270 53 [l0, l1, l2, l3] st σ Q else mw_WP d 270 37 [l0, l1, l2, l3] st σ Q) := WP_icmp_ge mq270 dd270_34 (by decide)
theorem dd270_37 : decode cX12_clear 37 = .ok (.iload_n 1, 1) := by decide +kernel
theorem ww270_37 {d : Nat} {l0 l2 l3 : Option mw_V} {x : Int} {st : List mw_V} {σ : mw_S} {Q : Option mw_V → mw_S → Prop} : mw_WP d 270 37 [l0, some (jI x), l2, l3] st σ Q ↔ mw_WP d 270 38 [l0, some (jI x), l2, l3] (jI x :: st) σ Q := WP_iload_n mq270 dd270_37 rfl
theorem dd270_38 : decode cX12_clear 38 = .ok (.aload_n 0, 1) := by decide +kernel
theorem ww270_38 {d : Nat} {l1 l2 l3 : Option mw_V} {x : Nat} {st : List mw_V} {σ : mw_S} {Q : Option mw_V → mw_S → Prop} : mw_WP d 270 38 [some (jR x), l1, l2, l3] st σ Q ↔ mw_WP d 270 39 [some (jR x), l1, l2, l3] (jR x :: st) σ Q := WP_aload_n mq270 dd270_38 rfl
theorem dd270_39 : decode cX12_clear 39 = .ok (.iload_n 2, 1) := by decide +kernel
theorem ww270_39 {d : Nat} {l0 l1 l3 : Option mw_V} {x : Int} {st : List mw_V} {σ : mw_S} {Q : Option mw_V → mw_S → Prop} : mw_WP d 270 39 [l0, l1, some (jI x), l3] st σ Q ↔ mw_WP d 270 40 [l0, l1, some (jI x), l3] (jI x :: st) σ Q := WP_iload_n mq270 dd270_39 rfl
theorem dd270_40 : decode cX12_clear 40 = .ok (.iload_n 3, 1) := by decide +kernel
theorem ww270_40 {d : Nat} {l0 l1 l2 : Option mw_V} {x : Int} {st : List mw_V} {σ : mw_S} {Q : Option mw_V → mw_S → Prop} : mw_WP d 270 40 [l0, l1, l2, some (jI x)] st σ Q ↔ mw_WP d 270 41 [l0, l1, l2, some (jI x)] (jI x :: st) σ Q := WP_iload_n mq270 dd270_40 rfl
theorem dd270_41 : decode cX12_clear 41 = .ok (.iload_n 2, 1) := by decide +kernel
theorem ww270_41 {d : Nat} {l0 l1 l3 : Option mw_V} {x : Int} {st : List mw_V} {σ : mw_S} {Q : Option mw_V → mw_S → Prop} : mw_WP d 270 41 [l0, l1, some (jI x), l3] st σ Q ↔ mw_WP d 270 42 [l0, l1, some (jI x), l3] (jI x :: st) σ Q := WP_iload_n mq270 dd270_41 rfl
theorem dd270_42 : decode cX12_clear 42 = .ok (.invokevirtual 451, 3) := by decide +kernel
theorem ww270_42 {d : Nat} {l0 l1 l2 l3 : Option mw_V} {v0 v1 v2 : mw_V} {a : Nat} {st : List mw_V} {σ : mw_S} {Q : Option mw_V → mw_S → Prop} (hr : mw_rc a = 12) (h8 : (st.map mw_cat).sum ≤ 8) : mw_WP d 270 42 [l0, l1, l2, l3] (v2 :: v1 :: v0 :: jR a :: st) σ Q ↔ mw_Call d 269 [jR a, v0, v1, v2] σ (fun r1 s1 => mw_WP d 270 45 [l0, l1, l2, l3] (r1.toList ++ st) s1 Q) := WP_inv (as := [v2, v1, v0]) mq270 dd270_42 (by decide) mq269 rfl hr h8
theorem dd270_45 : decode cX12_clear 45 = .ok (.iadd, 1) := by decide +kernel
theorem ww270_45 {d : Nat} {l0 l1 l2 l3 : Option mw_V} {x y : Int} {st : List mw_V} {σ : mw_S} {Q : Option mw_V → mw_S → Prop} : mw_WP d 270 45 [l0, l1, l2, l3] (jI y :: jI x :: st) σ Q ↔ mw_WP d 270 46 [l0, l1, l2, l3] (jI (w32 (x + y)) :: st) σ Q := WP_iadd mq270 dd270_45
theorem dd270_46 : decode cX12_clear 46 = .ok (.istore_n 1, 1) := by decide +kernel
theorem ww270_46 {d : Nat} {l0 l1 l2 l3 : Option mw_V} {x : Int} {st : List mw_V} {σ : mw_S} {Q : Option mw_V → mw_S → Prop} (h : mw_nlo l0 = true) : mw_WP d 270 46 [l0, l1, l2, l3] (jI x :: st) σ Q ↔ mw_WP d 270 47 [l0, some (jI x), l2, l3] st σ Q := WP_istore_n mq270 dd270_46 (Nat.le_of_ble_eq_true rfl) (mw_nl_of (i := 0) rfl h) rfl
theorem dd270_47 : decode cX12_clear 47 = .ok (.iinc 3 1, 3) := by decide +kernel
theorem ww270_47 {d : Nat} {l0 l1 l2 : Option mw_V} {x : Int} {st : List mw_V} {σ : mw_S} {Q : Option mw_V → mw_S → Prop} (h : mw_nlo l2 = true) : mw_WP d 270 47 [l0, l1, l2, some (jI x)] st σ Q ↔ mw_WP d 270 50 [l0, l1, l2, some (jI (w32 (x + (1))))] st σ Q := WP_iinc mq270 dd270_47 rfl (Nat.le_of_ble_eq_true rfl) (mw_nl_of (i := 2) rfl h) rfl
theorem dd270_50 : decode cX12_clear 50 = .ok (.goto (-23), 3) := by decide +kernel
theorem ww270_50 {d : Nat} {l0 l1 l2 l3 : Option mw_V} {st : List mw_V} {σ : mw_S} {Q : Option mw_V → mw_S → Prop} : mw_WP d 270 50 [l0, l1, l2, l3] st σ Q ↔ mw_WP d 270 27 [l0, l1, l2, l3] st σ Q := WP_goto mq270 dd270_50 (by decide)
theorem dd270_53 : decode cX12_clear 53 = .ok (.iinc 2 1, 3) := by decide +kernel
theorem ww270_53 {d : Nat} {l0 l1 l3 : Option mw_V} {x : Int} {st : List mw_V} {σ : mw_S} {Q : Option mw_V → mw_S → Prop} (h : mw_nlo l1 = true) : mw_WP d 270 53 [l0, l1, some (jI x), l3] st σ Q ↔ mw_WP d 270 56 [l0, l1, some (jI (w32 (x + (1)))), l3] st σ Q := WP_iinc mq270 dd270_53 rfl (Nat.le_of_ble_eq_true rfl) (mw_nl_of (i := 1) rfl h) rfl
theorem dd270_56 : decode cX12_clear 56 = .ok (.goto (-43), 3) := by decide +kernel
theorem ww270_56 {d : Nat} {l0 l1 l2 l3 : Option mw_V} {st : List mw_V} {σ : mw_S} {Q : Option mw_V → mw_S → Prop} : mw_WP d 270 56 [l0, l1, l2, l3] st σ Q ↔ mw_WP d 270 13 [l0, l1, l2, l3] st σ Q := WP_goto mq270 dd270_56 (by decide)
theorem dd270_59 : decode cX12_clear 59 = .ok (.aload_n 0, 1) := by decide +kernel
theorem ww270_59 {d : Nat} {l1 l2 l3 : Option mw_V} {x : Nat} {st : List mw_V} {σ : mw_S} {Q : Option mw_V → mw_S → Prop} : mw_WP d 270 59 [some (jR x), l1, l2, l3] st σ Q ↔ mw_WP d 270 60 [some (jR x), l1, l2, l3] (jR x :: st) σ Q := WP_aload_n mq270 dd270_59 rfl
theorem dd270_60 : decode cX12_clear 60 = .ok (.getfield 13, 3) := by decide +kernel
theorem ww270_60 {d : Nat} {l0 l1 l2 l3 : Option mw_V} {st : List mw_V} {σ : mw_S} {Q : Option mw_V → mw_S → Prop} : mw_WP d 270 60 [l0, l1, l2, l3] (jR 100 :: st) σ Q ↔ mw_WP d 270 63 [l0, l1, l2, l3] (jR 101 :: st) σ Q := WP_getR (ci := 11) (k := 1) mq270 dd270_60 (by decide) rfl
theorem dd270_63 : decode cX12_clear 63 = .ok (.iconst 2, 1) := by decide +kernel
theorem ww270_63 {d : Nat} {l0 l1 l2 l3 : Option mw_V} {st : List mw_V} {σ : mw_S} {Q : Option mw_V → mw_S → Prop} : mw_WP d 270 63 [l0, l1, l2, l3] st σ Q ↔ mw_WP d 270 64 [l0, l1, l2, l3] (jI (2) :: st) σ Q := WP_iconst mq270 dd270_63 (by decide)
theorem dd270_64 : decode cX12_clear 64 = .ok (.iaload, 1) := by decide +kernel
theorem ww270_64 {d : Nat} {l0 l1 l2 l3 : Option mw_V} {z : Int} {a : Nat} {st : List mw_V} {σ : mw_S} {Q : Option mw_V → mw_S → Prop} : mw_WP d 270 64 [l0, l1, l2, l3] (jI z :: jR a :: st) σ Q ↔ ((0 ≤ z ∧ z < mw_lenI a) ∧ mw_WP d 270 65 [l0, l1, l2, l3] (jI (mw_rdI σ a z.toNat) :: st) σ Q) := WP_iaload mq270 dd270_64
theorem dd270_65 : decode cX12_clear 65 = .ok (.iconst 3, 1) := by decide +kernel
theorem ww270_65 {d : Nat} {l0 l1 l2 l3 : Option mw_V} {st : List mw_V} {σ : mw_S} {Q : Option mw_V → mw_S → Prop} : mw_WP d 270 65 [l0, l1, l2, l3] st σ Q ↔ mw_WP d 270 66 [l0, l1, l2, l3] (jI (3) :: st) σ Q := WP_iconst mq270 dd270_65 (by decide)
theorem dd270_66 : decode cX12_clear 66 = .ok (.if_icmp .ne 21, 3) := by decide +kernel
theorem ww270_66 {d : Nat} {l0 l1 l2 l3 : Option mw_V} {x y : Int} {st : List mw_V} {σ : mw_S} {Q : Option mw_V → mw_S → Prop} : mw_WP d 270 66 [l0, l1, l2, l3] (jI y :: jI x :: st) σ Q ↔ (if ¬ x = y then mw_WP d 270 87 [l0, l1, l2, l3] st σ Q else mw_WP d 270 69 [l0, l1, l2, l3] st σ Q) := WP_icmp_ne mq270 dd270_66 (by decide)
theorem dd270_69 : decode cX12_clear 69 = .ok (.iload_n 1, 1) := by decide +kernel
theorem ww270_69 {d : Nat} {l0 l2 l3 : Option mw_V} {x : Int} {st : List mw_V} {σ : mw_S} {Q : Option mw_V → mw_S → Prop} : mw_WP d 270 69 [l0, some (jI x), l2, l3] st σ Q ↔ mw_WP d 270 70 [l0, some (jI x), l2, l3] (jI x :: st) σ Q := WP_iload_n mq270 dd270_69 rfl
theorem dd270_70 : decode cX12_clear 70 = .ok (.aload_n 0, 1) := by decide +kernel
theorem ww270_70 {d : Nat} {l1 l2 l3 : Option mw_V} {x : Nat} {st : List mw_V} {σ : mw_S} {Q : Option mw_V → mw_S → Prop} : mw_WP d 270 70 [some (jR x), l1, l2, l3] st σ Q ↔ mw_WP d 270 71 [some (jR x), l1, l2, l3] (jR x :: st) σ Q := WP_aload_n mq270 dd270_70 rfl
theorem dd270_71 : decode cX12_clear 71 = .ok (.iconst 0, 1) := by decide +kernel
theorem ww270_71 {d : Nat} {l0 l1 l2 l3 : Option mw_V} {st : List mw_V} {σ : mw_S} {Q : Option mw_V → mw_S → Prop} : mw_WP d 270 71 [l0, l1, l2, l3] st σ Q ↔ mw_WP d 270 72 [l0, l1, l2, l3] (jI (0) :: st) σ Q := WP_iconst mq270 dd270_71 (by decide)
theorem dd270_72 : decode cX12_clear 72 = .ok (.iconst 1, 1) := by decide +kernel
theorem ww270_72 {d : Nat} {l0 l1 l2 l3 : Option mw_V} {st : List mw_V} {σ : mw_S} {Q : Option mw_V → mw_S → Prop} : mw_WP d 270 72 [l0, l1, l2, l3] st σ Q ↔ mw_WP d 270 73 [l0, l1, l2, l3] (jI (1) :: st) σ Q := WP_iconst mq270 dd270_72 (by decide)
theorem dd270_73 : decode cX12_clear 73 = .ok (.iconst 2, 1) := by decide +kernel
theorem ww270_73 {d : Nat} {l0 l1 l2 l3 : Option mw_V} {st : List mw_V} {σ : mw_S} {Q : Option mw_V → mw_S → Prop} : mw_WP d 270 73 [l0, l1, l2, l3] st σ Q ↔ mw_WP d 270 74 [l0, l1, l2, l3] (jI (2) :: st) σ Q := WP_iconst mq270 dd270_73 (by decide)
theorem dd270_74 : decode cX12_clear 74 = .ok (.invokevirtual 451, 3) := by decide +kernel
theorem ww270_74 {d : Nat} {l0 l1 l2 l3 : Option mw_V} {v0 v1 v2 : mw_V} {a : Nat} {st : List mw_V} {σ : mw_S} {Q : Option mw_V → mw_S → Prop} (hr : mw_rc a = 12) (h8 : (st.map mw_cat).sum ≤ 8) : mw_WP d 270 74 [l0, l1, l2, l3] (v2 :: v1 :: v0 :: jR a :: st) σ Q ↔ mw_Call d 269 [jR a, v0, v1, v2] σ (fun r1 s1 => mw_WP d 270 77 [l0, l1, l2, l3] (r1.toList ++ st) s1 Q) := WP_inv (as := [v2, v1, v0]) mq270 dd270_74 (by decide) mq269 rfl hr h8
theorem dd270_77 : decode cX12_clear 77 = .ok (.aload_n 0, 1) := by decide +kernel
theorem ww270_77 {d : Nat} {l1 l2 l3 : Option mw_V} {x : Nat} {st : List mw_V} {σ : mw_S} {Q : Option mw_V → mw_S → Prop} : mw_WP d 270 77 [some (jR x), l1, l2, l3] st σ Q ↔ mw_WP d 270 78 [some (jR x), l1, l2, l3] (jR x :: st) σ Q := WP_aload_n mq270 dd270_77 rfl
theorem dd270_78 : decode cX12_clear 78 = .ok (.iconst 0, 1) := by decide +kernel
theorem ww270_78 {d : Nat} {l0 l1 l2 l3 : Option mw_V} {st : List mw_V} {σ : mw_S} {Q : Option mw_V → mw_S → Prop} : mw_WP d 270 78 [l0, l1, l2, l3] st σ Q ↔ mw_WP d 270 79 [l0, l1, l2, l3] (jI (0) :: st) σ Q := WP_iconst mq270 dd270_78 (by decide)
theorem dd270_79 : decode cX12_clear 79 = .ok (.iconst 2, 1) := by decide +kernel
theorem ww270_79 {d : Nat} {l0 l1 l2 l3 : Option mw_V} {st : List mw_V} {σ : mw_S} {Q : Option mw_V → mw_S → Prop} : mw_WP d 270 79 [l0, l1, l2, l3] st σ Q ↔ mw_WP d 270 80 [l0, l1, l2, l3] (jI (2) :: st) σ Q := WP_iconst mq270 dd270_79 (by decide)
theorem dd270_80 : decode cX12_clear 80 = .ok (.iconst 1, 1) := by decide +kernel
theorem ww270_80 {d : Nat} {l0 l1 l2 l3 : Option mw_V} {st : List mw_V} {σ : mw_S} {Q : Option mw_V → mw_S → Prop} : mw_WP d 270 80 [l0, l1, l2, l3] st σ Q ↔ mw_WP d 270 81 [l0, l1, l2, l3] (jI (1) :: st) σ Q := WP_iconst mq270 dd270_80 (by decide)
theorem dd270_81 : decode cX12_clear 81 = .ok (.invokevirtual 451, 3) := by decide +kernel
theorem ww270_81 {d : Nat} {l0 l1 l2 l3 : Option mw_V} {v0 v1 v2 : mw_V} {a : Nat} {st : List mw_V} {σ : mw_S} {Q : Option mw_V → mw_S → Prop} (hr : mw_rc a = 12) (h8 : (st.map mw_cat).sum ≤ 8) : mw_WP d 270 81 [l0, l1, l2, l3] (v2 :: v1 :: v0 :: jR a :: st) σ Q ↔ mw_Call d 269 [jR a, v0, v1, v2] σ (fun r1 s1 => mw_WP d 270 84 [l0, l1, l2, l3] (r1.toList ++ st) s1 Q) := WP_inv (as := [v2, v1, v0]) mq270 dd270_81 (by decide) mq269 rfl hr h8
theorem dd270_84 : decode cX12_clear 84 = .ok (.iadd, 1) := by decide +kernel
theorem ww270_84 {d : Nat} {l0 l1 l2 l3 : Option mw_V} {x y : Int} {st : List mw_V} {σ : mw_S} {Q : Option mw_V → mw_S → Prop} : mw_WP d 270 84 [l0, l1, l2, l3] (jI y :: jI x :: st) σ Q ↔ mw_WP d 270 85 [l0, l1, l2, l3] (jI (w32 (x + y)) :: st) σ Q := WP_iadd mq270 dd270_84
theorem dd270_85 : decode cX12_clear 85 = .ok (.iadd, 1) := by decide +kernel
theorem ww270_85 {d : Nat} {l0 l1 l2 l3 : Option mw_V} {x y : Int} {st : List mw_V} {σ : mw_S} {Q : Option mw_V → mw_S → Prop} : mw_WP d 270 85 [l0, l1, l2, l3] (jI y :: jI x :: st) σ Q ↔ mw_WP d 270 86 [l0, l1, l2, l3] (jI (w32 (x + y)) :: st) σ Q := WP_iadd mq270 dd270_85
theorem dd270_86 : decode cX12_clear 86 = .ok (.istore_n 1, 1) := by decide +kernel
theorem ww270_86 {d : Nat} {l0 l1 l2 l3 : Option mw_V} {x : Int} {st : List mw_V} {σ : mw_S} {Q : Option mw_V → mw_S → Prop} (h : mw_nlo l0 = true) : mw_WP d 270 86 [l0, l1, l2, l3] (jI x :: st) σ Q ↔ mw_WP d 270 87 [l0, some (jI x), l2, l3] st σ Q := WP_istore_n mq270 dd270_86 (Nat.le_of_ble_eq_true rfl) (mw_nl_of (i := 0) rfl h) rfl
theorem dd270_87 : decode cX12_clear 87 = .ok (.iload_n 1, 1) := by decide +kernel
theorem ww270_87 {d : Nat} {l0 l2 l3 : Option mw_V} {x : Int} {st : List mw_V} {σ : mw_S} {Q : Option mw_V → mw_S → Prop} : mw_WP d 270 87 [l0, some (jI x), l2, l3] st σ Q ↔ mw_WP d 270 88 [l0, some (jI x), l2, l3] (jI x :: st) σ Q := WP_iload_n mq270 dd270_87 rfl
theorem dd270_88 : decode cX12_clear 88 = .ok (.ifCond .le 7, 3) := by decide +kernel
theorem ww270_88 {d : Nat} {l0 l1 l2 l3 : Option mw_V} {x : Int} {st : List mw_V} {σ : mw_S} {Q : Option mw_V → mw_S → Prop} : mw_WP d 270 88 [l0, l1, l2, l3] (jI x :: st) σ Q ↔ (if x ≤ 0 then mw_WP d 270 95 [l0, l1, l2, l3] st σ Q else mw_WP d 270 91 [l0, l1, l2, l3] st σ Q) := WP_if_le mq270 dd270_88 (by decide)
theorem dd270_91 : decode cX12_clear 91 = .ok (.aload_n 0, 1) := by decide +kernel
theorem ww270_91 {d : Nat} {l1 l2 l3 : Option mw_V} {x : Nat} {st : List mw_V} {σ : mw_S} {Q : Option mw_V → mw_S → Prop} : mw_WP d 270 91 [some (jR x), l1, l2, l3] st σ Q ↔ mw_WP d 270 92 [some (jR x), l1, l2, l3] (jR x :: st) σ Q := WP_aload_n mq270 dd270_91 rfl
theorem dd270_92 : decode cX12_clear 92 = .ok (.invokevirtual 291, 3) := by decide +kernel
theorem ww270_92 {d : Nat} {l0 l1 l2 l3 : Option mw_V} {a : Nat} {st : List mw_V} {σ : mw_S} {Q : Option mw_V → mw_S → Prop} (hr : mw_rc a = 12) (h8 : (st.map mw_cat).sum ≤ 8) : mw_WP d 270 92 [l0, l1, l2, l3] (jR a :: st) σ Q ↔ mw_Call d 216 [jR a] σ (fun r1 s1 => mw_WP d 270 95 [l0, l1, l2, l3] (r1.toList ++ st) s1 Q) := WP_inv (as := []) mq270 dd270_92 (by decide) mq216 rfl hr h8
theorem dd270_95 : decode cX12_clear 95 = .ok (.iload_n 1, 1) := by decide +kernel
theorem ww270_95 {d : Nat} {l0 l2 l3 : Option mw_V} {x : Int} {st : List mw_V} {σ : mw_S} {Q : Option mw_V → mw_S → Prop} : mw_WP d 270 95 [l0, some (jI x), l2, l3] st σ Q ↔ mw_WP d 270 96 [l0, some (jI x), l2, l3] (jI x :: st) σ Q := WP_iload_n mq270 dd270_95 rfl
theorem dd270_96 : decode cX12_clear 96 = .ok (.ireturn, 1) := by decide +kernel
theorem ww270_96 {d : Nat} {l0 l1 l2 l3 : Option mw_V} {z : Int} {σ : mw_S} {Q : Option mw_V → mw_S → Prop} : mw_WP d 270 96 [l0, l1, l2, l3] [jI z] σ Q ↔ Q (some (jI z)) σ := WP_ireturn (ty := .int) mq270 dd270_96 rfl rfl
theorem ee271 {d : Nat} {a : Nat} {σ : mw_S} {Q : Option mw_V → mw_S → Prop} : mw_Call (d + 1) 271 [jR a] σ Q ↔ mw_WP d 271 0 [some (jR a), none, none] [] σ Q := CL_u mq271 (Nat.le_of_ble_eq_true rfl) rfl
theorem dd271_0 : decode cX12_payments 0 = .ok (.aload_n 0, 1) := by decide +kernel
theorem ww271_0 {d : Nat} {l1 l2 : Option mw_V} {x : Nat} {st : List mw_V} {σ : mw_S} {Q : Option mw_V → mw_S → Prop} : mw_WP d 271 0 [some (jR x), l1, l2] st σ Q ↔ mw_WP d 271 1 [some (jR x), l1, l2] (jR x :: st) σ Q := WP_aload_n mq271 dd271_0 rfl
theorem dd271_1 : decode cX12_payments 1 = .ok (.iconst 0, 1) := by decide +kernel
theorem ww271_1 {d : Nat} {l0 l1 l2 : Option mw_V} {st : List mw_V} {σ : mw_S} {Q : Option mw_V → mw_S → Prop} : mw_WP d 271 1 [l0, l1, l2] st σ Q ↔ mw_WP d 271 2 [l0, l1, l2] (jI (0) :: st) σ Q := WP_iconst mq271 dd271_1 (by decide)
theorem dd271_2 : decode cX12_payments 2 = .ok (.putfield 1, 3) := by decide +kernel
theorem ww271_2 {d : Nat} {l0 l1 l2 : Option mw_V} {v : Int} {st : List mw_V} {σ : mw_S} {Q : Option mw_V → mw_S → Prop} : mw_WP d 271 2 [l0, l1, l2] (jI v :: jR 100 :: st) σ Q ↔ mw_WP d 271 5 [l0, l1, l2] st (upS σ 100 0 v) Q := WP_putI (ci := 11) (k := 0) mq271 dd271_2 (by decide) rfl
theorem dd271_5 : decode cX12_payments 5 = .ok (.iconst 0, 1) := by decide +kernel
theorem ww271_5 {d : Nat} {l0 l1 l2 : Option mw_V} {st : List mw_V} {σ : mw_S} {Q : Option mw_V → mw_S → Prop} : mw_WP d 271 5 [l0, l1, l2] st σ Q ↔ mw_WP d 271 6 [l0, l1, l2] (jI (0) :: st) σ Q := WP_iconst mq271 dd271_5 (by decide)
theorem dd271_6 : decode cX12_payments 6 = .ok (.istore_n 1, 1) := by decide +kernel
theorem ww271_6 {d : Nat} {l0 l1 l2 : Option mw_V} {x : Int} {st : List mw_V} {σ : mw_S} {Q : Option mw_V → mw_S → Prop} (h : mw_nlo l0 = true) : mw_WP d 271 6 [l0, l1, l2] (jI x :: st) σ Q ↔ mw_WP d 271 7 [l0, some (jI x), l2] st σ Q := WP_istore_n mq271 dd271_6 (Nat.le_of_ble_eq_true rfl) (mw_nl_of (i := 0) rfl h) rfl
theorem dd271_7 : decode cX12_payments 7 = .ok (.iconst 0, 1) := by decide +kernel
theorem ww271_7 {d : Nat} {l0 l1 l2 : Option mw_V} {st : List mw_V} {σ : mw_S} {Q : Option mw_V → mw_S → Prop} : mw_WP d 271 7 [l0, l1, l2] st σ Q ↔ mw_WP d 271 8 [l0, l1, l2] (jI (0) :: st) σ Q := WP_iconst mq271 dd271_7 (by decide)
theorem dd271_8 : decode cX12_payments 8 = .ok (.istore_n 2, 1) := by decide +kernel
theorem ww271_8 {d : Nat} {l0 l1 l2 : Option mw_V} {x : Int} {st : List mw_V} {σ : mw_S} {Q : Option mw_V → mw_S → Prop} (h : mw_nlo l1 = true) : mw_WP d 271 8 [l0, l1, l2] (jI x :: st) σ Q ↔ mw_WP d 271 9 [l0, l1, some (jI x)] st σ Q := WP_istore_n mq271 dd271_8 (Nat.le_of_ble_eq_true rfl) (mw_nl_of (i := 1) rfl h) rfl
theorem dd271_9 : decode cX12_payments 9 = .ok (.iload_n 2, 1) := by decide +kernel
theorem ww271_9 {d : Nat} {l0 l1 : Option mw_V} {x : Int} {st : List mw_V} {σ : mw_S} {Q : Option mw_V → mw_S → Prop} : mw_WP d 271 9 [l0, l1, some (jI x)] st σ Q ↔ mw_WP d 271 10 [l0, l1, some (jI x)] (jI x :: st) σ Q := WP_iload_n mq271 dd271_9 rfl
theorem dd271_10 : decode cX12_payments 10 = .ok (.aload_n 0, 1) := by decide +kernel
theorem ww271_10 {d : Nat} {l1 l2 : Option mw_V} {x : Nat} {st : List mw_V} {σ : mw_S} {Q : Option mw_V → mw_S → Prop} : mw_WP d 271 10 [some (jR x), l1, l2] st σ Q ↔ mw_WP d 271 11 [some (jR x), l1, l2] (jR x :: st) σ Q := WP_aload_n mq271 dd271_10 rfl
theorem dd271_11 : decode cX12_payments 11 = .ok (.getfield 13, 3) := by decide +kernel
theorem ww271_11 {d : Nat} {l0 l1 l2 : Option mw_V} {st : List mw_V} {σ : mw_S} {Q : Option mw_V → mw_S → Prop} : mw_WP d 271 11 [l0, l1, l2] (jR 100 :: st) σ Q ↔ mw_WP d 271 14 [l0, l1, l2] (jR 101 :: st) σ Q := WP_getR (ci := 11) (k := 1) mq271 dd271_11 (by decide) rfl
theorem dd271_14 : decode cX12_payments 14 = .ok (.iconst 2, 1) := by decide +kernel
theorem ww271_14 {d : Nat} {l0 l1 l2 : Option mw_V} {st : List mw_V} {σ : mw_S} {Q : Option mw_V → mw_S → Prop} : mw_WP d 271 14 [l0, l1, l2] st σ Q ↔ mw_WP d 271 15 [l0, l1, l2] (jI (2) :: st) σ Q := WP_iconst mq271 dd271_14 (by decide)
theorem dd271_15 : decode cX12_payments 15 = .ok (.iaload, 1) := by decide +kernel
theorem ww271_15 {d : Nat} {l0 l1 l2 : Option mw_V} {z : Int} {a : Nat} {st : List mw_V} {σ : mw_S} {Q : Option mw_V → mw_S → Prop} : mw_WP d 271 15 [l0, l1, l2] (jI z :: jR a :: st) σ Q ↔ ((0 ≤ z ∧ z < mw_lenI a) ∧ mw_WP d 271 16 [l0, l1, l2] (jI (mw_rdI σ a z.toNat) :: st) σ Q) := WP_iaload mq271 dd271_15
theorem dd271_16 : decode cX12_payments 16 = .ok (.if_icmp .ge 25, 3) := by decide +kernel
theorem ww271_16 {d : Nat} {l0 l1 l2 : Option mw_V} {x y : Int} {st : List mw_V} {σ : mw_S} {Q : Option mw_V → mw_S → Prop} : mw_WP d 271 16 [l0, l1, l2] (jI y :: jI x :: st) σ Q ↔ (if y ≤ x then mw_WP d 271 41 [l0, l1, l2] st σ Q else mw_WP d 271 19 [l0, l1, l2] st σ Q) := WP_icmp_ge mq271 dd271_16 (by decide)
theorem dd271_19 : decode cX12_payments 19 = .ok (.iload_n 1, 1) := by decide +kernel
theorem ww271_19 {d : Nat} {l0 l2 : Option mw_V} {x : Int} {st : List mw_V} {σ : mw_S} {Q : Option mw_V → mw_S → Prop} : mw_WP d 271 19 [l0, some (jI x), l2] st σ Q ↔ mw_WP d 271 20 [l0, some (jI x), l2] (jI x :: st) σ Q := WP_iload_n mq271 dd271_19 rfl
theorem dd271_20 : decode cX12_payments 20 = .ok (.aload_n 0, 1) := by decide +kernel
theorem ww271_20 {d : Nat} {l1 l2 : Option mw_V} {x : Nat} {st : List mw_V} {σ : mw_S} {Q : Option mw_V → mw_S → Prop} : mw_WP d 271 20 [some (jR x), l1, l2] st σ Q ↔ mw_WP d 271 21 [some (jR x), l1, l2] (jR x :: st) σ Q := WP_aload_n mq271 dd271_20 rfl
theorem dd271_21 : decode cX12_payments 21 = .ok (.iload_n 2, 1) := by decide +kernel
theorem ww271_21 {d : Nat} {l0 l1 : Option mw_V} {x : Int} {st : List mw_V} {σ : mw_S} {Q : Option mw_V → mw_S → Prop} : mw_WP d 271 21 [l0, l1, some (jI x)] st σ Q ↔ mw_WP d 271 22 [l0, l1, some (jI x)] (jI x :: st) σ Q := WP_iload_n mq271 dd271_21 rfl
theorem dd271_22 : decode cX12_payments 22 = .ok (.invokevirtual 448, 3) := by decide +kernel
theorem ww271_22 {d : Nat} {l0 l1 l2 : Option mw_V} {v0 : mw_V} {a : Nat} {st : List mw_V} {σ : mw_S} {Q : Option mw_V → mw_S → Prop} (hr : mw_rc a = 12) (h8 : (st.map mw_cat).sum ≤ 8) : mw_WP d 271 22 [l0, l1, l2] (v0 :: jR a :: st) σ Q ↔ mw_Call d 267 [jR a, v0] σ (fun r1 s1 => mw_WP d 271 25 [l0, l1, l2] (r1.toList ++ st) s1 Q) := WP_inv (as := [v0]) mq271 dd271_22 (by decide) mq267 rfl hr h8
theorem dd271_25 : decode cX12_payments 25 = .ok (.ifCond .eq 7, 3) := by decide +kernel
theorem ww271_25 {d : Nat} {l0 l1 l2 : Option mw_V} {x : Int} {st : List mw_V} {σ : mw_S} {Q : Option mw_V → mw_S → Prop} : mw_WP d 271 25 [l0, l1, l2] (jI x :: st) σ Q ↔ (if x = 0 then mw_WP d 271 32 [l0, l1, l2] st σ Q else mw_WP d 271 28 [l0, l1, l2] st σ Q) := WP_if_eq mq271 dd271_25 (by decide)
theorem dd271_28 : decode cX12_payments 28 = .ok (.iconst 1, 1) := by decide +kernel
theorem ww271_28 {d : Nat} {l0 l1 l2 : Option mw_V} {st : List mw_V} {σ : mw_S} {Q : Option mw_V → mw_S → Prop} : mw_WP d 271 28 [l0, l1, l2] st σ Q ↔ mw_WP d 271 29 [l0, l1, l2] (jI (1) :: st) σ Q := WP_iconst mq271 dd271_28 (by decide)
theorem dd271_29 : decode cX12_payments 29 = .ok (.goto 4, 3) := by decide +kernel
theorem ww271_29 {d : Nat} {l0 l1 l2 : Option mw_V} {st : List mw_V} {σ : mw_S} {Q : Option mw_V → mw_S → Prop} : mw_WP d 271 29 [l0, l1, l2] st σ Q ↔ mw_WP d 271 33 [l0, l1, l2] st σ Q := WP_goto mq271 dd271_29 (by decide)
theorem dd271_32 : decode cX12_payments 32 = .ok (.iconst 0, 1) := by decide +kernel
theorem ww271_32 {d : Nat} {l0 l1 l2 : Option mw_V} {st : List mw_V} {σ : mw_S} {Q : Option mw_V → mw_S → Prop} : mw_WP d 271 32 [l0, l1, l2] st σ Q ↔ mw_WP d 271 33 [l0, l1, l2] (jI (0) :: st) σ Q := WP_iconst mq271 dd271_32 (by decide)
theorem dd271_33 : decode cX12_payments 33 = .ok (.iadd, 1) := by decide +kernel
theorem ww271_33 {d : Nat} {l0 l1 l2 : Option mw_V} {x y : Int} {st : List mw_V} {σ : mw_S} {Q : Option mw_V → mw_S → Prop} : mw_WP d 271 33 [l0, l1, l2] (jI y :: jI x :: st) σ Q ↔ mw_WP d 271 34 [l0, l1, l2] (jI (w32 (x + y)) :: st) σ Q := WP_iadd mq271 dd271_33
theorem dd271_34 : decode cX12_payments 34 = .ok (.istore_n 1, 1) := by decide +kernel
theorem ww271_34 {d : Nat} {l0 l1 l2 : Option mw_V} {x : Int} {st : List mw_V} {σ : mw_S} {Q : Option mw_V → mw_S → Prop} (h : mw_nlo l0 = true) : mw_WP d 271 34 [l0, l1, l2] (jI x :: st) σ Q ↔ mw_WP d 271 35 [l0, some (jI x), l2] st σ Q := WP_istore_n mq271 dd271_34 (Nat.le_of_ble_eq_true rfl) (mw_nl_of (i := 0) rfl h) rfl
theorem dd271_35 : decode cX12_payments 35 = .ok (.iinc 2 1, 3) := by decide +kernel
theorem ww271_35 {d : Nat} {l0 l1 : Option mw_V} {x : Int} {st : List mw_V} {σ : mw_S} {Q : Option mw_V → mw_S → Prop} (h : mw_nlo l1 = true) : mw_WP d 271 35 [l0, l1, some (jI x)] st σ Q ↔ mw_WP d 271 38 [l0, l1, some (jI (w32 (x + (1))))] st σ Q := WP_iinc mq271 dd271_35 rfl (Nat.le_of_ble_eq_true rfl) (mw_nl_of (i := 1) rfl h) rfl
theorem dd271_38 : decode cX12_payments 38 = .ok (.goto (-29), 3) := by decide +kernel
theorem ww271_38 {d : Nat} {l0 l1 l2 : Option mw_V} {st : List mw_V} {σ : mw_S} {Q : Option mw_V → mw_S → Prop} : mw_WP d 271 38 [l0, l1, l2] st σ Q ↔ mw_WP d 271 9 [l0, l1, l2] st σ Q := WP_goto mq271 dd271_38 (by decide)
theorem dd271_41 : decode cX12_payments 41 = .ok (.iload_n 1, 1) := by decide +kernel
theorem ww271_41 {d : Nat} {l0 l2 : Option mw_V} {x : Int} {st : List mw_V} {σ : mw_S} {Q : Option mw_V → mw_S → Prop} : mw_WP d 271 41 [l0, some (jI x), l2] st σ Q ↔ mw_WP d 271 42 [l0, some (jI x), l2] (jI x :: st) σ Q := WP_iload_n mq271 dd271_41 rfl
theorem dd271_42 : decode cX12_payments 42 = .ok (.ifCond .le 9, 3) := by decide +kernel
theorem ww271_42 {d : Nat} {l0 l1 l2 : Option mw_V} {x : Int} {st : List mw_V} {σ : mw_S} {Q : Option mw_V → mw_S → Prop} : mw_WP d 271 42 [l0, l1, l2] (jI x :: st) σ Q ↔ (if x ≤ 0 then mw_WP d 271 51 [l0, l1, l2] st σ Q else mw_WP d 271 45 [l0, l1, l2] st σ Q) := WP_if_le mq271 dd271_42 (by decide)
theorem dd271_45 : decode cX12_payments 45 = .ok (.iload_n 1, 1) := by decide +kernel
theorem ww271_45 {d : Nat} {l0 l2 : Option mw_V} {x : Int} {st : List mw_V} {σ : mw_S} {Q : Option mw_V → mw_S → Prop} : mw_WP d 271 45 [l0, some (jI x), l2] st σ Q ↔ mw_WP d 271 46 [l0, some (jI x), l2] (jI x :: st) σ Q := WP_iload_n mq271 dd271_45 rfl
theorem dd271_46 : decode cX12_payments 46 = .ok (.iconst 1, 1) := by decide +kernel
theorem ww271_46 {d : Nat} {l0 l1 l2 : Option mw_V} {st : List mw_V} {σ : mw_S} {Q : Option mw_V → mw_S → Prop} : mw_WP d 271 46 [l0, l1, l2] st σ Q ↔ mw_WP d 271 47 [l0, l1, l2] (jI (1) :: st) σ Q := WP_iconst mq271 dd271_46 (by decide)
theorem dd271_47 : decode cX12_payments 47 = .ok (.isub, 1) := by decide +kernel
theorem ww271_47 {d : Nat} {l0 l1 l2 : Option mw_V} {x y : Int} {st : List mw_V} {σ : mw_S} {Q : Option mw_V → mw_S → Prop} : mw_WP d 271 47 [l0, l1, l2] (jI y :: jI x :: st) σ Q ↔ mw_WP d 271 48 [l0, l1, l2] (jI (w32 (x - y)) :: st) σ Q := WP_isub mq271 dd271_47
theorem dd271_48 : decode cX12_payments 48 = .ok (.goto 4, 3) := by decide +kernel
theorem ww271_48 {d : Nat} {l0 l1 l2 : Option mw_V} {st : List mw_V} {σ : mw_S} {Q : Option mw_V → mw_S → Prop} : mw_WP d 271 48 [l0, l1, l2] st σ Q ↔ mw_WP d 271 52 [l0, l1, l2] st σ Q := WP_goto mq271 dd271_48 (by decide)
theorem dd271_51 : decode cX12_payments 51 = .ok (.iconst 0, 1) := by decide +kernel
theorem ww271_51 {d : Nat} {l0 l1 l2 : Option mw_V} {st : List mw_V} {σ : mw_S} {Q : Option mw_V → mw_S → Prop} : mw_WP d 271 51 [l0, l1, l2] st σ Q ↔ mw_WP d 271 52 [l0, l1, l2] (jI (0) :: st) σ Q := WP_iconst mq271 dd271_51 (by decide)
theorem dd271_52 : decode cX12_payments 52 = .ok (.ireturn, 1) := by decide +kernel
theorem ww271_52 {d : Nat} {l0 l1 l2 : Option mw_V} {z : Int} {σ : mw_S} {Q : Option mw_V → mw_S → Prop} : mw_WP d 271 52 [l0, l1, l2] [jI z] σ Q ↔ Q (some (jI z)) σ := WP_ireturn (ty := .int) mq271 dd271_52 rfl rfl
theorem ee272 {d : Nat} {z0 : Int} {z1 : Int} {σ : mw_S} {Q : Option mw_V → mw_S → Prop} : mw_Call (d + 1) 272 [jL z0, jI z1] σ Q ↔ mw_WP d 272 0 [some (jL z0), none, some (jI z1)] [] σ Q := CL_u mq272 (Nat.le_of_ble_eq_true rfl) rfl
theorem dd272_0 : decode cX12_cut 0 = .ok (.iload_n 2, 1) := by decide +kernel
theorem ww272_0 {d : Nat} {l0 l1 : Option mw_V} {x : Int} {st : List mw_V} {σ : mw_S} {Q : Option mw_V → mw_S → Prop} : mw_WP d 272 0 [l0, l1, some (jI x)] st σ Q ↔ mw_WP d 272 1 [l0, l1, some (jI x)] (jI x :: st) σ Q := WP_iload_n mq272 dd272_0 rfl
theorem dd272_1 : decode cX12_cut 1 = .ok (.ifCond .ne 10, 3) := by decide +kernel
theorem ww272_1 {d : Nat} {l0 l1 l2 : Option mw_V} {x : Int} {st : List mw_V} {σ : mw_S} {Q : Option mw_V → mw_S → Prop} : mw_WP d 272 1 [l0, l1, l2] (jI x :: st) σ Q ↔ (if ¬ x = 0 then mw_WP d 272 11 [l0, l1, l2] st σ Q else mw_WP d 272 4 [l0, l1, l2] st σ Q) := WP_if_ne mq272 dd272_1 (by decide)
theorem dd272_4 : decode cX12_cut 4 = .ok (.lload_n 0, 1) := by decide +kernel
theorem ww272_4 {d : Nat} {l1 l2 : Option mw_V} {x : Int} {st : List mw_V} {σ : mw_S} {Q : Option mw_V → mw_S → Prop} : mw_WP d 272 4 [some (jL x), l1, l2] st σ Q ↔ mw_WP d 272 5 [some (jL x), l1, l2] (jL x :: st) σ Q := WP_lload_n mq272 dd272_4 rfl
theorem dd272_5 : decode cX12_cut 5 = .ok (.l2i, 1) := by decide +kernel
theorem ww272_5 {d : Nat} {l0 l1 l2 : Option mw_V} {x : Int} {st : List mw_V} {σ : mw_S} {Q : Option mw_V → mw_S → Prop} : mw_WP d 272 5 [l0, l1, l2] (jL x :: st) σ Q ↔ mw_WP d 272 6 [l0, l1, l2] (jI (zI x) :: st) σ Q := WP_l2i mq272 dd272_5
theorem dd272_6 : decode cX12_cut 6 = .ok (.i2b, 1) := by decide +kernel
theorem ww272_6 {d : Nat} {l0 l1 l2 : Option mw_V} {x : Int} {st : List mw_V} {σ : mw_S} {Q : Option mw_V → mw_S → Prop} : mw_WP d 272 6 [l0, l1, l2] (jI x :: st) σ Q ↔ mw_WP d 272 7 [l0, l1, l2] (jI (zB x) :: st) σ Q := WP_i2b mq272 dd272_6
theorem dd272_7 : decode cX12_cut 7 = .ok (.i2l, 1) := by decide +kernel
theorem ww272_7 {d : Nat} {l0 l1 l2 : Option mw_V} {x : Int} {st : List mw_V} {σ : mw_S} {Q : Option mw_V → mw_S → Prop} : mw_WP d 272 7 [l0, l1, l2] (jI x :: st) σ Q ↔ mw_WP d 272 8 [l0, l1, l2] (jL (yL x) :: st) σ Q := WP_i2l mq272 dd272_7
theorem dd272_8 : decode cX12_cut 8 = .ok (.goto 27, 3) := by decide +kernel
theorem ww272_8 {d : Nat} {l0 l1 l2 : Option mw_V} {st : List mw_V} {σ : mw_S} {Q : Option mw_V → mw_S → Prop} : mw_WP d 272 8 [l0, l1, l2] st σ Q ↔ mw_WP d 272 35 [l0, l1, l2] st σ Q := WP_goto mq272 dd272_8 (by decide)
theorem dd272_11 : decode cX12_cut 11 = .ok (.iload_n 2, 1) := by decide +kernel
theorem ww272_11 {d : Nat} {l0 l1 : Option mw_V} {x : Int} {st : List mw_V} {σ : mw_S} {Q : Option mw_V → mw_S → Prop} : mw_WP d 272 11 [l0, l1, some (jI x)] st σ Q ↔ mw_WP d 272 12 [l0, l1, some (jI x)] (jI x :: st) σ Q := WP_iload_n mq272 dd272_11 rfl
theorem dd272_12 : decode cX12_cut 12 = .ok (.iconst 1, 1) := by decide +kernel
theorem ww272_12 {d : Nat} {l0 l1 l2 : Option mw_V} {st : List mw_V} {σ : mw_S} {Q : Option mw_V → mw_S → Prop} : mw_WP d 272 12 [l0, l1, l2] st σ Q ↔ mw_WP d 272 13 [l0, l1, l2] (jI (1) :: st) σ Q := WP_iconst mq272 dd272_12 (by decide)
theorem dd272_13 : decode cX12_cut 13 = .ok (.if_icmp .ne 10, 3) := by decide +kernel
theorem ww272_13 {d : Nat} {l0 l1 l2 : Option mw_V} {x y : Int} {st : List mw_V} {σ : mw_S} {Q : Option mw_V → mw_S → Prop} : mw_WP d 272 13 [l0, l1, l2] (jI y :: jI x :: st) σ Q ↔ (if ¬ x = y then mw_WP d 272 23 [l0, l1, l2] st σ Q else mw_WP d 272 16 [l0, l1, l2] st σ Q) := WP_icmp_ne mq272 dd272_13 (by decide)
theorem dd272_16 : decode cX12_cut 16 = .ok (.lload_n 0, 1) := by decide +kernel
theorem ww272_16 {d : Nat} {l1 l2 : Option mw_V} {x : Int} {st : List mw_V} {σ : mw_S} {Q : Option mw_V → mw_S → Prop} : mw_WP d 272 16 [some (jL x), l1, l2] st σ Q ↔ mw_WP d 272 17 [some (jL x), l1, l2] (jL x :: st) σ Q := WP_lload_n mq272 dd272_16 rfl
theorem dd272_17 : decode cX12_cut 17 = .ok (.l2i, 1) := by decide +kernel
theorem ww272_17 {d : Nat} {l0 l1 l2 : Option mw_V} {x : Int} {st : List mw_V} {σ : mw_S} {Q : Option mw_V → mw_S → Prop} : mw_WP d 272 17 [l0, l1, l2] (jL x :: st) σ Q ↔ mw_WP d 272 18 [l0, l1, l2] (jI (zI x) :: st) σ Q := WP_l2i mq272 dd272_17
theorem dd272_18 : decode cX12_cut 18 = .ok (.i2s, 1) := by decide +kernel
theorem ww272_18 {d : Nat} {l0 l1 l2 : Option mw_V} {x : Int} {st : List mw_V} {σ : mw_S} {Q : Option mw_V → mw_S → Prop} : mw_WP d 272 18 [l0, l1, l2] (jI x :: st) σ Q ↔ mw_WP d 272 19 [l0, l1, l2] (jI (zSh x) :: st) σ Q := WP_i2s mq272 dd272_18
theorem dd272_19 : decode cX12_cut 19 = .ok (.i2l, 1) := by decide +kernel
theorem ww272_19 {d : Nat} {l0 l1 l2 : Option mw_V} {x : Int} {st : List mw_V} {σ : mw_S} {Q : Option mw_V → mw_S → Prop} : mw_WP d 272 19 [l0, l1, l2] (jI x :: st) σ Q ↔ mw_WP d 272 20 [l0, l1, l2] (jL (yL x) :: st) σ Q := WP_i2l mq272 dd272_19
theorem dd272_20 : decode cX12_cut 20 = .ok (.goto 15, 3) := by decide +kernel
theorem ww272_20 {d : Nat} {l0 l1 l2 : Option mw_V} {st : List mw_V} {σ : mw_S} {Q : Option mw_V → mw_S → Prop} : mw_WP d 272 20 [l0, l1, l2] st σ Q ↔ mw_WP d 272 35 [l0, l1, l2] st σ Q := WP_goto mq272 dd272_20 (by decide)
theorem dd272_23 : decode cX12_cut 23 = .ok (.iload_n 2, 1) := by decide +kernel
theorem ww272_23 {d : Nat} {l0 l1 : Option mw_V} {x : Int} {st : List mw_V} {σ : mw_S} {Q : Option mw_V → mw_S → Prop} : mw_WP d 272 23 [l0, l1, some (jI x)] st σ Q ↔ mw_WP d 272 24 [l0, l1, some (jI x)] (jI x :: st) σ Q := WP_iload_n mq272 dd272_23 rfl
theorem dd272_24 : decode cX12_cut 24 = .ok (.iconst 2, 1) := by decide +kernel
theorem ww272_24 {d : Nat} {l0 l1 l2 : Option mw_V} {st : List mw_V} {σ : mw_S} {Q : Option mw_V → mw_S → Prop} : mw_WP d 272 24 [l0, l1, l2] st σ Q ↔ mw_WP d 272 25 [l0, l1, l2] (jI (2) :: st) σ Q := WP_iconst mq272 dd272_24 (by decide)
theorem dd272_25 : decode cX12_cut 25 = .ok (.if_icmp .ne 9, 3) := by decide +kernel
theorem ww272_25 {d : Nat} {l0 l1 l2 : Option mw_V} {x y : Int} {st : List mw_V} {σ : mw_S} {Q : Option mw_V → mw_S → Prop} : mw_WP d 272 25 [l0, l1, l2] (jI y :: jI x :: st) σ Q ↔ (if ¬ x = y then mw_WP d 272 34 [l0, l1, l2] st σ Q else mw_WP d 272 28 [l0, l1, l2] st σ Q) := WP_icmp_ne mq272 dd272_25 (by decide)
theorem dd272_28 : decode cX12_cut 28 = .ok (.lload_n 0, 1) := by decide +kernel
theorem ww272_28 {d : Nat} {l1 l2 : Option mw_V} {x : Int} {st : List mw_V} {σ : mw_S} {Q : Option mw_V → mw_S → Prop} : mw_WP d 272 28 [some (jL x), l1, l2] st σ Q ↔ mw_WP d 272 29 [some (jL x), l1, l2] (jL x :: st) σ Q := WP_lload_n mq272 dd272_28 rfl
theorem dd272_29 : decode cX12_cut 29 = .ok (.l2i, 1) := by decide +kernel
theorem ww272_29 {d : Nat} {l0 l1 l2 : Option mw_V} {x : Int} {st : List mw_V} {σ : mw_S} {Q : Option mw_V → mw_S → Prop} : mw_WP d 272 29 [l0, l1, l2] (jL x :: st) σ Q ↔ mw_WP d 272 30 [l0, l1, l2] (jI (zI x) :: st) σ Q := WP_l2i mq272 dd272_29
theorem dd272_30 : decode cX12_cut 30 = .ok (.i2l, 1) := by decide +kernel
theorem ww272_30 {d : Nat} {l0 l1 l2 : Option mw_V} {x : Int} {st : List mw_V} {σ : mw_S} {Q : Option mw_V → mw_S → Prop} : mw_WP d 272 30 [l0, l1, l2] (jI x :: st) σ Q ↔ mw_WP d 272 31 [l0, l1, l2] (jL (yL x) :: st) σ Q := WP_i2l mq272 dd272_30
theorem dd272_31 : decode cX12_cut 31 = .ok (.goto 4, 3) := by decide +kernel
theorem ww272_31 {d : Nat} {l0 l1 l2 : Option mw_V} {st : List mw_V} {σ : mw_S} {Q : Option mw_V → mw_S → Prop} : mw_WP d 272 31 [l0, l1, l2] st σ Q ↔ mw_WP d 272 35 [l0, l1, l2] st σ Q := WP_goto mq272 dd272_31 (by decide)
theorem dd272_34 : decode cX12_cut 34 = .ok (.lload_n 0, 1) := by decide +kernel
theorem ww272_34 {d : Nat} {l1 l2 : Option mw_V} {x : Int} {st : List mw_V} {σ : mw_S} {Q : Option mw_V → mw_S → Prop} : mw_WP d 272 34 [some (jL x), l1, l2] st σ Q ↔ mw_WP d 272 35 [some (jL x), l1, l2] (jL x :: st) σ Q := WP_lload_n mq272 dd272_34 rfl
theorem dd272_35 : decode cX12_cut 35 = .ok (.lreturn, 1) := by decide +kernel
theorem ww272_35 {d : Nat} {l0 l1 l2 : Option mw_V} {z : Int} {σ : mw_S} {Q : Option mw_V → mw_S → Prop} : mw_WP d 272 35 [l0, l1, l2] [jL z] σ Q ↔ Q (some (jL z)) σ := WP_lreturn mq272 dd272_35 rfl
theorem ee273 {d : Nat} {a : Nat} {z0 : Int} {z1 : Int} {z2 : Int} {σ : mw_S} {Q : Option mw_V → mw_S → Prop} : mw_Call (d + 1) 273 [jR a, jI z0, jI z1, jI z2] σ Q ↔ mw_WP d 273 0 [some (jR a), some (jI z0), some (jI z1), some (jI z2), none] [] σ Q := CL_u mq273 (Nat.le_of_ble_eq_true rfl) rfl
theorem dd273_0 : decode cX12_numbers 0 = .ok (.aload_n 0, 1) := by decide +kernel
theorem ww273_0 {d : Nat} {l1 l2 l3 l4 : Option mw_V} {x : Nat} {st : List mw_V} {σ : mw_S} {Q : Option mw_V → mw_S → Prop} : mw_WP d 273 0 [some (jR x), l1, l2, l3, l4] st σ Q ↔ mw_WP d 273 1 [some (jR x), l1, l2, l3, l4] (jR x :: st) σ Q := WP_aload_n mq273 dd273_0 rfl
theorem dd273_1 : decode cX12_numbers 1 = .ok (.iconst 0, 1) := by decide +kernel
theorem ww273_1 {d : Nat} {l0 l1 l2 l3 l4 : Option mw_V} {st : List mw_V} {σ : mw_S} {Q : Option mw_V → mw_S → Prop} : mw_WP d 273 1 [l0, l1, l2, l3, l4] st σ Q ↔ mw_WP d 273 2 [l0, l1, l2, l3, l4] (jI (0) :: st) σ Q := WP_iconst mq273 dd273_1 (by decide)
theorem dd273_2 : decode cX12_numbers 2 = .ok (.putfield 1, 3) := by decide +kernel
theorem ww273_2 {d : Nat} {l0 l1 l2 l3 l4 : Option mw_V} {v : Int} {st : List mw_V} {σ : mw_S} {Q : Option mw_V → mw_S → Prop} : mw_WP d 273 2 [l0, l1, l2, l3, l4] (jI v :: jR 100 :: st) σ Q ↔ mw_WP d 273 5 [l0, l1, l2, l3, l4] st (upS σ 100 0 v) Q := WP_putI (ci := 11) (k := 0) mq273 dd273_2 (by decide) rfl
theorem dd273_5 : decode cX12_numbers 5 = .ok (.iload_n 1, 1) := by decide +kernel
theorem ww273_5 {d : Nat} {l0 l2 l3 l4 : Option mw_V} {x : Int} {st : List mw_V} {σ : mw_S} {Q : Option mw_V → mw_S → Prop} : mw_WP d 273 5 [l0, some (jI x), l2, l3, l4] st σ Q ↔ mw_WP d 273 6 [l0, some (jI x), l2, l3, l4] (jI x :: st) σ Q := WP_iload_n mq273 dd273_5 rfl
theorem dd273_6 : decode cX12_numbers 6 = .ok (.i2l, 1) := by decide +kernel
theorem ww273_6 {d : Nat} {l0 l1 l2 l3 l4 : Option mw_V} {x : Int} {st : List mw_V} {σ : mw_S} {Q : Option mw_V → mw_S → Prop} : mw_WP d 273 6 [l0, l1, l2, l3, l4] (jI x :: st) σ Q ↔ mw_WP d 273 7 [l0, l1, l2, l3, l4] (jL (yL x) :: st) σ Q := WP_i2l mq273 dd273_6
theorem dd273_7 : decode cX12_numbers 7 = .ok (.lconst 0, 1) := by decide +kernel
theorem ww273_7 {d : Nat} {l0 l1 l2 l3 l4 : Option mw_V} {st : List mw_V} {σ : mw_S} {Q : Option mw_V → mw_S → Prop} : mw_WP d 273 7 [l0, l1, l2, l3, l4] st σ Q ↔ mw_WP d 273 8 [l0, l1, l2, l3, l4] (jL (0) :: st) σ Q := WP_lconst mq273 dd273_7 (by decide)
theorem dd273_8 : decode cX12_numbers 8 = .ok (.ldc2_w 308, 3) := by decide +kernel
theorem ww273_8 {d : Nat} {l0 l1 l2 l3 l4 : Option mw_V} {st : List mw_V} {σ : mw_S} {Q : Option mw_V → mw_S → Prop} : mw_WP d 273 8 [l0, l1, l2, l3, l4] st σ Q ↔ mw_WP d 273 11 [l0, l1, l2, l3, l4] (jL (3) :: st) σ Q := WP_ldc2_w (v := 3) mq273 dd273_8 (by decide) (by decide)
theorem dd273_11 : decode cX12_numbers 11 = .ok (.invokestatic 159, 3) := by decide +kernel
theorem ww273_11 {d : Nat} {l0 l1 l2 l3 l4 : Option mw_V} {v0 v1 v2 : mw_V} {st : List mw_V} {σ : mw_S} {Q : Option mw_V → mw_S → Prop} (h8 : (st.map mw_cat).sum ≤ 8) : mw_WP d 273 11 [l0, l1, l2, l3, l4] (v2 :: v1 :: v0 :: st) σ Q ↔ mw_Call d 170 [v0, v1, v2] σ (fun r1 s1 => mw_WP d 273 14 [l0, l1, l2, l3, l4] (r1.toList ++ st) s1 Q) := WP_invs (as := [v2, v1, v0]) mq273 dd273_11 (by decide) mq170 rfl rfl h8
theorem dd273_14 : decode cX12_numbers 14 = .ok (.ifCond .eq 15, 3) := by decide +kernel
theorem ww273_14 {d : Nat} {l0 l1 l2 l3 l4 : Option mw_V} {x : Int} {st : List mw_V} {σ : mw_S} {Q : Option mw_V → mw_S → Prop} : mw_WP d 273 14 [l0, l1, l2, l3, l4] (jI x :: st) σ Q ↔ (if x = 0 then mw_WP d 273 29 [l0, l1, l2, l3, l4] st σ Q else mw_WP d 273 17 [l0, l1, l2, l3, l4] st σ Q) := WP_if_eq mq273 dd273_14 (by decide)
theorem dd273_17 : decode cX12_numbers 17 = .ok (.iload_n 2, 1) := by decide +kernel
theorem ww273_17 {d : Nat} {l0 l1 l3 l4 : Option mw_V} {x : Int} {st : List mw_V} {σ : mw_S} {Q : Option mw_V → mw_S → Prop} : mw_WP d 273 17 [l0, l1, some (jI x), l3, l4] st σ Q ↔ mw_WP d 273 18 [l0, l1, some (jI x), l3, l4] (jI x :: st) σ Q := WP_iload_n mq273 dd273_17 rfl
theorem dd273_18 : decode cX12_numbers 18 = .ok (.i2l, 1) := by decide +kernel
theorem ww273_18 {d : Nat} {l0 l1 l2 l3 l4 : Option mw_V} {x : Int} {st : List mw_V} {σ : mw_S} {Q : Option mw_V → mw_S → Prop} : mw_WP d 273 18 [l0, l1, l2, l3, l4] (jI x :: st) σ Q ↔ mw_WP d 273 19 [l0, l1, l2, l3, l4] (jL (yL x) :: st) σ Q := WP_i2l mq273 dd273_18
theorem dd273_19 : decode cX12_numbers 19 = .ok (.lconst 0, 1) := by decide +kernel
theorem ww273_19 {d : Nat} {l0 l1 l2 l3 l4 : Option mw_V} {st : List mw_V} {σ : mw_S} {Q : Option mw_V → mw_S → Prop} : mw_WP d 273 19 [l0, l1, l2, l3, l4] st σ Q ↔ mw_WP d 273 20 [l0, l1, l2, l3, l4] (jL (0) :: st) σ Q := WP_lconst mq273 dd273_19 (by decide)
theorem dd273_20 : decode cX12_numbers 20 = .ok (.ldc2_w 308, 3) := by decide +kernel
theorem ww273_20 {d : Nat} {l0 l1 l2 l3 l4 : Option mw_V} {st : List mw_V} {σ : mw_S} {Q : Option mw_V → mw_S → Prop} : mw_WP d 273 20 [l0, l1, l2, l3, l4] st σ Q ↔ mw_WP d 273 23 [l0, l1, l2, l3, l4] (jL (3) :: st) σ Q := WP_ldc2_w (v := 3) mq273 dd273_20 (by decide) (by decide)
theorem dd273_23 : decode cX12_numbers 23 = .ok (.invokestatic 159, 3) := by decide +kernel
theorem ww273_23 {d : Nat} {l0 l1 l2 l3 l4 : Option mw_V} {v0 v1 v2 : mw_V} {st : List mw_V} {σ : mw_S} {Q : Option mw_V → mw_S → Prop} (h8 : (st.map mw_cat).sum ≤ 8) : mw_WP d 273 23 [l0, l1, l2, l3, l4] (v2 :: v1 :: v0 :: st) σ Q ↔ mw_Call d 170 [v0, v1, v2] σ (fun r1 s1 => mw_WP d 273 26 [l0, l1, l2, l3, l4] (r1.toList ++ st) s1 Q) := WP_invs (as := [v2, v1, v0]) mq273 dd273_23 (by decide) mq170 rfl rfl h8
theorem dd273_26 : decode cX12_numbers 26 = .ok (.ifCond .ne 6, 3) := by decide +kernel
theorem ww273_26 {d : Nat} {l0 l1 l2 l3 l4 : Option mw_V} {x : Int} {st : List mw_V} {σ : mw_S} {Q : Option mw_V → mw_S → Prop} : mw_WP d 273 26 [l0, l1, l2, l3, l4] (jI x :: st) σ Q ↔ (if ¬ x = 0 then mw_WP d 273 32 [l0, l1, l2, l3, l4] st σ Q else mw_WP d 273 29 [l0, l1, l2, l3, l4] st σ Q) := WP_if_ne mq273 dd273_26 (by decide)
theorem dd273_29 : decode cX12_numbers 29 = .ok (.bipush (-2), 2) := by decide +kernel
theorem ww273_29 {d : Nat} {l0 l1 l2 l3 l4 : Option mw_V} {st : List mw_V} {σ : mw_S} {Q : Option mw_V → mw_S → Prop} : mw_WP d 273 29 [l0, l1, l2, l3, l4] st σ Q ↔ mw_WP d 273 31 [l0, l1, l2, l3, l4] (jI (-2) :: st) σ Q := WP_bipush mq273 dd273_29 (by decide)
theorem dd273_31 : decode cX12_numbers 31 = .ok (.ireturn, 1) := by decide +kernel
theorem ww273_31 {d : Nat} {l0 l1 l2 l3 l4 : Option mw_V} {z : Int} {σ : mw_S} {Q : Option mw_V → mw_S → Prop} : mw_WP d 273 31 [l0, l1, l2, l3, l4] [jI z] σ Q ↔ Q (some (jI z)) σ := WP_ireturn (ty := .int) mq273 dd273_31 rfl rfl
theorem dd273_32 : decode cX12_numbers 32 = .ok (.iload_n 3, 1) := by decide +kernel
theorem ww273_32 {d : Nat} {l0 l1 l2 l4 : Option mw_V} {x : Int} {st : List mw_V} {σ : mw_S} {Q : Option mw_V → mw_S → Prop} : mw_WP d 273 32 [l0, l1, l2, some (jI x), l4] st σ Q ↔ mw_WP d 273 33 [l0, l1, l2, some (jI x), l4] (jI x :: st) σ Q := WP_iload_n mq273 dd273_32 rfl
theorem dd273_33 : decode cX12_numbers 33 = .ok (.i2l, 1) := by decide +kernel
theorem ww273_33 {d : Nat} {l0 l1 l2 l3 l4 : Option mw_V} {x : Int} {st : List mw_V} {σ : mw_S} {Q : Option mw_V → mw_S → Prop} : mw_WP d 273 33 [l0, l1, l2, l3, l4] (jI x :: st) σ Q ↔ mw_WP d 273 34 [l0, l1, l2, l3, l4] (jL (yL x) :: st) σ Q := WP_i2l mq273 dd273_33
theorem dd273_34 : decode cX12_numbers 34 = .ok (.lconst 0, 1) := by decide +kernel
theorem ww273_34 {d : Nat} {l0 l1 l2 l3 l4 : Option mw_V} {st : List mw_V} {σ : mw_S} {Q : Option mw_V → mw_S → Prop} : mw_WP d 273 34 [l0, l1, l2, l3, l4] st σ Q ↔ mw_WP d 273 35 [l0, l1, l2, l3, l4] (jL (0) :: st) σ Q := WP_lconst mq273 dd273_34 (by decide)
theorem dd273_35 : decode cX12_numbers 35 = .ok (.ldc2_w 454, 3) := by decide +kernel
theorem ww273_35 {d : Nat} {l0 l1 l2 l3 l4 : Option mw_V} {st : List mw_V} {σ : mw_S} {Q : Option mw_V → mw_S → Prop} : mw_WP d 273 35 [l0, l1, l2, l3, l4] st σ Q ↔ mw_WP d 273 38 [l0, l1, l2, l3, l4] (jL (40) :: st) σ Q := WP_ldc2_w (v := 40) mq273 dd273_35 (by decide) (by decide)
theorem dd273_38 : decode cX12_numbers 38 = .ok (.invokestatic 159, 3) := by decide +kernel
theorem ww273_38 {d : Nat} {l0 l1 l2 l3 l4 : Option mw_V} {v0 v1 v2 : mw_V} {st : List mw_V} {σ : mw_S} {Q : Option mw_V → mw_S → Prop} (h8 : (st.map mw_cat).sum ≤ 8) : mw_WP d 273 38 [l0, l1, l2, l3, l4] (v2 :: v1 :: v0 :: st) σ Q ↔ mw_Call d 170 [v0, v1, v2] σ (fun r1 s1 => mw_WP d 273 41 [l0, l1, l2, l3, l4] (r1.toList ++ st) s1 Q) := WP_invs (as := [v2, v1, v0]) mq273 dd273_38 (by decide) mq170 rfl rfl h8
theorem dd273_41 : decode cX12_numbers 41 = .ok (.ifCond .ne 6, 3) := by decide +kernel
theorem ww273_41 {d : Nat} {l0 l1 l2 l3 l4 : Option mw_V} {x : Int} {st : List mw_V} {σ : mw_S} {Q : Option mw_V → mw_S → Prop} : mw_WP d 273 41 [l0, l1, l2, l3, l4] (jI x :: st) σ Q ↔ (if ¬ x = 0 then mw_WP d 273 47 [l0, l1, l2, l3, l4] st σ Q else mw_WP d 273 44 [l0, l1, l2, l3, l4] st σ Q) := WP_if_ne mq273 dd273_41 (by decide)
theorem dd273_44 : decode cX12_numbers 44 = .ok (.bipush (-3), 2) := by decide +kernel
theorem ww273_44 {d : Nat} {l0 l1 l2 l3 l4 : Option mw_V} {st : List mw_V} {σ : mw_S} {Q : Option mw_V → mw_S → Prop} : mw_WP d 273 44 [l0, l1, l2, l3, l4] st σ Q ↔ mw_WP d 273 46 [l0, l1, l2, l3, l4] (jI (-3) :: st) σ Q := WP_bipush mq273 dd273_44 (by decide)
theorem dd273_46 : decode cX12_numbers 46 = .ok (.ireturn, 1) := by decide +kernel
theorem ww273_46 {d : Nat} {l0 l1 l2 l3 l4 : Option mw_V} {z : Int} {σ : mw_S} {Q : Option mw_V → mw_S → Prop} : mw_WP d 273 46 [l0, l1, l2, l3, l4] [jI z] σ Q ↔ Q (some (jI z)) σ := WP_ireturn (ty := .int) mq273 dd273_46 rfl rfl
theorem dd273_47 : decode cX12_numbers 47 = .ok (.aload_n 0, 1) := by decide +kernel
theorem ww273_47 {d : Nat} {l1 l2 l3 l4 : Option mw_V} {x : Nat} {st : List mw_V} {σ : mw_S} {Q : Option mw_V → mw_S → Prop} : mw_WP d 273 47 [some (jR x), l1, l2, l3, l4] st σ Q ↔ mw_WP d 273 48 [some (jR x), l1, l2, l3, l4] (jR x :: st) σ Q := WP_aload_n mq273 dd273_47 rfl
theorem dd273_48 : decode cX12_numbers 48 = .ok (.getfield 84, 3) := by decide +kernel
theorem ww273_48 {d : Nat} {l0 l1 l2 l3 l4 : Option mw_V} {st : List mw_V} {σ : mw_S} {Q : Option mw_V → mw_S → Prop} : mw_WP d 273 48 [l0, l1, l2, l3, l4] (jR 100 :: st) σ Q ↔ mw_WP d 273 51 [l0, l1, l2, l3, l4] (jR 122 :: st) σ Q := WP_getR (ci := 11) (k := 48) mq273 dd273_48 (by decide) rfl
theorem dd273_51 : decode cX12_numbers 51 = .ok (.iload_n 1, 1) := by decide +kernel
theorem ww273_51 {d : Nat} {l0 l2 l3 l4 : Option mw_V} {x : Int} {st : List mw_V} {σ : mw_S} {Q : Option mw_V → mw_S → Prop} : mw_WP d 273 51 [l0, some (jI x), l2, l3, l4] st σ Q ↔ mw_WP d 273 52 [l0, some (jI x), l2, l3, l4] (jI x :: st) σ Q := WP_iload_n mq273 dd273_51 rfl
theorem dd273_52 : decode cX12_numbers 52 = .ok (.iload_n 2, 1) := by decide +kernel
theorem ww273_52 {d : Nat} {l0 l1 l3 l4 : Option mw_V} {x : Int} {st : List mw_V} {σ : mw_S} {Q : Option mw_V → mw_S → Prop} : mw_WP d 273 52 [l0, l1, some (jI x), l3, l4] st σ Q ↔ mw_WP d 273 53 [l0, l1, some (jI x), l3, l4] (jI x :: st) σ Q := WP_iload_n mq273 dd273_52 rfl
theorem dd273_53 : decode cX12_numbers 53 = .ok (.iastore, 1) := by decide +kernel
theorem ww273_53 {d : Nat} {l0 l1 l2 l3 l4 : Option mw_V} {x z : Int} {a : Nat} {st : List mw_V} {σ : mw_S} {Q : Option mw_V → mw_S → Prop} : mw_WP d 273 53 [l0, l1, l2, l3, l4] (jI x :: jI z :: jR a :: st) σ Q ↔ ((0 ≤ z ∧ z < mw_lenW 0 a) ∧ mw_WP d 273 54 [l0, l1, l2, l3, l4] st (upS σ a z.toNat x) Q) := WP_iastore mq273 dd273_53
theorem dd273_54 : decode cX12_numbers 54 = .ok (.aload_n 0, 1) := by decide +kernel
theorem ww273_54 {d : Nat} {l1 l2 l3 l4 : Option mw_V} {x : Nat} {st : List mw_V} {σ : mw_S} {Q : Option mw_V → mw_S → Prop} : mw_WP d 273 54 [some (jR x), l1, l2, l3, l4] st σ Q ↔ mw_WP d 273 55 [some (jR x), l1, l2, l3, l4] (jR x :: st) σ Q := WP_aload_n mq273 dd273_54 rfl
theorem dd273_55 : decode cX12_numbers 55 = .ok (.getfield 87, 3) := by decide +kernel
theorem ww273_55 {d : Nat} {l0 l1 l2 l3 l4 : Option mw_V} {st : List mw_V} {σ : mw_S} {Q : Option mw_V → mw_S → Prop} : mw_WP d 273 55 [l0, l1, l2, l3, l4] (jR 100 :: st) σ Q ↔ mw_WP d 273 58 [l0, l1, l2, l3, l4] (jR 123 :: st) σ Q := WP_getR (ci := 11) (k := 49) mq273 dd273_55 (by decide) rfl
theorem dd273_58 : decode cX12_numbers 58 = .ok (.iload_n 1, 1) := by decide +kernel
theorem ww273_58 {d : Nat} {l0 l2 l3 l4 : Option mw_V} {x : Int} {st : List mw_V} {σ : mw_S} {Q : Option mw_V → mw_S → Prop} : mw_WP d 273 58 [l0, some (jI x), l2, l3, l4] st σ Q ↔ mw_WP d 273 59 [l0, some (jI x), l2, l3, l4] (jI x :: st) σ Q := WP_iload_n mq273 dd273_58 rfl
theorem dd273_59 : decode cX12_numbers 59 = .ok (.iload_n 3, 1) := by decide +kernel
theorem ww273_59 {d : Nat} {l0 l1 l2 l4 : Option mw_V} {x : Int} {st : List mw_V} {σ : mw_S} {Q : Option mw_V → mw_S → Prop} : mw_WP d 273 59 [l0, l1, l2, some (jI x), l4] st σ Q ↔ mw_WP d 273 60 [l0, l1, l2, some (jI x), l4] (jI x :: st) σ Q := WP_iload_n mq273 dd273_59 rfl
theorem dd273_60 : decode cX12_numbers 60 = .ok (.iastore, 1) := by decide +kernel
theorem ww273_60 {d : Nat} {l0 l1 l2 l3 l4 : Option mw_V} {x z : Int} {a : Nat} {st : List mw_V} {σ : mw_S} {Q : Option mw_V → mw_S → Prop} : mw_WP d 273 60 [l0, l1, l2, l3, l4] (jI x :: jI z :: jR a :: st) σ Q ↔ ((0 ≤ z ∧ z < mw_lenW 0 a) ∧ mw_WP d 273 61 [l0, l1, l2, l3, l4] st (upS σ a z.toNat x) Q) := WP_iastore mq273 dd273_60
theorem dd273_61 : decode cX12_numbers 61 = .ok (.iconst 0, 1) := by decide +kernel
theorem ww273_61 {d : Nat} {l0 l1 l2 l3 l4 : Option mw_V} {st : List mw_V} {σ : mw_S} {Q : Option mw_V → mw_S → Prop} : mw_WP d 273 61 [l0, l1, l2, l3, l4] st σ Q ↔ mw_WP d 273 62 [l0, l1, l2, l3, l4] (jI (0) :: st) σ Q := WP_iconst mq273 dd273_61 (by decide)
theorem dd273_62 : decode cX12_numbers 62 = .ok (.istore 4, 2) := by decide +kernel
theorem ww273_62 {d : Nat} {l0 l1 l2 l3 l4 : Option mw_V} {x : Int} {st : List mw_V} {σ : mw_S} {Q : Option mw_V → mw_S → Prop} (h : mw_nlo l3 = true) : mw_WP d 273 62 [l0, l1, l2, l3, l4] (jI x :: st) σ Q ↔ mw_WP d 273 64 [l0, l1, l2, l3, some (jI x)] st σ Q := WP_istore mq273 dd273_62 (Nat.le_of_ble_eq_true rfl) (mw_nl_of (i := 3) rfl h) rfl
theorem dd273_64 : decode cX12_numbers 64 = .ok (.iload 4, 2) := by decide +kernel
theorem ww273_64 {d : Nat} {l0 l1 l2 l3 : Option mw_V} {x : Int} {st : List mw_V} {σ : mw_S} {Q : Option mw_V → mw_S → Prop} : mw_WP d 273 64 [l0, l1, l2, l3, some (jI x)] st σ Q ↔ mw_WP d 273 66 [l0, l1, l2, l3, some (jI x)] (jI x :: st) σ Q := WP_iload mq273 dd273_64 rfl
theorem dd273_66 : decode cX12_numbers 66 = .ok (.iload_n 3, 1) := by decide +kernel
theorem ww273_66 {d : Nat} {l0 l1 l2 l4 : Option mw_V} {x : Int} {st : List mw_V} {σ : mw_S} {Q : Option mw_V → mw_S → Prop} : mw_WP d 273 66 [l0, l1, l2, some (jI x), l4] st σ Q ↔ mw_WP d 273 67 [l0, l1, l2, some (jI x), l4] (jI x :: st) σ Q := WP_iload_n mq273 dd273_66 rfl
theorem dd273_67 : decode cX12_numbers 67 = .ok (.if_icmp .ge 22, 3) := by decide +kernel
theorem ww273_67 {d : Nat} {l0 l1 l2 l3 l4 : Option mw_V} {x y : Int} {st : List mw_V} {σ : mw_S} {Q : Option mw_V → mw_S → Prop} : mw_WP d 273 67 [l0, l1, l2, l3, l4] (jI y :: jI x :: st) σ Q ↔ (if y ≤ x then mw_WP d 273 89 [l0, l1, l2, l3, l4] st σ Q else mw_WP d 273 70 [l0, l1, l2, l3, l4] st σ Q) := WP_icmp_ge mq273 dd273_67 (by decide)
theorem dd273_70 : decode cX12_numbers 70 = .ok (.aload_n 0, 1) := by decide +kernel
theorem ww273_70 {d : Nat} {l1 l2 l3 l4 : Option mw_V} {x : Nat} {st : List mw_V} {σ : mw_S} {Q : Option mw_V → mw_S → Prop} : mw_WP d 273 70 [some (jR x), l1, l2, l3, l4] st σ Q ↔ mw_WP d 273 71 [some (jR x), l1, l2, l3, l4] (jR x :: st) σ Q := WP_aload_n mq273 dd273_70 rfl
theorem dd273_71 : decode cX12_numbers 71 = .ok (.getfield 90, 3) := by decide +kernel
theorem ww273_71 {d : Nat} {l0 l1 l2 l3 l4 : Option mw_V} {st : List mw_V} {σ : mw_S} {Q : Option mw_V → mw_S → Prop} : mw_WP d 273 71 [l0, l1, l2, l3, l4] (jR 100 :: st) σ Q ↔ mw_WP d 273 74 [l0, l1, l2, l3, l4] (jR 124 :: st) σ Q := WP_getR (ci := 11) (k := 50) mq273 dd273_71 (by decide) rfl
theorem dd273_74 : decode cX12_numbers 74 = .ok (.bipush 40, 2) := by decide +kernel
theorem ww273_74 {d : Nat} {l0 l1 l2 l3 l4 : Option mw_V} {st : List mw_V} {σ : mw_S} {Q : Option mw_V → mw_S → Prop} : mw_WP d 273 74 [l0, l1, l2, l3, l4] st σ Q ↔ mw_WP d 273 76 [l0, l1, l2, l3, l4] (jI (40) :: st) σ Q := WP_bipush mq273 dd273_74 (by decide)
theorem dd273_76 : decode cX12_numbers 76 = .ok (.iload_n 1, 1) := by decide +kernel
theorem ww273_76 {d : Nat} {l0 l2 l3 l4 : Option mw_V} {x : Int} {st : List mw_V} {σ : mw_S} {Q : Option mw_V → mw_S → Prop} : mw_WP d 273 76 [l0, some (jI x), l2, l3, l4] st σ Q ↔ mw_WP d 273 77 [l0, some (jI x), l2, l3, l4] (jI x :: st) σ Q := WP_iload_n mq273 dd273_76 rfl
theorem dd273_77 : decode cX12_numbers 77 = .ok (.imul, 1) := by decide +kernel
theorem ww273_77 {d : Nat} {l0 l1 l2 l3 l4 : Option mw_V} {x y : Int} {st : List mw_V} {σ : mw_S} {Q : Option mw_V → mw_S → Prop} : mw_WP d 273 77 [l0, l1, l2, l3, l4] (jI y :: jI x :: st) σ Q ↔ mw_WP d 273 78 [l0, l1, l2, l3, l4] (jI (w32 (x * y)) :: st) σ Q := WP_imul mq273 dd273_77
theorem dd273_78 : decode cX12_numbers 78 = .ok (.iload 4, 2) := by decide +kernel
theorem ww273_78 {d : Nat} {l0 l1 l2 l3 : Option mw_V} {x : Int} {st : List mw_V} {σ : mw_S} {Q : Option mw_V → mw_S → Prop} : mw_WP d 273 78 [l0, l1, l2, l3, some (jI x)] st σ Q ↔ mw_WP d 273 80 [l0, l1, l2, l3, some (jI x)] (jI x :: st) σ Q := WP_iload mq273 dd273_78 rfl
theorem dd273_80 : decode cX12_numbers 80 = .ok (.iadd, 1) := by decide +kernel
theorem ww273_80 {d : Nat} {l0 l1 l2 l3 l4 : Option mw_V} {x y : Int} {st : List mw_V} {σ : mw_S} {Q : Option mw_V → mw_S → Prop} : mw_WP d 273 80 [l0, l1, l2, l3, l4] (jI y :: jI x :: st) σ Q ↔ mw_WP d 273 81 [l0, l1, l2, l3, l4] (jI (w32 (x + y)) :: st) σ Q := WP_iadd mq273 dd273_80
theorem dd273_81 : decode cX12_numbers 81 = .ok (.lconst 0, 1) := by decide +kernel
theorem ww273_81 {d : Nat} {l0 l1 l2 l3 l4 : Option mw_V} {st : List mw_V} {σ : mw_S} {Q : Option mw_V → mw_S → Prop} : mw_WP d 273 81 [l0, l1, l2, l3, l4] st σ Q ↔ mw_WP d 273 82 [l0, l1, l2, l3, l4] (jL (0) :: st) σ Q := WP_lconst mq273 dd273_81 (by decide)
theorem dd273_82 : decode cX12_numbers 82 = .ok (.lastore, 1) := by decide +kernel
theorem ww273_82 {d : Nat} {l0 l1 l2 l3 l4 : Option mw_V} {x z : Int} {a : Nat} {st : List mw_V} {σ : mw_S} {Q : Option mw_V → mw_S → Prop} : mw_WP d 273 82 [l0, l1, l2, l3, l4] (jL x :: jI z :: jR a :: st) σ Q ↔ ((0 ≤ z ∧ z < mw_lenW 2 a) ∧ mw_WP d 273 83 [l0, l1, l2, l3, l4] st (upS σ a z.toNat x) Q) := WP_lastore mq273 dd273_82
theorem dd273_83 : decode cX12_numbers 83 = .ok (.iinc 4 1, 3) := by decide +kernel
theorem ww273_83 {d : Nat} {l0 l1 l2 l3 : Option mw_V} {x : Int} {st : List mw_V} {σ : mw_S} {Q : Option mw_V → mw_S → Prop} (h : mw_nlo l3 = true) : mw_WP d 273 83 [l0, l1, l2, l3, some (jI x)] st σ Q ↔ mw_WP d 273 86 [l0, l1, l2, l3, some (jI (w32 (x + (1))))] st σ Q := WP_iinc mq273 dd273_83 rfl (Nat.le_of_ble_eq_true rfl) (mw_nl_of (i := 3) rfl h) rfl
theorem dd273_86 : decode cX12_numbers 86 = .ok (.goto (-22), 3) := by decide +kernel
theorem ww273_86 {d : Nat} {l0 l1 l2 l3 l4 : Option mw_V} {st : List mw_V} {σ : mw_S} {Q : Option mw_V → mw_S → Prop} : mw_WP d 273 86 [l0, l1, l2, l3, l4] st σ Q ↔ mw_WP d 273 64 [l0, l1, l2, l3, l4] st σ Q := WP_goto mq273 dd273_86 (by decide)
theorem dd273_89 : decode cX12_numbers 89 = .ok (.iconst 0, 1) := by decide +kernel
theorem ww273_89 {d : Nat} {l0 l1 l2 l3 l4 : Option mw_V} {st : List mw_V} {σ : mw_S} {Q : Option mw_V → mw_S → Prop} : mw_WP d 273 89 [l0, l1, l2, l3, l4] st σ Q ↔ mw_WP d 273 90 [l0, l1, l2, l3, l4] (jI (0) :: st) σ Q := WP_iconst mq273 dd273_89 (by decide)
theorem dd273_90 : decode cX12_numbers 90 = .ok (.ireturn, 1) := by decide +kernel
theorem ww273_90 {d : Nat} {l0 l1 l2 l3 l4 : Option mw_V} {z : Int} {σ : mw_S} {Q : Option mw_V → mw_S → Prop} : mw_WP d 273 90 [l0, l1, l2, l3, l4] [jI z] σ Q ↔ Q (some (jI z)) σ := WP_ireturn (ty := .int) mq273 dd273_90 rfl rfl
theorem ee274 {d : Nat} {a : Nat} {z0 : Int} {z1 : Int} {z2 : Int} {σ : mw_S} {Q : Option mw_V → mw_S → Prop} : mw_Call (d + 1) 274 [jR a, jI z0, jI z1, jL z2] σ Q ↔ mw_WP d 274 0 [some (jR a), some (jI z0), some (jI z1), some (jL z2), none, none] [] σ Q := CL_u mq274 (Nat.le_of_ble_eq_true rfl) rfl
theorem dd274_0 : decode cX12_write 0 = .ok (.aload_n 0, 1) := by decide +kernel
theorem ww274_0 {d : Nat} {l1 l2 l3 l4 l5 : Option mw_V} {x : Nat} {st : List mw_V} {σ : mw_S} {Q : Option mw_V → mw_S → Prop} : mw_WP d 274 0 [some (jR x), l1, l2, l3, l4, l5] st σ Q ↔ mw_WP d 274 1 [some (jR x), l1, l2, l3, l4, l5] (jR x :: st) σ Q := WP_aload_n mq274 dd274_0 rfl
theorem dd274_1 : decode cX12_write 1 = .ok (.iconst 0, 1) := by decide +kernel
theorem ww274_1 {d : Nat} {l0 l1 l2 l3 l4 l5 : Option mw_V} {st : List mw_V} {σ : mw_S} {Q : Option mw_V → mw_S → Prop} : mw_WP d 274 1 [l0, l1, l2, l3, l4, l5] st σ Q ↔ mw_WP d 274 2 [l0, l1, l2, l3, l4, l5] (jI (0) :: st) σ Q := WP_iconst mq274 dd274_1 (by decide)
theorem dd274_2 : decode cX12_write 2 = .ok (.putfield 1, 3) := by decide +kernel
theorem ww274_2 {d : Nat} {l0 l1 l2 l3 l4 l5 : Option mw_V} {v : Int} {st : List mw_V} {σ : mw_S} {Q : Option mw_V → mw_S → Prop} : mw_WP d 274 2 [l0, l1, l2, l3, l4, l5] (jI v :: jR 100 :: st) σ Q ↔ mw_WP d 274 5 [l0, l1, l2, l3, l4, l5] st (upS σ 100 0 v) Q := WP_putI (ci := 11) (k := 0) mq274 dd274_2 (by decide) rfl
theorem dd274_5 : decode cX12_write 5 = .ok (.aload_n 0, 1) := by decide +kernel
theorem ww274_5 {d : Nat} {l1 l2 l3 l4 l5 : Option mw_V} {x : Nat} {st : List mw_V} {σ : mw_S} {Q : Option mw_V → mw_S → Prop} : mw_WP d 274 5 [some (jR x), l1, l2, l3, l4, l5] st σ Q ↔ mw_WP d 274 6 [some (jR x), l1, l2, l3, l4, l5] (jR x :: st) σ Q := WP_aload_n mq274 dd274_5 rfl
theorem dd274_6 : decode cX12_write 6 = .ok (.iload_n 1, 1) := by decide +kernel
theorem ww274_6 {d : Nat} {l0 l2 l3 l4 l5 : Option mw_V} {x : Int} {st : List mw_V} {σ : mw_S} {Q : Option mw_V → mw_S → Prop} : mw_WP d 274 6 [l0, some (jI x), l2, l3, l4, l5] st σ Q ↔ mw_WP d 274 7 [l0, some (jI x), l2, l3, l4, l5] (jI x :: st) σ Q := WP_iload_n mq274 dd274_6 rfl
theorem dd274_7 : decode cX12_write 7 = .ok (.invokevirtual 310, 3) := by decide +kernel
theorem ww274_7 {d : Nat} {l0 l1 l2 l3 l4 l5 : Option mw_V} {v0 : mw_V} {a : Nat} {st : List mw_V} {σ : mw_S} {Q : Option mw_V → mw_S → Prop} (hr : mw_rc a = 12) (h8 : (st.map mw_cat).sum ≤ 8) : mw_WP d 274 7 [l0, l1, l2, l3, l4, l5] (v0 :: jR a :: st) σ Q ↔ mw_Call d 224 [jR a, v0] σ (fun r1 s1 => mw_WP d 274 10 [l0, l1, l2, l3, l4, l5] (r1.toList ++ st) s1 Q) := WP_inv (as := [v0]) mq274 dd274_7 (by decide) mq224 rfl hr h8
theorem dd274_10 : decode cX12_write 10 = .ok (.istore 5, 2) := by decide +kernel
theorem ww274_10 {d : Nat} {l0 l1 l2 l3 l4 l5 : Option mw_V} {x : Int} {st : List mw_V} {σ : mw_S} {Q : Option mw_V → mw_S → Prop} (h : mw_nlo l4 = true) : mw_WP d 274 10 [l0, l1, l2, l3, l4, l5] (jI x :: st) σ Q ↔ mw_WP d 274 12 [l0, l1, l2, l3, l4, some (jI x)] st σ Q := WP_istore mq274 dd274_10 (Nat.le_of_ble_eq_true rfl) (mw_nl_of (i := 4) rfl h) rfl
theorem dd274_12 : decode cX12_write 12 = .ok (.iload 5, 2) := by decide +kernel
theorem ww274_12 {d : Nat} {l0 l1 l2 l3 l4 : Option mw_V} {x : Int} {st : List mw_V} {σ : mw_S} {Q : Option mw_V → mw_S → Prop} : mw_WP d 274 12 [l0, l1, l2, l3, l4, some (jI x)] st σ Q ↔ mw_WP d 274 14 [l0, l1, l2, l3, l4, some (jI x)] (jI x :: st) σ Q := WP_iload mq274 dd274_12 rfl
theorem dd274_14 : decode cX12_write 14 = .ok (.ifCond .eq 7, 3) := by decide +kernel
theorem ww274_14 {d : Nat} {l0 l1 l2 l3 l4 l5 : Option mw_V} {x : Int} {st : List mw_V} {σ : mw_S} {Q : Option mw_V → mw_S → Prop} : mw_WP d 274 14 [l0, l1, l2, l3, l4, l5] (jI x :: st) σ Q ↔ (if x = 0 then mw_WP d 274 21 [l0, l1, l2, l3, l4, l5] st σ Q else mw_WP d 274 17 [l0, l1, l2, l3, l4, l5] st σ Q) := WP_if_eq mq274 dd274_14 (by decide)
theorem dd274_17 : decode cX12_write 17 = .ok (.iload 5, 2) := by decide +kernel
theorem ww274_17 {d : Nat} {l0 l1 l2 l3 l4 : Option mw_V} {x : Int} {st : List mw_V} {σ : mw_S} {Q : Option mw_V → mw_S → Prop} : mw_WP d 274 17 [l0, l1, l2, l3, l4, some (jI x)] st σ Q ↔ mw_WP d 274 19 [l0, l1, l2, l3, l4, some (jI x)] (jI x :: st) σ Q := WP_iload mq274 dd274_17 rfl
theorem dd274_19 : decode cX12_write 19 = .ok (.i2l, 1) := by decide +kernel
theorem ww274_19 {d : Nat} {l0 l1 l2 l3 l4 l5 : Option mw_V} {x : Int} {st : List mw_V} {σ : mw_S} {Q : Option mw_V → mw_S → Prop} : mw_WP d 274 19 [l0, l1, l2, l3, l4, l5] (jI x :: st) σ Q ↔ mw_WP d 274 20 [l0, l1, l2, l3, l4, l5] (jL (yL x) :: st) σ Q := WP_i2l mq274 dd274_19
theorem dd274_20 : decode cX12_write 20 = .ok (.lreturn, 1) := by decide +kernel
theorem ww274_20 {d : Nat} {l0 l1 l2 l3 l4 l5 : Option mw_V} {z : Int} {σ : mw_S} {Q : Option mw_V → mw_S → Prop} : mw_WP d 274 20 [l0, l1, l2, l3, l4, l5] [jL z] σ Q ↔ Q (some (jL z)) σ := WP_lreturn mq274 dd274_20 rfl
theorem dd274_21 : decode cX12_write 21 = .ok (.iload_n 2, 1) := by decide +kernel
theorem ww274_21 {d : Nat} {l0 l1 l3 l4 l5 : Option mw_V} {x : Int} {st : List mw_V} {σ : mw_S} {Q : Option mw_V → mw_S → Prop} : mw_WP d 274 21 [l0, l1, some (jI x), l3, l4, l5] st σ Q ↔ mw_WP d 274 22 [l0, l1, some (jI x), l3, l4, l5] (jI x :: st) σ Q := WP_iload_n mq274 dd274_21 rfl
theorem dd274_22 : decode cX12_write 22 = .ok (.i2l, 1) := by decide +kernel
theorem ww274_22 {d : Nat} {l0 l1 l2 l3 l4 l5 : Option mw_V} {x : Int} {st : List mw_V} {σ : mw_S} {Q : Option mw_V → mw_S → Prop} : mw_WP d 274 22 [l0, l1, l2, l3, l4, l5] (jI x :: st) σ Q ↔ mw_WP d 274 23 [l0, l1, l2, l3, l4, l5] (jL (yL x) :: st) σ Q := WP_i2l mq274 dd274_22
theorem dd274_23 : decode cX12_write 23 = .ok (.lconst 0, 1) := by decide +kernel
theorem ww274_23 {d : Nat} {l0 l1 l2 l3 l4 l5 : Option mw_V} {st : List mw_V} {σ : mw_S} {Q : Option mw_V → mw_S → Prop} : mw_WP d 274 23 [l0, l1, l2, l3, l4, l5] st σ Q ↔ mw_WP d 274 24 [l0, l1, l2, l3, l4, l5] (jL (0) :: st) σ Q := WP_lconst mq274 dd274_23 (by decide)
theorem dd274_24 : decode cX12_write 24 = .ok (.aload_n 0, 1) := by decide +kernel
theorem ww274_24 {d : Nat} {l1 l2 l3 l4 l5 : Option mw_V} {x : Nat} {st : List mw_V} {σ : mw_S} {Q : Option mw_V → mw_S → Prop} : mw_WP d 274 24 [some (jR x), l1, l2, l3, l4, l5] st σ Q ↔ mw_WP d 274 25 [some (jR x), l1, l2, l3, l4, l5] (jR x :: st) σ Q := WP_aload_n mq274 dd274_24 rfl
theorem dd274_25 : decode cX12_write 25 = .ok (.getfield 87, 3) := by decide +kernel
theorem ww274_25 {d : Nat} {l0 l1 l2 l3 l4 l5 : Option mw_V} {st : List mw_V} {σ : mw_S} {Q : Option mw_V → mw_S → Prop} : mw_WP d 274 25 [l0, l1, l2, l3, l4, l5] (jR 100 :: st) σ Q ↔ mw_WP d 274 28 [l0, l1, l2, l3, l4, l5] (jR 123 :: st) σ Q := WP_getR (ci := 11) (k := 49) mq274 dd274_25 (by decide) rfl
theorem dd274_28 : decode cX12_write 28 = .ok (.iload_n 1, 1) := by decide +kernel
theorem ww274_28 {d : Nat} {l0 l2 l3 l4 l5 : Option mw_V} {x : Int} {st : List mw_V} {σ : mw_S} {Q : Option mw_V → mw_S → Prop} : mw_WP d 274 28 [l0, some (jI x), l2, l3, l4, l5] st σ Q ↔ mw_WP d 274 29 [l0, some (jI x), l2, l3, l4, l5] (jI x :: st) σ Q := WP_iload_n mq274 dd274_28 rfl
theorem dd274_29 : decode cX12_write 29 = .ok (.iaload, 1) := by decide +kernel
theorem ww274_29 {d : Nat} {l0 l1 l2 l3 l4 l5 : Option mw_V} {z : Int} {a : Nat} {st : List mw_V} {σ : mw_S} {Q : Option mw_V → mw_S → Prop} : mw_WP d 274 29 [l0, l1, l2, l3, l4, l5] (jI z :: jR a :: st) σ Q ↔ ((0 ≤ z ∧ z < mw_lenI a) ∧ mw_WP d 274 30 [l0, l1, l2, l3, l4, l5] (jI (mw_rdI σ a z.toNat) :: st) σ Q) := WP_iaload mq274 dd274_29
theorem dd274_30 : decode cX12_write 30 = .ok (.iconst 1, 1) := by decide +kernel
theorem ww274_30 {d : Nat} {l0 l1 l2 l3 l4 l5 : Option mw_V} {st : List mw_V} {σ : mw_S} {Q : Option mw_V → mw_S → Prop} : mw_WP d 274 30 [l0, l1, l2, l3, l4, l5] st σ Q ↔ mw_WP d 274 31 [l0, l1, l2, l3, l4, l5] (jI (1) :: st) σ Q := WP_iconst mq274 dd274_30 (by decide)
theorem dd274_31 : decode cX12_write 31 = .ok (.isub, 1) := by decide +kernel
theorem ww274_31 {d : Nat} {l0 l1 l2 l3 l4 l5 : Option mw_V} {x y : Int} {st : List mw_V} {σ : mw_S} {Q : Option mw_V → mw_S → Prop} : mw_WP d 274 31 [l0, l1, l2, l3, l4, l5] (jI y :: jI x :: st) σ Q ↔ mw_WP d 274 32 [l0, l1, l2, l3, l4, l5] (jI (w32 (x - y)) :: st) σ Q := WP_isub mq274 dd274_31
theorem dd274_32 : decode cX12_write 32 = .ok (.i2l, 1) := by decide +kernel
theorem ww274_32 {d : Nat} {l0 l1 l2 l3 l4 l5 : Option mw_V} {x : Int} {st : List mw_V} {σ : mw_S} {Q : Option mw_V → mw_S → Prop} : mw_WP d 274 32 [l0, l1, l2, l3, l4, l5] (jI x :: st) σ Q ↔ mw_WP d 274 33 [l0, l1, l2, l3, l4, l5] (jL (yL x) :: st) σ Q := WP_i2l mq274 dd274_32
theorem dd274_33 : decode cX12_write 33 = .ok (.invokestatic 159, 3) := by decide +kernel
theorem ww274_33 {d : Nat} {l0 l1 l2 l3 l4 l5 : Option mw_V} {v0 v1 v2 : mw_V} {st : List mw_V} {σ : mw_S} {Q : Option mw_V → mw_S → Prop} (h8 : (st.map mw_cat).sum ≤ 8) : mw_WP d 274 33 [l0, l1, l2, l3, l4, l5] (v2 :: v1 :: v0 :: st) σ Q ↔ mw_Call d 170 [v0, v1, v2] σ (fun r1 s1 => mw_WP d 274 36 [l0, l1, l2, l3, l4, l5] (r1.toList ++ st) s1 Q) := WP_invs (as := [v2, v1, v0]) mq274 dd274_33 (by decide) mq170 rfl rfl h8
theorem dd274_36 : decode cX12_write 36 = .ok (.ifCond .ne 7, 3) := by decide +kernel
theorem ww274_36 {d : Nat} {l0 l1 l2 l3 l4 l5 : Option mw_V} {x : Int} {st : List mw_V} {σ : mw_S} {Q : Option mw_V → mw_S → Prop} : mw_WP d 274 36 [l0, l1, l2, l3, l4, l5] (jI x :: st) σ Q ↔ (if ¬ x = 0 then mw_WP d 274 43 [l0, l1, l2, l3, l4, l5] st σ Q else mw_WP d 274 39 [l0, l1, l2, l3, l4, l5] st σ Q) := WP_if_ne mq274 dd274_36 (by decide)
theorem dd274_39 : decode cX12_write 39 = .ok (.ldc2_w 456, 3) := by decide +kernel
theorem ww274_39 {d : Nat} {l0 l1 l2 l3 l4 l5 : Option mw_V} {st : List mw_V} {σ : mw_S} {Q : Option mw_V → mw_S → Prop} : mw_WP d 274 39 [l0, l1, l2, l3, l4, l5] st σ Q ↔ mw_WP d 274 42 [l0, l1, l2, l3, l4, l5] (jL (-7) :: st) σ Q := WP_ldc2_w (v := -7) mq274 dd274_39 (by decide) (by decide)
theorem dd274_42 : decode cX12_write 42 = .ok (.lreturn, 1) := by decide +kernel
theorem ww274_42 {d : Nat} {l0 l1 l2 l3 l4 l5 : Option mw_V} {z : Int} {σ : mw_S} {Q : Option mw_V → mw_S → Prop} : mw_WP d 274 42 [l0, l1, l2, l3, l4, l5] [jL z] σ Q ↔ Q (some (jL z)) σ := WP_lreturn mq274 dd274_42 rfl
theorem dd274_43 : decode cX12_write 43 = .ok (.aload_n 0, 1) := by decide +kernel
theorem ww274_43 {d : Nat} {l1 l2 l3 l4 l5 : Option mw_V} {x : Nat} {st : List mw_V} {σ : mw_S} {Q : Option mw_V → mw_S → Prop} : mw_WP d 274 43 [some (jR x), l1, l2, l3, l4, l5] st σ Q ↔ mw_WP d 274 44 [some (jR x), l1, l2, l3, l4, l5] (jR x :: st) σ Q := WP_aload_n mq274 dd274_43 rfl
theorem dd274_44 : decode cX12_write 44 = .ok (.getfield 90, 3) := by decide +kernel
theorem ww274_44 {d : Nat} {l0 l1 l2 l3 l4 l5 : Option mw_V} {st : List mw_V} {σ : mw_S} {Q : Option mw_V → mw_S → Prop} : mw_WP d 274 44 [l0, l1, l2, l3, l4, l5] (jR 100 :: st) σ Q ↔ mw_WP d 274 47 [l0, l1, l2, l3, l4, l5] (jR 124 :: st) σ Q := WP_getR (ci := 11) (k := 50) mq274 dd274_44 (by decide) rfl
theorem dd274_47 : decode cX12_write 47 = .ok (.bipush 40, 2) := by decide +kernel
theorem ww274_47 {d : Nat} {l0 l1 l2 l3 l4 l5 : Option mw_V} {st : List mw_V} {σ : mw_S} {Q : Option mw_V → mw_S → Prop} : mw_WP d 274 47 [l0, l1, l2, l3, l4, l5] st σ Q ↔ mw_WP d 274 49 [l0, l1, l2, l3, l4, l5] (jI (40) :: st) σ Q := WP_bipush mq274 dd274_47 (by decide)
theorem dd274_49 : decode cX12_write 49 = .ok (.iload_n 1, 1) := by decide +kernel
theorem ww274_49 {d : Nat} {l0 l2 l3 l4 l5 : Option mw_V} {x : Int} {st : List mw_V} {σ : mw_S} {Q : Option mw_V → mw_S → Prop} : mw_WP d 274 49 [l0, some (jI x), l2, l3, l4, l5] st σ Q ↔ mw_WP d 274 50 [l0, some (jI x), l2, l3, l4, l5] (jI x :: st) σ Q := WP_iload_n mq274 dd274_49 rfl
theorem dd274_50 : decode cX12_write 50 = .ok (.imul, 1) := by decide +kernel
theorem ww274_50 {d : Nat} {l0 l1 l2 l3 l4 l5 : Option mw_V} {x y : Int} {st : List mw_V} {σ : mw_S} {Q : Option mw_V → mw_S → Prop} : mw_WP d 274 50 [l0, l1, l2, l3, l4, l5] (jI y :: jI x :: st) σ Q ↔ mw_WP d 274 51 [l0, l1, l2, l3, l4, l5] (jI (w32 (x * y)) :: st) σ Q := WP_imul mq274 dd274_50
theorem dd274_51 : decode cX12_write 51 = .ok (.iload_n 2, 1) := by decide +kernel
theorem ww274_51 {d : Nat} {l0 l1 l3 l4 l5 : Option mw_V} {x : Int} {st : List mw_V} {σ : mw_S} {Q : Option mw_V → mw_S → Prop} : mw_WP d 274 51 [l0, l1, some (jI x), l3, l4, l5] st σ Q ↔ mw_WP d 274 52 [l0, l1, some (jI x), l3, l4, l5] (jI x :: st) σ Q := WP_iload_n mq274 dd274_51 rfl
theorem dd274_52 : decode cX12_write 52 = .ok (.iadd, 1) := by decide +kernel
theorem ww274_52 {d : Nat} {l0 l1 l2 l3 l4 l5 : Option mw_V} {x y : Int} {st : List mw_V} {σ : mw_S} {Q : Option mw_V → mw_S → Prop} : mw_WP d 274 52 [l0, l1, l2, l3, l4, l5] (jI y :: jI x :: st) σ Q ↔ mw_WP d 274 53 [l0, l1, l2, l3, l4, l5] (jI (w32 (x + y)) :: st) σ Q := WP_iadd mq274 dd274_52
theorem dd274_53 : decode cX12_write 53 = .ok (.lload_n 3, 1) := by decide +kernel
theorem ww274_53 {d : Nat} {l0 l1 l2 l4 l5 : Option mw_V} {x : Int} {st : List mw_V} {σ : mw_S} {Q : Option mw_V → mw_S → Prop} : mw_WP d 274 53 [l0, l1, l2, some (jL x), l4, l5] st σ Q ↔ mw_WP d 274 54 [l0, l1, l2, some (jL x), l4, l5] (jL x :: st) σ Q := WP_lload_n mq274 dd274_53 rfl
theorem dd274_54 : decode cX12_write 54 = .ok (.aload_n 0, 1) := by decide +kernel
theorem ww274_54 {d : Nat} {l1 l2 l3 l4 l5 : Option mw_V} {x : Nat} {st : List mw_V} {σ : mw_S} {Q : Option mw_V → mw_S → Prop} : mw_WP d 274 54 [some (jR x), l1, l2, l3, l4, l5] st σ Q ↔ mw_WP d 274 55 [some (jR x), l1, l2, l3, l4, l5] (jR x :: st) σ Q := WP_aload_n mq274 dd274_54 rfl
theorem dd274_55 : decode cX12_write 55 = .ok (.getfield 84, 3) := by decide +kernel
theorem ww274_55 {d : Nat} {l0 l1 l2 l3 l4 l5 : Option mw_V} {st : List mw_V} {σ : mw_S} {Q : Option mw_V → mw_S → Prop} : mw_WP d 274 55 [l0, l1, l2, l3, l4, l5] (jR 100 :: st) σ Q ↔ mw_WP d 274 58 [l0, l1, l2, l3, l4, l5] (jR 122 :: st) σ Q := WP_getR (ci := 11) (k := 48) mq274 dd274_55 (by decide) rfl
theorem dd274_58 : decode cX12_write 58 = .ok (.iload_n 1, 1) := by decide +kernel
theorem ww274_58 {d : Nat} {l0 l2 l3 l4 l5 : Option mw_V} {x : Int} {st : List mw_V} {σ : mw_S} {Q : Option mw_V → mw_S → Prop} : mw_WP d 274 58 [l0, some (jI x), l2, l3, l4, l5] st σ Q ↔ mw_WP d 274 59 [l0, some (jI x), l2, l3, l4, l5] (jI x :: st) σ Q := WP_iload_n mq274 dd274_58 rfl
theorem dd274_59 : decode cX12_write 59 = .ok (.iaload, 1) := by decide +kernel
theorem ww274_59 {d : Nat} {l0 l1 l2 l3 l4 l5 : Option mw_V} {z : Int} {a : Nat} {st : List mw_V} {σ : mw_S} {Q : Option mw_V → mw_S → Prop} : mw_WP d 274 59 [l0, l1, l2, l3, l4, l5] (jI z :: jR a :: st) σ Q ↔ ((0 ≤ z ∧ z < mw_lenI a) ∧ mw_WP d 274 60 [l0, l1, l2, l3, l4, l5] (jI (mw_rdI σ a z.toNat) :: st) σ Q) := WP_iaload mq274 dd274_59
theorem dd274_60 : decode cX12_write 60 = .ok (.invokestatic 458, 3) := by decide +kernel
theorem ww274_60 {d : Nat} {l0 l1 l2 l3 l4 l5 : Option mw_V} {v0 v1 : mw_V} {st : List mw_V} {σ : mw_S} {Q : Option mw_V → mw_S → Prop} (h8 : (st.map mw_cat).sum ≤ 8) : mw_WP d 274 60 [l0, l1, l2, l3, l4, l5] (v1 :: v0 :: st) σ Q ↔ mw_Call d 272 [v0, v1] σ (fun r1 s1 => mw_WP d 274 63 [l0, l1, l2, l3, l4, l5] (r1.toList ++ st) s1 Q) := WP_invs (as := [v1, v0]) mq274 dd274_60 (by decide) mq272 rfl rfl h8
theorem dd274_63 : decode cX12_write 63 = .ok (.lastore, 1) := by decide +kernel
theorem ww274_63 {d : Nat} {l0 l1 l2 l3 l4 l5 : Option mw_V} {x z : Int} {a : Nat} {st : List mw_V} {σ : mw_S} {Q : Option mw_V → mw_S → Prop} : mw_WP d 274 63 [l0, l1, l2, l3, l4, l5] (jL x :: jI z :: jR a :: st) σ Q ↔ ((0 ≤ z ∧ z < mw_lenW 2 a) ∧ mw_WP d 274 64 [l0, l1, l2, l3, l4, l5] st (upS σ a z.toNat x) Q) := WP_lastore mq274 dd274_63
theorem dd274_64 : decode cX12_write 64 = .ok (.aload_n 0, 1) := by decide +kernel
theorem ww274_64 {d : Nat} {l1 l2 l3 l4 l5 : Option mw_V} {x : Nat} {st : List mw_V} {σ : mw_S} {Q : Option mw_V → mw_S → Prop} : mw_WP d 274 64 [some (jR x), l1, l2, l3, l4, l5] st σ Q ↔ mw_WP d 274 65 [some (jR x), l1, l2, l3, l4, l5] (jR x :: st) σ Q := WP_aload_n mq274 dd274_64 rfl
theorem dd274_65 : decode cX12_write 65 = .ok (.getfield 90, 3) := by decide +kernel
theorem ww274_65 {d : Nat} {l0 l1 l2 l3 l4 l5 : Option mw_V} {st : List mw_V} {σ : mw_S} {Q : Option mw_V → mw_S → Prop} : mw_WP d 274 65 [l0, l1, l2, l3, l4, l5] (jR 100 :: st) σ Q ↔ mw_WP d 274 68 [l0, l1, l2, l3, l4, l5] (jR 124 :: st) σ Q := WP_getR (ci := 11) (k := 50) mq274 dd274_65 (by decide) rfl
theorem dd274_68 : decode cX12_write 68 = .ok (.bipush 40, 2) := by decide +kernel
theorem ww274_68 {d : Nat} {l0 l1 l2 l3 l4 l5 : Option mw_V} {st : List mw_V} {σ : mw_S} {Q : Option mw_V → mw_S → Prop} : mw_WP d 274 68 [l0, l1, l2, l3, l4, l5] st σ Q ↔ mw_WP d 274 70 [l0, l1, l2, l3, l4, l5] (jI (40) :: st) σ Q := WP_bipush mq274 dd274_68 (by decide)
theorem dd274_70 : decode cX12_write 70 = .ok (.iload_n 1, 1) := by decide +kernel
theorem ww274_70 {d : Nat} {l0 l2 l3 l4 l5 : Option mw_V} {x : Int} {st : List mw_V} {σ : mw_S} {Q : Option mw_V → mw_S → Prop} : mw_WP d 274 70 [l0, some (jI x), l2, l3, l4, l5] st σ Q ↔ mw_WP d 274 71 [l0, some (jI x), l2, l3, l4, l5] (jI x :: st) σ Q := WP_iload_n mq274 dd274_70 rfl
theorem dd274_71 : decode cX12_write 71 = .ok (.imul, 1) := by decide +kernel
theorem ww274_71 {d : Nat} {l0 l1 l2 l3 l4 l5 : Option mw_V} {x y : Int} {st : List mw_V} {σ : mw_S} {Q : Option mw_V → mw_S → Prop} : mw_WP d 274 71 [l0, l1, l2, l3, l4, l5] (jI y :: jI x :: st) σ Q ↔ mw_WP d 274 72 [l0, l1, l2, l3, l4, l5] (jI (w32 (x * y)) :: st) σ Q := WP_imul mq274 dd274_71
theorem dd274_72 : decode cX12_write 72 = .ok (.iload_n 2, 1) := by decide +kernel
theorem ww274_72 {d : Nat} {l0 l1 l3 l4 l5 : Option mw_V} {x : Int} {st : List mw_V} {σ : mw_S} {Q : Option mw_V → mw_S → Prop} : mw_WP d 274 72 [l0, l1, some (jI x), l3, l4, l5] st σ Q ↔ mw_WP d 274 73 [l0, l1, some (jI x), l3, l4, l5] (jI x :: st) σ Q := WP_iload_n mq274 dd274_72 rfl
theorem dd274_73 : decode cX12_write 73 = .ok (.iadd, 1) := by decide +kernel
theorem ww274_73 {d : Nat} {l0 l1 l2 l3 l4 l5 : Option mw_V} {x y : Int} {st : List mw_V} {σ : mw_S} {Q : Option mw_V → mw_S → Prop} : mw_WP d 274 73 [l0, l1, l2, l3, l4, l5] (jI y :: jI x :: st) σ Q ↔ mw_WP d 274 74 [l0, l1, l2, l3, l4, l5] (jI (w32 (x + y)) :: st) σ Q := WP_iadd mq274 dd274_73
theorem dd274_74 : decode cX12_write 74 = .ok (.laload, 1) := by decide +kernel
theorem ww274_74 {d : Nat} {l0 l1 l2 l3 l4 l5 : Option mw_V} {z : Int} {a : Nat} {st : List mw_V} {σ : mw_S} {Q : Option mw_V → mw_S → Prop} : mw_WP d 274 74 [l0, l1, l2, l3, l4, l5] (jI z :: jR a :: st) σ Q ↔ ((0 ≤ z ∧ z < mw_lenW 2 a) ∧ mw_WP d 274 75 [l0, l1, l2, l3, l4, l5] (jL (σ a z.toNat) :: st) σ Q) := WP_laload mq274 dd274_74
theorem dd274_75 : decode cX12_write 75 = .ok (.lreturn, 1) := by decide +kernel
theorem ww274_75 {d : Nat} {l0 l1 l2 l3 l4 l5 : Option mw_V} {z : Int} {σ : mw_S} {Q : Option mw_V → mw_S → Prop} : mw_WP d 274 75 [l0, l1, l2, l3, l4, l5] [jL z] σ Q ↔ Q (some (jL z)) σ := WP_lreturn mq274 dd274_75 rfl
theorem ee275 {d : Nat} {a : Nat} {z0 : Int} {σ : mw_S} {Q : Option mw_V → mw_S → Prop} : mw_Call (d + 1) 275 [jR a, jI z0] σ Q ↔ mw_WP d 275 0 [some (jR a), some (jI z0), none, none, none] [] σ Q := CL_u mq275 (Nat.le_of_ble_eq_true rfl) rfl
theorem dd275_0 : decode cX12_lists 0 = .ok (.aload_n 0, 1) := by decide +kernel
theorem ww275_0 {d : Nat} {l1 l2 l3 l4 : Option mw_V} {x : Nat} {st : List mw_V} {σ : mw_S} {Q : Option mw_V → mw_S → Prop} : mw_WP d 275 0 [some (jR x), l1, l2, l3, l4] st σ Q ↔ mw_WP d 275 1 [some (jR x), l1, l2, l3, l4] (jR x :: st) σ Q := WP_aload_n mq275 dd275_0 rfl
theorem dd275_1 : decode cX12_lists 1 = .ok (.iconst 0, 1) := by decide +kernel
theorem ww275_1 {d : Nat} {l0 l1 l2 l3 l4 : Option mw_V} {st : List mw_V} {σ : mw_S} {Q : Option mw_V → mw_S → Prop} : mw_WP d 275 1 [l0, l1, l2, l3, l4] st σ Q ↔ mw_WP d 275 2 [l0, l1, l2, l3, l4] (jI (0) :: st) σ Q := WP_iconst mq275 dd275_1 (by decide)
theorem dd275_2 : decode cX12_lists 2 = .ok (.putfield 1, 3) := by decide +kernel
theorem ww275_2 {d : Nat} {l0 l1 l2 l3 l4 : Option mw_V} {v : Int} {st : List mw_V} {σ : mw_S} {Q : Option mw_V → mw_S → Prop} : mw_WP d 275 2 [l0, l1, l2, l3, l4] (jI v :: jR 100 :: st) σ Q ↔ mw_WP d 275 5 [l0, l1, l2, l3, l4] st (upS σ 100 0 v) Q := WP_putI (ci := 11) (k := 0) mq275 dd275_2 (by decide) rfl
theorem dd275_5 : decode cX12_lists 5 = .ok (.aload_n 0, 1) := by decide +kernel
theorem ww275_5 {d : Nat} {l1 l2 l3 l4 : Option mw_V} {x : Nat} {st : List mw_V} {σ : mw_S} {Q : Option mw_V → mw_S → Prop} : mw_WP d 275 5 [some (jR x), l1, l2, l3, l4] st σ Q ↔ mw_WP d 275 6 [some (jR x), l1, l2, l3, l4] (jR x :: st) σ Q := WP_aload_n mq275 dd275_5 rfl
theorem dd275_6 : decode cX12_lists 6 = .ok (.iload_n 1, 1) := by decide +kernel
theorem ww275_6 {d : Nat} {l0 l2 l3 l4 : Option mw_V} {x : Int} {st : List mw_V} {σ : mw_S} {Q : Option mw_V → mw_S → Prop} : mw_WP d 275 6 [l0, some (jI x), l2, l3, l4] st σ Q ↔ mw_WP d 275 7 [l0, some (jI x), l2, l3, l4] (jI x :: st) σ Q := WP_iload_n mq275 dd275_6 rfl
theorem dd275_7 : decode cX12_lists 7 = .ok (.invokevirtual 310, 3) := by decide +kernel
theorem ww275_7 {d : Nat} {l0 l1 l2 l3 l4 : Option mw_V} {v0 : mw_V} {a : Nat} {st : List mw_V} {σ : mw_S} {Q : Option mw_V → mw_S → Prop} (hr : mw_rc a = 12) (h8 : (st.map mw_cat).sum ≤ 8) : mw_WP d 275 7 [l0, l1, l2, l3, l4] (v0 :: jR a :: st) σ Q ↔ mw_Call d 224 [jR a, v0] σ (fun r1 s1 => mw_WP d 275 10 [l0, l1, l2, l3, l4] (r1.toList ++ st) s1 Q) := WP_inv (as := [v0]) mq275 dd275_7 (by decide) mq224 rfl hr h8
theorem dd275_10 : decode cX12_lists 10 = .ok (.istore_n 2, 1) := by decide +kernel
theorem ww275_10 {d : Nat} {l0 l1 l2 l3 l4 : Option mw_V} {x : Int} {st : List mw_V} {σ : mw_S} {Q : Option mw_V → mw_S → Prop} (h : mw_nlo l1 = true) : mw_WP d 275 10 [l0, l1, l2, l3, l4] (jI x :: st) σ Q ↔ mw_WP d 275 11 [l0, l1, some (jI x), l3, l4] st σ Q := WP_istore_n mq275 dd275_10 (Nat.le_of_ble_eq_true rfl) (mw_nl_of (i := 1) rfl h) rfl
theorem dd275_11 : decode cX12_lists 11 = .ok (.iload_n 2, 1) := by decide +kernel
theorem ww275_11 {d : Nat} {l0 l1 l3 l4 : Option mw_V} {x : Int} {st : List mw_V} {σ : mw_S} {Q : Option mw_V → mw_S → Prop} : mw_WP d 275 11 [l0, l1, some (jI x), l3, l4] st σ Q ↔ mw_WP d 275 12 [l0, l1, some (jI x), l3, l4] (jI x :: st) σ Q := WP_iload_n mq275 dd275_11 rfl
theorem dd275_12 : decode cX12_lists 12 = .ok (.ifCond .eq 5, 3) := by decide +kernel
theorem ww275_12 {d : Nat} {l0 l1 l2 l3 l4 : Option mw_V} {x : Int} {st : List mw_V} {σ : mw_S} {Q : Option mw_V → mw_S → Prop} : mw_WP d 275 12 [l0, l1, l2, l3, l4] (jI x :: st) σ Q ↔ (if x = 0 then mw_WP d 275 17 [l0, l1, l2, l3, l4] st σ Q else mw_WP d 275 15 [l0, l1, l2, l3, l4] st σ Q) := WP_if_eq mq275 dd275_12 (by decide)
theorem dd275_15 : decode cX12_lists 15 = .ok (.iload_n 2, 1) := by decide +kernel
theorem ww275_15 {d : Nat} {l0 l1 l3 l4 : Option mw_V} {x : Int} {st : List mw_V} {σ : mw_S} {Q : Option mw_V → mw_S → Prop} : mw_WP d 275 15 [l0, l1, some (jI x), l3, l4] st σ Q ↔ mw_WP d 275 16 [l0, l1, some (jI x), l3, l4] (jI x :: st) σ Q := WP_iload_n mq275 dd275_15 rfl
theorem dd275_16 : decode cX12_lists 16 = .ok (.ireturn, 1) := by decide +kernel
theorem ww275_16 {d : Nat} {l0 l1 l2 l3 l4 : Option mw_V} {z : Int} {σ : mw_S} {Q : Option mw_V → mw_S → Prop} : mw_WP d 275 16 [l0, l1, l2, l3, l4] [jI z] σ Q ↔ Q (some (jI z)) σ := WP_ireturn (ty := .int) mq275 dd275_16 rfl rfl
theorem dd275_17 : decode cX12_lists 17 = .ok (.aload_n 0, 1) := by decide +kernel
theorem ww275_17 {d : Nat} {l1 l2 l3 l4 : Option mw_V} {x : Nat} {st : List mw_V} {σ : mw_S} {Q : Option mw_V → mw_S → Prop} : mw_WP d 275 17 [some (jR x), l1, l2, l3, l4] st σ Q ↔ mw_WP d 275 18 [some (jR x), l1, l2, l3, l4] (jR x :: st) σ Q := WP_aload_n mq275 dd275_17 rfl
theorem dd275_18 : decode cX12_lists 18 = .ok (.getfield 13, 3) := by decide +kernel
theorem ww275_18 {d : Nat} {l0 l1 l2 l3 l4 : Option mw_V} {st : List mw_V} {σ : mw_S} {Q : Option mw_V → mw_S → Prop} : mw_WP d 275 18 [l0, l1, l2, l3, l4] (jR 100 :: st) σ Q ↔ mw_WP d 275 21 [l0, l1, l2, l3, l4] (jR 101 :: st) σ Q := WP_getR (ci := 11) (k := 1) mq275 dd275_18 (by decide) rfl
theorem dd275_21 : decode cX12_lists 21 = .ok (.iconst 3, 1) := by decide +kernel
theorem ww275_21 {d : Nat} {l0 l1 l2 l3 l4 : Option mw_V} {st : List mw_V} {σ : mw_S} {Q : Option mw_V → mw_S → Prop} : mw_WP d 275 21 [l0, l1, l2, l3, l4] st σ Q ↔ mw_WP d 275 22 [l0, l1, l2, l3, l4] (jI (3) :: st) σ Q := WP_iconst mq275 dd275_21 (by decide)
theorem dd275_22 : decode cX12_lists 22 = .ok (.iaload, 1) := by decide +kernel
theorem ww275_22 {d : Nat} {l0 l1 l2 l3 l4 : Option mw_V} {z : Int} {a : Nat} {st : List mw_V} {σ : mw_S} {Q : Option mw_V → mw_S → Prop} : mw_WP d 275 22 [l0, l1, l2, l3, l4] (jI z :: jR a :: st) σ Q ↔ ((0 ≤ z ∧ z < mw_lenI a) ∧ mw_WP d 275 23 [l0, l1, l2, l3, l4] (jI (mw_rdI σ a z.toNat) :: st) σ Q) := WP_iaload mq275 dd275_22
theorem dd275_23 : decode cX12_lists 23 = .ok (.aload_n 0, 1) := by decide +kernel
theorem ww275_23 {d : Nat} {l1 l2 l3 l4 : Option mw_V} {x : Nat} {st : List mw_V} {σ : mw_S} {Q : Option mw_V → mw_S → Prop} : mw_WP d 275 23 [some (jR x), l1, l2, l3, l4] st σ Q ↔ mw_WP d 275 24 [some (jR x), l1, l2, l3, l4] (jR x :: st) σ Q := WP_aload_n mq275 dd275_23 rfl
theorem dd275_24 : decode cX12_lists 24 = .ok (.getfield 87, 3) := by decide +kernel
theorem ww275_24 {d : Nat} {l0 l1 l2 l3 l4 : Option mw_V} {st : List mw_V} {σ : mw_S} {Q : Option mw_V → mw_S → Prop} : mw_WP d 275 24 [l0, l1, l2, l3, l4] (jR 100 :: st) σ Q ↔ mw_WP d 275 27 [l0, l1, l2, l3, l4] (jR 123 :: st) σ Q := WP_getR (ci := 11) (k := 49) mq275 dd275_24 (by decide) rfl
theorem dd275_27 : decode cX12_lists 27 = .ok (.iload_n 1, 1) := by decide +kernel
theorem ww275_27 {d : Nat} {l0 l2 l3 l4 : Option mw_V} {x : Int} {st : List mw_V} {σ : mw_S} {Q : Option mw_V → mw_S → Prop} : mw_WP d 275 27 [l0, some (jI x), l2, l3, l4] st σ Q ↔ mw_WP d 275 28 [l0, some (jI x), l2, l3, l4] (jI x :: st) σ Q := WP_iload_n mq275 dd275_27 rfl
theorem dd275_28 : decode cX12_lists 28 = .ok (.iaload, 1) := by decide +kernel
theorem ww275_28 {d : Nat} {l0 l1 l2 l3 l4 : Option mw_V} {z : Int} {a : Nat} {st : List mw_V} {σ : mw_S} {Q : Option mw_V → mw_S → Prop} : mw_WP d 275 28 [l0, l1, l2, l3, l4] (jI z :: jR a :: st) σ Q ↔ ((0 ≤ z ∧ z < mw_lenI a) ∧ mw_WP d 275 29 [l0, l1, l2, l3, l4] (jI (mw_rdI σ a z.toNat) :: st) σ Q) := WP_iaload mq275 dd275_28
theorem dd275_29 : decode cX12_lists 29 = .ok (.if_icmp .ge 12, 3) := by decide +kernel
theorem ww275_29 {d : Nat} {l0 l1 l2 l3 l4 : Option mw_V} {x y : Int} {st : List mw_V} {σ : mw_S} {Q : Option mw_V → mw_S → Prop} : mw_WP d 275 29 [l0, l1, l2, l3, l4] (jI y :: jI x :: st) σ Q ↔ (if y ≤ x then mw_WP d 275 41 [l0, l1, l2, l3, l4] st σ Q else mw_WP d 275 32 [l0, l1, l2, l3, l4] st σ Q) := WP_icmp_ge mq275 dd275_29 (by decide)
theorem dd275_32 : decode cX12_lists 32 = .ok (.aload_n 0, 1) := by decide +kernel
theorem ww275_32 {d : Nat} {l1 l2 l3 l4 : Option mw_V} {x : Nat} {st : List mw_V} {σ : mw_S} {Q : Option mw_V → mw_S → Prop} : mw_WP d 275 32 [some (jR x), l1, l2, l3, l4] st σ Q ↔ mw_WP d 275 33 [some (jR x), l1, l2, l3, l4] (jR x :: st) σ Q := WP_aload_n mq275 dd275_32 rfl
theorem dd275_33 : decode cX12_lists 33 = .ok (.getfield 13, 3) := by decide +kernel
theorem ww275_33 {d : Nat} {l0 l1 l2 l3 l4 : Option mw_V} {st : List mw_V} {σ : mw_S} {Q : Option mw_V → mw_S → Prop} : mw_WP d 275 33 [l0, l1, l2, l3, l4] (jR 100 :: st) σ Q ↔ mw_WP d 275 36 [l0, l1, l2, l3, l4] (jR 101 :: st) σ Q := WP_getR (ci := 11) (k := 1) mq275 dd275_33 (by decide) rfl
theorem dd275_36 : decode cX12_lists 36 = .ok (.iconst 3, 1) := by decide +kernel
theorem ww275_36 {d : Nat} {l0 l1 l2 l3 l4 : Option mw_V} {st : List mw_V} {σ : mw_S} {Q : Option mw_V → mw_S → Prop} : mw_WP d 275 36 [l0, l1, l2, l3, l4] st σ Q ↔ mw_WP d 275 37 [l0, l1, l2, l3, l4] (jI (3) :: st) σ Q := WP_iconst mq275 dd275_36 (by decide)
theorem dd275_37 : decode cX12_lists 37 = .ok (.iaload, 1) := by decide +kernel
theorem ww275_37 {d : Nat} {l0 l1 l2 l3 l4 : Option mw_V} {z : Int} {a : Nat} {st : List mw_V} {σ : mw_S} {Q : Option mw_V → mw_S → Prop} : mw_WP d 275 37 [l0, l1, l2, l3, l4] (jI z :: jR a :: st) σ Q ↔ ((0 ≤ z ∧ z < mw_lenI a) ∧ mw_WP d 275 38 [l0, l1, l2, l3, l4] (jI (mw_rdI σ a z.toNat) :: st) σ Q) := WP_iaload mq275 dd275_37
theorem dd275_38 : decode cX12_lists 38 = .ok (.goto 9, 3) := by decide +kernel
theorem ww275_38 {d : Nat} {l0 l1 l2 l3 l4 : Option mw_V} {st : List mw_V} {σ : mw_S} {Q : Option mw_V → mw_S → Prop} : mw_WP d 275 38 [l0, l1, l2, l3, l4] st σ Q ↔ mw_WP d 275 47 [l0, l1, l2, l3, l4] st σ Q := WP_goto mq275 dd275_38 (by decide)
theorem dd275_41 : decode cX12_lists 41 = .ok (.aload_n 0, 1) := by decide +kernel
theorem ww275_41 {d : Nat} {l1 l2 l3 l4 : Option mw_V} {x : Nat} {st : List mw_V} {σ : mw_S} {Q : Option mw_V → mw_S → Prop} : mw_WP d 275 41 [some (jR x), l1, l2, l3, l4] st σ Q ↔ mw_WP d 275 42 [some (jR x), l1, l2, l3, l4] (jR x :: st) σ Q := WP_aload_n mq275 dd275_41 rfl
theorem dd275_42 : decode cX12_lists 42 = .ok (.getfield 87, 3) := by decide +kernel
theorem ww275_42 {d : Nat} {l0 l1 l2 l3 l4 : Option mw_V} {st : List mw_V} {σ : mw_S} {Q : Option mw_V → mw_S → Prop} : mw_WP d 275 42 [l0, l1, l2, l3, l4] (jR 100 :: st) σ Q ↔ mw_WP d 275 45 [l0, l1, l2, l3, l4] (jR 123 :: st) σ Q := WP_getR (ci := 11) (k := 49) mq275 dd275_42 (by decide) rfl
theorem dd275_45 : decode cX12_lists 45 = .ok (.iload_n 1, 1) := by decide +kernel
theorem ww275_45 {d : Nat} {l0 l2 l3 l4 : Option mw_V} {x : Int} {st : List mw_V} {σ : mw_S} {Q : Option mw_V → mw_S → Prop} : mw_WP d 275 45 [l0, some (jI x), l2, l3, l4] st σ Q ↔ mw_WP d 275 46 [l0, some (jI x), l2, l3, l4] (jI x :: st) σ Q := WP_iload_n mq275 dd275_45 rfl
theorem dd275_46 : decode cX12_lists 46 = .ok (.iaload, 1) := by decide +kernel
theorem ww275_46 {d : Nat} {l0 l1 l2 l3 l4 : Option mw_V} {z : Int} {a : Nat} {st : List mw_V} {σ : mw_S} {Q : Option mw_V → mw_S → Prop} : mw_WP d 275 46 [l0, l1, l2, l3, l4] (jI z :: jR a :: st) σ Q ↔ ((0 ≤ z ∧ z < mw_lenI a) ∧ mw_WP d 275 47 [l0, l1, l2, l3, l4] (jI (mw_rdI σ a z.toNat) :: st) σ Q) := WP_iaload mq275 dd275_46
theorem dd275_47 : decode cX12_lists 47 = .ok (.istore_n 3, 1) := by decide +kernel
theorem ww275_47 {d : Nat} {l0 l1 l2 l3 l4 : Option mw_V} {x : Int} {st : List mw_V} {σ : mw_S} {Q : Option mw_V → mw_S → Prop} (h : mw_nlo l2 = true) : mw_WP d 275 47 [l0, l1, l2, l3, l4] (jI x :: st) σ Q ↔ mw_WP d 275 48 [l0, l1, l2, some (jI x), l4] st σ Q := WP_istore_n mq275 dd275_47 (Nat.le_of_ble_eq_true rfl) (mw_nl_of (i := 2) rfl h) rfl
theorem dd275_48 : decode cX12_lists 48 = .ok (.iconst 0, 1) := by decide +kernel
theorem ww275_48 {d : Nat} {l0 l1 l2 l3 l4 : Option mw_V} {st : List mw_V} {σ : mw_S} {Q : Option mw_V → mw_S → Prop} : mw_WP d 275 48 [l0, l1, l2, l3, l4] st σ Q ↔ mw_WP d 275 49 [l0, l1, l2, l3, l4] (jI (0) :: st) σ Q := WP_iconst mq275 dd275_48 (by decide)
theorem dd275_49 : decode cX12_lists 49 = .ok (.istore 4, 2) := by decide +kernel
theorem ww275_49 {d : Nat} {l0 l1 l2 l3 l4 : Option mw_V} {x : Int} {st : List mw_V} {σ : mw_S} {Q : Option mw_V → mw_S → Prop} (h : mw_nlo l3 = true) : mw_WP d 275 49 [l0, l1, l2, l3, l4] (jI x :: st) σ Q ↔ mw_WP d 275 51 [l0, l1, l2, l3, some (jI x)] st σ Q := WP_istore mq275 dd275_49 (Nat.le_of_ble_eq_true rfl) (mw_nl_of (i := 3) rfl h) rfl
theorem dd275_51 : decode cX12_lists 51 = .ok (.iload 4, 2) := by decide +kernel
theorem ww275_51 {d : Nat} {l0 l1 l2 l3 : Option mw_V} {x : Int} {st : List mw_V} {σ : mw_S} {Q : Option mw_V → mw_S → Prop} : mw_WP d 275 51 [l0, l1, l2, l3, some (jI x)] st σ Q ↔ mw_WP d 275 53 [l0, l1, l2, l3, some (jI x)] (jI x :: st) σ Q := WP_iload mq275 dd275_51 rfl
theorem dd275_53 : decode cX12_lists 53 = .ok (.iload_n 3, 1) := by decide +kernel
theorem ww275_53 {d : Nat} {l0 l1 l2 l4 : Option mw_V} {x : Int} {st : List mw_V} {σ : mw_S} {Q : Option mw_V → mw_S → Prop} : mw_WP d 275 53 [l0, l1, l2, some (jI x), l4] st σ Q ↔ mw_WP d 275 54 [l0, l1, l2, some (jI x), l4] (jI x :: st) σ Q := WP_iload_n mq275 dd275_53 rfl
theorem dd275_54 : decode cX12_lists 54 = .ok (.if_icmp .ge 41, 3) := by decide +kernel
theorem ww275_54 {d : Nat} {l0 l1 l2 l3 l4 : Option mw_V} {x y : Int} {st : List mw_V} {σ : mw_S} {Q : Option mw_V → mw_S → Prop} : mw_WP d 275 54 [l0, l1, l2, l3, l4] (jI y :: jI x :: st) σ Q ↔ (if y ≤ x then mw_WP d 275 95 [l0, l1, l2, l3, l4] st σ Q else mw_WP d 275 57 [l0, l1, l2, l3, l4] st σ Q) := WP_icmp_ge mq275 dd275_54 (by decide)
theorem dd275_57 : decode cX12_lists 57 = .ok (.aload_n 0, 1) := by decide +kernel
theorem ww275_57 {d : Nat} {l1 l2 l3 l4 : Option mw_V} {x : Nat} {st : List mw_V} {σ : mw_S} {Q : Option mw_V → mw_S → Prop} : mw_WP d 275 57 [some (jR x), l1, l2, l3, l4] st σ Q ↔ mw_WP d 275 58 [some (jR x), l1, l2, l3, l4] (jR x :: st) σ Q := WP_aload_n mq275 dd275_57 rfl
theorem dd275_58 : decode cX12_lists 58 = .ok (.getfield 90, 3) := by decide +kernel
theorem ww275_58 {d : Nat} {l0 l1 l2 l3 l4 : Option mw_V} {st : List mw_V} {σ : mw_S} {Q : Option mw_V → mw_S → Prop} : mw_WP d 275 58 [l0, l1, l2, l3, l4] (jR 100 :: st) σ Q ↔ mw_WP d 275 61 [l0, l1, l2, l3, l4] (jR 124 :: st) σ Q := WP_getR (ci := 11) (k := 50) mq275 dd275_58 (by decide) rfl
theorem dd275_61 : decode cX12_lists 61 = .ok (.bipush 40, 2) := by decide +kernel
theorem ww275_61 {d : Nat} {l0 l1 l2 l3 l4 : Option mw_V} {st : List mw_V} {σ : mw_S} {Q : Option mw_V → mw_S → Prop} : mw_WP d 275 61 [l0, l1, l2, l3, l4] st σ Q ↔ mw_WP d 275 63 [l0, l1, l2, l3, l4] (jI (40) :: st) σ Q := WP_bipush mq275 dd275_61 (by decide)
theorem dd275_63 : decode cX12_lists 63 = .ok (.iload_n 1, 1) := by decide +kernel
theorem ww275_63 {d : Nat} {l0 l2 l3 l4 : Option mw_V} {x : Int} {st : List mw_V} {σ : mw_S} {Q : Option mw_V → mw_S → Prop} : mw_WP d 275 63 [l0, some (jI x), l2, l3, l4] st σ Q ↔ mw_WP d 275 64 [l0, some (jI x), l2, l3, l4] (jI x :: st) σ Q := WP_iload_n mq275 dd275_63 rfl
theorem dd275_64 : decode cX12_lists 64 = .ok (.imul, 1) := by decide +kernel
theorem ww275_64 {d : Nat} {l0 l1 l2 l3 l4 : Option mw_V} {x y : Int} {st : List mw_V} {σ : mw_S} {Q : Option mw_V → mw_S → Prop} : mw_WP d 275 64 [l0, l1, l2, l3, l4] (jI y :: jI x :: st) σ Q ↔ mw_WP d 275 65 [l0, l1, l2, l3, l4] (jI (w32 (x * y)) :: st) σ Q := WP_imul mq275 dd275_64
theorem dd275_65 : decode cX12_lists 65 = .ok (.iload 4, 2) := by decide +kernel
theorem ww275_65 {d : Nat} {l0 l1 l2 l3 : Option mw_V} {x : Int} {st : List mw_V} {σ : mw_S} {Q : Option mw_V → mw_S → Prop} : mw_WP d 275 65 [l0, l1, l2, l3, some (jI x)] st σ Q ↔ mw_WP d 275 67 [l0, l1, l2, l3, some (jI x)] (jI x :: st) σ Q := WP_iload mq275 dd275_65 rfl
theorem dd275_67 : decode cX12_lists 67 = .ok (.iadd, 1) := by decide +kernel
theorem ww275_67 {d : Nat} {l0 l1 l2 l3 l4 : Option mw_V} {x y : Int} {st : List mw_V} {σ : mw_S} {Q : Option mw_V → mw_S → Prop} : mw_WP d 275 67 [l0, l1, l2, l3, l4] (jI y :: jI x :: st) σ Q ↔ mw_WP d 275 68 [l0, l1, l2, l3, l4] (jI (w32 (x + y)) :: st) σ Q := WP_iadd mq275 dd275_67
theorem dd275_68 : decode cX12_lists 68 = .ok (.aload_n 0, 1) := by decide +kernel
theorem ww275_68 {d : Nat} {l1 l2 l3 l4 : Option mw_V} {x : Nat} {st : List mw_V} {σ : mw_S} {Q : Option mw_V → mw_S → Prop} : mw_WP d 275 68 [some (jR x), l1, l2, l3, l4] st σ Q ↔ mw_WP d 275 69 [some (jR x), l1, l2, l3, l4] (jR x :: st) σ Q := WP_aload_n mq275 dd275_68 rfl
theorem dd275_69 : decode cX12_lists 69 = .ok (.getfield 13, 3) := by decide +kernel
theorem ww275_69 {d : Nat} {l0 l1 l2 l3 l4 : Option mw_V} {st : List mw_V} {σ : mw_S} {Q : Option mw_V → mw_S → Prop} : mw_WP d 275 69 [l0, l1, l2, l3, l4] (jR 100 :: st) σ Q ↔ mw_WP d 275 72 [l0, l1, l2, l3, l4] (jR 101 :: st) σ Q := WP_getR (ci := 11) (k := 1) mq275 dd275_69 (by decide) rfl
theorem dd275_72 : decode cX12_lists 72 = .ok (.bipush 50, 2) := by decide +kernel
theorem ww275_72 {d : Nat} {l0 l1 l2 l3 l4 : Option mw_V} {st : List mw_V} {σ : mw_S} {Q : Option mw_V → mw_S → Prop} : mw_WP d 275 72 [l0, l1, l2, l3, l4] st σ Q ↔ mw_WP d 275 74 [l0, l1, l2, l3, l4] (jI (50) :: st) σ Q := WP_bipush mq275 dd275_72 (by decide)
theorem dd275_74 : decode cX12_lists 74 = .ok (.iload 4, 2) := by decide +kernel
theorem ww275_74 {d : Nat} {l0 l1 l2 l3 : Option mw_V} {x : Int} {st : List mw_V} {σ : mw_S} {Q : Option mw_V → mw_S → Prop} : mw_WP d 275 74 [l0, l1, l2, l3, some (jI x)] st σ Q ↔ mw_WP d 275 76 [l0, l1, l2, l3, some (jI x)] (jI x :: st) σ Q := WP_iload mq275 dd275_74 rfl
theorem dd275_76 : decode cX12_lists 76 = .ok (.iadd, 1) := by decide +kernel
theorem ww275_76 {d : Nat} {l0 l1 l2 l3 l4 : Option mw_V} {x y : Int} {st : List mw_V} {σ : mw_S} {Q : Option mw_V → mw_S → Prop} : mw_WP d 275 76 [l0, l1, l2, l3, l4] (jI y :: jI x :: st) σ Q ↔ mw_WP d 275 77 [l0, l1, l2, l3, l4] (jI (w32 (x + y)) :: st) σ Q := WP_iadd mq275 dd275_76
theorem dd275_77 : decode cX12_lists 77 = .ok (.iaload, 1) := by decide +kernel
theorem ww275_77 {d : Nat} {l0 l1 l2 l3 l4 : Option mw_V} {z : Int} {a : Nat} {st : List mw_V} {σ : mw_S} {Q : Option mw_V → mw_S → Prop} : mw_WP d 275 77 [l0, l1, l2, l3, l4] (jI z :: jR a :: st) σ Q ↔ ((0 ≤ z ∧ z < mw_lenI a) ∧ mw_WP d 275 78 [l0, l1, l2, l3, l4] (jI (mw_rdI σ a z.toNat) :: st) σ Q) := WP_iaload mq275 dd275_77
theorem dd275_78 : decode cX12_lists 78 = .ok (.i2l, 1) := by decide +kernel
theorem ww275_78 {d : Nat} {l0 l1 l2 l3 l4 : Option mw_V} {x : Int} {st : List mw_V} {σ : mw_S} {Q : Option mw_V → mw_S → Prop} : mw_WP d 275 78 [l0, l1, l2, l3, l4] (jI x :: st) σ Q ↔ mw_WP d 275 79 [l0, l1, l2, l3, l4] (jL (yL x) :: st) σ Q := WP_i2l mq275 dd275_78
theorem dd275_79 : decode cX12_lists 79 = .ok (.aload_n 0, 1) := by decide +kernel
theorem ww275_79 {d : Nat} {l1 l2 l3 l4 : Option mw_V} {x : Nat} {st : List mw_V} {σ : mw_S} {Q : Option mw_V → mw_S → Prop} : mw_WP d 275 79 [some (jR x), l1, l2, l3, l4] st σ Q ↔ mw_WP d 275 80 [some (jR x), l1, l2, l3, l4] (jR x :: st) σ Q := WP_aload_n mq275 dd275_79 rfl
theorem dd275_80 : decode cX12_lists 80 = .ok (.getfield 84, 3) := by decide +kernel
theorem ww275_80 {d : Nat} {l0 l1 l2 l3 l4 : Option mw_V} {st : List mw_V} {σ : mw_S} {Q : Option mw_V → mw_S → Prop} : mw_WP d 275 80 [l0, l1, l2, l3, l4] (jR 100 :: st) σ Q ↔ mw_WP d 275 83 [l0, l1, l2, l3, l4] (jR 122 :: st) σ Q := WP_getR (ci := 11) (k := 48) mq275 dd275_80 (by decide) rfl
theorem dd275_83 : decode cX12_lists 83 = .ok (.iload_n 1, 1) := by decide +kernel
theorem ww275_83 {d : Nat} {l0 l2 l3 l4 : Option mw_V} {x : Int} {st : List mw_V} {σ : mw_S} {Q : Option mw_V → mw_S → Prop} : mw_WP d 275 83 [l0, some (jI x), l2, l3, l4] st σ Q ↔ mw_WP d 275 84 [l0, some (jI x), l2, l3, l4] (jI x :: st) σ Q := WP_iload_n mq275 dd275_83 rfl
theorem dd275_84 : decode cX12_lists 84 = .ok (.iaload, 1) := by decide +kernel
theorem ww275_84 {d : Nat} {l0 l1 l2 l3 l4 : Option mw_V} {z : Int} {a : Nat} {st : List mw_V} {σ : mw_S} {Q : Option mw_V → mw_S → Prop} : mw_WP d 275 84 [l0, l1, l2, l3, l4] (jI z :: jR a :: st) σ Q ↔ ((0 ≤ z ∧ z < mw_lenI a) ∧ mw_WP d 275 85 [l0, l1, l2, l3, l4] (jI (mw_rdI σ a z.toNat) :: st) σ Q) := WP_iaload mq275 dd275_84
theorem dd275_85 : decode cX12_lists 85 = .ok (.invokestatic 458, 3) := by decide +kernel
theorem ww275_85 {d : Nat} {l0 l1 l2 l3 l4 : Option mw_V} {v0 v1 : mw_V} {st : List mw_V} {σ : mw_S} {Q : Option mw_V → mw_S → Prop} (h8 : (st.map mw_cat).sum ≤ 8) : mw_WP d 275 85 [l0, l1, l2, l3, l4] (v1 :: v0 :: st) σ Q ↔ mw_Call d 272 [v0, v1] σ (fun r1 s1 => mw_WP d 275 88 [l0, l1, l2, l3, l4] (r1.toList ++ st) s1 Q) := WP_invs (as := [v1, v0]) mq275 dd275_85 (by decide) mq272 rfl rfl h8
theorem dd275_88 : decode cX12_lists 88 = .ok (.lastore, 1) := by decide +kernel
theorem ww275_88 {d : Nat} {l0 l1 l2 l3 l4 : Option mw_V} {x z : Int} {a : Nat} {st : List mw_V} {σ : mw_S} {Q : Option mw_V → mw_S → Prop} : mw_WP d 275 88 [l0, l1, l2, l3, l4] (jL x :: jI z :: jR a :: st) σ Q ↔ ((0 ≤ z ∧ z < mw_lenW 2 a) ∧ mw_WP d 275 89 [l0, l1, l2, l3, l4] st (upS σ a z.toNat x) Q) := WP_lastore mq275 dd275_88
theorem dd275_89 : decode cX12_lists 89 = .ok (.iinc 4 1, 3) := by decide +kernel
theorem ww275_89 {d : Nat} {l0 l1 l2 l3 : Option mw_V} {x : Int} {st : List mw_V} {σ : mw_S} {Q : Option mw_V → mw_S → Prop} (h : mw_nlo l3 = true) : mw_WP d 275 89 [l0, l1, l2, l3, some (jI x)] st σ Q ↔ mw_WP d 275 92 [l0, l1, l2, l3, some (jI (w32 (x + (1))))] st σ Q := WP_iinc mq275 dd275_89 rfl (Nat.le_of_ble_eq_true rfl) (mw_nl_of (i := 3) rfl h) rfl
theorem dd275_92 : decode cX12_lists 92 = .ok (.goto (-41), 3) := by decide +kernel
theorem ww275_92 {d : Nat} {l0 l1 l2 l3 l4 : Option mw_V} {st : List mw_V} {σ : mw_S} {Q : Option mw_V → mw_S → Prop} : mw_WP d 275 92 [l0, l1, l2, l3, l4] st σ Q ↔ mw_WP d 275 51 [l0, l1, l2, l3, l4] st σ Q := WP_goto mq275 dd275_92 (by decide)
theorem dd275_95 : decode cX12_lists 95 = .ok (.iload_n 3, 1) := by decide +kernel
theorem ww275_95 {d : Nat} {l0 l1 l2 l4 : Option mw_V} {x : Int} {st : List mw_V} {σ : mw_S} {Q : Option mw_V → mw_S → Prop} : mw_WP d 275 95 [l0, l1, l2, some (jI x), l4] st σ Q ↔ mw_WP d 275 96 [l0, l1, l2, some (jI x), l4] (jI x :: st) σ Q := WP_iload_n mq275 dd275_95 rfl
theorem dd275_96 : decode cX12_lists 96 = .ok (.ireturn, 1) := by decide +kernel
theorem ww275_96 {d : Nat} {l0 l1 l2 l3 l4 : Option mw_V} {z : Int} {σ : mw_S} {Q : Option mw_V → mw_S → Prop} : mw_WP d 275 96 [l0, l1, l2, l3, l4] [jI z] σ Q ↔ Q (some (jI z)) σ := WP_ireturn (ty := .int) mq275 dd275_96 rfl rfl
theorem ee276 {d : Nat} {a : Nat} {z0 : Int} {σ : mw_S} {Q : Option mw_V → mw_S → Prop} : mw_Call (d + 1) 276 [jR a, jI z0] σ Q ↔ mw_WP d 276 0 [some (jR a), some (jI z0), none] [] σ Q := CL_u mq276 (Nat.le_of_ble_eq_true rfl) rfl
theorem dd276_0 : decode cX12_image 0 = .ok (.aload_n 0, 1) := by decide +kernel
theorem ww276_0 {d : Nat} {l1 l2 : Option mw_V} {x : Nat} {st : List mw_V} {σ : mw_S} {Q : Option mw_V → mw_S → Prop} : mw_WP d 276 0 [some (jR x), l1, l2] st σ Q ↔ mw_WP d 276 1 [some (jR x), l1, l2] (jR x :: st) σ Q := WP_aload_n mq276 dd276_0 rfl
theorem dd276_1 : decode cX12_image 1 = .ok (.iconst 0, 1) := by decide +kernel
theorem ww276_1 {d : Nat} {l0 l1 l2 : Option mw_V} {st : List mw_V} {σ : mw_S} {Q : Option mw_V → mw_S → Prop} : mw_WP d 276 1 [l0, l1, l2] st σ Q ↔ mw_WP d 276 2 [l0, l1, l2] (jI (0) :: st) σ Q := WP_iconst mq276 dd276_1 (by decide)
theorem dd276_2 : decode cX12_image 2 = .ok (.putfield 1, 3) := by decide +kernel
theorem ww276_2 {d : Nat} {l0 l1 l2 : Option mw_V} {v : Int} {st : List mw_V} {σ : mw_S} {Q : Option mw_V → mw_S → Prop} : mw_WP d 276 2 [l0, l1, l2] (jI v :: jR 100 :: st) σ Q ↔ mw_WP d 276 5 [l0, l1, l2] st (upS σ 100 0 v) Q := WP_putI (ci := 11) (k := 0) mq276 dd276_2 (by decide) rfl
theorem dd276_5 : decode cX12_image 5 = .ok (.iload_n 1, 1) := by decide +kernel
theorem ww276_5 {d : Nat} {l0 l2 : Option mw_V} {x : Int} {st : List mw_V} {σ : mw_S} {Q : Option mw_V → mw_S → Prop} : mw_WP d 276 5 [l0, some (jI x), l2] st σ Q ↔ mw_WP d 276 6 [l0, some (jI x), l2] (jI x :: st) σ Q := WP_iload_n mq276 dd276_5 rfl
theorem dd276_6 : decode cX12_image 6 = .ok (.i2l, 1) := by decide +kernel
theorem ww276_6 {d : Nat} {l0 l1 l2 : Option mw_V} {x : Int} {st : List mw_V} {σ : mw_S} {Q : Option mw_V → mw_S → Prop} : mw_WP d 276 6 [l0, l1, l2] (jI x :: st) σ Q ↔ mw_WP d 276 7 [l0, l1, l2] (jL (yL x) :: st) σ Q := WP_i2l mq276 dd276_6
theorem dd276_7 : decode cX12_image 7 = .ok (.lconst 0, 1) := by decide +kernel
theorem ww276_7 {d : Nat} {l0 l1 l2 : Option mw_V} {st : List mw_V} {σ : mw_S} {Q : Option mw_V → mw_S → Prop} : mw_WP d 276 7 [l0, l1, l2] st σ Q ↔ mw_WP d 276 8 [l0, l1, l2] (jL (0) :: st) σ Q := WP_lconst mq276 dd276_7 (by decide)
theorem dd276_8 : decode cX12_image 8 = .ok (.lconst 1, 1) := by decide +kernel
theorem ww276_8 {d : Nat} {l0 l1 l2 : Option mw_V} {st : List mw_V} {σ : mw_S} {Q : Option mw_V → mw_S → Prop} : mw_WP d 276 8 [l0, l1, l2] st σ Q ↔ mw_WP d 276 9 [l0, l1, l2] (jL (1) :: st) σ Q := WP_lconst mq276 dd276_8 (by decide)
theorem dd276_9 : decode cX12_image 9 = .ok (.invokestatic 159, 3) := by decide +kernel
theorem ww276_9 {d : Nat} {l0 l1 l2 : Option mw_V} {v0 v1 v2 : mw_V} {st : List mw_V} {σ : mw_S} {Q : Option mw_V → mw_S → Prop} (h8 : (st.map mw_cat).sum ≤ 8) : mw_WP d 276 9 [l0, l1, l2] (v2 :: v1 :: v0 :: st) σ Q ↔ mw_Call d 170 [v0, v1, v2] σ (fun r1 s1 => mw_WP d 276 12 [l0, l1, l2] (r1.toList ++ st) s1 Q) := WP_invs (as := [v2, v1, v0]) mq276 dd276_9 (by decide) mq170 rfl rfl h8
theorem dd276_12 : decode cX12_image 12 = .ok (.ifCond .ne 6, 3) := by decide +kernel
theorem ww276_12 {d : Nat} {l0 l1 l2 : Option mw_V} {x : Int} {st : List mw_V} {σ : mw_S} {Q : Option mw_V → mw_S → Prop} : mw_WP d 276 12 [l0, l1, l2] (jI x :: st) σ Q ↔ (if ¬ x = 0 then mw_WP d 276 18 [l0, l1, l2] st σ Q else mw_WP d 276 15 [l0, l1, l2] st σ Q) := WP_if_ne mq276 dd276_12 (by decide)
theorem dd276_15 : decode cX12_image 15 = .ok (.bipush (-2), 2) := by decide +kernel
theorem ww276_15 {d : Nat} {l0 l1 l2 : Option mw_V} {st : List mw_V} {σ : mw_S} {Q : Option mw_V → mw_S → Prop} : mw_WP d 276 15 [l0, l1, l2] st σ Q ↔ mw_WP d 276 17 [l0, l1, l2] (jI (-2) :: st) σ Q := WP_bipush mq276 dd276_15 (by decide)
theorem dd276_17 : decode cX12_image 17 = .ok (.ireturn, 1) := by decide +kernel
theorem ww276_17 {d : Nat} {l0 l1 l2 : Option mw_V} {z : Int} {σ : mw_S} {Q : Option mw_V → mw_S → Prop} : mw_WP d 276 17 [l0, l1, l2] [jI z] σ Q ↔ Q (some (jI z)) σ := WP_ireturn (ty := .int) mq276 dd276_17 rfl rfl
theorem dd276_18 : decode cX12_image 18 = .ok (.iconst 0, 1) := by decide +kernel
theorem ww276_18 {d : Nat} {l0 l1 l2 : Option mw_V} {st : List mw_V} {σ : mw_S} {Q : Option mw_V → mw_S → Prop} : mw_WP d 276 18 [l0, l1, l2] st σ Q ↔ mw_WP d 276 19 [l0, l1, l2] (jI (0) :: st) σ Q := WP_iconst mq276 dd276_18 (by decide)
theorem dd276_19 : decode cX12_image 19 = .ok (.istore_n 2, 1) := by decide +kernel
theorem ww276_19 {d : Nat} {l0 l1 l2 : Option mw_V} {x : Int} {st : List mw_V} {σ : mw_S} {Q : Option mw_V → mw_S → Prop} (h : mw_nlo l1 = true) : mw_WP d 276 19 [l0, l1, l2] (jI x :: st) σ Q ↔ mw_WP d 276 20 [l0, l1, some (jI x)] st σ Q := WP_istore_n mq276 dd276_19 (Nat.le_of_ble_eq_true rfl) (mw_nl_of (i := 1) rfl h) rfl
theorem dd276_20 : decode cX12_image 20 = .ok (.iload_n 2, 1) := by decide +kernel
theorem ww276_20 {d : Nat} {l0 l1 : Option mw_V} {x : Int} {st : List mw_V} {σ : mw_S} {Q : Option mw_V → mw_S → Prop} : mw_WP d 276 20 [l0, l1, some (jI x)] st σ Q ↔ mw_WP d 276 21 [l0, l1, some (jI x)] (jI x :: st) σ Q := WP_iload_n mq276 dd276_20 rfl
theorem dd276_21 : decode cX12_image 21 = .ok (.sipush 1460, 3) := by decide +kernel
theorem ww276_21 {d : Nat} {l0 l1 l2 : Option mw_V} {st : List mw_V} {σ : mw_S} {Q : Option mw_V → mw_S → Prop} : mw_WP d 276 21 [l0, l1, l2] st σ Q ↔ mw_WP d 276 24 [l0, l1, l2] (jI (1460) :: st) σ Q := WP_sipush mq276 dd276_21 (by decide)
theorem dd276_24 : decode cX12_image 24 = .ok (.if_icmp .ge 29, 3) := by decide +kernel
theorem ww276_24 {d : Nat} {l0 l1 l2 : Option mw_V} {x y : Int} {st : List mw_V} {σ : mw_S} {Q : Option mw_V → mw_S → Prop} : mw_WP d 276 24 [l0, l1, l2] (jI y :: jI x :: st) σ Q ↔ (if y ≤ x then mw_WP d 276 53 [l0, l1, l2] st σ Q else mw_WP d 276 27 [l0, l1, l2] st σ Q) := WP_icmp_ge mq276 dd276_24 (by decide)
theorem dd276_27 : decode cX12_image 27 = .ok (.aload_n 0, 1) := by decide +kernel
theorem ww276_27 {d : Nat} {l1 l2 : Option mw_V} {x : Nat} {st : List mw_V} {σ : mw_S} {Q : Option mw_V → mw_S → Prop} : mw_WP d 276 27 [some (jR x), l1, l2] st σ Q ↔ mw_WP d 276 28 [some (jR x), l1, l2] (jR x :: st) σ Q := WP_aload_n mq276 dd276_27 rfl
theorem dd276_28 : decode cX12_image 28 = .ok (.getfield 13, 3) := by decide +kernel
theorem ww276_28 {d : Nat} {l0 l1 l2 : Option mw_V} {st : List mw_V} {σ : mw_S} {Q : Option mw_V → mw_S → Prop} : mw_WP d 276 28 [l0, l1, l2] (jR 100 :: st) σ Q ↔ mw_WP d 276 31 [l0, l1, l2] (jR 101 :: st) σ Q := WP_getR (ci := 11) (k := 1) mq276 dd276_28 (by decide) rfl
theorem dd276_31 : decode cX12_image 31 = .ok (.sipush 1460, 3) := by decide +kernel
theorem ww276_31 {d : Nat} {l0 l1 l2 : Option mw_V} {st : List mw_V} {σ : mw_S} {Q : Option mw_V → mw_S → Prop} : mw_WP d 276 31 [l0, l1, l2] st σ Q ↔ mw_WP d 276 34 [l0, l1, l2] (jI (1460) :: st) σ Q := WP_sipush mq276 dd276_31 (by decide)
theorem dd276_34 : decode cX12_image 34 = .ok (.iload_n 1, 1) := by decide +kernel
theorem ww276_34 {d : Nat} {l0 l2 : Option mw_V} {x : Int} {st : List mw_V} {σ : mw_S} {Q : Option mw_V → mw_S → Prop} : mw_WP d 276 34 [l0, some (jI x), l2] st σ Q ↔ mw_WP d 276 35 [l0, some (jI x), l2] (jI x :: st) σ Q := WP_iload_n mq276 dd276_34 rfl
theorem dd276_35 : decode cX12_image 35 = .ok (.iconst 1, 1) := by decide +kernel
theorem ww276_35 {d : Nat} {l0 l1 l2 : Option mw_V} {st : List mw_V} {σ : mw_S} {Q : Option mw_V → mw_S → Prop} : mw_WP d 276 35 [l0, l1, l2] st σ Q ↔ mw_WP d 276 36 [l0, l1, l2] (jI (1) :: st) σ Q := WP_iconst mq276 dd276_35 (by decide)
theorem dd276_36 : decode cX12_image 36 = .ok (.iadd, 1) := by decide +kernel
theorem ww276_36 {d : Nat} {l0 l1 l2 : Option mw_V} {x y : Int} {st : List mw_V} {σ : mw_S} {Q : Option mw_V → mw_S → Prop} : mw_WP d 276 36 [l0, l1, l2] (jI y :: jI x :: st) σ Q ↔ mw_WP d 276 37 [l0, l1, l2] (jI (w32 (x + y)) :: st) σ Q := WP_iadd mq276 dd276_36
theorem dd276_37 : decode cX12_image 37 = .ok (.imul, 1) := by decide +kernel
theorem ww276_37 {d : Nat} {l0 l1 l2 : Option mw_V} {x y : Int} {st : List mw_V} {σ : mw_S} {Q : Option mw_V → mw_S → Prop} : mw_WP d 276 37 [l0, l1, l2] (jI y :: jI x :: st) σ Q ↔ mw_WP d 276 38 [l0, l1, l2] (jI (w32 (x * y)) :: st) σ Q := WP_imul mq276 dd276_37
theorem dd276_38 : decode cX12_image 38 = .ok (.iload_n 2, 1) := by decide +kernel
theorem ww276_38 {d : Nat} {l0 l1 : Option mw_V} {x : Int} {st : List mw_V} {σ : mw_S} {Q : Option mw_V → mw_S → Prop} : mw_WP d 276 38 [l0, l1, some (jI x)] st σ Q ↔ mw_WP d 276 39 [l0, l1, some (jI x)] (jI x :: st) σ Q := WP_iload_n mq276 dd276_38 rfl
theorem dd276_39 : decode cX12_image 39 = .ok (.iadd, 1) := by decide +kernel
theorem ww276_39 {d : Nat} {l0 l1 l2 : Option mw_V} {x y : Int} {st : List mw_V} {σ : mw_S} {Q : Option mw_V → mw_S → Prop} : mw_WP d 276 39 [l0, l1, l2] (jI y :: jI x :: st) σ Q ↔ mw_WP d 276 40 [l0, l1, l2] (jI (w32 (x + y)) :: st) σ Q := WP_iadd mq276 dd276_39
theorem dd276_40 : decode cX12_image 40 = .ok (.aload_n 0, 1) := by decide +kernel
theorem ww276_40 {d : Nat} {l1 l2 : Option mw_V} {x : Nat} {st : List mw_V} {σ : mw_S} {Q : Option mw_V → mw_S → Prop} : mw_WP d 276 40 [some (jR x), l1, l2] st σ Q ↔ mw_WP d 276 41 [some (jR x), l1, l2] (jR x :: st) σ Q := WP_aload_n mq276 dd276_40 rfl
theorem dd276_41 : decode cX12_image 41 = .ok (.getfield 13, 3) := by decide +kernel
theorem ww276_41 {d : Nat} {l0 l1 l2 : Option mw_V} {st : List mw_V} {σ : mw_S} {Q : Option mw_V → mw_S → Prop} : mw_WP d 276 41 [l0, l1, l2] (jR 100 :: st) σ Q ↔ mw_WP d 276 44 [l0, l1, l2] (jR 101 :: st) σ Q := WP_getR (ci := 11) (k := 1) mq276 dd276_41 (by decide) rfl
theorem dd276_44 : decode cX12_image 44 = .ok (.iload_n 2, 1) := by decide +kernel
theorem ww276_44 {d : Nat} {l0 l1 : Option mw_V} {x : Int} {st : List mw_V} {σ : mw_S} {Q : Option mw_V → mw_S → Prop} : mw_WP d 276 44 [l0, l1, some (jI x)] st σ Q ↔ mw_WP d 276 45 [l0, l1, some (jI x)] (jI x :: st) σ Q := WP_iload_n mq276 dd276_44 rfl
theorem dd276_45 : decode cX12_image 45 = .ok (.iaload, 1) := by decide +kernel
theorem ww276_45 {d : Nat} {l0 l1 l2 : Option mw_V} {z : Int} {a : Nat} {st : List mw_V} {σ : mw_S} {Q : Option mw_V → mw_S → Prop} : mw_WP d 276 45 [l0, l1, l2] (jI z :: jR a :: st) σ Q ↔ ((0 ≤ z ∧ z < mw_lenI a) ∧ mw_WP d 276 46 [l0, l1, l2] (jI (mw_rdI σ a z.toNat) :: st) σ Q) := WP_iaload mq276 dd276_45
theorem dd276_46 : decode cX12_image 46 = .ok (.iastore, 1) := by decide +kernel
theorem ww276_46 {d : Nat} {l0 l1 l2 : Option mw_V} {x z : Int} {a : Nat} {st : List mw_V} {σ : mw_S} {Q : Option mw_V → mw_S → Prop} : mw_WP d 276 46 [l0, l1, l2] (jI x :: jI z :: jR a :: st) σ Q ↔ ((0 ≤ z ∧ z < mw_lenW 0 a) ∧ mw_WP d 276 47 [l0, l1, l2] st (upS σ a z.toNat x) Q) := WP_iastore mq276 dd276_46
theorem dd276_47 : decode cX12_image 47 = .ok (.iinc 2 1, 3) := by decide +kernel
theorem ww276_47 {d : Nat} {l0 l1 : Option mw_V} {x : Int} {st : List mw_V} {σ : mw_S} {Q : Option mw_V → mw_S → Prop} (h : mw_nlo l1 = true) : mw_WP d 276 47 [l0, l1, some (jI x)] st σ Q ↔ mw_WP d 276 50 [l0, l1, some (jI (w32 (x + (1))))] st σ Q := WP_iinc mq276 dd276_47 rfl (Nat.le_of_ble_eq_true rfl) (mw_nl_of (i := 1) rfl h) rfl
theorem dd276_50 : decode cX12_image 50 = .ok (.goto (-30), 3) := by decide +kernel
theorem ww276_50 {d : Nat} {l0 l1 l2 : Option mw_V} {st : List mw_V} {σ : mw_S} {Q : Option mw_V → mw_S → Prop} : mw_WP d 276 50 [l0, l1, l2] st σ Q ↔ mw_WP d 276 20 [l0, l1, l2] st σ Q := WP_goto mq276 dd276_50 (by decide)
theorem dd276_53 : decode cX12_image 53 = .ok (.aload_n 0, 1) := by decide +kernel
theorem ww276_53 {d : Nat} {l1 l2 : Option mw_V} {x : Nat} {st : List mw_V} {σ : mw_S} {Q : Option mw_V → mw_S → Prop} : mw_WP d 276 53 [some (jR x), l1, l2] st σ Q ↔ mw_WP d 276 54 [some (jR x), l1, l2] (jR x :: st) σ Q := WP_aload_n mq276 dd276_53 rfl
theorem dd276_54 : decode cX12_image 54 = .ok (.getfield 17, 3) := by decide +kernel
theorem ww276_54 {d : Nat} {l0 l1 l2 : Option mw_V} {st : List mw_V} {σ : mw_S} {Q : Option mw_V → mw_S → Prop} : mw_WP d 276 54 [l0, l1, l2] (jR 100 :: st) σ Q ↔ mw_WP d 276 57 [l0, l1, l2] (jR 102 :: st) σ Q := WP_getR (ci := 11) (k := 2) mq276 dd276_54 (by decide) rfl
theorem dd276_57 : decode cX12_image 57 = .ok (.iload_n 1, 1) := by decide +kernel
theorem ww276_57 {d : Nat} {l0 l2 : Option mw_V} {x : Int} {st : List mw_V} {σ : mw_S} {Q : Option mw_V → mw_S → Prop} : mw_WP d 276 57 [l0, some (jI x), l2] st σ Q ↔ mw_WP d 276 58 [l0, some (jI x), l2] (jI x :: st) σ Q := WP_iload_n mq276 dd276_57 rfl
theorem dd276_58 : decode cX12_image 58 = .ok (.iconst 1, 1) := by decide +kernel
theorem ww276_58 {d : Nat} {l0 l1 l2 : Option mw_V} {st : List mw_V} {σ : mw_S} {Q : Option mw_V → mw_S → Prop} : mw_WP d 276 58 [l0, l1, l2] st σ Q ↔ mw_WP d 276 59 [l0, l1, l2] (jI (1) :: st) σ Q := WP_iconst mq276 dd276_58 (by decide)
theorem dd276_59 : decode cX12_image 59 = .ok (.bastore, 1) := by decide +kernel
theorem ww276_59 {d : Nat} {l0 l1 l2 : Option mw_V} {x z : Int} {a : Nat} {st : List mw_V} {σ : mw_S} {Q : Option mw_V → mw_S → Prop} : mw_WP d 276 59 [l0, l1, l2] (jI x :: jI z :: jR a :: st) σ Q ↔ ((0 ≤ z ∧ z < mw_lenW 1 a ∧ (x = 0 ∨ x = 1)) ∧ mw_WP d 276 60 [l0, l1, l2] st (upS σ a z.toNat x) Q) := WP_bastore mq276 dd276_59
theorem dd276_60 : decode cX12_image 60 = .ok (.iconst 0, 1) := by decide +kernel
theorem ww276_60 {d : Nat} {l0 l1 l2 : Option mw_V} {st : List mw_V} {σ : mw_S} {Q : Option mw_V → mw_S → Prop} : mw_WP d 276 60 [l0, l1, l2] st σ Q ↔ mw_WP d 276 61 [l0, l1, l2] (jI (0) :: st) σ Q := WP_iconst mq276 dd276_60 (by decide)
theorem dd276_61 : decode cX12_image 61 = .ok (.ireturn, 1) := by decide +kernel
theorem ww276_61 {d : Nat} {l0 l1 l2 : Option mw_V} {z : Int} {σ : mw_S} {Q : Option mw_V → mw_S → Prop} : mw_WP d 276 61 [l0, l1, l2] [jI z] σ Q ↔ Q (some (jI z)) σ := WP_ireturn (ty := .int) mq276 dd276_61 rfl rfl
theorem ee277 {d : Nat} {a : Nat} {z0 : Int} {σ : mw_S} {Q : Option mw_V → mw_S → Prop} : mw_Call (d + 1) 277 [jR a, jI z0] σ Q ↔ mw_WP d 277 0 [some (jR a), some (jI z0), none] [] σ Q := CL_u mq277 (Nat.le_of_ble_eq_true rfl) rfl
theorem dd277_0 : decode cX12_restore 0 = .ok (.aload_n 0, 1) := by decide +kernel
theorem ww277_0 {d : Nat} {l1 l2 : Option mw_V} {x : Nat} {st : List mw_V} {σ : mw_S} {Q : Option mw_V → mw_S → Prop} : mw_WP d 277 0 [some (jR x), l1, l2] st σ Q ↔ mw_WP d 277 1 [some (jR x), l1, l2] (jR x :: st) σ Q := WP_aload_n mq277 dd277_0 rfl
theorem dd277_1 : decode cX12_restore 1 = .ok (.iconst 0, 1) := by decide +kernel
theorem ww277_1 {d : Nat} {l0 l1 l2 : Option mw_V} {st : List mw_V} {σ : mw_S} {Q : Option mw_V → mw_S → Prop} : mw_WP d 277 1 [l0, l1, l2] st σ Q ↔ mw_WP d 277 2 [l0, l1, l2] (jI (0) :: st) σ Q := WP_iconst mq277 dd277_1 (by decide)
theorem dd277_2 : decode cX12_restore 2 = .ok (.putfield 1, 3) := by decide +kernel
theorem ww277_2 {d : Nat} {l0 l1 l2 : Option mw_V} {v : Int} {st : List mw_V} {σ : mw_S} {Q : Option mw_V → mw_S → Prop} : mw_WP d 277 2 [l0, l1, l2] (jI v :: jR 100 :: st) σ Q ↔ mw_WP d 277 5 [l0, l1, l2] st (upS σ 100 0 v) Q := WP_putI (ci := 11) (k := 0) mq277 dd277_2 (by decide) rfl
theorem dd277_5 : decode cX12_restore 5 = .ok (.iload_n 1, 1) := by decide +kernel
theorem ww277_5 {d : Nat} {l0 l2 : Option mw_V} {x : Int} {st : List mw_V} {σ : mw_S} {Q : Option mw_V → mw_S → Prop} : mw_WP d 277 5 [l0, some (jI x), l2] st σ Q ↔ mw_WP d 277 6 [l0, some (jI x), l2] (jI x :: st) σ Q := WP_iload_n mq277 dd277_5 rfl
theorem dd277_6 : decode cX12_restore 6 = .ok (.i2l, 1) := by decide +kernel
theorem ww277_6 {d : Nat} {l0 l1 l2 : Option mw_V} {x : Int} {st : List mw_V} {σ : mw_S} {Q : Option mw_V → mw_S → Prop} : mw_WP d 277 6 [l0, l1, l2] (jI x :: st) σ Q ↔ mw_WP d 277 7 [l0, l1, l2] (jL (yL x) :: st) σ Q := WP_i2l mq277 dd277_6
theorem dd277_7 : decode cX12_restore 7 = .ok (.lconst 0, 1) := by decide +kernel
theorem ww277_7 {d : Nat} {l0 l1 l2 : Option mw_V} {st : List mw_V} {σ : mw_S} {Q : Option mw_V → mw_S → Prop} : mw_WP d 277 7 [l0, l1, l2] st σ Q ↔ mw_WP d 277 8 [l0, l1, l2] (jL (0) :: st) σ Q := WP_lconst mq277 dd277_7 (by decide)
theorem dd277_8 : decode cX12_restore 8 = .ok (.lconst 1, 1) := by decide +kernel
theorem ww277_8 {d : Nat} {l0 l1 l2 : Option mw_V} {st : List mw_V} {σ : mw_S} {Q : Option mw_V → mw_S → Prop} : mw_WP d 277 8 [l0, l1, l2] st σ Q ↔ mw_WP d 277 9 [l0, l1, l2] (jL (1) :: st) σ Q := WP_lconst mq277 dd277_8 (by decide)
theorem dd277_9 : decode cX12_restore 9 = .ok (.invokestatic 159, 3) := by decide +kernel
theorem ww277_9 {d : Nat} {l0 l1 l2 : Option mw_V} {v0 v1 v2 : mw_V} {st : List mw_V} {σ : mw_S} {Q : Option mw_V → mw_S → Prop} (h8 : (st.map mw_cat).sum ≤ 8) : mw_WP d 277 9 [l0, l1, l2] (v2 :: v1 :: v0 :: st) σ Q ↔ mw_Call d 170 [v0, v1, v2] σ (fun r1 s1 => mw_WP d 277 12 [l0, l1, l2] (r1.toList ++ st) s1 Q) := WP_invs (as := [v2, v1, v0]) mq277 dd277_9 (by decide) mq170 rfl rfl h8
theorem dd277_12 : decode cX12_restore 12 = .ok (.ifCond .ne 6, 3) := by decide +kernel
theorem ww277_12 {d : Nat} {l0 l1 l2 : Option mw_V} {x : Int} {st : List mw_V} {σ : mw_S} {Q : Option mw_V → mw_S → Prop} : mw_WP d 277 12 [l0, l1, l2] (jI x :: st) σ Q ↔ (if ¬ x = 0 then mw_WP d 277 18 [l0, l1, l2] st σ Q else mw_WP d 277 15 [l0, l1, l2] st σ Q) := WP_if_ne mq277 dd277_12 (by decide)
theorem dd277_15 : decode cX12_restore 15 = .ok (.bipush (-2), 2) := by decide +kernel
theorem ww277_15 {d : Nat} {l0 l1 l2 : Option mw_V} {st : List mw_V} {σ : mw_S} {Q : Option mw_V → mw_S → Prop} : mw_WP d 277 15 [l0, l1, l2] st σ Q ↔ mw_WP d 277 17 [l0, l1, l2] (jI (-2) :: st) σ Q := WP_bipush mq277 dd277_15 (by decide)
theorem dd277_17 : decode cX12_restore 17 = .ok (.ireturn, 1) := by decide +kernel
theorem ww277_17 {d : Nat} {l0 l1 l2 : Option mw_V} {z : Int} {σ : mw_S} {Q : Option mw_V → mw_S → Prop} : mw_WP d 277 17 [l0, l1, l2] [jI z] σ Q ↔ Q (some (jI z)) σ := WP_ireturn (ty := .int) mq277 dd277_17 rfl rfl
theorem dd277_18 : decode cX12_restore 18 = .ok (.aload_n 0, 1) := by decide +kernel
theorem ww277_18 {d : Nat} {l1 l2 : Option mw_V} {x : Nat} {st : List mw_V} {σ : mw_S} {Q : Option mw_V → mw_S → Prop} : mw_WP d 277 18 [some (jR x), l1, l2] st σ Q ↔ mw_WP d 277 19 [some (jR x), l1, l2] (jR x :: st) σ Q := WP_aload_n mq277 dd277_18 rfl
theorem dd277_19 : decode cX12_restore 19 = .ok (.getfield 17, 3) := by decide +kernel
theorem ww277_19 {d : Nat} {l0 l1 l2 : Option mw_V} {st : List mw_V} {σ : mw_S} {Q : Option mw_V → mw_S → Prop} : mw_WP d 277 19 [l0, l1, l2] (jR 100 :: st) σ Q ↔ mw_WP d 277 22 [l0, l1, l2] (jR 102 :: st) σ Q := WP_getR (ci := 11) (k := 2) mq277 dd277_19 (by decide) rfl
theorem dd277_22 : decode cX12_restore 22 = .ok (.iload_n 1, 1) := by decide +kernel
theorem ww277_22 {d : Nat} {l0 l2 : Option mw_V} {x : Int} {st : List mw_V} {σ : mw_S} {Q : Option mw_V → mw_S → Prop} : mw_WP d 277 22 [l0, some (jI x), l2] st σ Q ↔ mw_WP d 277 23 [l0, some (jI x), l2] (jI x :: st) σ Q := WP_iload_n mq277 dd277_22 rfl
theorem dd277_23 : decode cX12_restore 23 = .ok (.baload, 1) := by decide +kernel
theorem ww277_23 {d : Nat} {l0 l1 l2 : Option mw_V} {z : Int} {a : Nat} {st : List mw_V} {σ : mw_S} {Q : Option mw_V → mw_S → Prop} : mw_WP d 277 23 [l0, l1, l2] (jI z :: jR a :: st) σ Q ↔ ((0 ≤ z ∧ z < mw_lenB a) ∧ mw_WP d 277 24 [l0, l1, l2] (jI (mw_rdB σ a z.toNat) :: st) σ Q) := WP_baload mq277 dd277_23
theorem dd277_24 : decode cX12_restore 24 = .ok (.ifCond .ne 6, 3) := by decide +kernel
theorem ww277_24 {d : Nat} {l0 l1 l2 : Option mw_V} {x : Int} {st : List mw_V} {σ : mw_S} {Q : Option mw_V → mw_S → Prop} : mw_WP d 277 24 [l0, l1, l2] (jI x :: st) σ Q ↔ (if ¬ x = 0 then mw_WP d 277 30 [l0, l1, l2] st σ Q else mw_WP d 277 27 [l0, l1, l2] st σ Q) := WP_if_ne mq277 dd277_24 (by decide)
theorem dd277_27 : decode cX12_restore 27 = .ok (.bipush (-5), 2) := by decide +kernel
theorem ww277_27 {d : Nat} {l0 l1 l2 : Option mw_V} {st : List mw_V} {σ : mw_S} {Q : Option mw_V → mw_S → Prop} : mw_WP d 277 27 [l0, l1, l2] st σ Q ↔ mw_WP d 277 29 [l0, l1, l2] (jI (-5) :: st) σ Q := WP_bipush mq277 dd277_27 (by decide)
theorem dd277_29 : decode cX12_restore 29 = .ok (.ireturn, 1) := by decide +kernel
theorem ww277_29 {d : Nat} {l0 l1 l2 : Option mw_V} {z : Int} {σ : mw_S} {Q : Option mw_V → mw_S → Prop} : mw_WP d 277 29 [l0, l1, l2] [jI z] σ Q ↔ Q (some (jI z)) σ := WP_ireturn (ty := .int) mq277 dd277_29 rfl rfl
theorem dd277_30 : decode cX12_restore 30 = .ok (.iconst 0, 1) := by decide +kernel
theorem ww277_30 {d : Nat} {l0 l1 l2 : Option mw_V} {st : List mw_V} {σ : mw_S} {Q : Option mw_V → mw_S → Prop} : mw_WP d 277 30 [l0, l1, l2] st σ Q ↔ mw_WP d 277 31 [l0, l1, l2] (jI (0) :: st) σ Q := WP_iconst mq277 dd277_30 (by decide)
theorem dd277_31 : decode cX12_restore 31 = .ok (.istore_n 2, 1) := by decide +kernel
theorem ww277_31 {d : Nat} {l0 l1 l2 : Option mw_V} {x : Int} {st : List mw_V} {σ : mw_S} {Q : Option mw_V → mw_S → Prop} (h : mw_nlo l1 = true) : mw_WP d 277 31 [l0, l1, l2] (jI x :: st) σ Q ↔ mw_WP d 277 32 [l0, l1, some (jI x)] st σ Q := WP_istore_n mq277 dd277_31 (Nat.le_of_ble_eq_true rfl) (mw_nl_of (i := 1) rfl h) rfl
theorem dd277_32 : decode cX12_restore 32 = .ok (.iload_n 2, 1) := by decide +kernel
theorem ww277_32 {d : Nat} {l0 l1 : Option mw_V} {x : Int} {st : List mw_V} {σ : mw_S} {Q : Option mw_V → mw_S → Prop} : mw_WP d 277 32 [l0, l1, some (jI x)] st σ Q ↔ mw_WP d 277 33 [l0, l1, some (jI x)] (jI x :: st) σ Q := WP_iload_n mq277 dd277_32 rfl
theorem dd277_33 : decode cX12_restore 33 = .ok (.sipush 1460, 3) := by decide +kernel
theorem ww277_33 {d : Nat} {l0 l1 l2 : Option mw_V} {st : List mw_V} {σ : mw_S} {Q : Option mw_V → mw_S → Prop} : mw_WP d 277 33 [l0, l1, l2] st σ Q ↔ mw_WP d 277 36 [l0, l1, l2] (jI (1460) :: st) σ Q := WP_sipush mq277 dd277_33 (by decide)
theorem dd277_36 : decode cX12_restore 36 = .ok (.if_icmp .ge 29, 3) := by decide +kernel
theorem ww277_36 {d : Nat} {l0 l1 l2 : Option mw_V} {x y : Int} {st : List mw_V} {σ : mw_S} {Q : Option mw_V → mw_S → Prop} : mw_WP d 277 36 [l0, l1, l2] (jI y :: jI x :: st) σ Q ↔ (if y ≤ x then mw_WP d 277 65 [l0, l1, l2] st σ Q else mw_WP d 277 39 [l0, l1, l2] st σ Q) := WP_icmp_ge mq277 dd277_36 (by decide)
theorem dd277_39 : decode cX12_restore 39 = .ok (.aload_n 0, 1) := by decide +kernel
theorem ww277_39 {d : Nat} {l1 l2 : Option mw_V} {x : Nat} {st : List mw_V} {σ : mw_S} {Q : Option mw_V → mw_S → Prop} : mw_WP d 277 39 [some (jR x), l1, l2] st σ Q ↔ mw_WP d 277 40 [some (jR x), l1, l2] (jR x :: st) σ Q := WP_aload_n mq277 dd277_39 rfl
theorem dd277_40 : decode cX12_restore 40 = .ok (.getfield 13, 3) := by decide +kernel
theorem ww277_40 {d : Nat} {l0 l1 l2 : Option mw_V} {st : List mw_V} {σ : mw_S} {Q : Option mw_V → mw_S → Prop} : mw_WP d 277 40 [l0, l1, l2] (jR 100 :: st) σ Q ↔ mw_WP d 277 43 [l0, l1, l2] (jR 101 :: st) σ Q := WP_getR (ci := 11) (k := 1) mq277 dd277_40 (by decide) rfl
theorem dd277_43 : decode cX12_restore 43 = .ok (.iload_n 2, 1) := by decide +kernel
theorem ww277_43 {d : Nat} {l0 l1 : Option mw_V} {x : Int} {st : List mw_V} {σ : mw_S} {Q : Option mw_V → mw_S → Prop} : mw_WP d 277 43 [l0, l1, some (jI x)] st σ Q ↔ mw_WP d 277 44 [l0, l1, some (jI x)] (jI x :: st) σ Q := WP_iload_n mq277 dd277_43 rfl
theorem dd277_44 : decode cX12_restore 44 = .ok (.aload_n 0, 1) := by decide +kernel
theorem ww277_44 {d : Nat} {l1 l2 : Option mw_V} {x : Nat} {st : List mw_V} {σ : mw_S} {Q : Option mw_V → mw_S → Prop} : mw_WP d 277 44 [some (jR x), l1, l2] st σ Q ↔ mw_WP d 277 45 [some (jR x), l1, l2] (jR x :: st) σ Q := WP_aload_n mq277 dd277_44 rfl
theorem dd277_45 : decode cX12_restore 45 = .ok (.getfield 13, 3) := by decide +kernel
theorem ww277_45 {d : Nat} {l0 l1 l2 : Option mw_V} {st : List mw_V} {σ : mw_S} {Q : Option mw_V → mw_S → Prop} : mw_WP d 277 45 [l0, l1, l2] (jR 100 :: st) σ Q ↔ mw_WP d 277 48 [l0, l1, l2] (jR 101 :: st) σ Q := WP_getR (ci := 11) (k := 1) mq277 dd277_45 (by decide) rfl
theorem dd277_48 : decode cX12_restore 48 = .ok (.sipush 1460, 3) := by decide +kernel
theorem ww277_48 {d : Nat} {l0 l1 l2 : Option mw_V} {st : List mw_V} {σ : mw_S} {Q : Option mw_V → mw_S → Prop} : mw_WP d 277 48 [l0, l1, l2] st σ Q ↔ mw_WP d 277 51 [l0, l1, l2] (jI (1460) :: st) σ Q := WP_sipush mq277 dd277_48 (by decide)
theorem dd277_51 : decode cX12_restore 51 = .ok (.iload_n 1, 1) := by decide +kernel
theorem ww277_51 {d : Nat} {l0 l2 : Option mw_V} {x : Int} {st : List mw_V} {σ : mw_S} {Q : Option mw_V → mw_S → Prop} : mw_WP d 277 51 [l0, some (jI x), l2] st σ Q ↔ mw_WP d 277 52 [l0, some (jI x), l2] (jI x :: st) σ Q := WP_iload_n mq277 dd277_51 rfl
theorem dd277_52 : decode cX12_restore 52 = .ok (.iconst 1, 1) := by decide +kernel
theorem ww277_52 {d : Nat} {l0 l1 l2 : Option mw_V} {st : List mw_V} {σ : mw_S} {Q : Option mw_V → mw_S → Prop} : mw_WP d 277 52 [l0, l1, l2] st σ Q ↔ mw_WP d 277 53 [l0, l1, l2] (jI (1) :: st) σ Q := WP_iconst mq277 dd277_52 (by decide)
theorem dd277_53 : decode cX12_restore 53 = .ok (.iadd, 1) := by decide +kernel
theorem ww277_53 {d : Nat} {l0 l1 l2 : Option mw_V} {x y : Int} {st : List mw_V} {σ : mw_S} {Q : Option mw_V → mw_S → Prop} : mw_WP d 277 53 [l0, l1, l2] (jI y :: jI x :: st) σ Q ↔ mw_WP d 277 54 [l0, l1, l2] (jI (w32 (x + y)) :: st) σ Q := WP_iadd mq277 dd277_53
theorem dd277_54 : decode cX12_restore 54 = .ok (.imul, 1) := by decide +kernel
theorem ww277_54 {d : Nat} {l0 l1 l2 : Option mw_V} {x y : Int} {st : List mw_V} {σ : mw_S} {Q : Option mw_V → mw_S → Prop} : mw_WP d 277 54 [l0, l1, l2] (jI y :: jI x :: st) σ Q ↔ mw_WP d 277 55 [l0, l1, l2] (jI (w32 (x * y)) :: st) σ Q := WP_imul mq277 dd277_54
theorem dd277_55 : decode cX12_restore 55 = .ok (.iload_n 2, 1) := by decide +kernel
theorem ww277_55 {d : Nat} {l0 l1 : Option mw_V} {x : Int} {st : List mw_V} {σ : mw_S} {Q : Option mw_V → mw_S → Prop} : mw_WP d 277 55 [l0, l1, some (jI x)] st σ Q ↔ mw_WP d 277 56 [l0, l1, some (jI x)] (jI x :: st) σ Q := WP_iload_n mq277 dd277_55 rfl
theorem dd277_56 : decode cX12_restore 56 = .ok (.iadd, 1) := by decide +kernel
theorem ww277_56 {d : Nat} {l0 l1 l2 : Option mw_V} {x y : Int} {st : List mw_V} {σ : mw_S} {Q : Option mw_V → mw_S → Prop} : mw_WP d 277 56 [l0, l1, l2] (jI y :: jI x :: st) σ Q ↔ mw_WP d 277 57 [l0, l1, l2] (jI (w32 (x + y)) :: st) σ Q := WP_iadd mq277 dd277_56
theorem dd277_57 : decode cX12_restore 57 = .ok (.iaload, 1) := by decide +kernel
theorem ww277_57 {d : Nat} {l0 l1 l2 : Option mw_V} {z : Int} {a : Nat} {st : List mw_V} {σ : mw_S} {Q : Option mw_V → mw_S → Prop} : mw_WP d 277 57 [l0, l1, l2] (jI z :: jR a :: st) σ Q ↔ ((0 ≤ z ∧ z < mw_lenI a) ∧ mw_WP d 277 58 [l0, l1, l2] (jI (mw_rdI σ a z.toNat) :: st) σ Q) := WP_iaload mq277 dd277_57
theorem dd277_58 : decode cX12_restore 58 = .ok (.iastore, 1) := by decide +kernel
theorem ww277_58 {d : Nat} {l0 l1 l2 : Option mw_V} {x z : Int} {a : Nat} {st : List mw_V} {σ : mw_S} {Q : Option mw_V → mw_S → Prop} : mw_WP d 277 58 [l0, l1, l2] (jI x :: jI z :: jR a :: st) σ Q ↔ ((0 ≤ z ∧ z < mw_lenW 0 a) ∧ mw_WP d 277 59 [l0, l1, l2] st (upS σ a z.toNat x) Q) := WP_iastore mq277 dd277_58
theorem dd277_59 : decode cX12_restore 59 = .ok (.iinc 2 1, 3) := by decide +kernel
theorem ww277_59 {d : Nat} {l0 l1 : Option mw_V} {x : Int} {st : List mw_V} {σ : mw_S} {Q : Option mw_V → mw_S → Prop} (h : mw_nlo l1 = true) : mw_WP d 277 59 [l0, l1, some (jI x)] st σ Q ↔ mw_WP d 277 62 [l0, l1, some (jI (w32 (x + (1))))] st σ Q := WP_iinc mq277 dd277_59 rfl (Nat.le_of_ble_eq_true rfl) (mw_nl_of (i := 1) rfl h) rfl
theorem dd277_62 : decode cX12_restore 62 = .ok (.goto (-30), 3) := by decide +kernel
theorem ww277_62 {d : Nat} {l0 l1 l2 : Option mw_V} {st : List mw_V} {σ : mw_S} {Q : Option mw_V → mw_S → Prop} : mw_WP d 277 62 [l0, l1, l2] st σ Q ↔ mw_WP d 277 32 [l0, l1, l2] st σ Q := WP_goto mq277 dd277_62 (by decide)
theorem dd277_65 : decode cX12_restore 65 = .ok (.aload_n 0, 1) := by decide +kernel
theorem ww277_65 {d : Nat} {l1 l2 : Option mw_V} {x : Nat} {st : List mw_V} {σ : mw_S} {Q : Option mw_V → mw_S → Prop} : mw_WP d 277 65 [some (jR x), l1, l2] st σ Q ↔ mw_WP d 277 66 [some (jR x), l1, l2] (jR x :: st) σ Q := WP_aload_n mq277 dd277_65 rfl
theorem dd277_66 : decode cX12_restore 66 = .ok (.getfield 13, 3) := by decide +kernel
theorem ww277_66 {d : Nat} {l0 l1 l2 : Option mw_V} {st : List mw_V} {σ : mw_S} {Q : Option mw_V → mw_S → Prop} : mw_WP d 277 66 [l0, l1, l2] (jR 100 :: st) σ Q ↔ mw_WP d 277 69 [l0, l1, l2] (jR 101 :: st) σ Q := WP_getR (ci := 11) (k := 1) mq277 dd277_66 (by decide) rfl
theorem dd277_69 : decode cX12_restore 69 = .ok (.bipush 88, 2) := by decide +kernel
theorem ww277_69 {d : Nat} {l0 l1 l2 : Option mw_V} {st : List mw_V} {σ : mw_S} {Q : Option mw_V → mw_S → Prop} : mw_WP d 277 69 [l0, l1, l2] st σ Q ↔ mw_WP d 277 71 [l0, l1, l2] (jI (88) :: st) σ Q := WP_bipush mq277 dd277_69 (by decide)
theorem dd277_71 : decode cX12_restore 71 = .ok (.iconst 0, 1) := by decide +kernel
theorem ww277_71 {d : Nat} {l0 l1 l2 : Option mw_V} {st : List mw_V} {σ : mw_S} {Q : Option mw_V → mw_S → Prop} : mw_WP d 277 71 [l0, l1, l2] st σ Q ↔ mw_WP d 277 72 [l0, l1, l2] (jI (0) :: st) σ Q := WP_iconst mq277 dd277_71 (by decide)
theorem dd277_72 : decode cX12_restore 72 = .ok (.iastore, 1) := by decide +kernel
theorem ww277_72 {d : Nat} {l0 l1 l2 : Option mw_V} {x z : Int} {a : Nat} {st : List mw_V} {σ : mw_S} {Q : Option mw_V → mw_S → Prop} : mw_WP d 277 72 [l0, l1, l2] (jI x :: jI z :: jR a :: st) σ Q ↔ ((0 ≤ z ∧ z < mw_lenW 0 a) ∧ mw_WP d 277 73 [l0, l1, l2] st (upS σ a z.toNat x) Q) := WP_iastore mq277 dd277_72
theorem dd277_73 : decode cX12_restore 73 = .ok (.iconst 0, 1) := by decide +kernel
theorem ww277_73 {d : Nat} {l0 l1 l2 : Option mw_V} {st : List mw_V} {σ : mw_S} {Q : Option mw_V → mw_S → Prop} : mw_WP d 277 73 [l0, l1, l2] st σ Q ↔ mw_WP d 277 74 [l0, l1, l2] (jI (0) :: st) σ Q := WP_iconst mq277 dd277_73 (by decide)
theorem dd277_74 : decode cX12_restore 74 = .ok (.ireturn, 1) := by decide +kernel
theorem ww277_74 {d : Nat} {l0 l1 l2 : Option mw_V} {z : Int} {σ : mw_S} {Q : Option mw_V → mw_S → Prop} : mw_WP d 277 74 [l0, l1, l2] [jI z] σ Q ↔ Q (some (jI z)) σ := WP_ireturn (ty := .int) mq277 dd277_74 rfl rfl
theorem ee278 {d : Nat} {a : Nat} {z0 : Int} {σ : mw_S} {Q : Option mw_V → mw_S → Prop} : mw_Call (d + 1) 278 [jR a, jI z0] σ Q ↔ mw_WP d 278 0 [some (jR a), some (jI z0)] [] σ Q := CL_u mq278 (Nat.le_of_ble_eq_true rfl) rfl
theorem dd278_0 : decode cX12_count 0 = .ok (.aload_n 0, 1) := by decide +kernel
theorem ww278_0 {d : Nat} {l1 : Option mw_V} {x : Nat} {st : List mw_V} {σ : mw_S} {Q : Option mw_V → mw_S → Prop} : mw_WP d 278 0 [some (jR x), l1] st σ Q ↔ mw_WP d 278 1 [some (jR x), l1] (jR x :: st) σ Q := WP_aload_n mq278 dd278_0 rfl
theorem dd278_1 : decode cX12_count 1 = .ok (.iconst 0, 1) := by decide +kernel
theorem ww278_1 {d : Nat} {l0 l1 : Option mw_V} {st : List mw_V} {σ : mw_S} {Q : Option mw_V → mw_S → Prop} : mw_WP d 278 1 [l0, l1] st σ Q ↔ mw_WP d 278 2 [l0, l1] (jI (0) :: st) σ Q := WP_iconst mq278 dd278_1 (by decide)
theorem dd278_2 : decode cX12_count 2 = .ok (.putfield 1, 3) := by decide +kernel
theorem ww278_2 {d : Nat} {l0 l1 : Option mw_V} {v : Int} {st : List mw_V} {σ : mw_S} {Q : Option mw_V → mw_S → Prop} : mw_WP d 278 2 [l0, l1] (jI v :: jR 100 :: st) σ Q ↔ mw_WP d 278 5 [l0, l1] st (upS σ 100 0 v) Q := WP_putI (ci := 11) (k := 0) mq278 dd278_2 (by decide) rfl
theorem dd278_5 : decode cX12_count 5 = .ok (.iload_n 1, 1) := by decide +kernel
theorem ww278_5 {d : Nat} {l0 : Option mw_V} {x : Int} {st : List mw_V} {σ : mw_S} {Q : Option mw_V → mw_S → Prop} : mw_WP d 278 5 [l0, some (jI x)] st σ Q ↔ mw_WP d 278 6 [l0, some (jI x)] (jI x :: st) σ Q := WP_iload_n mq278 dd278_5 rfl
theorem dd278_6 : decode cX12_count 6 = .ok (.tableswitch 113 0 8 #[50, 57, 64, 71, 78, 85, 93, 101, 106], 50) := by decide +kernel
theorem ww278_6k0 {d : Nat} {l0 l1 : Option mw_V} {st : List mw_V} {σ : mw_S} {Q : Option mw_V → mw_S → Prop} : mw_WP d 278 6 [l0, l1] (jI (0) :: st) σ Q ↔ mw_WP d 278 56 [l0, l1] st σ Q := WP_k mq278 dd278_6 rfl (fun _ _ => by simp [mw_stp, mw_b1, mw_go])
theorem ww278_6k1 {d : Nat} {l0 l1 : Option mw_V} {st : List mw_V} {σ : mw_S} {Q : Option mw_V → mw_S → Prop} : mw_WP d 278 6 [l0, l1] (jI (1) :: st) σ Q ↔ mw_WP d 278 63 [l0, l1] st σ Q := WP_k mq278 dd278_6 rfl (fun _ _ => by simp [mw_stp, mw_b1, mw_go])
theorem ww278_6k2 {d : Nat} {l0 l1 : Option mw_V} {st : List mw_V} {σ : mw_S} {Q : Option mw_V → mw_S → Prop} : mw_WP d 278 6 [l0, l1] (jI (2) :: st) σ Q ↔ mw_WP d 278 70 [l0, l1] st σ Q := WP_k mq278 dd278_6 rfl (fun _ _ => by simp [mw_stp, mw_b1, mw_go])
theorem ww278_6k3 {d : Nat} {l0 l1 : Option mw_V} {st : List mw_V} {σ : mw_S} {Q : Option mw_V → mw_S → Prop} : mw_WP d 278 6 [l0, l1] (jI (3) :: st) σ Q ↔ mw_WP d 278 77 [l0, l1] st σ Q := WP_k mq278 dd278_6 rfl (fun _ _ => by simp [mw_stp, mw_b1, mw_go])
theorem ww278_6k4 {d : Nat} {l0 l1 : Option mw_V} {st : List mw_V} {σ : mw_S} {Q : Option mw_V → mw_S → Prop} : mw_WP d 278 6 [l0, l1] (jI (4) :: st) σ Q ↔ mw_WP d 278 84 [l0, l1] st σ Q := WP_k mq278 dd278_6 rfl (fun _ _ => by simp [mw_stp, mw_b1, mw_go])
theorem ww278_6k5 {d : Nat} {l0 l1 : Option mw_V} {st : List mw_V} {σ : mw_S} {Q : Option mw_V → mw_S → Prop} : mw_WP d 278 6 [l0, l1] (jI (5) :: st) σ Q ↔ mw_WP d 278 91 [l0, l1] st σ Q := WP_k mq278 dd278_6 rfl (fun _ _ => by simp [mw_stp, mw_b1, mw_go])
theorem ww278_6k6 {d : Nat} {l0 l1 : Option mw_V} {st : List mw_V} {σ : mw_S} {Q : Option mw_V → mw_S → Prop} : mw_WP d 278 6 [l0, l1] (jI (6) :: st) σ Q ↔ mw_WP d 278 99 [l0, l1] st σ Q := WP_k mq278 dd278_6 rfl (fun _ _ => by simp [mw_stp, mw_b1, mw_go])
theorem ww278_6k7 {d : Nat} {l0 l1 : Option mw_V} {st : List mw_V} {σ : mw_S} {Q : Option mw_V → mw_S → Prop} : mw_WP d 278 6 [l0, l1] (jI (7) :: st) σ Q ↔ mw_WP d 278 107 [l0, l1] st σ Q := WP_k mq278 dd278_6 rfl (fun _ _ => by simp [mw_stp, mw_b1, mw_go])
theorem ww278_6k8 {d : Nat} {l0 l1 : Option mw_V} {st : List mw_V} {σ : mw_S} {Q : Option mw_V → mw_S → Prop} : mw_WP d 278 6 [l0, l1] (jI (8) :: st) σ Q ↔ mw_WP d 278 112 [l0, l1] st σ Q := WP_k mq278 dd278_6 rfl (fun _ _ => by simp [mw_stp, mw_b1, mw_go])
theorem ww278_6kd {d : Nat} {l0 l1 : Option mw_V} {x : Int} {st : List mw_V} {σ : mw_S} {Q : Option mw_V → mw_S → Prop} (h : x < 0 ∨ 8 < x) : mw_WP d 278 6 [l0, l1] (jI x :: st) σ Q ↔ mw_WP d 278 119 [l0, l1] st σ Q := WP_k mq278 dd278_6 rfl (fun _ _ => by simp [mw_stp, mw_b1, mw_go, h])
theorem dd278_56 : decode cX12_count 56 = .ok (.aload_n 0, 1) := by decide +kernel
theorem ww278_56 {d : Nat} {l1 : Option mw_V} {x : Nat} {st : List mw_V} {σ : mw_S} {Q : Option mw_V → mw_S → Prop} : mw_WP d 278 56 [some (jR x), l1] st σ Q ↔ mw_WP d 278 57 [some (jR x), l1] (jR x :: st) σ Q := WP_aload_n mq278 dd278_56 rfl
theorem dd278_57 : decode cX12_count 57 = .ok (.getfield 13, 3) := by decide +kernel
theorem ww278_57 {d : Nat} {l0 l1 : Option mw_V} {st : List mw_V} {σ : mw_S} {Q : Option mw_V → mw_S → Prop} : mw_WP d 278 57 [l0, l1] (jR 100 :: st) σ Q ↔ mw_WP d 278 60 [l0, l1] (jR 101 :: st) σ Q := WP_getR (ci := 11) (k := 1) mq278 dd278_57 (by decide) rfl
theorem dd278_60 : decode cX12_count 60 = .ok (.iconst 1, 1) := by decide +kernel
theorem ww278_60 {d : Nat} {l0 l1 : Option mw_V} {st : List mw_V} {σ : mw_S} {Q : Option mw_V → mw_S → Prop} : mw_WP d 278 60 [l0, l1] st σ Q ↔ mw_WP d 278 61 [l0, l1] (jI (1) :: st) σ Q := WP_iconst mq278 dd278_60 (by decide)
theorem dd278_61 : decode cX12_count 61 = .ok (.iaload, 1) := by decide +kernel
theorem ww278_61 {d : Nat} {l0 l1 : Option mw_V} {z : Int} {a : Nat} {st : List mw_V} {σ : mw_S} {Q : Option mw_V → mw_S → Prop} : mw_WP d 278 61 [l0, l1] (jI z :: jR a :: st) σ Q ↔ ((0 ≤ z ∧ z < mw_lenI a) ∧ mw_WP d 278 62 [l0, l1] (jI (mw_rdI σ a z.toNat) :: st) σ Q) := WP_iaload mq278 dd278_61
theorem dd278_62 : decode cX12_count 62 = .ok (.ireturn, 1) := by decide +kernel
theorem ww278_62 {d : Nat} {l0 l1 : Option mw_V} {z : Int} {σ : mw_S} {Q : Option mw_V → mw_S → Prop} : mw_WP d 278 62 [l0, l1] [jI z] σ Q ↔ Q (some (jI z)) σ := WP_ireturn (ty := .int) mq278 dd278_62 rfl rfl
theorem dd278_63 : decode cX12_count 63 = .ok (.aload_n 0, 1) := by decide +kernel
theorem ww278_63 {d : Nat} {l1 : Option mw_V} {x : Nat} {st : List mw_V} {σ : mw_S} {Q : Option mw_V → mw_S → Prop} : mw_WP d 278 63 [some (jR x), l1] st σ Q ↔ mw_WP d 278 64 [some (jR x), l1] (jR x :: st) σ Q := WP_aload_n mq278 dd278_63 rfl
theorem dd278_64 : decode cX12_count 64 = .ok (.getfield 13, 3) := by decide +kernel
theorem ww278_64 {d : Nat} {l0 l1 : Option mw_V} {st : List mw_V} {σ : mw_S} {Q : Option mw_V → mw_S → Prop} : mw_WP d 278 64 [l0, l1] (jR 100 :: st) σ Q ↔ mw_WP d 278 67 [l0, l1] (jR 101 :: st) σ Q := WP_getR (ci := 11) (k := 1) mq278 dd278_64 (by decide) rfl
theorem dd278_67 : decode cX12_count 67 = .ok (.iconst 2, 1) := by decide +kernel
theorem ww278_67 {d : Nat} {l0 l1 : Option mw_V} {st : List mw_V} {σ : mw_S} {Q : Option mw_V → mw_S → Prop} : mw_WP d 278 67 [l0, l1] st σ Q ↔ mw_WP d 278 68 [l0, l1] (jI (2) :: st) σ Q := WP_iconst mq278 dd278_67 (by decide)
theorem dd278_68 : decode cX12_count 68 = .ok (.iaload, 1) := by decide +kernel
theorem ww278_68 {d : Nat} {l0 l1 : Option mw_V} {z : Int} {a : Nat} {st : List mw_V} {σ : mw_S} {Q : Option mw_V → mw_S → Prop} : mw_WP d 278 68 [l0, l1] (jI z :: jR a :: st) σ Q ↔ ((0 ≤ z ∧ z < mw_lenI a) ∧ mw_WP d 278 69 [l0, l1] (jI (mw_rdI σ a z.toNat) :: st) σ Q) := WP_iaload mq278 dd278_68
theorem dd278_69 : decode cX12_count 69 = .ok (.ireturn, 1) := by decide +kernel
theorem ww278_69 {d : Nat} {l0 l1 : Option mw_V} {z : Int} {σ : mw_S} {Q : Option mw_V → mw_S → Prop} : mw_WP d 278 69 [l0, l1] [jI z] σ Q ↔ Q (some (jI z)) σ := WP_ireturn (ty := .int) mq278 dd278_69 rfl rfl
theorem dd278_70 : decode cX12_count 70 = .ok (.aload_n 0, 1) := by decide +kernel
theorem ww278_70 {d : Nat} {l1 : Option mw_V} {x : Nat} {st : List mw_V} {σ : mw_S} {Q : Option mw_V → mw_S → Prop} : mw_WP d 278 70 [some (jR x), l1] st σ Q ↔ mw_WP d 278 71 [some (jR x), l1] (jR x :: st) σ Q := WP_aload_n mq278 dd278_70 rfl
theorem dd278_71 : decode cX12_count 71 = .ok (.getfield 13, 3) := by decide +kernel
theorem ww278_71 {d : Nat} {l0 l1 : Option mw_V} {st : List mw_V} {σ : mw_S} {Q : Option mw_V → mw_S → Prop} : mw_WP d 278 71 [l0, l1] (jR 100 :: st) σ Q ↔ mw_WP d 278 74 [l0, l1] (jR 101 :: st) σ Q := WP_getR (ci := 11) (k := 1) mq278 dd278_71 (by decide) rfl
theorem dd278_74 : decode cX12_count 74 = .ok (.iconst 3, 1) := by decide +kernel
theorem ww278_74 {d : Nat} {l0 l1 : Option mw_V} {st : List mw_V} {σ : mw_S} {Q : Option mw_V → mw_S → Prop} : mw_WP d 278 74 [l0, l1] st σ Q ↔ mw_WP d 278 75 [l0, l1] (jI (3) :: st) σ Q := WP_iconst mq278 dd278_74 (by decide)
theorem dd278_75 : decode cX12_count 75 = .ok (.iaload, 1) := by decide +kernel
theorem ww278_75 {d : Nat} {l0 l1 : Option mw_V} {z : Int} {a : Nat} {st : List mw_V} {σ : mw_S} {Q : Option mw_V → mw_S → Prop} : mw_WP d 278 75 [l0, l1] (jI z :: jR a :: st) σ Q ↔ ((0 ≤ z ∧ z < mw_lenI a) ∧ mw_WP d 278 76 [l0, l1] (jI (mw_rdI σ a z.toNat) :: st) σ Q) := WP_iaload mq278 dd278_75
theorem dd278_76 : decode cX12_count 76 = .ok (.ireturn, 1) := by decide +kernel
theorem ww278_76 {d : Nat} {l0 l1 : Option mw_V} {z : Int} {σ : mw_S} {Q : Option mw_V → mw_S → Prop} : mw_WP d 278 76 [l0, l1] [jI z] σ Q ↔ Q (some (jI z)) σ := WP_ireturn (ty := .int) mq278 dd278_76 rfl rfl
theorem dd278_77 : decode cX12_count 77 = .ok (.aload_n 0, 1) := by decide +kernel
theorem ww278_77 {d : Nat} {l1 : Option mw_V} {x : Nat} {st : List mw_V} {σ : mw_S} {Q : Option mw_V → mw_S → Prop} : mw_WP d 278 77 [some (jR x), l1] st σ Q ↔ mw_WP d 278 78 [some (jR x), l1] (jR x :: st) σ Q := WP_aload_n mq278 dd278_77 rfl
theorem dd278_78 : decode cX12_count 78 = .ok (.getfield 13, 3) := by decide +kernel
theorem ww278_78 {d : Nat} {l0 l1 : Option mw_V} {st : List mw_V} {σ : mw_S} {Q : Option mw_V → mw_S → Prop} : mw_WP d 278 78 [l0, l1] (jR 100 :: st) σ Q ↔ mw_WP d 278 81 [l0, l1] (jR 101 :: st) σ Q := WP_getR (ci := 11) (k := 1) mq278 dd278_78 (by decide) rfl
theorem dd278_81 : decode cX12_count 81 = .ok (.iconst 4, 1) := by decide +kernel
theorem ww278_81 {d : Nat} {l0 l1 : Option mw_V} {st : List mw_V} {σ : mw_S} {Q : Option mw_V → mw_S → Prop} : mw_WP d 278 81 [l0, l1] st σ Q ↔ mw_WP d 278 82 [l0, l1] (jI (4) :: st) σ Q := WP_iconst mq278 dd278_81 (by decide)
theorem dd278_82 : decode cX12_count 82 = .ok (.iaload, 1) := by decide +kernel
theorem ww278_82 {d : Nat} {l0 l1 : Option mw_V} {z : Int} {a : Nat} {st : List mw_V} {σ : mw_S} {Q : Option mw_V → mw_S → Prop} : mw_WP d 278 82 [l0, l1] (jI z :: jR a :: st) σ Q ↔ ((0 ≤ z ∧ z < mw_lenI a) ∧ mw_WP d 278 83 [l0, l1] (jI (mw_rdI σ a z.toNat) :: st) σ Q) := WP_iaload mq278 dd278_82
theorem dd278_83 : decode cX12_count 83 = .ok (.ireturn, 1) := by decide +kernel
theorem ww278_83 {d : Nat} {l0 l1 : Option mw_V} {z : Int} {σ : mw_S} {Q : Option mw_V → mw_S → Prop} : mw_WP d 278 83 [l0, l1] [jI z] σ Q ↔ Q (some (jI z)) σ := WP_ireturn (ty := .int) mq278 dd278_83 rfl rfl
theorem dd278_84 : decode cX12_count 84 = .ok (.aload_n 0, 1) := by decide +kernel
theorem ww278_84 {d : Nat} {l1 : Option mw_V} {x : Nat} {st : List mw_V} {σ : mw_S} {Q : Option mw_V → mw_S → Prop} : mw_WP d 278 84 [some (jR x), l1] st σ Q ↔ mw_WP d 278 85 [some (jR x), l1] (jR x :: st) σ Q := WP_aload_n mq278 dd278_84 rfl
theorem dd278_85 : decode cX12_count 85 = .ok (.getfield 13, 3) := by decide +kernel
theorem ww278_85 {d : Nat} {l0 l1 : Option mw_V} {st : List mw_V} {σ : mw_S} {Q : Option mw_V → mw_S → Prop} : mw_WP d 278 85 [l0, l1] (jR 100 :: st) σ Q ↔ mw_WP d 278 88 [l0, l1] (jR 101 :: st) σ Q := WP_getR (ci := 11) (k := 1) mq278 dd278_85 (by decide) rfl
theorem dd278_88 : decode cX12_count 88 = .ok (.iconst 5, 1) := by decide +kernel
theorem ww278_88 {d : Nat} {l0 l1 : Option mw_V} {st : List mw_V} {σ : mw_S} {Q : Option mw_V → mw_S → Prop} : mw_WP d 278 88 [l0, l1] st σ Q ↔ mw_WP d 278 89 [l0, l1] (jI (5) :: st) σ Q := WP_iconst mq278 dd278_88 (by decide)
theorem dd278_89 : decode cX12_count 89 = .ok (.iaload, 1) := by decide +kernel
theorem ww278_89 {d : Nat} {l0 l1 : Option mw_V} {z : Int} {a : Nat} {st : List mw_V} {σ : mw_S} {Q : Option mw_V → mw_S → Prop} : mw_WP d 278 89 [l0, l1] (jI z :: jR a :: st) σ Q ↔ ((0 ≤ z ∧ z < mw_lenI a) ∧ mw_WP d 278 90 [l0, l1] (jI (mw_rdI σ a z.toNat) :: st) σ Q) := WP_iaload mq278 dd278_89
theorem dd278_90 : decode cX12_count 90 = .ok (.ireturn, 1) := by decide +kernel
theorem ww278_90 {d : Nat} {l0 l1 : Option mw_V} {z : Int} {σ : mw_S} {Q : Option mw_V → mw_S → Prop} : mw_WP d 278 90 [l0, l1] [jI z] σ Q ↔ Q (some (jI z)) σ := WP_ireturn (ty := .int) mq278 dd278_90 rfl rfl
theorem dd278_91 : decode cX12_count 91 = .ok (.aload_n 0, 1) := by decide +kernel
theorem ww278_91 {d : Nat} {l1 : Option mw_V} {x : Nat} {st : List mw_V} {σ : mw_S} {Q : Option mw_V → mw_S → Prop} : mw_WP d 278 91 [some (jR x), l1] st σ Q ↔ mw_WP d 278 92 [some (jR x), l1] (jR x :: st) σ Q := WP_aload_n mq278 dd278_91 rfl
theorem dd278_92 : decode cX12_count 92 = .ok (.getfield 13, 3) := by decide +kernel
theorem ww278_92 {d : Nat} {l0 l1 : Option mw_V} {st : List mw_V} {σ : mw_S} {Q : Option mw_V → mw_S → Prop} : mw_WP d 278 92 [l0, l1] (jR 100 :: st) σ Q ↔ mw_WP d 278 95 [l0, l1] (jR 101 :: st) σ Q := WP_getR (ci := 11) (k := 1) mq278 dd278_92 (by decide) rfl
theorem dd278_95 : decode cX12_count 95 = .ok (.bipush 75, 2) := by decide +kernel
theorem ww278_95 {d : Nat} {l0 l1 : Option mw_V} {st : List mw_V} {σ : mw_S} {Q : Option mw_V → mw_S → Prop} : mw_WP d 278 95 [l0, l1] st σ Q ↔ mw_WP d 278 97 [l0, l1] (jI (75) :: st) σ Q := WP_bipush mq278 dd278_95 (by decide)
theorem dd278_97 : decode cX12_count 97 = .ok (.iaload, 1) := by decide +kernel
theorem ww278_97 {d : Nat} {l0 l1 : Option mw_V} {z : Int} {a : Nat} {st : List mw_V} {σ : mw_S} {Q : Option mw_V → mw_S → Prop} : mw_WP d 278 97 [l0, l1] (jI z :: jR a :: st) σ Q ↔ ((0 ≤ z ∧ z < mw_lenI a) ∧ mw_WP d 278 98 [l0, l1] (jI (mw_rdI σ a z.toNat) :: st) σ Q) := WP_iaload mq278 dd278_97
theorem dd278_98 : decode cX12_count 98 = .ok (.ireturn, 1) := by decide +kernel
theorem ww278_98 {d : Nat} {l0 l1 : Option mw_V} {z : Int} {σ : mw_S} {Q : Option mw_V → mw_S → Prop} : mw_WP d 278 98 [l0, l1] [jI z] σ Q ↔ Q (some (jI z)) σ := WP_ireturn (ty := .int) mq278 dd278_98 rfl rfl
theorem dd278_99 : decode cX12_count 99 = .ok (.aload_n 0, 1) := by decide +kernel
theorem ww278_99 {d : Nat} {l1 : Option mw_V} {x : Nat} {st : List mw_V} {σ : mw_S} {Q : Option mw_V → mw_S → Prop} : mw_WP d 278 99 [some (jR x), l1] st σ Q ↔ mw_WP d 278 100 [some (jR x), l1] (jR x :: st) σ Q := WP_aload_n mq278 dd278_99 rfl
theorem dd278_100 : decode cX12_count 100 = .ok (.getfield 13, 3) := by decide +kernel
theorem ww278_100 {d : Nat} {l0 l1 : Option mw_V} {st : List mw_V} {σ : mw_S} {Q : Option mw_V → mw_S → Prop} : mw_WP d 278 100 [l0, l1] (jR 100 :: st) σ Q ↔ mw_WP d 278 103 [l0, l1] (jR 101 :: st) σ Q := WP_getR (ci := 11) (k := 1) mq278 dd278_100 (by decide) rfl
theorem dd278_103 : decode cX12_count 103 = .ok (.bipush 88, 2) := by decide +kernel
theorem ww278_103 {d : Nat} {l0 l1 : Option mw_V} {st : List mw_V} {σ : mw_S} {Q : Option mw_V → mw_S → Prop} : mw_WP d 278 103 [l0, l1] st σ Q ↔ mw_WP d 278 105 [l0, l1] (jI (88) :: st) σ Q := WP_bipush mq278 dd278_103 (by decide)
theorem dd278_105 : decode cX12_count 105 = .ok (.iaload, 1) := by decide +kernel
theorem ww278_105 {d : Nat} {l0 l1 : Option mw_V} {z : Int} {a : Nat} {st : List mw_V} {σ : mw_S} {Q : Option mw_V → mw_S → Prop} : mw_WP d 278 105 [l0, l1] (jI z :: jR a :: st) σ Q ↔ ((0 ≤ z ∧ z < mw_lenI a) ∧ mw_WP d 278 106 [l0, l1] (jI (mw_rdI σ a z.toNat) :: st) σ Q) := WP_iaload mq278 dd278_105
theorem dd278_106 : decode cX12_count 106 = .ok (.ireturn, 1) := by decide +kernel
theorem ww278_106 {d : Nat} {l0 l1 : Option mw_V} {z : Int} {σ : mw_S} {Q : Option mw_V → mw_S → Prop} : mw_WP d 278 106 [l0, l1] [jI z] σ Q ↔ Q (some (jI z)) σ := WP_ireturn (ty := .int) mq278 dd278_106 rfl rfl
theorem dd278_107 : decode cX12_count 107 = .ok (.aload_n 0, 1) := by decide +kernel
theorem ww278_107 {d : Nat} {l1 : Option mw_V} {x : Nat} {st : List mw_V} {σ : mw_S} {Q : Option mw_V → mw_S → Prop} : mw_WP d 278 107 [some (jR x), l1] st σ Q ↔ mw_WP d 278 108 [some (jR x), l1] (jR x :: st) σ Q := WP_aload_n mq278 dd278_107 rfl
theorem dd278_108 : decode cX12_count 108 = .ok (.getfield 97, 3) := by decide +kernel
theorem ww278_108 {d : Nat} {l0 l1 : Option mw_V} {st : List mw_V} {σ : mw_S} {Q : Option mw_V → mw_S → Prop} : mw_WP d 278 108 [l0, l1] (jR 100 :: st) σ Q ↔ mw_WP d 278 111 [l0, l1] (jI (σ 100 5) :: st) σ Q := WP_getI (ci := 11) (k := 5) mq278 dd278_108 (by decide) (Or.inl rfl)
theorem dd278_111 : decode cX12_count 111 = .ok (.ireturn, 1) := by decide +kernel
theorem ww278_111 {d : Nat} {l0 l1 : Option mw_V} {z : Int} {σ : mw_S} {Q : Option mw_V → mw_S → Prop} : mw_WP d 278 111 [l0, l1] [jI z] σ Q ↔ Q (some (jI z)) σ := WP_ireturn (ty := .int) mq278 dd278_111 rfl rfl
theorem dd278_112 : decode cX12_count 112 = .ok (.aload_n 0, 1) := by decide +kernel
theorem ww278_112 {d : Nat} {l1 : Option mw_V} {x : Nat} {st : List mw_V} {σ : mw_S} {Q : Option mw_V → mw_S → Prop} : mw_WP d 278 112 [some (jR x), l1] st σ Q ↔ mw_WP d 278 113 [some (jR x), l1] (jR x :: st) σ Q := WP_aload_n mq278 dd278_112 rfl
theorem dd278_113 : decode cX12_count 113 = .ok (.getfield 13, 3) := by decide +kernel
theorem ww278_113 {d : Nat} {l0 l1 : Option mw_V} {st : List mw_V} {σ : mw_S} {Q : Option mw_V → mw_S → Prop} : mw_WP d 278 113 [l0, l1] (jR 100 :: st) σ Q ↔ mw_WP d 278 116 [l0, l1] (jR 101 :: st) σ Q := WP_getR (ci := 11) (k := 1) mq278 dd278_113 (by decide) rfl
theorem dd278_116 : decode cX12_count 116 = .ok (.iconst 0, 1) := by decide +kernel
theorem ww278_116 {d : Nat} {l0 l1 : Option mw_V} {st : List mw_V} {σ : mw_S} {Q : Option mw_V → mw_S → Prop} : mw_WP d 278 116 [l0, l1] st σ Q ↔ mw_WP d 278 117 [l0, l1] (jI (0) :: st) σ Q := WP_iconst mq278 dd278_116 (by decide)
theorem dd278_117 : decode cX12_count 117 = .ok (.iaload, 1) := by decide +kernel
theorem ww278_117 {d : Nat} {l0 l1 : Option mw_V} {z : Int} {a : Nat} {st : List mw_V} {σ : mw_S} {Q : Option mw_V → mw_S → Prop} : mw_WP d 278 117 [l0, l1] (jI z :: jR a :: st) σ Q ↔ ((0 ≤ z ∧ z < mw_lenI a) ∧ mw_WP d 278 118 [l0, l1] (jI (mw_rdI σ a z.toNat) :: st) σ Q) := WP_iaload mq278 dd278_117
theorem dd278_118 : decode cX12_count 118 = .ok (.ireturn, 1) := by decide +kernel
theorem ww278_118 {d : Nat} {l0 l1 : Option mw_V} {z : Int} {σ : mw_S} {Q : Option mw_V → mw_S → Prop} : mw_WP d 278 118 [l0, l1] [jI z] σ Q ↔ Q (some (jI z)) σ := WP_ireturn (ty := .int) mq278 dd278_118 rfl rfl
theorem dd278_119 : decode cX12_count 119 = .ok (.iconst (-1), 1) := by decide +kernel
theorem ww278_119 {d : Nat} {l0 l1 : Option mw_V} {st : List mw_V} {σ : mw_S} {Q : Option mw_V → mw_S → Prop} : mw_WP d 278 119 [l0, l1] st σ Q ↔ mw_WP d 278 120 [l0, l1] (jI (-1) :: st) σ Q := WP_iconst mq278 dd278_119 (by decide)
theorem dd278_120 : decode cX12_count 120 = .ok (.ireturn, 1) := by decide +kernel
theorem ww278_120 {d : Nat} {l0 l1 : Option mw_V} {z : Int} {σ : mw_S} {Q : Option mw_V → mw_S → Prop} : mw_WP d 278 120 [l0, l1] [jI z] σ Q ↔ Q (some (jI z)) σ := WP_ireturn (ty := .int) mq278 dd278_120 rfl rfl
