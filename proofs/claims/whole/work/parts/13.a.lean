/-! 13.a: rows that decode each instruction, and its rule -/
theorem ee0 {d : Nat} {a : Nat} {σ : mw_S} {Q : Option mw_V → mw_S → Prop} : mw_Call (d + 1) 0 [jR a] σ Q ↔ mw_WP d 0 0 [some (jR a)] [] σ Q := CL_u mq0 (Nat.le_of_ble_eq_true rfl) rfl
theorem dd0_0 : decode cX0_empty 0 = .ok (.aload_n 0, 1) := by decide +kernel
theorem ww0_0 {d : Nat} {x : Nat} {st : List mw_V} {σ : mw_S} {Q : Option mw_V → mw_S → Prop} : mw_WP d 0 0 [some (jR x)] st σ Q ↔ mw_WP d 0 1 [some (jR x)] (jR x :: st) σ Q := WP_aload_n mq0 dd0_0 rfl
theorem dd0_1 : decode cX0_empty 1 = .ok (.iconst 5, 1) := by decide +kernel
theorem ww0_1 {d : Nat} {l0 : Option mw_V} {st : List mw_V} {σ : mw_S} {Q : Option mw_V → mw_S → Prop} : mw_WP d 0 1 [l0] st σ Q ↔ mw_WP d 0 2 [l0] (jI (5) :: st) σ Q := WP_iconst mq0 dd0_1 (by decide)
theorem dd0_2 : decode cX0_empty 2 = .ok (.putfield 9, 3) := by decide +kernel
theorem ww0_2i3 {d : Nat} {l0 : Option mw_V} {v : Int} {st : List mw_V} {σ : mw_S} {Q : Option mw_V → mw_S → Prop} : mw_WP d 0 2 [l0] (jI v :: jR 3 :: st) σ Q ↔ mw_WP d 0 5 [l0] st (upS σ 3 0 v) Q := WP_putI (ci := 0) (k := 0) mq0 dd0_2 (by decide) rfl
theorem ww0_2i13 {d : Nat} {l0 : Option mw_V} {v : Int} {st : List mw_V} {σ : mw_S} {Q : Option mw_V → mw_S → Prop} : mw_WP d 0 2 [l0] (jI v :: jR 13 :: st) σ Q ↔ mw_WP d 0 5 [l0] st (upS σ 13 0 v) Q := WP_putI (ci := 0) (k := 0) mq0 dd0_2 (by decide) rfl
theorem ww0_2i77 {d : Nat} {l0 : Option mw_V} {v : Int} {st : List mw_V} {σ : mw_S} {Q : Option mw_V → mw_S → Prop} : mw_WP d 0 2 [l0] (jI v :: jR 77 :: st) σ Q ↔ mw_WP d 0 5 [l0] st (upS σ 77 0 v) Q := WP_putI (ci := 0) (k := 0) mq0 dd0_2 (by decide) rfl
theorem ww0_2i88 {d : Nat} {l0 : Option mw_V} {v : Int} {st : List mw_V} {σ : mw_S} {Q : Option mw_V → mw_S → Prop} : mw_WP d 0 2 [l0] (jI v :: jR 88 :: st) σ Q ↔ mw_WP d 0 5 [l0] st (upS σ 88 0 v) Q := WP_putI (ci := 0) (k := 0) mq0 dd0_2 (by decide) rfl
theorem dd0_5 : decode cX0_empty 5 = .ok (.aload_n 0, 1) := by decide +kernel
theorem ww0_5 {d : Nat} {x : Nat} {st : List mw_V} {σ : mw_S} {Q : Option mw_V → mw_S → Prop} : mw_WP d 0 5 [some (jR x)] st σ Q ↔ mw_WP d 0 6 [some (jR x)] (jR x :: st) σ Q := WP_aload_n mq0 dd0_5 rfl
theorem dd0_6 : decode cX0_empty 6 = .ok (.iconst 0, 1) := by decide +kernel
theorem ww0_6 {d : Nat} {l0 : Option mw_V} {st : List mw_V} {σ : mw_S} {Q : Option mw_V → mw_S → Prop} : mw_WP d 0 6 [l0] st σ Q ↔ mw_WP d 0 7 [l0] (jI (0) :: st) σ Q := WP_iconst mq0 dd0_6 (by decide)
theorem dd0_7 : decode cX0_empty 7 = .ok (.putfield 40, 3) := by decide +kernel
theorem ww0_7i3 {d : Nat} {l0 : Option mw_V} {v : Int} {st : List mw_V} {σ : mw_S} {Q : Option mw_V → mw_S → Prop} : mw_WP d 0 7 [l0] (jI v :: jR 3 :: st) σ Q ↔ mw_WP d 0 10 [l0] st (upS σ 3 1 v) Q := WP_putI (ci := 0) (k := 1) mq0 dd0_7 (by decide) rfl
theorem ww0_7i13 {d : Nat} {l0 : Option mw_V} {v : Int} {st : List mw_V} {σ : mw_S} {Q : Option mw_V → mw_S → Prop} : mw_WP d 0 7 [l0] (jI v :: jR 13 :: st) σ Q ↔ mw_WP d 0 10 [l0] st (upS σ 13 1 v) Q := WP_putI (ci := 0) (k := 1) mq0 dd0_7 (by decide) rfl
theorem ww0_7i77 {d : Nat} {l0 : Option mw_V} {v : Int} {st : List mw_V} {σ : mw_S} {Q : Option mw_V → mw_S → Prop} : mw_WP d 0 7 [l0] (jI v :: jR 77 :: st) σ Q ↔ mw_WP d 0 10 [l0] st (upS σ 77 1 v) Q := WP_putI (ci := 0) (k := 1) mq0 dd0_7 (by decide) rfl
theorem ww0_7i88 {d : Nat} {l0 : Option mw_V} {v : Int} {st : List mw_V} {σ : mw_S} {Q : Option mw_V → mw_S → Prop} : mw_WP d 0 7 [l0] (jI v :: jR 88 :: st) σ Q ↔ mw_WP d 0 10 [l0] st (upS σ 88 1 v) Q := WP_putI (ci := 0) (k := 1) mq0 dd0_7 (by decide) rfl
theorem dd0_10 : decode cX0_empty 10 = .ok (.aload_n 0, 1) := by decide +kernel
theorem ww0_10 {d : Nat} {x : Nat} {st : List mw_V} {σ : mw_S} {Q : Option mw_V → mw_S → Prop} : mw_WP d 0 10 [some (jR x)] st σ Q ↔ mw_WP d 0 11 [some (jR x)] (jR x :: st) σ Q := WP_aload_n mq0 dd0_10 rfl
theorem dd0_11 : decode cX0_empty 11 = .ok (.iconst 0, 1) := by decide +kernel
theorem ww0_11 {d : Nat} {l0 : Option mw_V} {st : List mw_V} {σ : mw_S} {Q : Option mw_V → mw_S → Prop} : mw_WP d 0 11 [l0] st σ Q ↔ mw_WP d 0 12 [l0] (jI (0) :: st) σ Q := WP_iconst mq0 dd0_11 (by decide)
theorem dd0_12 : decode cX0_empty 12 = .ok (.putfield 43, 3) := by decide +kernel
theorem ww0_12i3 {d : Nat} {l0 : Option mw_V} {v : Int} {st : List mw_V} {σ : mw_S} {Q : Option mw_V → mw_S → Prop} : mw_WP d 0 12 [l0] (jI v :: jR 3 :: st) σ Q ↔ mw_WP d 0 15 [l0] st (upS σ 3 2 v) Q := WP_putI (ci := 0) (k := 2) mq0 dd0_12 (by decide) rfl
theorem ww0_12i13 {d : Nat} {l0 : Option mw_V} {v : Int} {st : List mw_V} {σ : mw_S} {Q : Option mw_V → mw_S → Prop} : mw_WP d 0 12 [l0] (jI v :: jR 13 :: st) σ Q ↔ mw_WP d 0 15 [l0] st (upS σ 13 2 v) Q := WP_putI (ci := 0) (k := 2) mq0 dd0_12 (by decide) rfl
theorem ww0_12i77 {d : Nat} {l0 : Option mw_V} {v : Int} {st : List mw_V} {σ : mw_S} {Q : Option mw_V → mw_S → Prop} : mw_WP d 0 12 [l0] (jI v :: jR 77 :: st) σ Q ↔ mw_WP d 0 15 [l0] st (upS σ 77 2 v) Q := WP_putI (ci := 0) (k := 2) mq0 dd0_12 (by decide) rfl
theorem ww0_12i88 {d : Nat} {l0 : Option mw_V} {v : Int} {st : List mw_V} {σ : mw_S} {Q : Option mw_V → mw_S → Prop} : mw_WP d 0 12 [l0] (jI v :: jR 88 :: st) σ Q ↔ mw_WP d 0 15 [l0] st (upS σ 88 2 v) Q := WP_putI (ci := 0) (k := 2) mq0 dd0_12 (by decide) rfl
theorem dd0_15 : decode cX0_empty 15 = .ok (.aload_n 0, 1) := by decide +kernel
theorem ww0_15 {d : Nat} {x : Nat} {st : List mw_V} {σ : mw_S} {Q : Option mw_V → mw_S → Prop} : mw_WP d 0 15 [some (jR x)] st σ Q ↔ mw_WP d 0 16 [some (jR x)] (jR x :: st) σ Q := WP_aload_n mq0 dd0_15 rfl
theorem dd0_16 : decode cX0_empty 16 = .ok (.iconst 0, 1) := by decide +kernel
theorem ww0_16 {d : Nat} {l0 : Option mw_V} {st : List mw_V} {σ : mw_S} {Q : Option mw_V → mw_S → Prop} : mw_WP d 0 16 [l0] st σ Q ↔ mw_WP d 0 17 [l0] (jI (0) :: st) σ Q := WP_iconst mq0 dd0_16 (by decide)
theorem dd0_17 : decode cX0_empty 17 = .ok (.putfield 46, 3) := by decide +kernel
theorem ww0_17i3 {d : Nat} {l0 : Option mw_V} {v : Int} {st : List mw_V} {σ : mw_S} {Q : Option mw_V → mw_S → Prop} : mw_WP d 0 17 [l0] (jI v :: jR 3 :: st) σ Q ↔ mw_WP d 0 20 [l0] st (upS σ 3 3 v) Q := WP_putI (ci := 0) (k := 3) mq0 dd0_17 (by decide) rfl
theorem ww0_17i13 {d : Nat} {l0 : Option mw_V} {v : Int} {st : List mw_V} {σ : mw_S} {Q : Option mw_V → mw_S → Prop} : mw_WP d 0 17 [l0] (jI v :: jR 13 :: st) σ Q ↔ mw_WP d 0 20 [l0] st (upS σ 13 3 v) Q := WP_putI (ci := 0) (k := 3) mq0 dd0_17 (by decide) rfl
theorem ww0_17i77 {d : Nat} {l0 : Option mw_V} {v : Int} {st : List mw_V} {σ : mw_S} {Q : Option mw_V → mw_S → Prop} : mw_WP d 0 17 [l0] (jI v :: jR 77 :: st) σ Q ↔ mw_WP d 0 20 [l0] st (upS σ 77 3 v) Q := WP_putI (ci := 0) (k := 3) mq0 dd0_17 (by decide) rfl
theorem ww0_17i88 {d : Nat} {l0 : Option mw_V} {v : Int} {st : List mw_V} {σ : mw_S} {Q : Option mw_V → mw_S → Prop} : mw_WP d 0 17 [l0] (jI v :: jR 88 :: st) σ Q ↔ mw_WP d 0 20 [l0] st (upS σ 88 3 v) Q := WP_putI (ci := 0) (k := 3) mq0 dd0_17 (by decide) rfl
theorem dd0_20 : decode cX0_empty 20 = .ok (.aload_n 0, 1) := by decide +kernel
theorem ww0_20 {d : Nat} {x : Nat} {st : List mw_V} {σ : mw_S} {Q : Option mw_V → mw_S → Prop} : mw_WP d 0 20 [some (jR x)] st σ Q ↔ mw_WP d 0 21 [some (jR x)] (jR x :: st) σ Q := WP_aload_n mq0 dd0_20 rfl
theorem dd0_21 : decode cX0_empty 21 = .ok (.iconst 0, 1) := by decide +kernel
theorem ww0_21 {d : Nat} {l0 : Option mw_V} {st : List mw_V} {σ : mw_S} {Q : Option mw_V → mw_S → Prop} : mw_WP d 0 21 [l0] st σ Q ↔ mw_WP d 0 22 [l0] (jI (0) :: st) σ Q := WP_iconst mq0 dd0_21 (by decide)
theorem dd0_22 : decode cX0_empty 22 = .ok (.putfield 49, 3) := by decide +kernel
theorem ww0_22i3 {d : Nat} {l0 : Option mw_V} {v : Int} {st : List mw_V} {σ : mw_S} {Q : Option mw_V → mw_S → Prop} : mw_WP d 0 22 [l0] (jI v :: jR 3 :: st) σ Q ↔ mw_WP d 0 25 [l0] st (upS σ 3 4 v) Q := WP_putI (ci := 0) (k := 4) mq0 dd0_22 (by decide) rfl
theorem ww0_22i13 {d : Nat} {l0 : Option mw_V} {v : Int} {st : List mw_V} {σ : mw_S} {Q : Option mw_V → mw_S → Prop} : mw_WP d 0 22 [l0] (jI v :: jR 13 :: st) σ Q ↔ mw_WP d 0 25 [l0] st (upS σ 13 4 v) Q := WP_putI (ci := 0) (k := 4) mq0 dd0_22 (by decide) rfl
theorem ww0_22i77 {d : Nat} {l0 : Option mw_V} {v : Int} {st : List mw_V} {σ : mw_S} {Q : Option mw_V → mw_S → Prop} : mw_WP d 0 22 [l0] (jI v :: jR 77 :: st) σ Q ↔ mw_WP d 0 25 [l0] st (upS σ 77 4 v) Q := WP_putI (ci := 0) (k := 4) mq0 dd0_22 (by decide) rfl
theorem ww0_22i88 {d : Nat} {l0 : Option mw_V} {v : Int} {st : List mw_V} {σ : mw_S} {Q : Option mw_V → mw_S → Prop} : mw_WP d 0 22 [l0] (jI v :: jR 88 :: st) σ Q ↔ mw_WP d 0 25 [l0] st (upS σ 88 4 v) Q := WP_putI (ci := 0) (k := 4) mq0 dd0_22 (by decide) rfl
theorem dd0_25 : decode cX0_empty 25 = .ok (.aload_n 0, 1) := by decide +kernel
theorem ww0_25 {d : Nat} {x : Nat} {st : List mw_V} {σ : mw_S} {Q : Option mw_V → mw_S → Prop} : mw_WP d 0 25 [some (jR x)] st σ Q ↔ mw_WP d 0 26 [some (jR x)] (jR x :: st) σ Q := WP_aload_n mq0 dd0_25 rfl
theorem dd0_26 : decode cX0_empty 26 = .ok (.iconst 0, 1) := by decide +kernel
theorem ww0_26 {d : Nat} {l0 : Option mw_V} {st : List mw_V} {σ : mw_S} {Q : Option mw_V → mw_S → Prop} : mw_WP d 0 26 [l0] st σ Q ↔ mw_WP d 0 27 [l0] (jI (0) :: st) σ Q := WP_iconst mq0 dd0_26 (by decide)
theorem dd0_27 : decode cX0_empty 27 = .ok (.putfield 52, 3) := by decide +kernel
theorem ww0_27i3 {d : Nat} {l0 : Option mw_V} {v : Int} {st : List mw_V} {σ : mw_S} {Q : Option mw_V → mw_S → Prop} : mw_WP d 0 27 [l0] (jI v :: jR 3 :: st) σ Q ↔ mw_WP d 0 30 [l0] st (upS σ 3 5 v) Q := WP_putI (ci := 0) (k := 5) mq0 dd0_27 (by decide) rfl
theorem ww0_27i13 {d : Nat} {l0 : Option mw_V} {v : Int} {st : List mw_V} {σ : mw_S} {Q : Option mw_V → mw_S → Prop} : mw_WP d 0 27 [l0] (jI v :: jR 13 :: st) σ Q ↔ mw_WP d 0 30 [l0] st (upS σ 13 5 v) Q := WP_putI (ci := 0) (k := 5) mq0 dd0_27 (by decide) rfl
theorem ww0_27i77 {d : Nat} {l0 : Option mw_V} {v : Int} {st : List mw_V} {σ : mw_S} {Q : Option mw_V → mw_S → Prop} : mw_WP d 0 27 [l0] (jI v :: jR 77 :: st) σ Q ↔ mw_WP d 0 30 [l0] st (upS σ 77 5 v) Q := WP_putI (ci := 0) (k := 5) mq0 dd0_27 (by decide) rfl
theorem ww0_27i88 {d : Nat} {l0 : Option mw_V} {v : Int} {st : List mw_V} {σ : mw_S} {Q : Option mw_V → mw_S → Prop} : mw_WP d 0 27 [l0] (jI v :: jR 88 :: st) σ Q ↔ mw_WP d 0 30 [l0] st (upS σ 88 5 v) Q := WP_putI (ci := 0) (k := 5) mq0 dd0_27 (by decide) rfl
theorem dd0_30 : decode cX0_empty 30 = .ok (.aload_n 0, 1) := by decide +kernel
theorem ww0_30 {d : Nat} {x : Nat} {st : List mw_V} {σ : mw_S} {Q : Option mw_V → mw_S → Prop} : mw_WP d 0 30 [some (jR x)] st σ Q ↔ mw_WP d 0 31 [some (jR x)] (jR x :: st) σ Q := WP_aload_n mq0 dd0_30 rfl
theorem dd0_31 : decode cX0_empty 31 = .ok (.iconst 0, 1) := by decide +kernel
theorem ww0_31 {d : Nat} {l0 : Option mw_V} {st : List mw_V} {σ : mw_S} {Q : Option mw_V → mw_S → Prop} : mw_WP d 0 31 [l0] st σ Q ↔ mw_WP d 0 32 [l0] (jI (0) :: st) σ Q := WP_iconst mq0 dd0_31 (by decide)
theorem dd0_32 : decode cX0_empty 32 = .ok (.putfield 55, 3) := by decide +kernel
theorem ww0_32i3 {d : Nat} {l0 : Option mw_V} {v : Int} {st : List mw_V} {σ : mw_S} {Q : Option mw_V → mw_S → Prop} : mw_WP d 0 32 [l0] (jI v :: jR 3 :: st) σ Q ↔ mw_WP d 0 35 [l0] st (upS σ 3 6 v) Q := WP_putI (ci := 0) (k := 6) mq0 dd0_32 (by decide) rfl
theorem ww0_32i13 {d : Nat} {l0 : Option mw_V} {v : Int} {st : List mw_V} {σ : mw_S} {Q : Option mw_V → mw_S → Prop} : mw_WP d 0 32 [l0] (jI v :: jR 13 :: st) σ Q ↔ mw_WP d 0 35 [l0] st (upS σ 13 6 v) Q := WP_putI (ci := 0) (k := 6) mq0 dd0_32 (by decide) rfl
theorem ww0_32i77 {d : Nat} {l0 : Option mw_V} {v : Int} {st : List mw_V} {σ : mw_S} {Q : Option mw_V → mw_S → Prop} : mw_WP d 0 32 [l0] (jI v :: jR 77 :: st) σ Q ↔ mw_WP d 0 35 [l0] st (upS σ 77 6 v) Q := WP_putI (ci := 0) (k := 6) mq0 dd0_32 (by decide) rfl
theorem ww0_32i88 {d : Nat} {l0 : Option mw_V} {v : Int} {st : List mw_V} {σ : mw_S} {Q : Option mw_V → mw_S → Prop} : mw_WP d 0 32 [l0] (jI v :: jR 88 :: st) σ Q ↔ mw_WP d 0 35 [l0] st (upS σ 88 6 v) Q := WP_putI (ci := 0) (k := 6) mq0 dd0_32 (by decide) rfl
theorem dd0_35 : decode cX0_empty 35 = .ok (.return_, 1) := by decide +kernel
theorem ww0_35 {d : Nat} {l0 : Option mw_V} {σ : mw_S} {Q : Option mw_V → mw_S → Prop} : mw_WP d 0 35 [l0] [] σ Q ↔ Q none σ := WP_return mq0 dd0_35 rfl
theorem ee1 {d : Nat} {a : Nat} {a0 : Nat} {σ : mw_S} {Q : Option mw_V → mw_S → Prop} : mw_Call (d + 1) 1 [jR a, jR a0] σ Q ↔ mw_WP d 1 0 [some (jR a), some (jR a0)] [] σ Q := CL_u mq1 (Nat.le_of_ble_eq_true rfl) rfl
theorem dd1_0 : decode cX0_become 0 = .ok (.aload_n 0, 1) := by decide +kernel
theorem ww1_0 {d : Nat} {l1 : Option mw_V} {x : Nat} {st : List mw_V} {σ : mw_S} {Q : Option mw_V → mw_S → Prop} : mw_WP d 1 0 [some (jR x), l1] st σ Q ↔ mw_WP d 1 1 [some (jR x), l1] (jR x :: st) σ Q := WP_aload_n mq1 dd1_0 rfl
theorem dd1_1 : decode cX0_become 1 = .ok (.aload_n 1, 1) := by decide +kernel
theorem ww1_1 {d : Nat} {l0 : Option mw_V} {x : Nat} {st : List mw_V} {σ : mw_S} {Q : Option mw_V → mw_S → Prop} : mw_WP d 1 1 [l0, some (jR x)] st σ Q ↔ mw_WP d 1 2 [l0, some (jR x)] (jR x :: st) σ Q := WP_aload_n mq1 dd1_1 rfl
theorem dd1_2 : decode cX0_become 2 = .ok (.getfield 9, 3) := by decide +kernel
theorem ww1_2i3 {d : Nat} {l0 l1 : Option mw_V} {st : List mw_V} {σ : mw_S} {Q : Option mw_V → mw_S → Prop} : mw_WP d 1 2 [l0, l1] (jR 3 :: st) σ Q ↔ mw_WP d 1 5 [l0, l1] (jI (σ 3 0) :: st) σ Q := WP_getI (ci := 0) (k := 0) mq1 dd1_2 (by decide) (Or.inl rfl)
theorem ww1_2i13 {d : Nat} {l0 l1 : Option mw_V} {st : List mw_V} {σ : mw_S} {Q : Option mw_V → mw_S → Prop} : mw_WP d 1 2 [l0, l1] (jR 13 :: st) σ Q ↔ mw_WP d 1 5 [l0, l1] (jI (σ 13 0) :: st) σ Q := WP_getI (ci := 0) (k := 0) mq1 dd1_2 (by decide) (Or.inl rfl)
theorem ww1_2i77 {d : Nat} {l0 l1 : Option mw_V} {st : List mw_V} {σ : mw_S} {Q : Option mw_V → mw_S → Prop} : mw_WP d 1 2 [l0, l1] (jR 77 :: st) σ Q ↔ mw_WP d 1 5 [l0, l1] (jI (σ 77 0) :: st) σ Q := WP_getI (ci := 0) (k := 0) mq1 dd1_2 (by decide) (Or.inl rfl)
theorem ww1_2i88 {d : Nat} {l0 l1 : Option mw_V} {st : List mw_V} {σ : mw_S} {Q : Option mw_V → mw_S → Prop} : mw_WP d 1 2 [l0, l1] (jR 88 :: st) σ Q ↔ mw_WP d 1 5 [l0, l1] (jI (σ 88 0) :: st) σ Q := WP_getI (ci := 0) (k := 0) mq1 dd1_2 (by decide) (Or.inl rfl)
theorem dd1_5 : decode cX0_become 5 = .ok (.putfield 9, 3) := by decide +kernel
theorem ww1_5i3 {d : Nat} {l0 l1 : Option mw_V} {v : Int} {st : List mw_V} {σ : mw_S} {Q : Option mw_V → mw_S → Prop} : mw_WP d 1 5 [l0, l1] (jI v :: jR 3 :: st) σ Q ↔ mw_WP d 1 8 [l0, l1] st (upS σ 3 0 v) Q := WP_putI (ci := 0) (k := 0) mq1 dd1_5 (by decide) rfl
theorem ww1_5i13 {d : Nat} {l0 l1 : Option mw_V} {v : Int} {st : List mw_V} {σ : mw_S} {Q : Option mw_V → mw_S → Prop} : mw_WP d 1 5 [l0, l1] (jI v :: jR 13 :: st) σ Q ↔ mw_WP d 1 8 [l0, l1] st (upS σ 13 0 v) Q := WP_putI (ci := 0) (k := 0) mq1 dd1_5 (by decide) rfl
theorem ww1_5i77 {d : Nat} {l0 l1 : Option mw_V} {v : Int} {st : List mw_V} {σ : mw_S} {Q : Option mw_V → mw_S → Prop} : mw_WP d 1 5 [l0, l1] (jI v :: jR 77 :: st) σ Q ↔ mw_WP d 1 8 [l0, l1] st (upS σ 77 0 v) Q := WP_putI (ci := 0) (k := 0) mq1 dd1_5 (by decide) rfl
theorem ww1_5i88 {d : Nat} {l0 l1 : Option mw_V} {v : Int} {st : List mw_V} {σ : mw_S} {Q : Option mw_V → mw_S → Prop} : mw_WP d 1 5 [l0, l1] (jI v :: jR 88 :: st) σ Q ↔ mw_WP d 1 8 [l0, l1] st (upS σ 88 0 v) Q := WP_putI (ci := 0) (k := 0) mq1 dd1_5 (by decide) rfl
theorem dd1_8 : decode cX0_become 8 = .ok (.aload_n 0, 1) := by decide +kernel
theorem ww1_8 {d : Nat} {l1 : Option mw_V} {x : Nat} {st : List mw_V} {σ : mw_S} {Q : Option mw_V → mw_S → Prop} : mw_WP d 1 8 [some (jR x), l1] st σ Q ↔ mw_WP d 1 9 [some (jR x), l1] (jR x :: st) σ Q := WP_aload_n mq1 dd1_8 rfl
theorem dd1_9 : decode cX0_become 9 = .ok (.aload_n 1, 1) := by decide +kernel
theorem ww1_9 {d : Nat} {l0 : Option mw_V} {x : Nat} {st : List mw_V} {σ : mw_S} {Q : Option mw_V → mw_S → Prop} : mw_WP d 1 9 [l0, some (jR x)] st σ Q ↔ mw_WP d 1 10 [l0, some (jR x)] (jR x :: st) σ Q := WP_aload_n mq1 dd1_9 rfl
theorem dd1_10 : decode cX0_become 10 = .ok (.getfield 40, 3) := by decide +kernel
theorem ww1_10i3 {d : Nat} {l0 l1 : Option mw_V} {st : List mw_V} {σ : mw_S} {Q : Option mw_V → mw_S → Prop} : mw_WP d 1 10 [l0, l1] (jR 3 :: st) σ Q ↔ mw_WP d 1 13 [l0, l1] (jI (σ 3 1) :: st) σ Q := WP_getI (ci := 0) (k := 1) mq1 dd1_10 (by decide) (Or.inl rfl)
theorem ww1_10i13 {d : Nat} {l0 l1 : Option mw_V} {st : List mw_V} {σ : mw_S} {Q : Option mw_V → mw_S → Prop} : mw_WP d 1 10 [l0, l1] (jR 13 :: st) σ Q ↔ mw_WP d 1 13 [l0, l1] (jI (σ 13 1) :: st) σ Q := WP_getI (ci := 0) (k := 1) mq1 dd1_10 (by decide) (Or.inl rfl)
theorem ww1_10i77 {d : Nat} {l0 l1 : Option mw_V} {st : List mw_V} {σ : mw_S} {Q : Option mw_V → mw_S → Prop} : mw_WP d 1 10 [l0, l1] (jR 77 :: st) σ Q ↔ mw_WP d 1 13 [l0, l1] (jI (σ 77 1) :: st) σ Q := WP_getI (ci := 0) (k := 1) mq1 dd1_10 (by decide) (Or.inl rfl)
theorem ww1_10i88 {d : Nat} {l0 l1 : Option mw_V} {st : List mw_V} {σ : mw_S} {Q : Option mw_V → mw_S → Prop} : mw_WP d 1 10 [l0, l1] (jR 88 :: st) σ Q ↔ mw_WP d 1 13 [l0, l1] (jI (σ 88 1) :: st) σ Q := WP_getI (ci := 0) (k := 1) mq1 dd1_10 (by decide) (Or.inl rfl)
theorem dd1_13 : decode cX0_become 13 = .ok (.putfield 40, 3) := by decide +kernel
theorem ww1_13i3 {d : Nat} {l0 l1 : Option mw_V} {v : Int} {st : List mw_V} {σ : mw_S} {Q : Option mw_V → mw_S → Prop} : mw_WP d 1 13 [l0, l1] (jI v :: jR 3 :: st) σ Q ↔ mw_WP d 1 16 [l0, l1] st (upS σ 3 1 v) Q := WP_putI (ci := 0) (k := 1) mq1 dd1_13 (by decide) rfl
theorem ww1_13i13 {d : Nat} {l0 l1 : Option mw_V} {v : Int} {st : List mw_V} {σ : mw_S} {Q : Option mw_V → mw_S → Prop} : mw_WP d 1 13 [l0, l1] (jI v :: jR 13 :: st) σ Q ↔ mw_WP d 1 16 [l0, l1] st (upS σ 13 1 v) Q := WP_putI (ci := 0) (k := 1) mq1 dd1_13 (by decide) rfl
theorem ww1_13i77 {d : Nat} {l0 l1 : Option mw_V} {v : Int} {st : List mw_V} {σ : mw_S} {Q : Option mw_V → mw_S → Prop} : mw_WP d 1 13 [l0, l1] (jI v :: jR 77 :: st) σ Q ↔ mw_WP d 1 16 [l0, l1] st (upS σ 77 1 v) Q := WP_putI (ci := 0) (k := 1) mq1 dd1_13 (by decide) rfl
theorem ww1_13i88 {d : Nat} {l0 l1 : Option mw_V} {v : Int} {st : List mw_V} {σ : mw_S} {Q : Option mw_V → mw_S → Prop} : mw_WP d 1 13 [l0, l1] (jI v :: jR 88 :: st) σ Q ↔ mw_WP d 1 16 [l0, l1] st (upS σ 88 1 v) Q := WP_putI (ci := 0) (k := 1) mq1 dd1_13 (by decide) rfl
theorem dd1_16 : decode cX0_become 16 = .ok (.aload_n 0, 1) := by decide +kernel
theorem ww1_16 {d : Nat} {l1 : Option mw_V} {x : Nat} {st : List mw_V} {σ : mw_S} {Q : Option mw_V → mw_S → Prop} : mw_WP d 1 16 [some (jR x), l1] st σ Q ↔ mw_WP d 1 17 [some (jR x), l1] (jR x :: st) σ Q := WP_aload_n mq1 dd1_16 rfl
theorem dd1_17 : decode cX0_become 17 = .ok (.aload_n 1, 1) := by decide +kernel
theorem ww1_17 {d : Nat} {l0 : Option mw_V} {x : Nat} {st : List mw_V} {σ : mw_S} {Q : Option mw_V → mw_S → Prop} : mw_WP d 1 17 [l0, some (jR x)] st σ Q ↔ mw_WP d 1 18 [l0, some (jR x)] (jR x :: st) σ Q := WP_aload_n mq1 dd1_17 rfl
theorem dd1_18 : decode cX0_become 18 = .ok (.getfield 43, 3) := by decide +kernel
theorem ww1_18i3 {d : Nat} {l0 l1 : Option mw_V} {st : List mw_V} {σ : mw_S} {Q : Option mw_V → mw_S → Prop} : mw_WP d 1 18 [l0, l1] (jR 3 :: st) σ Q ↔ mw_WP d 1 21 [l0, l1] (jI (σ 3 2) :: st) σ Q := WP_getI (ci := 0) (k := 2) mq1 dd1_18 (by decide) (Or.inl rfl)
theorem ww1_18i13 {d : Nat} {l0 l1 : Option mw_V} {st : List mw_V} {σ : mw_S} {Q : Option mw_V → mw_S → Prop} : mw_WP d 1 18 [l0, l1] (jR 13 :: st) σ Q ↔ mw_WP d 1 21 [l0, l1] (jI (σ 13 2) :: st) σ Q := WP_getI (ci := 0) (k := 2) mq1 dd1_18 (by decide) (Or.inl rfl)
theorem ww1_18i77 {d : Nat} {l0 l1 : Option mw_V} {st : List mw_V} {σ : mw_S} {Q : Option mw_V → mw_S → Prop} : mw_WP d 1 18 [l0, l1] (jR 77 :: st) σ Q ↔ mw_WP d 1 21 [l0, l1] (jI (σ 77 2) :: st) σ Q := WP_getI (ci := 0) (k := 2) mq1 dd1_18 (by decide) (Or.inl rfl)
theorem ww1_18i88 {d : Nat} {l0 l1 : Option mw_V} {st : List mw_V} {σ : mw_S} {Q : Option mw_V → mw_S → Prop} : mw_WP d 1 18 [l0, l1] (jR 88 :: st) σ Q ↔ mw_WP d 1 21 [l0, l1] (jI (σ 88 2) :: st) σ Q := WP_getI (ci := 0) (k := 2) mq1 dd1_18 (by decide) (Or.inl rfl)
theorem dd1_21 : decode cX0_become 21 = .ok (.putfield 43, 3) := by decide +kernel
theorem ww1_21i3 {d : Nat} {l0 l1 : Option mw_V} {v : Int} {st : List mw_V} {σ : mw_S} {Q : Option mw_V → mw_S → Prop} : mw_WP d 1 21 [l0, l1] (jI v :: jR 3 :: st) σ Q ↔ mw_WP d 1 24 [l0, l1] st (upS σ 3 2 v) Q := WP_putI (ci := 0) (k := 2) mq1 dd1_21 (by decide) rfl
theorem ww1_21i13 {d : Nat} {l0 l1 : Option mw_V} {v : Int} {st : List mw_V} {σ : mw_S} {Q : Option mw_V → mw_S → Prop} : mw_WP d 1 21 [l0, l1] (jI v :: jR 13 :: st) σ Q ↔ mw_WP d 1 24 [l0, l1] st (upS σ 13 2 v) Q := WP_putI (ci := 0) (k := 2) mq1 dd1_21 (by decide) rfl
theorem ww1_21i77 {d : Nat} {l0 l1 : Option mw_V} {v : Int} {st : List mw_V} {σ : mw_S} {Q : Option mw_V → mw_S → Prop} : mw_WP d 1 21 [l0, l1] (jI v :: jR 77 :: st) σ Q ↔ mw_WP d 1 24 [l0, l1] st (upS σ 77 2 v) Q := WP_putI (ci := 0) (k := 2) mq1 dd1_21 (by decide) rfl
theorem ww1_21i88 {d : Nat} {l0 l1 : Option mw_V} {v : Int} {st : List mw_V} {σ : mw_S} {Q : Option mw_V → mw_S → Prop} : mw_WP d 1 21 [l0, l1] (jI v :: jR 88 :: st) σ Q ↔ mw_WP d 1 24 [l0, l1] st (upS σ 88 2 v) Q := WP_putI (ci := 0) (k := 2) mq1 dd1_21 (by decide) rfl
theorem dd1_24 : decode cX0_become 24 = .ok (.aload_n 0, 1) := by decide +kernel
theorem ww1_24 {d : Nat} {l1 : Option mw_V} {x : Nat} {st : List mw_V} {σ : mw_S} {Q : Option mw_V → mw_S → Prop} : mw_WP d 1 24 [some (jR x), l1] st σ Q ↔ mw_WP d 1 25 [some (jR x), l1] (jR x :: st) σ Q := WP_aload_n mq1 dd1_24 rfl
theorem dd1_25 : decode cX0_become 25 = .ok (.aload_n 1, 1) := by decide +kernel
theorem ww1_25 {d : Nat} {l0 : Option mw_V} {x : Nat} {st : List mw_V} {σ : mw_S} {Q : Option mw_V → mw_S → Prop} : mw_WP d 1 25 [l0, some (jR x)] st σ Q ↔ mw_WP d 1 26 [l0, some (jR x)] (jR x :: st) σ Q := WP_aload_n mq1 dd1_25 rfl
theorem dd1_26 : decode cX0_become 26 = .ok (.getfield 46, 3) := by decide +kernel
theorem ww1_26i3 {d : Nat} {l0 l1 : Option mw_V} {st : List mw_V} {σ : mw_S} {Q : Option mw_V → mw_S → Prop} : mw_WP d 1 26 [l0, l1] (jR 3 :: st) σ Q ↔ mw_WP d 1 29 [l0, l1] (jI (σ 3 3) :: st) σ Q := WP_getI (ci := 0) (k := 3) mq1 dd1_26 (by decide) (Or.inl rfl)
theorem ww1_26i13 {d : Nat} {l0 l1 : Option mw_V} {st : List mw_V} {σ : mw_S} {Q : Option mw_V → mw_S → Prop} : mw_WP d 1 26 [l0, l1] (jR 13 :: st) σ Q ↔ mw_WP d 1 29 [l0, l1] (jI (σ 13 3) :: st) σ Q := WP_getI (ci := 0) (k := 3) mq1 dd1_26 (by decide) (Or.inl rfl)
theorem ww1_26i77 {d : Nat} {l0 l1 : Option mw_V} {st : List mw_V} {σ : mw_S} {Q : Option mw_V → mw_S → Prop} : mw_WP d 1 26 [l0, l1] (jR 77 :: st) σ Q ↔ mw_WP d 1 29 [l0, l1] (jI (σ 77 3) :: st) σ Q := WP_getI (ci := 0) (k := 3) mq1 dd1_26 (by decide) (Or.inl rfl)
theorem ww1_26i88 {d : Nat} {l0 l1 : Option mw_V} {st : List mw_V} {σ : mw_S} {Q : Option mw_V → mw_S → Prop} : mw_WP d 1 26 [l0, l1] (jR 88 :: st) σ Q ↔ mw_WP d 1 29 [l0, l1] (jI (σ 88 3) :: st) σ Q := WP_getI (ci := 0) (k := 3) mq1 dd1_26 (by decide) (Or.inl rfl)
theorem dd1_29 : decode cX0_become 29 = .ok (.putfield 46, 3) := by decide +kernel
theorem ww1_29i3 {d : Nat} {l0 l1 : Option mw_V} {v : Int} {st : List mw_V} {σ : mw_S} {Q : Option mw_V → mw_S → Prop} : mw_WP d 1 29 [l0, l1] (jI v :: jR 3 :: st) σ Q ↔ mw_WP d 1 32 [l0, l1] st (upS σ 3 3 v) Q := WP_putI (ci := 0) (k := 3) mq1 dd1_29 (by decide) rfl
theorem ww1_29i13 {d : Nat} {l0 l1 : Option mw_V} {v : Int} {st : List mw_V} {σ : mw_S} {Q : Option mw_V → mw_S → Prop} : mw_WP d 1 29 [l0, l1] (jI v :: jR 13 :: st) σ Q ↔ mw_WP d 1 32 [l0, l1] st (upS σ 13 3 v) Q := WP_putI (ci := 0) (k := 3) mq1 dd1_29 (by decide) rfl
theorem ww1_29i77 {d : Nat} {l0 l1 : Option mw_V} {v : Int} {st : List mw_V} {σ : mw_S} {Q : Option mw_V → mw_S → Prop} : mw_WP d 1 29 [l0, l1] (jI v :: jR 77 :: st) σ Q ↔ mw_WP d 1 32 [l0, l1] st (upS σ 77 3 v) Q := WP_putI (ci := 0) (k := 3) mq1 dd1_29 (by decide) rfl
theorem ww1_29i88 {d : Nat} {l0 l1 : Option mw_V} {v : Int} {st : List mw_V} {σ : mw_S} {Q : Option mw_V → mw_S → Prop} : mw_WP d 1 29 [l0, l1] (jI v :: jR 88 :: st) σ Q ↔ mw_WP d 1 32 [l0, l1] st (upS σ 88 3 v) Q := WP_putI (ci := 0) (k := 3) mq1 dd1_29 (by decide) rfl
theorem dd1_32 : decode cX0_become 32 = .ok (.aload_n 0, 1) := by decide +kernel
theorem ww1_32 {d : Nat} {l1 : Option mw_V} {x : Nat} {st : List mw_V} {σ : mw_S} {Q : Option mw_V → mw_S → Prop} : mw_WP d 1 32 [some (jR x), l1] st σ Q ↔ mw_WP d 1 33 [some (jR x), l1] (jR x :: st) σ Q := WP_aload_n mq1 dd1_32 rfl
theorem dd1_33 : decode cX0_become 33 = .ok (.aload_n 1, 1) := by decide +kernel
theorem ww1_33 {d : Nat} {l0 : Option mw_V} {x : Nat} {st : List mw_V} {σ : mw_S} {Q : Option mw_V → mw_S → Prop} : mw_WP d 1 33 [l0, some (jR x)] st σ Q ↔ mw_WP d 1 34 [l0, some (jR x)] (jR x :: st) σ Q := WP_aload_n mq1 dd1_33 rfl
theorem dd1_34 : decode cX0_become 34 = .ok (.getfield 49, 3) := by decide +kernel
theorem ww1_34i3 {d : Nat} {l0 l1 : Option mw_V} {st : List mw_V} {σ : mw_S} {Q : Option mw_V → mw_S → Prop} : mw_WP d 1 34 [l0, l1] (jR 3 :: st) σ Q ↔ mw_WP d 1 37 [l0, l1] (jI (σ 3 4) :: st) σ Q := WP_getI (ci := 0) (k := 4) mq1 dd1_34 (by decide) (Or.inl rfl)
theorem ww1_34i13 {d : Nat} {l0 l1 : Option mw_V} {st : List mw_V} {σ : mw_S} {Q : Option mw_V → mw_S → Prop} : mw_WP d 1 34 [l0, l1] (jR 13 :: st) σ Q ↔ mw_WP d 1 37 [l0, l1] (jI (σ 13 4) :: st) σ Q := WP_getI (ci := 0) (k := 4) mq1 dd1_34 (by decide) (Or.inl rfl)
theorem ww1_34i77 {d : Nat} {l0 l1 : Option mw_V} {st : List mw_V} {σ : mw_S} {Q : Option mw_V → mw_S → Prop} : mw_WP d 1 34 [l0, l1] (jR 77 :: st) σ Q ↔ mw_WP d 1 37 [l0, l1] (jI (σ 77 4) :: st) σ Q := WP_getI (ci := 0) (k := 4) mq1 dd1_34 (by decide) (Or.inl rfl)
theorem ww1_34i88 {d : Nat} {l0 l1 : Option mw_V} {st : List mw_V} {σ : mw_S} {Q : Option mw_V → mw_S → Prop} : mw_WP d 1 34 [l0, l1] (jR 88 :: st) σ Q ↔ mw_WP d 1 37 [l0, l1] (jI (σ 88 4) :: st) σ Q := WP_getI (ci := 0) (k := 4) mq1 dd1_34 (by decide) (Or.inl rfl)
theorem dd1_37 : decode cX0_become 37 = .ok (.putfield 49, 3) := by decide +kernel
theorem ww1_37i3 {d : Nat} {l0 l1 : Option mw_V} {v : Int} {st : List mw_V} {σ : mw_S} {Q : Option mw_V → mw_S → Prop} : mw_WP d 1 37 [l0, l1] (jI v :: jR 3 :: st) σ Q ↔ mw_WP d 1 40 [l0, l1] st (upS σ 3 4 v) Q := WP_putI (ci := 0) (k := 4) mq1 dd1_37 (by decide) rfl
theorem ww1_37i13 {d : Nat} {l0 l1 : Option mw_V} {v : Int} {st : List mw_V} {σ : mw_S} {Q : Option mw_V → mw_S → Prop} : mw_WP d 1 37 [l0, l1] (jI v :: jR 13 :: st) σ Q ↔ mw_WP d 1 40 [l0, l1] st (upS σ 13 4 v) Q := WP_putI (ci := 0) (k := 4) mq1 dd1_37 (by decide) rfl
theorem ww1_37i77 {d : Nat} {l0 l1 : Option mw_V} {v : Int} {st : List mw_V} {σ : mw_S} {Q : Option mw_V → mw_S → Prop} : mw_WP d 1 37 [l0, l1] (jI v :: jR 77 :: st) σ Q ↔ mw_WP d 1 40 [l0, l1] st (upS σ 77 4 v) Q := WP_putI (ci := 0) (k := 4) mq1 dd1_37 (by decide) rfl
theorem ww1_37i88 {d : Nat} {l0 l1 : Option mw_V} {v : Int} {st : List mw_V} {σ : mw_S} {Q : Option mw_V → mw_S → Prop} : mw_WP d 1 37 [l0, l1] (jI v :: jR 88 :: st) σ Q ↔ mw_WP d 1 40 [l0, l1] st (upS σ 88 4 v) Q := WP_putI (ci := 0) (k := 4) mq1 dd1_37 (by decide) rfl
theorem dd1_40 : decode cX0_become 40 = .ok (.aload_n 0, 1) := by decide +kernel
theorem ww1_40 {d : Nat} {l1 : Option mw_V} {x : Nat} {st : List mw_V} {σ : mw_S} {Q : Option mw_V → mw_S → Prop} : mw_WP d 1 40 [some (jR x), l1] st σ Q ↔ mw_WP d 1 41 [some (jR x), l1] (jR x :: st) σ Q := WP_aload_n mq1 dd1_40 rfl
theorem dd1_41 : decode cX0_become 41 = .ok (.aload_n 1, 1) := by decide +kernel
theorem ww1_41 {d : Nat} {l0 : Option mw_V} {x : Nat} {st : List mw_V} {σ : mw_S} {Q : Option mw_V → mw_S → Prop} : mw_WP d 1 41 [l0, some (jR x)] st σ Q ↔ mw_WP d 1 42 [l0, some (jR x)] (jR x :: st) σ Q := WP_aload_n mq1 dd1_41 rfl
theorem dd1_42 : decode cX0_become 42 = .ok (.getfield 52, 3) := by decide +kernel
theorem ww1_42i3 {d : Nat} {l0 l1 : Option mw_V} {st : List mw_V} {σ : mw_S} {Q : Option mw_V → mw_S → Prop} : mw_WP d 1 42 [l0, l1] (jR 3 :: st) σ Q ↔ mw_WP d 1 45 [l0, l1] (jI (σ 3 5) :: st) σ Q := WP_getI (ci := 0) (k := 5) mq1 dd1_42 (by decide) (Or.inl rfl)
theorem ww1_42i13 {d : Nat} {l0 l1 : Option mw_V} {st : List mw_V} {σ : mw_S} {Q : Option mw_V → mw_S → Prop} : mw_WP d 1 42 [l0, l1] (jR 13 :: st) σ Q ↔ mw_WP d 1 45 [l0, l1] (jI (σ 13 5) :: st) σ Q := WP_getI (ci := 0) (k := 5) mq1 dd1_42 (by decide) (Or.inl rfl)
theorem ww1_42i77 {d : Nat} {l0 l1 : Option mw_V} {st : List mw_V} {σ : mw_S} {Q : Option mw_V → mw_S → Prop} : mw_WP d 1 42 [l0, l1] (jR 77 :: st) σ Q ↔ mw_WP d 1 45 [l0, l1] (jI (σ 77 5) :: st) σ Q := WP_getI (ci := 0) (k := 5) mq1 dd1_42 (by decide) (Or.inl rfl)
theorem ww1_42i88 {d : Nat} {l0 l1 : Option mw_V} {st : List mw_V} {σ : mw_S} {Q : Option mw_V → mw_S → Prop} : mw_WP d 1 42 [l0, l1] (jR 88 :: st) σ Q ↔ mw_WP d 1 45 [l0, l1] (jI (σ 88 5) :: st) σ Q := WP_getI (ci := 0) (k := 5) mq1 dd1_42 (by decide) (Or.inl rfl)
theorem dd1_45 : decode cX0_become 45 = .ok (.putfield 52, 3) := by decide +kernel
theorem ww1_45i3 {d : Nat} {l0 l1 : Option mw_V} {v : Int} {st : List mw_V} {σ : mw_S} {Q : Option mw_V → mw_S → Prop} : mw_WP d 1 45 [l0, l1] (jI v :: jR 3 :: st) σ Q ↔ mw_WP d 1 48 [l0, l1] st (upS σ 3 5 v) Q := WP_putI (ci := 0) (k := 5) mq1 dd1_45 (by decide) rfl
theorem ww1_45i13 {d : Nat} {l0 l1 : Option mw_V} {v : Int} {st : List mw_V} {σ : mw_S} {Q : Option mw_V → mw_S → Prop} : mw_WP d 1 45 [l0, l1] (jI v :: jR 13 :: st) σ Q ↔ mw_WP d 1 48 [l0, l1] st (upS σ 13 5 v) Q := WP_putI (ci := 0) (k := 5) mq1 dd1_45 (by decide) rfl
theorem ww1_45i77 {d : Nat} {l0 l1 : Option mw_V} {v : Int} {st : List mw_V} {σ : mw_S} {Q : Option mw_V → mw_S → Prop} : mw_WP d 1 45 [l0, l1] (jI v :: jR 77 :: st) σ Q ↔ mw_WP d 1 48 [l0, l1] st (upS σ 77 5 v) Q := WP_putI (ci := 0) (k := 5) mq1 dd1_45 (by decide) rfl
theorem ww1_45i88 {d : Nat} {l0 l1 : Option mw_V} {v : Int} {st : List mw_V} {σ : mw_S} {Q : Option mw_V → mw_S → Prop} : mw_WP d 1 45 [l0, l1] (jI v :: jR 88 :: st) σ Q ↔ mw_WP d 1 48 [l0, l1] st (upS σ 88 5 v) Q := WP_putI (ci := 0) (k := 5) mq1 dd1_45 (by decide) rfl
theorem dd1_48 : decode cX0_become 48 = .ok (.aload_n 0, 1) := by decide +kernel
theorem ww1_48 {d : Nat} {l1 : Option mw_V} {x : Nat} {st : List mw_V} {σ : mw_S} {Q : Option mw_V → mw_S → Prop} : mw_WP d 1 48 [some (jR x), l1] st σ Q ↔ mw_WP d 1 49 [some (jR x), l1] (jR x :: st) σ Q := WP_aload_n mq1 dd1_48 rfl
theorem dd1_49 : decode cX0_become 49 = .ok (.aload_n 1, 1) := by decide +kernel
theorem ww1_49 {d : Nat} {l0 : Option mw_V} {x : Nat} {st : List mw_V} {σ : mw_S} {Q : Option mw_V → mw_S → Prop} : mw_WP d 1 49 [l0, some (jR x)] st σ Q ↔ mw_WP d 1 50 [l0, some (jR x)] (jR x :: st) σ Q := WP_aload_n mq1 dd1_49 rfl
theorem dd1_50 : decode cX0_become 50 = .ok (.getfield 55, 3) := by decide +kernel
theorem ww1_50i3 {d : Nat} {l0 l1 : Option mw_V} {st : List mw_V} {σ : mw_S} {Q : Option mw_V → mw_S → Prop} : mw_WP d 1 50 [l0, l1] (jR 3 :: st) σ Q ↔ mw_WP d 1 53 [l0, l1] (jI (σ 3 6) :: st) σ Q := WP_getI (ci := 0) (k := 6) mq1 dd1_50 (by decide) (Or.inl rfl)
theorem ww1_50i13 {d : Nat} {l0 l1 : Option mw_V} {st : List mw_V} {σ : mw_S} {Q : Option mw_V → mw_S → Prop} : mw_WP d 1 50 [l0, l1] (jR 13 :: st) σ Q ↔ mw_WP d 1 53 [l0, l1] (jI (σ 13 6) :: st) σ Q := WP_getI (ci := 0) (k := 6) mq1 dd1_50 (by decide) (Or.inl rfl)
theorem ww1_50i77 {d : Nat} {l0 l1 : Option mw_V} {st : List mw_V} {σ : mw_S} {Q : Option mw_V → mw_S → Prop} : mw_WP d 1 50 [l0, l1] (jR 77 :: st) σ Q ↔ mw_WP d 1 53 [l0, l1] (jI (σ 77 6) :: st) σ Q := WP_getI (ci := 0) (k := 6) mq1 dd1_50 (by decide) (Or.inl rfl)
theorem ww1_50i88 {d : Nat} {l0 l1 : Option mw_V} {st : List mw_V} {σ : mw_S} {Q : Option mw_V → mw_S → Prop} : mw_WP d 1 50 [l0, l1] (jR 88 :: st) σ Q ↔ mw_WP d 1 53 [l0, l1] (jI (σ 88 6) :: st) σ Q := WP_getI (ci := 0) (k := 6) mq1 dd1_50 (by decide) (Or.inl rfl)
theorem dd1_53 : decode cX0_become 53 = .ok (.putfield 55, 3) := by decide +kernel
theorem ww1_53i3 {d : Nat} {l0 l1 : Option mw_V} {v : Int} {st : List mw_V} {σ : mw_S} {Q : Option mw_V → mw_S → Prop} : mw_WP d 1 53 [l0, l1] (jI v :: jR 3 :: st) σ Q ↔ mw_WP d 1 56 [l0, l1] st (upS σ 3 6 v) Q := WP_putI (ci := 0) (k := 6) mq1 dd1_53 (by decide) rfl
theorem ww1_53i13 {d : Nat} {l0 l1 : Option mw_V} {v : Int} {st : List mw_V} {σ : mw_S} {Q : Option mw_V → mw_S → Prop} : mw_WP d 1 53 [l0, l1] (jI v :: jR 13 :: st) σ Q ↔ mw_WP d 1 56 [l0, l1] st (upS σ 13 6 v) Q := WP_putI (ci := 0) (k := 6) mq1 dd1_53 (by decide) rfl
theorem ww1_53i77 {d : Nat} {l0 l1 : Option mw_V} {v : Int} {st : List mw_V} {σ : mw_S} {Q : Option mw_V → mw_S → Prop} : mw_WP d 1 53 [l0, l1] (jI v :: jR 77 :: st) σ Q ↔ mw_WP d 1 56 [l0, l1] st (upS σ 77 6 v) Q := WP_putI (ci := 0) (k := 6) mq1 dd1_53 (by decide) rfl
theorem ww1_53i88 {d : Nat} {l0 l1 : Option mw_V} {v : Int} {st : List mw_V} {σ : mw_S} {Q : Option mw_V → mw_S → Prop} : mw_WP d 1 53 [l0, l1] (jI v :: jR 88 :: st) σ Q ↔ mw_WP d 1 56 [l0, l1] st (upS σ 88 6 v) Q := WP_putI (ci := 0) (k := 6) mq1 dd1_53 (by decide) rfl
theorem dd1_56 : decode cX0_become 56 = .ok (.aload_n 1, 1) := by decide +kernel
theorem ww1_56 {d : Nat} {l0 : Option mw_V} {x : Nat} {st : List mw_V} {σ : mw_S} {Q : Option mw_V → mw_S → Prop} : mw_WP d 1 56 [l0, some (jR x)] st σ Q ↔ mw_WP d 1 57 [l0, some (jR x)] (jR x :: st) σ Q := WP_aload_n mq1 dd1_56 rfl
theorem dd1_57 : decode cX0_become 57 = .ok (.getfield 15, 3) := by decide +kernel
theorem ww1_57i3 {d : Nat} {l0 l1 : Option mw_V} {st : List mw_V} {σ : mw_S} {Q : Option mw_V → mw_S → Prop} : mw_WP d 1 57 [l0, l1] (jR 3 :: st) σ Q ↔ mw_WP d 1 60 [l0, l1] (jR 4 :: st) σ Q := WP_getR (ci := 0) (k := 7) mq1 dd1_57 (by decide) rfl
theorem ww1_57i13 {d : Nat} {l0 l1 : Option mw_V} {st : List mw_V} {σ : mw_S} {Q : Option mw_V → mw_S → Prop} : mw_WP d 1 57 [l0, l1] (jR 13 :: st) σ Q ↔ mw_WP d 1 60 [l0, l1] (jR 14 :: st) σ Q := WP_getR (ci := 0) (k := 7) mq1 dd1_57 (by decide) rfl
theorem ww1_57i77 {d : Nat} {l0 l1 : Option mw_V} {st : List mw_V} {σ : mw_S} {Q : Option mw_V → mw_S → Prop} : mw_WP d 1 57 [l0, l1] (jR 77 :: st) σ Q ↔ mw_WP d 1 60 [l0, l1] (jR 78 :: st) σ Q := WP_getR (ci := 0) (k := 7) mq1 dd1_57 (by decide) rfl
theorem ww1_57i88 {d : Nat} {l0 l1 : Option mw_V} {st : List mw_V} {σ : mw_S} {Q : Option mw_V → mw_S → Prop} : mw_WP d 1 57 [l0, l1] (jR 88 :: st) σ Q ↔ mw_WP d 1 60 [l0, l1] (jR 89 :: st) σ Q := WP_getR (ci := 0) (k := 7) mq1 dd1_57 (by decide) rfl
theorem dd1_60 : decode cX0_become 60 = .ok (.iconst 0, 1) := by decide +kernel
theorem ww1_60 {d : Nat} {l0 l1 : Option mw_V} {st : List mw_V} {σ : mw_S} {Q : Option mw_V → mw_S → Prop} : mw_WP d 1 60 [l0, l1] st σ Q ↔ mw_WP d 1 61 [l0, l1] (jI (0) :: st) σ Q := WP_iconst mq1 dd1_60 (by decide)
theorem dd1_61 : decode cX0_become 61 = .ok (.aload_n 0, 1) := by decide +kernel
theorem ww1_61 {d : Nat} {l1 : Option mw_V} {x : Nat} {st : List mw_V} {σ : mw_S} {Q : Option mw_V → mw_S → Prop} : mw_WP d 1 61 [some (jR x), l1] st σ Q ↔ mw_WP d 1 62 [some (jR x), l1] (jR x :: st) σ Q := WP_aload_n mq1 dd1_61 rfl
theorem dd1_62 : decode cX0_become 62 = .ok (.getfield 15, 3) := by decide +kernel
theorem ww1_62i3 {d : Nat} {l0 l1 : Option mw_V} {st : List mw_V} {σ : mw_S} {Q : Option mw_V → mw_S → Prop} : mw_WP d 1 62 [l0, l1] (jR 3 :: st) σ Q ↔ mw_WP d 1 65 [l0, l1] (jR 4 :: st) σ Q := WP_getR (ci := 0) (k := 7) mq1 dd1_62 (by decide) rfl
theorem ww1_62i13 {d : Nat} {l0 l1 : Option mw_V} {st : List mw_V} {σ : mw_S} {Q : Option mw_V → mw_S → Prop} : mw_WP d 1 62 [l0, l1] (jR 13 :: st) σ Q ↔ mw_WP d 1 65 [l0, l1] (jR 14 :: st) σ Q := WP_getR (ci := 0) (k := 7) mq1 dd1_62 (by decide) rfl
theorem ww1_62i77 {d : Nat} {l0 l1 : Option mw_V} {st : List mw_V} {σ : mw_S} {Q : Option mw_V → mw_S → Prop} : mw_WP d 1 62 [l0, l1] (jR 77 :: st) σ Q ↔ mw_WP d 1 65 [l0, l1] (jR 78 :: st) σ Q := WP_getR (ci := 0) (k := 7) mq1 dd1_62 (by decide) rfl
theorem ww1_62i88 {d : Nat} {l0 l1 : Option mw_V} {st : List mw_V} {σ : mw_S} {Q : Option mw_V → mw_S → Prop} : mw_WP d 1 62 [l0, l1] (jR 88 :: st) σ Q ↔ mw_WP d 1 65 [l0, l1] (jR 89 :: st) σ Q := WP_getR (ci := 0) (k := 7) mq1 dd1_62 (by decide) rfl
theorem dd1_65 : decode cX0_become 65 = .ok (.iconst 0, 1) := by decide +kernel
theorem ww1_65 {d : Nat} {l0 l1 : Option mw_V} {st : List mw_V} {σ : mw_S} {Q : Option mw_V → mw_S → Prop} : mw_WP d 1 65 [l0, l1] st σ Q ↔ mw_WP d 1 66 [l0, l1] (jI (0) :: st) σ Q := WP_iconst mq1 dd1_65 (by decide)
theorem dd1_66 : decode cX0_become 66 = .ok (.iconst 3, 1) := by decide +kernel
theorem ww1_66 {d : Nat} {l0 l1 : Option mw_V} {st : List mw_V} {σ : mw_S} {Q : Option mw_V → mw_S → Prop} : mw_WP d 1 66 [l0, l1] st σ Q ↔ mw_WP d 1 67 [l0, l1] (jI (3) :: st) σ Q := WP_iconst mq1 dd1_66 (by decide)
theorem dd1_67 : decode cX0_become 67 = .ok (.invokestatic 58, 3) := by decide +kernel
theorem ww1_67 {d : Nat} {l0 l1 : Option mw_V} {n dp sp : Int} {a b : Nat} {st : List mw_V} {σ : mw_S} {Q : Option mw_V → mw_S → Prop} (h8 : (st.map mw_cat).sum ≤ 8) (h1 : 0 ≤ sp ∧ 0 ≤ dp ∧ 0 < n ∧ sp + n ≤ mw_lenW 0 a ∧ dp + n ≤ mw_lenW 0 b) : mw_WP d 1 67 [l0, l1] (jI n :: jI dp :: jR b :: jI sp :: jR a :: st) σ Q ↔ mw_WP d 1 70 [l0, l1] st (cpS σ a sp.toNat b dp.toNat n.toNat) Q := WP_acp (t := 0) (by decide) mq1 dd1_67 (by decide) (by decide) (by decide) h8 h1
theorem dd1_70 : decode cX0_become 70 = .ok (.aload_n 1, 1) := by decide +kernel
theorem ww1_70 {d : Nat} {l0 : Option mw_V} {x : Nat} {st : List mw_V} {σ : mw_S} {Q : Option mw_V → mw_S → Prop} : mw_WP d 1 70 [l0, some (jR x)] st σ Q ↔ mw_WP d 1 71 [l0, some (jR x)] (jR x :: st) σ Q := WP_aload_n mq1 dd1_70 rfl
theorem dd1_71 : decode cX0_become 71 = .ok (.getfield 19, 3) := by decide +kernel
theorem ww1_71i3 {d : Nat} {l0 l1 : Option mw_V} {st : List mw_V} {σ : mw_S} {Q : Option mw_V → mw_S → Prop} : mw_WP d 1 71 [l0, l1] (jR 3 :: st) σ Q ↔ mw_WP d 1 74 [l0, l1] (jR 5 :: st) σ Q := WP_getR (ci := 0) (k := 8) mq1 dd1_71 (by decide) rfl
theorem ww1_71i13 {d : Nat} {l0 l1 : Option mw_V} {st : List mw_V} {σ : mw_S} {Q : Option mw_V → mw_S → Prop} : mw_WP d 1 71 [l0, l1] (jR 13 :: st) σ Q ↔ mw_WP d 1 74 [l0, l1] (jR 15 :: st) σ Q := WP_getR (ci := 0) (k := 8) mq1 dd1_71 (by decide) rfl
theorem ww1_71i77 {d : Nat} {l0 l1 : Option mw_V} {st : List mw_V} {σ : mw_S} {Q : Option mw_V → mw_S → Prop} : mw_WP d 1 71 [l0, l1] (jR 77 :: st) σ Q ↔ mw_WP d 1 74 [l0, l1] (jR 79 :: st) σ Q := WP_getR (ci := 0) (k := 8) mq1 dd1_71 (by decide) rfl
theorem ww1_71i88 {d : Nat} {l0 l1 : Option mw_V} {st : List mw_V} {σ : mw_S} {Q : Option mw_V → mw_S → Prop} : mw_WP d 1 71 [l0, l1] (jR 88 :: st) σ Q ↔ mw_WP d 1 74 [l0, l1] (jR 90 :: st) σ Q := WP_getR (ci := 0) (k := 8) mq1 dd1_71 (by decide) rfl
theorem dd1_74 : decode cX0_become 74 = .ok (.iconst 0, 1) := by decide +kernel
theorem ww1_74 {d : Nat} {l0 l1 : Option mw_V} {st : List mw_V} {σ : mw_S} {Q : Option mw_V → mw_S → Prop} : mw_WP d 1 74 [l0, l1] st σ Q ↔ mw_WP d 1 75 [l0, l1] (jI (0) :: st) σ Q := WP_iconst mq1 dd1_74 (by decide)
theorem dd1_75 : decode cX0_become 75 = .ok (.aload_n 0, 1) := by decide +kernel
theorem ww1_75 {d : Nat} {l1 : Option mw_V} {x : Nat} {st : List mw_V} {σ : mw_S} {Q : Option mw_V → mw_S → Prop} : mw_WP d 1 75 [some (jR x), l1] st σ Q ↔ mw_WP d 1 76 [some (jR x), l1] (jR x :: st) σ Q := WP_aload_n mq1 dd1_75 rfl
theorem dd1_76 : decode cX0_become 76 = .ok (.getfield 19, 3) := by decide +kernel
theorem ww1_76i3 {d : Nat} {l0 l1 : Option mw_V} {st : List mw_V} {σ : mw_S} {Q : Option mw_V → mw_S → Prop} : mw_WP d 1 76 [l0, l1] (jR 3 :: st) σ Q ↔ mw_WP d 1 79 [l0, l1] (jR 5 :: st) σ Q := WP_getR (ci := 0) (k := 8) mq1 dd1_76 (by decide) rfl
theorem ww1_76i13 {d : Nat} {l0 l1 : Option mw_V} {st : List mw_V} {σ : mw_S} {Q : Option mw_V → mw_S → Prop} : mw_WP d 1 76 [l0, l1] (jR 13 :: st) σ Q ↔ mw_WP d 1 79 [l0, l1] (jR 15 :: st) σ Q := WP_getR (ci := 0) (k := 8) mq1 dd1_76 (by decide) rfl
theorem ww1_76i77 {d : Nat} {l0 l1 : Option mw_V} {st : List mw_V} {σ : mw_S} {Q : Option mw_V → mw_S → Prop} : mw_WP d 1 76 [l0, l1] (jR 77 :: st) σ Q ↔ mw_WP d 1 79 [l0, l1] (jR 79 :: st) σ Q := WP_getR (ci := 0) (k := 8) mq1 dd1_76 (by decide) rfl
theorem ww1_76i88 {d : Nat} {l0 l1 : Option mw_V} {st : List mw_V} {σ : mw_S} {Q : Option mw_V → mw_S → Prop} : mw_WP d 1 76 [l0, l1] (jR 88 :: st) σ Q ↔ mw_WP d 1 79 [l0, l1] (jR 90 :: st) σ Q := WP_getR (ci := 0) (k := 8) mq1 dd1_76 (by decide) rfl
theorem dd1_79 : decode cX0_become 79 = .ok (.iconst 0, 1) := by decide +kernel
theorem ww1_79 {d : Nat} {l0 l1 : Option mw_V} {st : List mw_V} {σ : mw_S} {Q : Option mw_V → mw_S → Prop} : mw_WP d 1 79 [l0, l1] st σ Q ↔ mw_WP d 1 80 [l0, l1] (jI (0) :: st) σ Q := WP_iconst mq1 dd1_79 (by decide)
theorem dd1_80 : decode cX0_become 80 = .ok (.iconst 3, 1) := by decide +kernel
theorem ww1_80 {d : Nat} {l0 l1 : Option mw_V} {st : List mw_V} {σ : mw_S} {Q : Option mw_V → mw_S → Prop} : mw_WP d 1 80 [l0, l1] st σ Q ↔ mw_WP d 1 81 [l0, l1] (jI (3) :: st) σ Q := WP_iconst mq1 dd1_80 (by decide)
theorem dd1_81 : decode cX0_become 81 = .ok (.invokestatic 58, 3) := by decide +kernel
theorem ww1_81 {d : Nat} {l0 l1 : Option mw_V} {n dp sp : Int} {a b : Nat} {st : List mw_V} {σ : mw_S} {Q : Option mw_V → mw_S → Prop} (h8 : (st.map mw_cat).sum ≤ 8) (h1 : 0 ≤ sp ∧ 0 ≤ dp ∧ 0 < n ∧ sp + n ≤ mw_lenW 0 a ∧ dp + n ≤ mw_lenW 0 b) : mw_WP d 1 81 [l0, l1] (jI n :: jI dp :: jR b :: jI sp :: jR a :: st) σ Q ↔ mw_WP d 1 84 [l0, l1] st (cpS σ a sp.toNat b dp.toNat n.toNat) Q := WP_acp (t := 0) (by decide) mq1 dd1_81 (by decide) (by decide) (by decide) h8 h1
theorem dd1_84 : decode cX0_become 84 = .ok (.aload_n 1, 1) := by decide +kernel
theorem ww1_84 {d : Nat} {l0 : Option mw_V} {x : Nat} {st : List mw_V} {σ : mw_S} {Q : Option mw_V → mw_S → Prop} : mw_WP d 1 84 [l0, some (jR x)] st σ Q ↔ mw_WP d 1 85 [l0, some (jR x)] (jR x :: st) σ Q := WP_aload_n mq1 dd1_84 rfl
theorem dd1_85 : decode cX0_become 85 = .ok (.getfield 22, 3) := by decide +kernel
theorem ww1_85i3 {d : Nat} {l0 l1 : Option mw_V} {st : List mw_V} {σ : mw_S} {Q : Option mw_V → mw_S → Prop} : mw_WP d 1 85 [l0, l1] (jR 3 :: st) σ Q ↔ mw_WP d 1 88 [l0, l1] (jR 6 :: st) σ Q := WP_getR (ci := 0) (k := 9) mq1 dd1_85 (by decide) rfl
theorem ww1_85i13 {d : Nat} {l0 l1 : Option mw_V} {st : List mw_V} {σ : mw_S} {Q : Option mw_V → mw_S → Prop} : mw_WP d 1 85 [l0, l1] (jR 13 :: st) σ Q ↔ mw_WP d 1 88 [l0, l1] (jR 16 :: st) σ Q := WP_getR (ci := 0) (k := 9) mq1 dd1_85 (by decide) rfl
theorem ww1_85i77 {d : Nat} {l0 l1 : Option mw_V} {st : List mw_V} {σ : mw_S} {Q : Option mw_V → mw_S → Prop} : mw_WP d 1 85 [l0, l1] (jR 77 :: st) σ Q ↔ mw_WP d 1 88 [l0, l1] (jR 80 :: st) σ Q := WP_getR (ci := 0) (k := 9) mq1 dd1_85 (by decide) rfl
theorem ww1_85i88 {d : Nat} {l0 l1 : Option mw_V} {st : List mw_V} {σ : mw_S} {Q : Option mw_V → mw_S → Prop} : mw_WP d 1 85 [l0, l1] (jR 88 :: st) σ Q ↔ mw_WP d 1 88 [l0, l1] (jR 91 :: st) σ Q := WP_getR (ci := 0) (k := 9) mq1 dd1_85 (by decide) rfl
theorem dd1_88 : decode cX0_become 88 = .ok (.iconst 0, 1) := by decide +kernel
theorem ww1_88 {d : Nat} {l0 l1 : Option mw_V} {st : List mw_V} {σ : mw_S} {Q : Option mw_V → mw_S → Prop} : mw_WP d 1 88 [l0, l1] st σ Q ↔ mw_WP d 1 89 [l0, l1] (jI (0) :: st) σ Q := WP_iconst mq1 dd1_88 (by decide)
theorem dd1_89 : decode cX0_become 89 = .ok (.aload_n 0, 1) := by decide +kernel
theorem ww1_89 {d : Nat} {l1 : Option mw_V} {x : Nat} {st : List mw_V} {σ : mw_S} {Q : Option mw_V → mw_S → Prop} : mw_WP d 1 89 [some (jR x), l1] st σ Q ↔ mw_WP d 1 90 [some (jR x), l1] (jR x :: st) σ Q := WP_aload_n mq1 dd1_89 rfl
theorem dd1_90 : decode cX0_become 90 = .ok (.getfield 22, 3) := by decide +kernel
theorem ww1_90i3 {d : Nat} {l0 l1 : Option mw_V} {st : List mw_V} {σ : mw_S} {Q : Option mw_V → mw_S → Prop} : mw_WP d 1 90 [l0, l1] (jR 3 :: st) σ Q ↔ mw_WP d 1 93 [l0, l1] (jR 6 :: st) σ Q := WP_getR (ci := 0) (k := 9) mq1 dd1_90 (by decide) rfl
theorem ww1_90i13 {d : Nat} {l0 l1 : Option mw_V} {st : List mw_V} {σ : mw_S} {Q : Option mw_V → mw_S → Prop} : mw_WP d 1 90 [l0, l1] (jR 13 :: st) σ Q ↔ mw_WP d 1 93 [l0, l1] (jR 16 :: st) σ Q := WP_getR (ci := 0) (k := 9) mq1 dd1_90 (by decide) rfl
theorem ww1_90i77 {d : Nat} {l0 l1 : Option mw_V} {st : List mw_V} {σ : mw_S} {Q : Option mw_V → mw_S → Prop} : mw_WP d 1 90 [l0, l1] (jR 77 :: st) σ Q ↔ mw_WP d 1 93 [l0, l1] (jR 80 :: st) σ Q := WP_getR (ci := 0) (k := 9) mq1 dd1_90 (by decide) rfl
theorem ww1_90i88 {d : Nat} {l0 l1 : Option mw_V} {st : List mw_V} {σ : mw_S} {Q : Option mw_V → mw_S → Prop} : mw_WP d 1 90 [l0, l1] (jR 88 :: st) σ Q ↔ mw_WP d 1 93 [l0, l1] (jR 91 :: st) σ Q := WP_getR (ci := 0) (k := 9) mq1 dd1_90 (by decide) rfl
theorem dd1_93 : decode cX0_become 93 = .ok (.iconst 0, 1) := by decide +kernel
theorem ww1_93 {d : Nat} {l0 l1 : Option mw_V} {st : List mw_V} {σ : mw_S} {Q : Option mw_V → mw_S → Prop} : mw_WP d 1 93 [l0, l1] st σ Q ↔ mw_WP d 1 94 [l0, l1] (jI (0) :: st) σ Q := WP_iconst mq1 dd1_93 (by decide)
theorem dd1_94 : decode cX0_become 94 = .ok (.iconst 4, 1) := by decide +kernel
theorem ww1_94 {d : Nat} {l0 l1 : Option mw_V} {st : List mw_V} {σ : mw_S} {Q : Option mw_V → mw_S → Prop} : mw_WP d 1 94 [l0, l1] st σ Q ↔ mw_WP d 1 95 [l0, l1] (jI (4) :: st) σ Q := WP_iconst mq1 dd1_94 (by decide)
theorem dd1_95 : decode cX0_become 95 = .ok (.invokestatic 58, 3) := by decide +kernel
theorem ww1_95 {d : Nat} {l0 l1 : Option mw_V} {n dp sp : Int} {a b : Nat} {st : List mw_V} {σ : mw_S} {Q : Option mw_V → mw_S → Prop} (h8 : (st.map mw_cat).sum ≤ 8) (h1 : 0 ≤ sp ∧ 0 ≤ dp ∧ 0 < n ∧ sp + n ≤ mw_lenW 0 a ∧ dp + n ≤ mw_lenW 0 b) : mw_WP d 1 95 [l0, l1] (jI n :: jI dp :: jR b :: jI sp :: jR a :: st) σ Q ↔ mw_WP d 1 98 [l0, l1] st (cpS σ a sp.toNat b dp.toNat n.toNat) Q := WP_acp (t := 0) (by decide) mq1 dd1_95 (by decide) (by decide) (by decide) h8 h1
theorem dd1_98 : decode cX0_become 98 = .ok (.aload_n 1, 1) := by decide +kernel
theorem ww1_98 {d : Nat} {l0 : Option mw_V} {x : Nat} {st : List mw_V} {σ : mw_S} {Q : Option mw_V → mw_S → Prop} : mw_WP d 1 98 [l0, some (jR x)] st σ Q ↔ mw_WP d 1 99 [l0, some (jR x)] (jR x :: st) σ Q := WP_aload_n mq1 dd1_98 rfl
theorem dd1_99 : decode cX0_become 99 = .ok (.getfield 25, 3) := by decide +kernel
theorem ww1_99i3 {d : Nat} {l0 l1 : Option mw_V} {st : List mw_V} {σ : mw_S} {Q : Option mw_V → mw_S → Prop} : mw_WP d 1 99 [l0, l1] (jR 3 :: st) σ Q ↔ mw_WP d 1 102 [l0, l1] (jR 7 :: st) σ Q := WP_getR (ci := 0) (k := 10) mq1 dd1_99 (by decide) rfl
theorem ww1_99i13 {d : Nat} {l0 l1 : Option mw_V} {st : List mw_V} {σ : mw_S} {Q : Option mw_V → mw_S → Prop} : mw_WP d 1 99 [l0, l1] (jR 13 :: st) σ Q ↔ mw_WP d 1 102 [l0, l1] (jR 17 :: st) σ Q := WP_getR (ci := 0) (k := 10) mq1 dd1_99 (by decide) rfl
theorem ww1_99i77 {d : Nat} {l0 l1 : Option mw_V} {st : List mw_V} {σ : mw_S} {Q : Option mw_V → mw_S → Prop} : mw_WP d 1 99 [l0, l1] (jR 77 :: st) σ Q ↔ mw_WP d 1 102 [l0, l1] (jR 81 :: st) σ Q := WP_getR (ci := 0) (k := 10) mq1 dd1_99 (by decide) rfl
theorem ww1_99i88 {d : Nat} {l0 l1 : Option mw_V} {st : List mw_V} {σ : mw_S} {Q : Option mw_V → mw_S → Prop} : mw_WP d 1 99 [l0, l1] (jR 88 :: st) σ Q ↔ mw_WP d 1 102 [l0, l1] (jR 92 :: st) σ Q := WP_getR (ci := 0) (k := 10) mq1 dd1_99 (by decide) rfl
theorem dd1_102 : decode cX0_become 102 = .ok (.iconst 0, 1) := by decide +kernel
theorem ww1_102 {d : Nat} {l0 l1 : Option mw_V} {st : List mw_V} {σ : mw_S} {Q : Option mw_V → mw_S → Prop} : mw_WP d 1 102 [l0, l1] st σ Q ↔ mw_WP d 1 103 [l0, l1] (jI (0) :: st) σ Q := WP_iconst mq1 dd1_102 (by decide)
theorem dd1_103 : decode cX0_become 103 = .ok (.aload_n 0, 1) := by decide +kernel
theorem ww1_103 {d : Nat} {l1 : Option mw_V} {x : Nat} {st : List mw_V} {σ : mw_S} {Q : Option mw_V → mw_S → Prop} : mw_WP d 1 103 [some (jR x), l1] st σ Q ↔ mw_WP d 1 104 [some (jR x), l1] (jR x :: st) σ Q := WP_aload_n mq1 dd1_103 rfl
theorem dd1_104 : decode cX0_become 104 = .ok (.getfield 25, 3) := by decide +kernel
theorem ww1_104i3 {d : Nat} {l0 l1 : Option mw_V} {st : List mw_V} {σ : mw_S} {Q : Option mw_V → mw_S → Prop} : mw_WP d 1 104 [l0, l1] (jR 3 :: st) σ Q ↔ mw_WP d 1 107 [l0, l1] (jR 7 :: st) σ Q := WP_getR (ci := 0) (k := 10) mq1 dd1_104 (by decide) rfl
theorem ww1_104i13 {d : Nat} {l0 l1 : Option mw_V} {st : List mw_V} {σ : mw_S} {Q : Option mw_V → mw_S → Prop} : mw_WP d 1 104 [l0, l1] (jR 13 :: st) σ Q ↔ mw_WP d 1 107 [l0, l1] (jR 17 :: st) σ Q := WP_getR (ci := 0) (k := 10) mq1 dd1_104 (by decide) rfl
theorem ww1_104i77 {d : Nat} {l0 l1 : Option mw_V} {st : List mw_V} {σ : mw_S} {Q : Option mw_V → mw_S → Prop} : mw_WP d 1 104 [l0, l1] (jR 77 :: st) σ Q ↔ mw_WP d 1 107 [l0, l1] (jR 81 :: st) σ Q := WP_getR (ci := 0) (k := 10) mq1 dd1_104 (by decide) rfl
theorem ww1_104i88 {d : Nat} {l0 l1 : Option mw_V} {st : List mw_V} {σ : mw_S} {Q : Option mw_V → mw_S → Prop} : mw_WP d 1 104 [l0, l1] (jR 88 :: st) σ Q ↔ mw_WP d 1 107 [l0, l1] (jR 92 :: st) σ Q := WP_getR (ci := 0) (k := 10) mq1 dd1_104 (by decide) rfl
theorem dd1_107 : decode cX0_become 107 = .ok (.iconst 0, 1) := by decide +kernel
theorem ww1_107 {d : Nat} {l0 l1 : Option mw_V} {st : List mw_V} {σ : mw_S} {Q : Option mw_V → mw_S → Prop} : mw_WP d 1 107 [l0, l1] st σ Q ↔ mw_WP d 1 108 [l0, l1] (jI (0) :: st) σ Q := WP_iconst mq1 dd1_107 (by decide)
theorem dd1_108 : decode cX0_become 108 = .ok (.bipush 8, 2) := by decide +kernel
theorem ww1_108 {d : Nat} {l0 l1 : Option mw_V} {st : List mw_V} {σ : mw_S} {Q : Option mw_V → mw_S → Prop} : mw_WP d 1 108 [l0, l1] st σ Q ↔ mw_WP d 1 110 [l0, l1] (jI (8) :: st) σ Q := WP_bipush mq1 dd1_108 (by decide)
theorem dd1_110 : decode cX0_become 110 = .ok (.invokestatic 58, 3) := by decide +kernel
theorem ww1_110 {d : Nat} {l0 l1 : Option mw_V} {n dp sp : Int} {a b : Nat} {st : List mw_V} {σ : mw_S} {Q : Option mw_V → mw_S → Prop} (h8 : (st.map mw_cat).sum ≤ 8) (h1 : 0 ≤ sp ∧ 0 ≤ dp ∧ 0 < n ∧ sp + n ≤ mw_lenW 0 a ∧ dp + n ≤ mw_lenW 0 b) : mw_WP d 1 110 [l0, l1] (jI n :: jI dp :: jR b :: jI sp :: jR a :: st) σ Q ↔ mw_WP d 1 113 [l0, l1] st (cpS σ a sp.toNat b dp.toNat n.toNat) Q := WP_acp (t := 0) (by decide) mq1 dd1_110 (by decide) (by decide) (by decide) h8 h1
theorem dd1_113 : decode cX0_become 113 = .ok (.aload_n 1, 1) := by decide +kernel
theorem ww1_113 {d : Nat} {l0 : Option mw_V} {x : Nat} {st : List mw_V} {σ : mw_S} {Q : Option mw_V → mw_S → Prop} : mw_WP d 1 113 [l0, some (jR x)] st σ Q ↔ mw_WP d 1 114 [l0, some (jR x)] (jR x :: st) σ Q := WP_aload_n mq1 dd1_113 rfl
theorem dd1_114 : decode cX0_become 114 = .ok (.getfield 28, 3) := by decide +kernel
theorem ww1_114i3 {d : Nat} {l0 l1 : Option mw_V} {st : List mw_V} {σ : mw_S} {Q : Option mw_V → mw_S → Prop} : mw_WP d 1 114 [l0, l1] (jR 3 :: st) σ Q ↔ mw_WP d 1 117 [l0, l1] (jR 8 :: st) σ Q := WP_getR (ci := 0) (k := 11) mq1 dd1_114 (by decide) rfl
theorem ww1_114i13 {d : Nat} {l0 l1 : Option mw_V} {st : List mw_V} {σ : mw_S} {Q : Option mw_V → mw_S → Prop} : mw_WP d 1 114 [l0, l1] (jR 13 :: st) σ Q ↔ mw_WP d 1 117 [l0, l1] (jR 18 :: st) σ Q := WP_getR (ci := 0) (k := 11) mq1 dd1_114 (by decide) rfl
theorem ww1_114i77 {d : Nat} {l0 l1 : Option mw_V} {st : List mw_V} {σ : mw_S} {Q : Option mw_V → mw_S → Prop} : mw_WP d 1 114 [l0, l1] (jR 77 :: st) σ Q ↔ mw_WP d 1 117 [l0, l1] (jR 82 :: st) σ Q := WP_getR (ci := 0) (k := 11) mq1 dd1_114 (by decide) rfl
theorem ww1_114i88 {d : Nat} {l0 l1 : Option mw_V} {st : List mw_V} {σ : mw_S} {Q : Option mw_V → mw_S → Prop} : mw_WP d 1 114 [l0, l1] (jR 88 :: st) σ Q ↔ mw_WP d 1 117 [l0, l1] (jR 93 :: st) σ Q := WP_getR (ci := 0) (k := 11) mq1 dd1_114 (by decide) rfl
theorem dd1_117 : decode cX0_become 117 = .ok (.iconst 0, 1) := by decide +kernel
theorem ww1_117 {d : Nat} {l0 l1 : Option mw_V} {st : List mw_V} {σ : mw_S} {Q : Option mw_V → mw_S → Prop} : mw_WP d 1 117 [l0, l1] st σ Q ↔ mw_WP d 1 118 [l0, l1] (jI (0) :: st) σ Q := WP_iconst mq1 dd1_117 (by decide)
theorem dd1_118 : decode cX0_become 118 = .ok (.aload_n 0, 1) := by decide +kernel
theorem ww1_118 {d : Nat} {l1 : Option mw_V} {x : Nat} {st : List mw_V} {σ : mw_S} {Q : Option mw_V → mw_S → Prop} : mw_WP d 1 118 [some (jR x), l1] st σ Q ↔ mw_WP d 1 119 [some (jR x), l1] (jR x :: st) σ Q := WP_aload_n mq1 dd1_118 rfl
theorem dd1_119 : decode cX0_become 119 = .ok (.getfield 28, 3) := by decide +kernel
theorem ww1_119i3 {d : Nat} {l0 l1 : Option mw_V} {st : List mw_V} {σ : mw_S} {Q : Option mw_V → mw_S → Prop} : mw_WP d 1 119 [l0, l1] (jR 3 :: st) σ Q ↔ mw_WP d 1 122 [l0, l1] (jR 8 :: st) σ Q := WP_getR (ci := 0) (k := 11) mq1 dd1_119 (by decide) rfl
theorem ww1_119i13 {d : Nat} {l0 l1 : Option mw_V} {st : List mw_V} {σ : mw_S} {Q : Option mw_V → mw_S → Prop} : mw_WP d 1 119 [l0, l1] (jR 13 :: st) σ Q ↔ mw_WP d 1 122 [l0, l1] (jR 18 :: st) σ Q := WP_getR (ci := 0) (k := 11) mq1 dd1_119 (by decide) rfl
theorem ww1_119i77 {d : Nat} {l0 l1 : Option mw_V} {st : List mw_V} {σ : mw_S} {Q : Option mw_V → mw_S → Prop} : mw_WP d 1 119 [l0, l1] (jR 77 :: st) σ Q ↔ mw_WP d 1 122 [l0, l1] (jR 82 :: st) σ Q := WP_getR (ci := 0) (k := 11) mq1 dd1_119 (by decide) rfl
theorem ww1_119i88 {d : Nat} {l0 l1 : Option mw_V} {st : List mw_V} {σ : mw_S} {Q : Option mw_V → mw_S → Prop} : mw_WP d 1 119 [l0, l1] (jR 88 :: st) σ Q ↔ mw_WP d 1 122 [l0, l1] (jR 93 :: st) σ Q := WP_getR (ci := 0) (k := 11) mq1 dd1_119 (by decide) rfl
theorem dd1_122 : decode cX0_become 122 = .ok (.iconst 0, 1) := by decide +kernel
theorem ww1_122 {d : Nat} {l0 l1 : Option mw_V} {st : List mw_V} {σ : mw_S} {Q : Option mw_V → mw_S → Prop} : mw_WP d 1 122 [l0, l1] st σ Q ↔ mw_WP d 1 123 [l0, l1] (jI (0) :: st) σ Q := WP_iconst mq1 dd1_122 (by decide)
theorem dd1_123 : decode cX0_become 123 = .ok (.bipush 8, 2) := by decide +kernel
theorem ww1_123 {d : Nat} {l0 l1 : Option mw_V} {st : List mw_V} {σ : mw_S} {Q : Option mw_V → mw_S → Prop} : mw_WP d 1 123 [l0, l1] st σ Q ↔ mw_WP d 1 125 [l0, l1] (jI (8) :: st) σ Q := WP_bipush mq1 dd1_123 (by decide)
theorem dd1_125 : decode cX0_become 125 = .ok (.invokestatic 58, 3) := by decide +kernel
theorem ww1_125 {d : Nat} {l0 l1 : Option mw_V} {n dp sp : Int} {a b : Nat} {st : List mw_V} {σ : mw_S} {Q : Option mw_V → mw_S → Prop} (h8 : (st.map mw_cat).sum ≤ 8) (h1 : 0 ≤ sp ∧ 0 ≤ dp ∧ 0 < n ∧ sp + n ≤ mw_lenW 0 a ∧ dp + n ≤ mw_lenW 0 b) : mw_WP d 1 125 [l0, l1] (jI n :: jI dp :: jR b :: jI sp :: jR a :: st) σ Q ↔ mw_WP d 1 128 [l0, l1] st (cpS σ a sp.toNat b dp.toNat n.toNat) Q := WP_acp (t := 0) (by decide) mq1 dd1_125 (by decide) (by decide) (by decide) h8 h1
theorem dd1_128 : decode cX0_become 128 = .ok (.aload_n 1, 1) := by decide +kernel
theorem ww1_128 {d : Nat} {l0 : Option mw_V} {x : Nat} {st : List mw_V} {σ : mw_S} {Q : Option mw_V → mw_S → Prop} : mw_WP d 1 128 [l0, some (jR x)] st σ Q ↔ mw_WP d 1 129 [l0, some (jR x)] (jR x :: st) σ Q := WP_aload_n mq1 dd1_128 rfl
theorem dd1_129 : decode cX0_become 129 = .ok (.getfield 31, 3) := by decide +kernel
theorem ww1_129i3 {d : Nat} {l0 l1 : Option mw_V} {st : List mw_V} {σ : mw_S} {Q : Option mw_V → mw_S → Prop} : mw_WP d 1 129 [l0, l1] (jR 3 :: st) σ Q ↔ mw_WP d 1 132 [l0, l1] (jR 9 :: st) σ Q := WP_getR (ci := 0) (k := 12) mq1 dd1_129 (by decide) rfl
theorem ww1_129i13 {d : Nat} {l0 l1 : Option mw_V} {st : List mw_V} {σ : mw_S} {Q : Option mw_V → mw_S → Prop} : mw_WP d 1 129 [l0, l1] (jR 13 :: st) σ Q ↔ mw_WP d 1 132 [l0, l1] (jR 19 :: st) σ Q := WP_getR (ci := 0) (k := 12) mq1 dd1_129 (by decide) rfl
theorem ww1_129i77 {d : Nat} {l0 l1 : Option mw_V} {st : List mw_V} {σ : mw_S} {Q : Option mw_V → mw_S → Prop} : mw_WP d 1 129 [l0, l1] (jR 77 :: st) σ Q ↔ mw_WP d 1 132 [l0, l1] (jR 83 :: st) σ Q := WP_getR (ci := 0) (k := 12) mq1 dd1_129 (by decide) rfl
theorem ww1_129i88 {d : Nat} {l0 l1 : Option mw_V} {st : List mw_V} {σ : mw_S} {Q : Option mw_V → mw_S → Prop} : mw_WP d 1 129 [l0, l1] (jR 88 :: st) σ Q ↔ mw_WP d 1 132 [l0, l1] (jR 94 :: st) σ Q := WP_getR (ci := 0) (k := 12) mq1 dd1_129 (by decide) rfl
theorem dd1_132 : decode cX0_become 132 = .ok (.iconst 0, 1) := by decide +kernel
theorem ww1_132 {d : Nat} {l0 l1 : Option mw_V} {st : List mw_V} {σ : mw_S} {Q : Option mw_V → mw_S → Prop} : mw_WP d 1 132 [l0, l1] st σ Q ↔ mw_WP d 1 133 [l0, l1] (jI (0) :: st) σ Q := WP_iconst mq1 dd1_132 (by decide)
theorem dd1_133 : decode cX0_become 133 = .ok (.aload_n 0, 1) := by decide +kernel
theorem ww1_133 {d : Nat} {l1 : Option mw_V} {x : Nat} {st : List mw_V} {σ : mw_S} {Q : Option mw_V → mw_S → Prop} : mw_WP d 1 133 [some (jR x), l1] st σ Q ↔ mw_WP d 1 134 [some (jR x), l1] (jR x :: st) σ Q := WP_aload_n mq1 dd1_133 rfl
theorem dd1_134 : decode cX0_become 134 = .ok (.getfield 31, 3) := by decide +kernel
theorem ww1_134i3 {d : Nat} {l0 l1 : Option mw_V} {st : List mw_V} {σ : mw_S} {Q : Option mw_V → mw_S → Prop} : mw_WP d 1 134 [l0, l1] (jR 3 :: st) σ Q ↔ mw_WP d 1 137 [l0, l1] (jR 9 :: st) σ Q := WP_getR (ci := 0) (k := 12) mq1 dd1_134 (by decide) rfl
theorem ww1_134i13 {d : Nat} {l0 l1 : Option mw_V} {st : List mw_V} {σ : mw_S} {Q : Option mw_V → mw_S → Prop} : mw_WP d 1 134 [l0, l1] (jR 13 :: st) σ Q ↔ mw_WP d 1 137 [l0, l1] (jR 19 :: st) σ Q := WP_getR (ci := 0) (k := 12) mq1 dd1_134 (by decide) rfl
theorem ww1_134i77 {d : Nat} {l0 l1 : Option mw_V} {st : List mw_V} {σ : mw_S} {Q : Option mw_V → mw_S → Prop} : mw_WP d 1 134 [l0, l1] (jR 77 :: st) σ Q ↔ mw_WP d 1 137 [l0, l1] (jR 83 :: st) σ Q := WP_getR (ci := 0) (k := 12) mq1 dd1_134 (by decide) rfl
theorem ww1_134i88 {d : Nat} {l0 l1 : Option mw_V} {st : List mw_V} {σ : mw_S} {Q : Option mw_V → mw_S → Prop} : mw_WP d 1 134 [l0, l1] (jR 88 :: st) σ Q ↔ mw_WP d 1 137 [l0, l1] (jR 94 :: st) σ Q := WP_getR (ci := 0) (k := 12) mq1 dd1_134 (by decide) rfl
theorem dd1_137 : decode cX0_become 137 = .ok (.iconst 0, 1) := by decide +kernel
theorem ww1_137 {d : Nat} {l0 l1 : Option mw_V} {st : List mw_V} {σ : mw_S} {Q : Option mw_V → mw_S → Prop} : mw_WP d 1 137 [l0, l1] st σ Q ↔ mw_WP d 1 138 [l0, l1] (jI (0) :: st) σ Q := WP_iconst mq1 dd1_137 (by decide)
theorem dd1_138 : decode cX0_become 138 = .ok (.bipush 8, 2) := by decide +kernel
theorem ww1_138 {d : Nat} {l0 l1 : Option mw_V} {st : List mw_V} {σ : mw_S} {Q : Option mw_V → mw_S → Prop} : mw_WP d 1 138 [l0, l1] st σ Q ↔ mw_WP d 1 140 [l0, l1] (jI (8) :: st) σ Q := WP_bipush mq1 dd1_138 (by decide)
theorem dd1_140 : decode cX0_become 140 = .ok (.invokestatic 58, 3) := by decide +kernel
theorem ww1_140 {d : Nat} {l0 l1 : Option mw_V} {n dp sp : Int} {a b : Nat} {st : List mw_V} {σ : mw_S} {Q : Option mw_V → mw_S → Prop} (h8 : (st.map mw_cat).sum ≤ 8) (h1 : 0 ≤ sp ∧ 0 ≤ dp ∧ 0 < n ∧ sp + n ≤ mw_lenW 0 a ∧ dp + n ≤ mw_lenW 0 b) : mw_WP d 1 140 [l0, l1] (jI n :: jI dp :: jR b :: jI sp :: jR a :: st) σ Q ↔ mw_WP d 1 143 [l0, l1] st (cpS σ a sp.toNat b dp.toNat n.toNat) Q := WP_acp (t := 0) (by decide) mq1 dd1_140 (by decide) (by decide) (by decide) h8 h1
theorem dd1_143 : decode cX0_become 143 = .ok (.aload_n 1, 1) := by decide +kernel
theorem ww1_143 {d : Nat} {l0 : Option mw_V} {x : Nat} {st : List mw_V} {σ : mw_S} {Q : Option mw_V → mw_S → Prop} : mw_WP d 1 143 [l0, some (jR x)] st σ Q ↔ mw_WP d 1 144 [l0, some (jR x)] (jR x :: st) σ Q := WP_aload_n mq1 dd1_143 rfl
theorem dd1_144 : decode cX0_become 144 = .ok (.getfield 34, 3) := by decide +kernel
theorem ww1_144i3 {d : Nat} {l0 l1 : Option mw_V} {st : List mw_V} {σ : mw_S} {Q : Option mw_V → mw_S → Prop} : mw_WP d 1 144 [l0, l1] (jR 3 :: st) σ Q ↔ mw_WP d 1 147 [l0, l1] (jR 10 :: st) σ Q := WP_getR (ci := 0) (k := 13) mq1 dd1_144 (by decide) rfl
theorem ww1_144i13 {d : Nat} {l0 l1 : Option mw_V} {st : List mw_V} {σ : mw_S} {Q : Option mw_V → mw_S → Prop} : mw_WP d 1 144 [l0, l1] (jR 13 :: st) σ Q ↔ mw_WP d 1 147 [l0, l1] (jR 20 :: st) σ Q := WP_getR (ci := 0) (k := 13) mq1 dd1_144 (by decide) rfl
theorem ww1_144i77 {d : Nat} {l0 l1 : Option mw_V} {st : List mw_V} {σ : mw_S} {Q : Option mw_V → mw_S → Prop} : mw_WP d 1 144 [l0, l1] (jR 77 :: st) σ Q ↔ mw_WP d 1 147 [l0, l1] (jR 84 :: st) σ Q := WP_getR (ci := 0) (k := 13) mq1 dd1_144 (by decide) rfl
theorem ww1_144i88 {d : Nat} {l0 l1 : Option mw_V} {st : List mw_V} {σ : mw_S} {Q : Option mw_V → mw_S → Prop} : mw_WP d 1 144 [l0, l1] (jR 88 :: st) σ Q ↔ mw_WP d 1 147 [l0, l1] (jR 95 :: st) σ Q := WP_getR (ci := 0) (k := 13) mq1 dd1_144 (by decide) rfl
theorem dd1_147 : decode cX0_become 147 = .ok (.iconst 0, 1) := by decide +kernel
theorem ww1_147 {d : Nat} {l0 l1 : Option mw_V} {st : List mw_V} {σ : mw_S} {Q : Option mw_V → mw_S → Prop} : mw_WP d 1 147 [l0, l1] st σ Q ↔ mw_WP d 1 148 [l0, l1] (jI (0) :: st) σ Q := WP_iconst mq1 dd1_147 (by decide)
theorem dd1_148 : decode cX0_become 148 = .ok (.aload_n 0, 1) := by decide +kernel
theorem ww1_148 {d : Nat} {l1 : Option mw_V} {x : Nat} {st : List mw_V} {σ : mw_S} {Q : Option mw_V → mw_S → Prop} : mw_WP d 1 148 [some (jR x), l1] st σ Q ↔ mw_WP d 1 149 [some (jR x), l1] (jR x :: st) σ Q := WP_aload_n mq1 dd1_148 rfl
theorem dd1_149 : decode cX0_become 149 = .ok (.getfield 34, 3) := by decide +kernel
theorem ww1_149i3 {d : Nat} {l0 l1 : Option mw_V} {st : List mw_V} {σ : mw_S} {Q : Option mw_V → mw_S → Prop} : mw_WP d 1 149 [l0, l1] (jR 3 :: st) σ Q ↔ mw_WP d 1 152 [l0, l1] (jR 10 :: st) σ Q := WP_getR (ci := 0) (k := 13) mq1 dd1_149 (by decide) rfl
theorem ww1_149i13 {d : Nat} {l0 l1 : Option mw_V} {st : List mw_V} {σ : mw_S} {Q : Option mw_V → mw_S → Prop} : mw_WP d 1 149 [l0, l1] (jR 13 :: st) σ Q ↔ mw_WP d 1 152 [l0, l1] (jR 20 :: st) σ Q := WP_getR (ci := 0) (k := 13) mq1 dd1_149 (by decide) rfl
theorem ww1_149i77 {d : Nat} {l0 l1 : Option mw_V} {st : List mw_V} {σ : mw_S} {Q : Option mw_V → mw_S → Prop} : mw_WP d 1 149 [l0, l1] (jR 77 :: st) σ Q ↔ mw_WP d 1 152 [l0, l1] (jR 84 :: st) σ Q := WP_getR (ci := 0) (k := 13) mq1 dd1_149 (by decide) rfl
theorem ww1_149i88 {d : Nat} {l0 l1 : Option mw_V} {st : List mw_V} {σ : mw_S} {Q : Option mw_V → mw_S → Prop} : mw_WP d 1 149 [l0, l1] (jR 88 :: st) σ Q ↔ mw_WP d 1 152 [l0, l1] (jR 95 :: st) σ Q := WP_getR (ci := 0) (k := 13) mq1 dd1_149 (by decide) rfl
theorem dd1_152 : decode cX0_become 152 = .ok (.iconst 0, 1) := by decide +kernel
theorem ww1_152 {d : Nat} {l0 l1 : Option mw_V} {st : List mw_V} {σ : mw_S} {Q : Option mw_V → mw_S → Prop} : mw_WP d 1 152 [l0, l1] st σ Q ↔ mw_WP d 1 153 [l0, l1] (jI (0) :: st) σ Q := WP_iconst mq1 dd1_152 (by decide)
theorem dd1_153 : decode cX0_become 153 = .ok (.bipush 8, 2) := by decide +kernel
theorem ww1_153 {d : Nat} {l0 l1 : Option mw_V} {st : List mw_V} {σ : mw_S} {Q : Option mw_V → mw_S → Prop} : mw_WP d 1 153 [l0, l1] st σ Q ↔ mw_WP d 1 155 [l0, l1] (jI (8) :: st) σ Q := WP_bipush mq1 dd1_153 (by decide)
theorem dd1_155 : decode cX0_become 155 = .ok (.invokestatic 58, 3) := by decide +kernel
theorem ww1_155 {d : Nat} {l0 l1 : Option mw_V} {n dp sp : Int} {a b : Nat} {st : List mw_V} {σ : mw_S} {Q : Option mw_V → mw_S → Prop} (h8 : (st.map mw_cat).sum ≤ 8) (h1 : 0 ≤ sp ∧ 0 ≤ dp ∧ 0 < n ∧ sp + n ≤ mw_lenW 0 a ∧ dp + n ≤ mw_lenW 0 b) : mw_WP d 1 155 [l0, l1] (jI n :: jI dp :: jR b :: jI sp :: jR a :: st) σ Q ↔ mw_WP d 1 158 [l0, l1] st (cpS σ a sp.toNat b dp.toNat n.toNat) Q := WP_acp (t := 0) (by decide) mq1 dd1_155 (by decide) (by decide) (by decide) h8 h1
theorem dd1_158 : decode cX0_become 158 = .ok (.aload_n 1, 1) := by decide +kernel
theorem ww1_158 {d : Nat} {l0 : Option mw_V} {x : Nat} {st : List mw_V} {σ : mw_S} {Q : Option mw_V → mw_S → Prop} : mw_WP d 1 158 [l0, some (jR x)] st σ Q ↔ mw_WP d 1 159 [l0, some (jR x)] (jR x :: st) σ Q := WP_aload_n mq1 dd1_158 rfl
theorem dd1_159 : decode cX0_become 159 = .ok (.getfield 37, 3) := by decide +kernel
theorem ww1_159i3 {d : Nat} {l0 l1 : Option mw_V} {st : List mw_V} {σ : mw_S} {Q : Option mw_V → mw_S → Prop} : mw_WP d 1 159 [l0, l1] (jR 3 :: st) σ Q ↔ mw_WP d 1 162 [l0, l1] (jR 11 :: st) σ Q := WP_getR (ci := 0) (k := 14) mq1 dd1_159 (by decide) rfl
theorem ww1_159i13 {d : Nat} {l0 l1 : Option mw_V} {st : List mw_V} {σ : mw_S} {Q : Option mw_V → mw_S → Prop} : mw_WP d 1 159 [l0, l1] (jR 13 :: st) σ Q ↔ mw_WP d 1 162 [l0, l1] (jR 21 :: st) σ Q := WP_getR (ci := 0) (k := 14) mq1 dd1_159 (by decide) rfl
theorem ww1_159i77 {d : Nat} {l0 l1 : Option mw_V} {st : List mw_V} {σ : mw_S} {Q : Option mw_V → mw_S → Prop} : mw_WP d 1 159 [l0, l1] (jR 77 :: st) σ Q ↔ mw_WP d 1 162 [l0, l1] (jR 85 :: st) σ Q := WP_getR (ci := 0) (k := 14) mq1 dd1_159 (by decide) rfl
theorem ww1_159i88 {d : Nat} {l0 l1 : Option mw_V} {st : List mw_V} {σ : mw_S} {Q : Option mw_V → mw_S → Prop} : mw_WP d 1 159 [l0, l1] (jR 88 :: st) σ Q ↔ mw_WP d 1 162 [l0, l1] (jR 96 :: st) σ Q := WP_getR (ci := 0) (k := 14) mq1 dd1_159 (by decide) rfl
theorem dd1_162 : decode cX0_become 162 = .ok (.iconst 0, 1) := by decide +kernel
theorem ww1_162 {d : Nat} {l0 l1 : Option mw_V} {st : List mw_V} {σ : mw_S} {Q : Option mw_V → mw_S → Prop} : mw_WP d 1 162 [l0, l1] st σ Q ↔ mw_WP d 1 163 [l0, l1] (jI (0) :: st) σ Q := WP_iconst mq1 dd1_162 (by decide)
theorem dd1_163 : decode cX0_become 163 = .ok (.aload_n 0, 1) := by decide +kernel
theorem ww1_163 {d : Nat} {l1 : Option mw_V} {x : Nat} {st : List mw_V} {σ : mw_S} {Q : Option mw_V → mw_S → Prop} : mw_WP d 1 163 [some (jR x), l1] st σ Q ↔ mw_WP d 1 164 [some (jR x), l1] (jR x :: st) σ Q := WP_aload_n mq1 dd1_163 rfl
theorem dd1_164 : decode cX0_become 164 = .ok (.getfield 37, 3) := by decide +kernel
theorem ww1_164i3 {d : Nat} {l0 l1 : Option mw_V} {st : List mw_V} {σ : mw_S} {Q : Option mw_V → mw_S → Prop} : mw_WP d 1 164 [l0, l1] (jR 3 :: st) σ Q ↔ mw_WP d 1 167 [l0, l1] (jR 11 :: st) σ Q := WP_getR (ci := 0) (k := 14) mq1 dd1_164 (by decide) rfl
theorem ww1_164i13 {d : Nat} {l0 l1 : Option mw_V} {st : List mw_V} {σ : mw_S} {Q : Option mw_V → mw_S → Prop} : mw_WP d 1 164 [l0, l1] (jR 13 :: st) σ Q ↔ mw_WP d 1 167 [l0, l1] (jR 21 :: st) σ Q := WP_getR (ci := 0) (k := 14) mq1 dd1_164 (by decide) rfl
theorem ww1_164i77 {d : Nat} {l0 l1 : Option mw_V} {st : List mw_V} {σ : mw_S} {Q : Option mw_V → mw_S → Prop} : mw_WP d 1 164 [l0, l1] (jR 77 :: st) σ Q ↔ mw_WP d 1 167 [l0, l1] (jR 85 :: st) σ Q := WP_getR (ci := 0) (k := 14) mq1 dd1_164 (by decide) rfl
theorem ww1_164i88 {d : Nat} {l0 l1 : Option mw_V} {st : List mw_V} {σ : mw_S} {Q : Option mw_V → mw_S → Prop} : mw_WP d 1 164 [l0, l1] (jR 88 :: st) σ Q ↔ mw_WP d 1 167 [l0, l1] (jR 96 :: st) σ Q := WP_getR (ci := 0) (k := 14) mq1 dd1_164 (by decide) rfl
theorem dd1_167 : decode cX0_become 167 = .ok (.iconst 0, 1) := by decide +kernel
theorem ww1_167 {d : Nat} {l0 l1 : Option mw_V} {st : List mw_V} {σ : mw_S} {Q : Option mw_V → mw_S → Prop} : mw_WP d 1 167 [l0, l1] st σ Q ↔ mw_WP d 1 168 [l0, l1] (jI (0) :: st) σ Q := WP_iconst mq1 dd1_167 (by decide)
theorem dd1_168 : decode cX0_become 168 = .ok (.sipush 900, 3) := by decide +kernel
theorem ww1_168 {d : Nat} {l0 l1 : Option mw_V} {st : List mw_V} {σ : mw_S} {Q : Option mw_V → mw_S → Prop} : mw_WP d 1 168 [l0, l1] st σ Q ↔ mw_WP d 1 171 [l0, l1] (jI (900) :: st) σ Q := WP_sipush mq1 dd1_168 (by decide)
theorem dd1_171 : decode cX0_become 171 = .ok (.invokestatic 58, 3) := by decide +kernel
theorem ww1_171 {d : Nat} {l0 l1 : Option mw_V} {n dp sp : Int} {a b : Nat} {st : List mw_V} {σ : mw_S} {Q : Option mw_V → mw_S → Prop} (h8 : (st.map mw_cat).sum ≤ 8) (h1 : 0 ≤ sp ∧ 0 ≤ dp ∧ 0 < n ∧ sp + n ≤ mw_lenW 0 a ∧ dp + n ≤ mw_lenW 0 b) : mw_WP d 1 171 [l0, l1] (jI n :: jI dp :: jR b :: jI sp :: jR a :: st) σ Q ↔ mw_WP d 1 174 [l0, l1] st (cpS σ a sp.toNat b dp.toNat n.toNat) Q := WP_acp (t := 0) (by decide) mq1 dd1_171 (by decide) (by decide) (by decide) h8 h1
theorem dd1_174 : decode cX0_become 174 = .ok (.return_, 1) := by decide +kernel
theorem ww1_174 {d : Nat} {l0 l1 : Option mw_V} {σ : mw_S} {Q : Option mw_V → mw_S → Prop} : mw_WP d 1 174 [l0, l1] [] σ Q ↔ Q none σ := WP_return mq1 dd1_174 rfl
theorem ee2 {d : Nat} {a : Nat} {a0 : Nat} {σ : mw_S} {Q : Option mw_V → mw_S → Prop} : mw_Call (d + 1) 2 [jR a, jR a0] σ Q ↔ mw_WP d 2 0 [some (jR a), some (jR a0), none] [] σ Q := CL_u mq2 (Nat.le_of_ble_eq_true rfl) rfl
theorem dd2_0 : decode cX0_setUp 0 = .ok (.iconst 0, 1) := by decide +kernel
theorem ww2_0 {d : Nat} {l0 l1 l2 : Option mw_V} {st : List mw_V} {σ : mw_S} {Q : Option mw_V → mw_S → Prop} : mw_WP d 2 0 [l0, l1, l2] st σ Q ↔ mw_WP d 2 1 [l0, l1, l2] (jI (0) :: st) σ Q := WP_iconst mq2 dd2_0 (by decide)
theorem dd2_1 : decode cX0_setUp 1 = .ok (.istore_n 2, 1) := by decide +kernel
theorem ww2_1 {d : Nat} {l0 l1 l2 : Option mw_V} {x : Int} {st : List mw_V} {σ : mw_S} {Q : Option mw_V → mw_S → Prop} (h : mw_nlo l1 = true) : mw_WP d 2 1 [l0, l1, l2] (jI x :: st) σ Q ↔ mw_WP d 2 2 [l0, l1, some (jI x)] st σ Q := WP_istore_n mq2 dd2_1 (Nat.le_of_ble_eq_true rfl) (mw_nl_of (i := 1) rfl h) rfl
theorem dd2_2 : decode cX0_setUp 2 = .ok (.iload_n 2, 1) := by decide +kernel
theorem ww2_2 {d : Nat} {l0 l1 : Option mw_V} {x : Int} {st : List mw_V} {σ : mw_S} {Q : Option mw_V → mw_S → Prop} : mw_WP d 2 2 [l0, l1, some (jI x)] st σ Q ↔ mw_WP d 2 3 [l0, l1, some (jI x)] (jI x :: st) σ Q := WP_iload_n mq2 dd2_2 rfl
theorem dd2_3 : decode cX0_setUp 3 = .ok (.bipush 35, 2) := by decide +kernel
theorem ww2_3 {d : Nat} {l0 l1 l2 : Option mw_V} {st : List mw_V} {σ : mw_S} {Q : Option mw_V → mw_S → Prop} : mw_WP d 2 3 [l0, l1, l2] st σ Q ↔ mw_WP d 2 5 [l0, l1, l2] (jI (35) :: st) σ Q := WP_bipush mq2 dd2_3 (by decide)
theorem dd2_5 : decode cX0_setUp 5 = .ok (.if_icmp .ge 13, 3) := by decide +kernel
theorem ww2_5 {d : Nat} {l0 l1 l2 : Option mw_V} {x y : Int} {st : List mw_V} {σ : mw_S} {Q : Option mw_V → mw_S → Prop} : mw_WP d 2 5 [l0, l1, l2] (jI y :: jI x :: st) σ Q ↔ (if y ≤ x then mw_WP d 2 18 [l0, l1, l2] st σ Q else mw_WP d 2 8 [l0, l1, l2] st σ Q) := WP_icmp_ge mq2 dd2_5 (by decide)
theorem dd2_8 : decode cX0_setUp 8 = .ok (.aload_n 1, 1) := by decide +kernel
theorem ww2_8 {d : Nat} {l0 l2 : Option mw_V} {x : Nat} {st : List mw_V} {σ : mw_S} {Q : Option mw_V → mw_S → Prop} : mw_WP d 2 8 [l0, some (jR x), l2] st σ Q ↔ mw_WP d 2 9 [l0, some (jR x), l2] (jR x :: st) σ Q := WP_aload_n mq2 dd2_8 rfl
theorem dd2_9 : decode cX0_setUp 9 = .ok (.iload_n 2, 1) := by decide +kernel
theorem ww2_9 {d : Nat} {l0 l1 : Option mw_V} {x : Int} {st : List mw_V} {σ : mw_S} {Q : Option mw_V → mw_S → Prop} : mw_WP d 2 9 [l0, l1, some (jI x)] st σ Q ↔ mw_WP d 2 10 [l0, l1, some (jI x)] (jI x :: st) σ Q := WP_iload_n mq2 dd2_9 rfl
theorem dd2_10 : decode cX0_setUp 10 = .ok (.iconst 0, 1) := by decide +kernel
theorem ww2_10 {d : Nat} {l0 l1 l2 : Option mw_V} {st : List mw_V} {σ : mw_S} {Q : Option mw_V → mw_S → Prop} : mw_WP d 2 10 [l0, l1, l2] st σ Q ↔ mw_WP d 2 11 [l0, l1, l2] (jI (0) :: st) σ Q := WP_iconst mq2 dd2_10 (by decide)
theorem dd2_11 : decode cX0_setUp 11 = .ok (.iastore, 1) := by decide +kernel
theorem ww2_11 {d : Nat} {l0 l1 l2 : Option mw_V} {x z : Int} {a : Nat} {st : List mw_V} {σ : mw_S} {Q : Option mw_V → mw_S → Prop} : mw_WP d 2 11 [l0, l1, l2] (jI x :: jI z :: jR a :: st) σ Q ↔ ((0 ≤ z ∧ z < mw_lenW 0 a) ∧ mw_WP d 2 12 [l0, l1, l2] st (upS σ a z.toNat x) Q) := WP_iastore mq2 dd2_11
theorem dd2_12 : decode cX0_setUp 12 = .ok (.iinc 2 1, 3) := by decide +kernel
theorem ww2_12 {d : Nat} {l0 l1 : Option mw_V} {x : Int} {st : List mw_V} {σ : mw_S} {Q : Option mw_V → mw_S → Prop} (h : mw_nlo l1 = true) : mw_WP d 2 12 [l0, l1, some (jI x)] st σ Q ↔ mw_WP d 2 15 [l0, l1, some (jI (w32 (x + (1))))] st σ Q := WP_iinc mq2 dd2_12 rfl (Nat.le_of_ble_eq_true rfl) (mw_nl_of (i := 1) rfl h) rfl
theorem dd2_15 : decode cX0_setUp 15 = .ok (.goto (-13), 3) := by decide +kernel
theorem ww2_15 {d : Nat} {l0 l1 l2 : Option mw_V} {st : List mw_V} {σ : mw_S} {Q : Option mw_V → mw_S → Prop} : mw_WP d 2 15 [l0, l1, l2] st σ Q ↔ mw_WP d 2 2 [l0, l1, l2] st σ Q := WP_goto mq2 dd2_15 (by decide)
theorem dd2_18 : decode cX0_setUp 18 = .ok (.iconst 0, 1) := by decide +kernel
theorem ww2_18 {d : Nat} {l0 l1 l2 : Option mw_V} {st : List mw_V} {σ : mw_S} {Q : Option mw_V → mw_S → Prop} : mw_WP d 2 18 [l0, l1, l2] st σ Q ↔ mw_WP d 2 19 [l0, l1, l2] (jI (0) :: st) σ Q := WP_iconst mq2 dd2_18 (by decide)
theorem dd2_19 : decode cX0_setUp 19 = .ok (.istore_n 2, 1) := by decide +kernel
theorem ww2_19 {d : Nat} {l0 l1 l2 : Option mw_V} {x : Int} {st : List mw_V} {σ : mw_S} {Q : Option mw_V → mw_S → Prop} (h : mw_nlo l1 = true) : mw_WP d 2 19 [l0, l1, l2] (jI x :: st) σ Q ↔ mw_WP d 2 20 [l0, l1, some (jI x)] st σ Q := WP_istore_n mq2 dd2_19 (Nat.le_of_ble_eq_true rfl) (mw_nl_of (i := 1) rfl h) rfl
theorem dd2_20 : decode cX0_setUp 20 = .ok (.iload_n 2, 1) := by decide +kernel
theorem ww2_20 {d : Nat} {l0 l1 : Option mw_V} {x : Int} {st : List mw_V} {σ : mw_S} {Q : Option mw_V → mw_S → Prop} : mw_WP d 2 20 [l0, l1, some (jI x)] st σ Q ↔ mw_WP d 2 21 [l0, l1, some (jI x)] (jI x :: st) σ Q := WP_iload_n mq2 dd2_20 rfl
theorem dd2_21 : decode cX0_setUp 21 = .ok (.aload_n 0, 1) := by decide +kernel
theorem ww2_21 {d : Nat} {l1 l2 : Option mw_V} {x : Nat} {st : List mw_V} {σ : mw_S} {Q : Option mw_V → mw_S → Prop} : mw_WP d 2 21 [some (jR x), l1, l2] st σ Q ↔ mw_WP d 2 22 [some (jR x), l1, l2] (jR x :: st) σ Q := WP_aload_n mq2 dd2_21 rfl
theorem dd2_22 : decode cX0_setUp 22 = .ok (.getfield 40, 3) := by decide +kernel
theorem ww2_22i3 {d : Nat} {l0 l1 l2 : Option mw_V} {st : List mw_V} {σ : mw_S} {Q : Option mw_V → mw_S → Prop} : mw_WP d 2 22 [l0, l1, l2] (jR 3 :: st) σ Q ↔ mw_WP d 2 25 [l0, l1, l2] (jI (σ 3 1) :: st) σ Q := WP_getI (ci := 0) (k := 1) mq2 dd2_22 (by decide) (Or.inl rfl)
theorem ww2_22i13 {d : Nat} {l0 l1 l2 : Option mw_V} {st : List mw_V} {σ : mw_S} {Q : Option mw_V → mw_S → Prop} : mw_WP d 2 22 [l0, l1, l2] (jR 13 :: st) σ Q ↔ mw_WP d 2 25 [l0, l1, l2] (jI (σ 13 1) :: st) σ Q := WP_getI (ci := 0) (k := 1) mq2 dd2_22 (by decide) (Or.inl rfl)
theorem ww2_22i77 {d : Nat} {l0 l1 l2 : Option mw_V} {st : List mw_V} {σ : mw_S} {Q : Option mw_V → mw_S → Prop} : mw_WP d 2 22 [l0, l1, l2] (jR 77 :: st) σ Q ↔ mw_WP d 2 25 [l0, l1, l2] (jI (σ 77 1) :: st) σ Q := WP_getI (ci := 0) (k := 1) mq2 dd2_22 (by decide) (Or.inl rfl)
theorem ww2_22i88 {d : Nat} {l0 l1 l2 : Option mw_V} {st : List mw_V} {σ : mw_S} {Q : Option mw_V → mw_S → Prop} : mw_WP d 2 22 [l0, l1, l2] (jR 88 :: st) σ Q ↔ mw_WP d 2 25 [l0, l1, l2] (jI (σ 88 1) :: st) σ Q := WP_getI (ci := 0) (k := 1) mq2 dd2_22 (by decide) (Or.inl rfl)
theorem dd2_25 : decode cX0_setUp 25 = .ok (.if_icmp .ge 31, 3) := by decide +kernel
theorem ww2_25 {d : Nat} {l0 l1 l2 : Option mw_V} {x y : Int} {st : List mw_V} {σ : mw_S} {Q : Option mw_V → mw_S → Prop} : mw_WP d 2 25 [l0, l1, l2] (jI y :: jI x :: st) σ Q ↔ (if y ≤ x then mw_WP d 2 56 [l0, l1, l2] st σ Q else mw_WP d 2 28 [l0, l1, l2] st σ Q) := WP_icmp_ge mq2 dd2_25 (by decide)
theorem dd2_28 : decode cX0_setUp 28 = .ok (.aload_n 1, 1) := by decide +kernel
theorem ww2_28 {d : Nat} {l0 l2 : Option mw_V} {x : Nat} {st : List mw_V} {σ : mw_S} {Q : Option mw_V → mw_S → Prop} : mw_WP d 2 28 [l0, some (jR x), l2] st σ Q ↔ mw_WP d 2 29 [l0, some (jR x), l2] (jR x :: st) σ Q := WP_aload_n mq2 dd2_28 rfl
theorem dd2_29 : decode cX0_setUp 29 = .ok (.iconst 0, 1) := by decide +kernel
theorem ww2_29 {d : Nat} {l0 l1 l2 : Option mw_V} {st : List mw_V} {σ : mw_S} {Q : Option mw_V → mw_S → Prop} : mw_WP d 2 29 [l0, l1, l2] st σ Q ↔ mw_WP d 2 30 [l0, l1, l2] (jI (0) :: st) σ Q := WP_iconst mq2 dd2_29 (by decide)
theorem dd2_30 : decode cX0_setUp 30 = .ok (.iload_n 2, 1) := by decide +kernel
theorem ww2_30 {d : Nat} {l0 l1 : Option mw_V} {x : Int} {st : List mw_V} {σ : mw_S} {Q : Option mw_V → mw_S → Prop} : mw_WP d 2 30 [l0, l1, some (jI x)] st σ Q ↔ mw_WP d 2 31 [l0, l1, some (jI x)] (jI x :: st) σ Q := WP_iload_n mq2 dd2_30 rfl
theorem dd2_31 : decode cX0_setUp 31 = .ok (.iadd, 1) := by decide +kernel
theorem ww2_31 {d : Nat} {l0 l1 l2 : Option mw_V} {x y : Int} {st : List mw_V} {σ : mw_S} {Q : Option mw_V → mw_S → Prop} : mw_WP d 2 31 [l0, l1, l2] (jI y :: jI x :: st) σ Q ↔ mw_WP d 2 32 [l0, l1, l2] (jI (w32 (x + y)) :: st) σ Q := WP_iadd mq2 dd2_31
theorem dd2_32 : decode cX0_setUp 32 = .ok (.aload_n 0, 1) := by decide +kernel
theorem ww2_32 {d : Nat} {l1 l2 : Option mw_V} {x : Nat} {st : List mw_V} {σ : mw_S} {Q : Option mw_V → mw_S → Prop} : mw_WP d 2 32 [some (jR x), l1, l2] st σ Q ↔ mw_WP d 2 33 [some (jR x), l1, l2] (jR x :: st) σ Q := WP_aload_n mq2 dd2_32 rfl
theorem dd2_33 : decode cX0_setUp 33 = .ok (.getfield 15, 3) := by decide +kernel
theorem ww2_33i3 {d : Nat} {l0 l1 l2 : Option mw_V} {st : List mw_V} {σ : mw_S} {Q : Option mw_V → mw_S → Prop} : mw_WP d 2 33 [l0, l1, l2] (jR 3 :: st) σ Q ↔ mw_WP d 2 36 [l0, l1, l2] (jR 4 :: st) σ Q := WP_getR (ci := 0) (k := 7) mq2 dd2_33 (by decide) rfl
theorem ww2_33i13 {d : Nat} {l0 l1 l2 : Option mw_V} {st : List mw_V} {σ : mw_S} {Q : Option mw_V → mw_S → Prop} : mw_WP d 2 33 [l0, l1, l2] (jR 13 :: st) σ Q ↔ mw_WP d 2 36 [l0, l1, l2] (jR 14 :: st) σ Q := WP_getR (ci := 0) (k := 7) mq2 dd2_33 (by decide) rfl
theorem ww2_33i77 {d : Nat} {l0 l1 l2 : Option mw_V} {st : List mw_V} {σ : mw_S} {Q : Option mw_V → mw_S → Prop} : mw_WP d 2 33 [l0, l1, l2] (jR 77 :: st) σ Q ↔ mw_WP d 2 36 [l0, l1, l2] (jR 78 :: st) σ Q := WP_getR (ci := 0) (k := 7) mq2 dd2_33 (by decide) rfl
theorem ww2_33i88 {d : Nat} {l0 l1 l2 : Option mw_V} {st : List mw_V} {σ : mw_S} {Q : Option mw_V → mw_S → Prop} : mw_WP d 2 33 [l0, l1, l2] (jR 88 :: st) σ Q ↔ mw_WP d 2 36 [l0, l1, l2] (jR 89 :: st) σ Q := WP_getR (ci := 0) (k := 7) mq2 dd2_33 (by decide) rfl
theorem dd2_36 : decode cX0_setUp 36 = .ok (.iload_n 2, 1) := by decide +kernel
theorem ww2_36 {d : Nat} {l0 l1 : Option mw_V} {x : Int} {st : List mw_V} {σ : mw_S} {Q : Option mw_V → mw_S → Prop} : mw_WP d 2 36 [l0, l1, some (jI x)] st σ Q ↔ mw_WP d 2 37 [l0, l1, some (jI x)] (jI x :: st) σ Q := WP_iload_n mq2 dd2_36 rfl
theorem dd2_37 : decode cX0_setUp 37 = .ok (.iaload, 1) := by decide +kernel
theorem ww2_37 {d : Nat} {l0 l1 l2 : Option mw_V} {z : Int} {a : Nat} {st : List mw_V} {σ : mw_S} {Q : Option mw_V → mw_S → Prop} : mw_WP d 2 37 [l0, l1, l2] (jI z :: jR a :: st) σ Q ↔ ((0 ≤ z ∧ z < mw_lenI a) ∧ mw_WP d 2 38 [l0, l1, l2] (jI (mw_rdI σ a z.toNat) :: st) σ Q) := WP_iaload mq2 dd2_37
theorem dd2_38 : decode cX0_setUp 38 = .ok (.iastore, 1) := by decide +kernel
theorem ww2_38 {d : Nat} {l0 l1 l2 : Option mw_V} {x z : Int} {a : Nat} {st : List mw_V} {σ : mw_S} {Q : Option mw_V → mw_S → Prop} : mw_WP d 2 38 [l0, l1, l2] (jI x :: jI z :: jR a :: st) σ Q ↔ ((0 ≤ z ∧ z < mw_lenW 0 a) ∧ mw_WP d 2 39 [l0, l1, l2] st (upS σ a z.toNat x) Q) := WP_iastore mq2 dd2_38
theorem dd2_39 : decode cX0_setUp 39 = .ok (.aload_n 1, 1) := by decide +kernel
theorem ww2_39 {d : Nat} {l0 l2 : Option mw_V} {x : Nat} {st : List mw_V} {σ : mw_S} {Q : Option mw_V → mw_S → Prop} : mw_WP d 2 39 [l0, some (jR x), l2] st σ Q ↔ mw_WP d 2 40 [l0, some (jR x), l2] (jR x :: st) σ Q := WP_aload_n mq2 dd2_39 rfl
theorem dd2_40 : decode cX0_setUp 40 = .ok (.iconst 3, 1) := by decide +kernel
theorem ww2_40 {d : Nat} {l0 l1 l2 : Option mw_V} {st : List mw_V} {σ : mw_S} {Q : Option mw_V → mw_S → Prop} : mw_WP d 2 40 [l0, l1, l2] st σ Q ↔ mw_WP d 2 41 [l0, l1, l2] (jI (3) :: st) σ Q := WP_iconst mq2 dd2_40 (by decide)
theorem dd2_41 : decode cX0_setUp 41 = .ok (.iload_n 2, 1) := by decide +kernel
theorem ww2_41 {d : Nat} {l0 l1 : Option mw_V} {x : Int} {st : List mw_V} {σ : mw_S} {Q : Option mw_V → mw_S → Prop} : mw_WP d 2 41 [l0, l1, some (jI x)] st σ Q ↔ mw_WP d 2 42 [l0, l1, some (jI x)] (jI x :: st) σ Q := WP_iload_n mq2 dd2_41 rfl
theorem dd2_42 : decode cX0_setUp 42 = .ok (.iadd, 1) := by decide +kernel
theorem ww2_42 {d : Nat} {l0 l1 l2 : Option mw_V} {x y : Int} {st : List mw_V} {σ : mw_S} {Q : Option mw_V → mw_S → Prop} : mw_WP d 2 42 [l0, l1, l2] (jI y :: jI x :: st) σ Q ↔ mw_WP d 2 43 [l0, l1, l2] (jI (w32 (x + y)) :: st) σ Q := WP_iadd mq2 dd2_42
theorem dd2_43 : decode cX0_setUp 43 = .ok (.aload_n 0, 1) := by decide +kernel
theorem ww2_43 {d : Nat} {l1 l2 : Option mw_V} {x : Nat} {st : List mw_V} {σ : mw_S} {Q : Option mw_V → mw_S → Prop} : mw_WP d 2 43 [some (jR x), l1, l2] st σ Q ↔ mw_WP d 2 44 [some (jR x), l1, l2] (jR x :: st) σ Q := WP_aload_n mq2 dd2_43 rfl
theorem dd2_44 : decode cX0_setUp 44 = .ok (.getfield 15, 3) := by decide +kernel
theorem ww2_44i3 {d : Nat} {l0 l1 l2 : Option mw_V} {st : List mw_V} {σ : mw_S} {Q : Option mw_V → mw_S → Prop} : mw_WP d 2 44 [l0, l1, l2] (jR 3 :: st) σ Q ↔ mw_WP d 2 47 [l0, l1, l2] (jR 4 :: st) σ Q := WP_getR (ci := 0) (k := 7) mq2 dd2_44 (by decide) rfl
theorem ww2_44i13 {d : Nat} {l0 l1 l2 : Option mw_V} {st : List mw_V} {σ : mw_S} {Q : Option mw_V → mw_S → Prop} : mw_WP d 2 44 [l0, l1, l2] (jR 13 :: st) σ Q ↔ mw_WP d 2 47 [l0, l1, l2] (jR 14 :: st) σ Q := WP_getR (ci := 0) (k := 7) mq2 dd2_44 (by decide) rfl
theorem ww2_44i77 {d : Nat} {l0 l1 l2 : Option mw_V} {st : List mw_V} {σ : mw_S} {Q : Option mw_V → mw_S → Prop} : mw_WP d 2 44 [l0, l1, l2] (jR 77 :: st) σ Q ↔ mw_WP d 2 47 [l0, l1, l2] (jR 78 :: st) σ Q := WP_getR (ci := 0) (k := 7) mq2 dd2_44 (by decide) rfl
theorem ww2_44i88 {d : Nat} {l0 l1 l2 : Option mw_V} {st : List mw_V} {σ : mw_S} {Q : Option mw_V → mw_S → Prop} : mw_WP d 2 44 [l0, l1, l2] (jR 88 :: st) σ Q ↔ mw_WP d 2 47 [l0, l1, l2] (jR 89 :: st) σ Q := WP_getR (ci := 0) (k := 7) mq2 dd2_44 (by decide) rfl
theorem dd2_47 : decode cX0_setUp 47 = .ok (.iload_n 2, 1) := by decide +kernel
theorem ww2_47 {d : Nat} {l0 l1 : Option mw_V} {x : Int} {st : List mw_V} {σ : mw_S} {Q : Option mw_V → mw_S → Prop} : mw_WP d 2 47 [l0, l1, some (jI x)] st σ Q ↔ mw_WP d 2 48 [l0, l1, some (jI x)] (jI x :: st) σ Q := WP_iload_n mq2 dd2_47 rfl
theorem dd2_48 : decode cX0_setUp 48 = .ok (.iaload, 1) := by decide +kernel
theorem ww2_48 {d : Nat} {l0 l1 l2 : Option mw_V} {z : Int} {a : Nat} {st : List mw_V} {σ : mw_S} {Q : Option mw_V → mw_S → Prop} : mw_WP d 2 48 [l0, l1, l2] (jI z :: jR a :: st) σ Q ↔ ((0 ≤ z ∧ z < mw_lenI a) ∧ mw_WP d 2 49 [l0, l1, l2] (jI (mw_rdI σ a z.toNat) :: st) σ Q) := WP_iaload mq2 dd2_48
theorem dd2_49 : decode cX0_setUp 49 = .ok (.iastore, 1) := by decide +kernel
theorem ww2_49 {d : Nat} {l0 l1 l2 : Option mw_V} {x z : Int} {a : Nat} {st : List mw_V} {σ : mw_S} {Q : Option mw_V → mw_S → Prop} : mw_WP d 2 49 [l0, l1, l2] (jI x :: jI z :: jR a :: st) σ Q ↔ ((0 ≤ z ∧ z < mw_lenW 0 a) ∧ mw_WP d 2 50 [l0, l1, l2] st (upS σ a z.toNat x) Q) := WP_iastore mq2 dd2_49
theorem dd2_50 : decode cX0_setUp 50 = .ok (.iinc 2 1, 3) := by decide +kernel
theorem ww2_50 {d : Nat} {l0 l1 : Option mw_V} {x : Int} {st : List mw_V} {σ : mw_S} {Q : Option mw_V → mw_S → Prop} (h : mw_nlo l1 = true) : mw_WP d 2 50 [l0, l1, some (jI x)] st σ Q ↔ mw_WP d 2 53 [l0, l1, some (jI (w32 (x + (1))))] st σ Q := WP_iinc mq2 dd2_50 rfl (Nat.le_of_ble_eq_true rfl) (mw_nl_of (i := 1) rfl h) rfl
theorem dd2_53 : decode cX0_setUp 53 = .ok (.goto (-33), 3) := by decide +kernel
theorem ww2_53 {d : Nat} {l0 l1 l2 : Option mw_V} {st : List mw_V} {σ : mw_S} {Q : Option mw_V → mw_S → Prop} : mw_WP d 2 53 [l0, l1, l2] st σ Q ↔ mw_WP d 2 20 [l0, l1, l2] st σ Q := WP_goto mq2 dd2_53 (by decide)
theorem dd2_56 : decode cX0_setUp 56 = .ok (.iconst 0, 1) := by decide +kernel
theorem ww2_56 {d : Nat} {l0 l1 l2 : Option mw_V} {st : List mw_V} {σ : mw_S} {Q : Option mw_V → mw_S → Prop} : mw_WP d 2 56 [l0, l1, l2] st σ Q ↔ mw_WP d 2 57 [l0, l1, l2] (jI (0) :: st) σ Q := WP_iconst mq2 dd2_56 (by decide)
theorem dd2_57 : decode cX0_setUp 57 = .ok (.istore_n 2, 1) := by decide +kernel
theorem ww2_57 {d : Nat} {l0 l1 l2 : Option mw_V} {x : Int} {st : List mw_V} {σ : mw_S} {Q : Option mw_V → mw_S → Prop} (h : mw_nlo l1 = true) : mw_WP d 2 57 [l0, l1, l2] (jI x :: st) σ Q ↔ mw_WP d 2 58 [l0, l1, some (jI x)] st σ Q := WP_istore_n mq2 dd2_57 (Nat.le_of_ble_eq_true rfl) (mw_nl_of (i := 1) rfl h) rfl
theorem dd2_58 : decode cX0_setUp 58 = .ok (.iload_n 2, 1) := by decide +kernel
theorem ww2_58 {d : Nat} {l0 l1 : Option mw_V} {x : Int} {st : List mw_V} {σ : mw_S} {Q : Option mw_V → mw_S → Prop} : mw_WP d 2 58 [l0, l1, some (jI x)] st σ Q ↔ mw_WP d 2 59 [l0, l1, some (jI x)] (jI x :: st) σ Q := WP_iload_n mq2 dd2_58 rfl
theorem dd2_59 : decode cX0_setUp 59 = .ok (.aload_n 0, 1) := by decide +kernel
theorem ww2_59 {d : Nat} {l1 l2 : Option mw_V} {x : Nat} {st : List mw_V} {σ : mw_S} {Q : Option mw_V → mw_S → Prop} : mw_WP d 2 59 [some (jR x), l1, l2] st σ Q ↔ mw_WP d 2 60 [some (jR x), l1, l2] (jR x :: st) σ Q := WP_aload_n mq2 dd2_59 rfl
theorem dd2_60 : decode cX0_setUp 60 = .ok (.getfield 43, 3) := by decide +kernel
theorem ww2_60i3 {d : Nat} {l0 l1 l2 : Option mw_V} {st : List mw_V} {σ : mw_S} {Q : Option mw_V → mw_S → Prop} : mw_WP d 2 60 [l0, l1, l2] (jR 3 :: st) σ Q ↔ mw_WP d 2 63 [l0, l1, l2] (jI (σ 3 2) :: st) σ Q := WP_getI (ci := 0) (k := 2) mq2 dd2_60 (by decide) (Or.inl rfl)
theorem ww2_60i13 {d : Nat} {l0 l1 l2 : Option mw_V} {st : List mw_V} {σ : mw_S} {Q : Option mw_V → mw_S → Prop} : mw_WP d 2 60 [l0, l1, l2] (jR 13 :: st) σ Q ↔ mw_WP d 2 63 [l0, l1, l2] (jI (σ 13 2) :: st) σ Q := WP_getI (ci := 0) (k := 2) mq2 dd2_60 (by decide) (Or.inl rfl)
theorem ww2_60i77 {d : Nat} {l0 l1 l2 : Option mw_V} {st : List mw_V} {σ : mw_S} {Q : Option mw_V → mw_S → Prop} : mw_WP d 2 60 [l0, l1, l2] (jR 77 :: st) σ Q ↔ mw_WP d 2 63 [l0, l1, l2] (jI (σ 77 2) :: st) σ Q := WP_getI (ci := 0) (k := 2) mq2 dd2_60 (by decide) (Or.inl rfl)
theorem ww2_60i88 {d : Nat} {l0 l1 l2 : Option mw_V} {st : List mw_V} {σ : mw_S} {Q : Option mw_V → mw_S → Prop} : mw_WP d 2 60 [l0, l1, l2] (jR 88 :: st) σ Q ↔ mw_WP d 2 63 [l0, l1, l2] (jI (σ 88 2) :: st) σ Q := WP_getI (ci := 0) (k := 2) mq2 dd2_60 (by decide) (Or.inl rfl)
theorem dd2_63 : decode cX0_setUp 63 = .ok (.if_icmp .ge 21, 3) := by decide +kernel
theorem ww2_63 {d : Nat} {l0 l1 l2 : Option mw_V} {x y : Int} {st : List mw_V} {σ : mw_S} {Q : Option mw_V → mw_S → Prop} : mw_WP d 2 63 [l0, l1, l2] (jI y :: jI x :: st) σ Q ↔ (if y ≤ x then mw_WP d 2 84 [l0, l1, l2] st σ Q else mw_WP d 2 66 [l0, l1, l2] st σ Q) := WP_icmp_ge mq2 dd2_63 (by decide)
theorem dd2_66 : decode cX0_setUp 66 = .ok (.aload_n 1, 1) := by decide +kernel
theorem ww2_66 {d : Nat} {l0 l2 : Option mw_V} {x : Nat} {st : List mw_V} {σ : mw_S} {Q : Option mw_V → mw_S → Prop} : mw_WP d 2 66 [l0, some (jR x), l2] st σ Q ↔ mw_WP d 2 67 [l0, some (jR x), l2] (jR x :: st) σ Q := WP_aload_n mq2 dd2_66 rfl
theorem dd2_67 : decode cX0_setUp 67 = .ok (.bipush 6, 2) := by decide +kernel
theorem ww2_67 {d : Nat} {l0 l1 l2 : Option mw_V} {st : List mw_V} {σ : mw_S} {Q : Option mw_V → mw_S → Prop} : mw_WP d 2 67 [l0, l1, l2] st σ Q ↔ mw_WP d 2 69 [l0, l1, l2] (jI (6) :: st) σ Q := WP_bipush mq2 dd2_67 (by decide)
theorem dd2_69 : decode cX0_setUp 69 = .ok (.iload_n 2, 1) := by decide +kernel
theorem ww2_69 {d : Nat} {l0 l1 : Option mw_V} {x : Int} {st : List mw_V} {σ : mw_S} {Q : Option mw_V → mw_S → Prop} : mw_WP d 2 69 [l0, l1, some (jI x)] st σ Q ↔ mw_WP d 2 70 [l0, l1, some (jI x)] (jI x :: st) σ Q := WP_iload_n mq2 dd2_69 rfl
theorem dd2_70 : decode cX0_setUp 70 = .ok (.iadd, 1) := by decide +kernel
theorem ww2_70 {d : Nat} {l0 l1 l2 : Option mw_V} {x y : Int} {st : List mw_V} {σ : mw_S} {Q : Option mw_V → mw_S → Prop} : mw_WP d 2 70 [l0, l1, l2] (jI y :: jI x :: st) σ Q ↔ mw_WP d 2 71 [l0, l1, l2] (jI (w32 (x + y)) :: st) σ Q := WP_iadd mq2 dd2_70
theorem dd2_71 : decode cX0_setUp 71 = .ok (.aload_n 0, 1) := by decide +kernel
theorem ww2_71 {d : Nat} {l1 l2 : Option mw_V} {x : Nat} {st : List mw_V} {σ : mw_S} {Q : Option mw_V → mw_S → Prop} : mw_WP d 2 71 [some (jR x), l1, l2] st σ Q ↔ mw_WP d 2 72 [some (jR x), l1, l2] (jR x :: st) σ Q := WP_aload_n mq2 dd2_71 rfl
theorem dd2_72 : decode cX0_setUp 72 = .ok (.getfield 22, 3) := by decide +kernel
theorem ww2_72i3 {d : Nat} {l0 l1 l2 : Option mw_V} {st : List mw_V} {σ : mw_S} {Q : Option mw_V → mw_S → Prop} : mw_WP d 2 72 [l0, l1, l2] (jR 3 :: st) σ Q ↔ mw_WP d 2 75 [l0, l1, l2] (jR 6 :: st) σ Q := WP_getR (ci := 0) (k := 9) mq2 dd2_72 (by decide) rfl
theorem ww2_72i13 {d : Nat} {l0 l1 l2 : Option mw_V} {st : List mw_V} {σ : mw_S} {Q : Option mw_V → mw_S → Prop} : mw_WP d 2 72 [l0, l1, l2] (jR 13 :: st) σ Q ↔ mw_WP d 2 75 [l0, l1, l2] (jR 16 :: st) σ Q := WP_getR (ci := 0) (k := 9) mq2 dd2_72 (by decide) rfl
theorem ww2_72i77 {d : Nat} {l0 l1 l2 : Option mw_V} {st : List mw_V} {σ : mw_S} {Q : Option mw_V → mw_S → Prop} : mw_WP d 2 72 [l0, l1, l2] (jR 77 :: st) σ Q ↔ mw_WP d 2 75 [l0, l1, l2] (jR 80 :: st) σ Q := WP_getR (ci := 0) (k := 9) mq2 dd2_72 (by decide) rfl
theorem ww2_72i88 {d : Nat} {l0 l1 l2 : Option mw_V} {st : List mw_V} {σ : mw_S} {Q : Option mw_V → mw_S → Prop} : mw_WP d 2 72 [l0, l1, l2] (jR 88 :: st) σ Q ↔ mw_WP d 2 75 [l0, l1, l2] (jR 91 :: st) σ Q := WP_getR (ci := 0) (k := 9) mq2 dd2_72 (by decide) rfl
theorem dd2_75 : decode cX0_setUp 75 = .ok (.iload_n 2, 1) := by decide +kernel
theorem ww2_75 {d : Nat} {l0 l1 : Option mw_V} {x : Int} {st : List mw_V} {σ : mw_S} {Q : Option mw_V → mw_S → Prop} : mw_WP d 2 75 [l0, l1, some (jI x)] st σ Q ↔ mw_WP d 2 76 [l0, l1, some (jI x)] (jI x :: st) σ Q := WP_iload_n mq2 dd2_75 rfl
theorem dd2_76 : decode cX0_setUp 76 = .ok (.iaload, 1) := by decide +kernel
theorem ww2_76 {d : Nat} {l0 l1 l2 : Option mw_V} {z : Int} {a : Nat} {st : List mw_V} {σ : mw_S} {Q : Option mw_V → mw_S → Prop} : mw_WP d 2 76 [l0, l1, l2] (jI z :: jR a :: st) σ Q ↔ ((0 ≤ z ∧ z < mw_lenI a) ∧ mw_WP d 2 77 [l0, l1, l2] (jI (mw_rdI σ a z.toNat) :: st) σ Q) := WP_iaload mq2 dd2_76
theorem dd2_77 : decode cX0_setUp 77 = .ok (.iastore, 1) := by decide +kernel
theorem ww2_77 {d : Nat} {l0 l1 l2 : Option mw_V} {x z : Int} {a : Nat} {st : List mw_V} {σ : mw_S} {Q : Option mw_V → mw_S → Prop} : mw_WP d 2 77 [l0, l1, l2] (jI x :: jI z :: jR a :: st) σ Q ↔ ((0 ≤ z ∧ z < mw_lenW 0 a) ∧ mw_WP d 2 78 [l0, l1, l2] st (upS σ a z.toNat x) Q) := WP_iastore mq2 dd2_77
theorem dd2_78 : decode cX0_setUp 78 = .ok (.iinc 2 1, 3) := by decide +kernel
theorem ww2_78 {d : Nat} {l0 l1 : Option mw_V} {x : Int} {st : List mw_V} {σ : mw_S} {Q : Option mw_V → mw_S → Prop} (h : mw_nlo l1 = true) : mw_WP d 2 78 [l0, l1, some (jI x)] st σ Q ↔ mw_WP d 2 81 [l0, l1, some (jI (w32 (x + (1))))] st σ Q := WP_iinc mq2 dd2_78 rfl (Nat.le_of_ble_eq_true rfl) (mw_nl_of (i := 1) rfl h) rfl
theorem dd2_81 : decode cX0_setUp 81 = .ok (.goto (-23), 3) := by decide +kernel
theorem ww2_81 {d : Nat} {l0 l1 l2 : Option mw_V} {st : List mw_V} {σ : mw_S} {Q : Option mw_V → mw_S → Prop} : mw_WP d 2 81 [l0, l1, l2] st σ Q ↔ mw_WP d 2 58 [l0, l1, l2] st σ Q := WP_goto mq2 dd2_81 (by decide)
theorem dd2_84 : decode cX0_setUp 84 = .ok (.return_, 1) := by decide +kernel
theorem ww2_84 {d : Nat} {l0 l1 l2 : Option mw_V} {σ : mw_S} {Q : Option mw_V → mw_S → Prop} : mw_WP d 2 84 [l0, l1, l2] [] σ Q ↔ Q none σ := WP_return mq2 dd2_84 rfl
theorem ee3 {d : Nat} {a : Nat} {z0 : Int} {z1 : Int} {σ : mw_S} {Q : Option mw_V → mw_S → Prop} : mw_Call (d + 1) 3 [jR a, jI z0, jI z1] σ Q ↔ mw_WP d 3 0 [some (jR a), some (jI z0), some (jI z1)] [] σ Q := CL_u mq3 (Nat.le_of_ble_eq_true rfl) rfl
theorem dd3_0 : decode cX0_addPerson 0 = .ok (.aload_n 0, 1) := by decide +kernel
theorem ww3_0 {d : Nat} {l1 l2 : Option mw_V} {x : Nat} {st : List mw_V} {σ : mw_S} {Q : Option mw_V → mw_S → Prop} : mw_WP d 3 0 [some (jR x), l1, l2] st σ Q ↔ mw_WP d 3 1 [some (jR x), l1, l2] (jR x :: st) σ Q := WP_aload_n mq3 dd3_0 rfl
theorem dd3_1 : decode cX0_addPerson 1 = .ok (.getfield 40, 3) := by decide +kernel
theorem ww3_1i3 {d : Nat} {l0 l1 l2 : Option mw_V} {st : List mw_V} {σ : mw_S} {Q : Option mw_V → mw_S → Prop} : mw_WP d 3 1 [l0, l1, l2] (jR 3 :: st) σ Q ↔ mw_WP d 3 4 [l0, l1, l2] (jI (σ 3 1) :: st) σ Q := WP_getI (ci := 0) (k := 1) mq3 dd3_1 (by decide) (Or.inl rfl)
theorem ww3_1i13 {d : Nat} {l0 l1 l2 : Option mw_V} {st : List mw_V} {σ : mw_S} {Q : Option mw_V → mw_S → Prop} : mw_WP d 3 1 [l0, l1, l2] (jR 13 :: st) σ Q ↔ mw_WP d 3 4 [l0, l1, l2] (jI (σ 13 1) :: st) σ Q := WP_getI (ci := 0) (k := 1) mq3 dd3_1 (by decide) (Or.inl rfl)
theorem ww3_1i77 {d : Nat} {l0 l1 l2 : Option mw_V} {st : List mw_V} {σ : mw_S} {Q : Option mw_V → mw_S → Prop} : mw_WP d 3 1 [l0, l1, l2] (jR 77 :: st) σ Q ↔ mw_WP d 3 4 [l0, l1, l2] (jI (σ 77 1) :: st) σ Q := WP_getI (ci := 0) (k := 1) mq3 dd3_1 (by decide) (Or.inl rfl)
theorem ww3_1i88 {d : Nat} {l0 l1 l2 : Option mw_V} {st : List mw_V} {σ : mw_S} {Q : Option mw_V → mw_S → Prop} : mw_WP d 3 1 [l0, l1, l2] (jR 88 :: st) σ Q ↔ mw_WP d 3 4 [l0, l1, l2] (jI (σ 88 1) :: st) σ Q := WP_getI (ci := 0) (k := 1) mq3 dd3_1 (by decide) (Or.inl rfl)
theorem dd3_4 : decode cX0_addPerson 4 = .ok (.iconst 3, 1) := by decide +kernel
theorem ww3_4 {d : Nat} {l0 l1 l2 : Option mw_V} {st : List mw_V} {σ : mw_S} {Q : Option mw_V → mw_S → Prop} : mw_WP d 3 4 [l0, l1, l2] st σ Q ↔ mw_WP d 3 5 [l0, l1, l2] (jI (3) :: st) σ Q := WP_iconst mq3 dd3_4 (by decide)
theorem dd3_5 : decode cX0_addPerson 5 = .ok (.if_icmp .ge 33, 3) := by decide +kernel
theorem ww3_5 {d : Nat} {l0 l1 l2 : Option mw_V} {x y : Int} {st : List mw_V} {σ : mw_S} {Q : Option mw_V → mw_S → Prop} : mw_WP d 3 5 [l0, l1, l2] (jI y :: jI x :: st) σ Q ↔ (if y ≤ x then mw_WP d 3 38 [l0, l1, l2] st σ Q else mw_WP d 3 8 [l0, l1, l2] st σ Q) := WP_icmp_ge mq3 dd3_5 (by decide)
theorem dd3_8 : decode cX0_addPerson 8 = .ok (.aload_n 0, 1) := by decide +kernel
theorem ww3_8 {d : Nat} {l1 l2 : Option mw_V} {x : Nat} {st : List mw_V} {σ : mw_S} {Q : Option mw_V → mw_S → Prop} : mw_WP d 3 8 [some (jR x), l1, l2] st σ Q ↔ mw_WP d 3 9 [some (jR x), l1, l2] (jR x :: st) σ Q := WP_aload_n mq3 dd3_8 rfl
theorem dd3_9 : decode cX0_addPerson 9 = .ok (.getfield 15, 3) := by decide +kernel
theorem ww3_9i3 {d : Nat} {l0 l1 l2 : Option mw_V} {st : List mw_V} {σ : mw_S} {Q : Option mw_V → mw_S → Prop} : mw_WP d 3 9 [l0, l1, l2] (jR 3 :: st) σ Q ↔ mw_WP d 3 12 [l0, l1, l2] (jR 4 :: st) σ Q := WP_getR (ci := 0) (k := 7) mq3 dd3_9 (by decide) rfl
theorem ww3_9i13 {d : Nat} {l0 l1 l2 : Option mw_V} {st : List mw_V} {σ : mw_S} {Q : Option mw_V → mw_S → Prop} : mw_WP d 3 9 [l0, l1, l2] (jR 13 :: st) σ Q ↔ mw_WP d 3 12 [l0, l1, l2] (jR 14 :: st) σ Q := WP_getR (ci := 0) (k := 7) mq3 dd3_9 (by decide) rfl
theorem ww3_9i77 {d : Nat} {l0 l1 l2 : Option mw_V} {st : List mw_V} {σ : mw_S} {Q : Option mw_V → mw_S → Prop} : mw_WP d 3 9 [l0, l1, l2] (jR 77 :: st) σ Q ↔ mw_WP d 3 12 [l0, l1, l2] (jR 78 :: st) σ Q := WP_getR (ci := 0) (k := 7) mq3 dd3_9 (by decide) rfl
theorem ww3_9i88 {d : Nat} {l0 l1 l2 : Option mw_V} {st : List mw_V} {σ : mw_S} {Q : Option mw_V → mw_S → Prop} : mw_WP d 3 9 [l0, l1, l2] (jR 88 :: st) σ Q ↔ mw_WP d 3 12 [l0, l1, l2] (jR 89 :: st) σ Q := WP_getR (ci := 0) (k := 7) mq3 dd3_9 (by decide) rfl
theorem dd3_12 : decode cX0_addPerson 12 = .ok (.aload_n 0, 1) := by decide +kernel
theorem ww3_12 {d : Nat} {l1 l2 : Option mw_V} {x : Nat} {st : List mw_V} {σ : mw_S} {Q : Option mw_V → mw_S → Prop} : mw_WP d 3 12 [some (jR x), l1, l2] st σ Q ↔ mw_WP d 3 13 [some (jR x), l1, l2] (jR x :: st) σ Q := WP_aload_n mq3 dd3_12 rfl
theorem dd3_13 : decode cX0_addPerson 13 = .ok (.getfield 40, 3) := by decide +kernel
theorem ww3_13i3 {d : Nat} {l0 l1 l2 : Option mw_V} {st : List mw_V} {σ : mw_S} {Q : Option mw_V → mw_S → Prop} : mw_WP d 3 13 [l0, l1, l2] (jR 3 :: st) σ Q ↔ mw_WP d 3 16 [l0, l1, l2] (jI (σ 3 1) :: st) σ Q := WP_getI (ci := 0) (k := 1) mq3 dd3_13 (by decide) (Or.inl rfl)
theorem ww3_13i13 {d : Nat} {l0 l1 l2 : Option mw_V} {st : List mw_V} {σ : mw_S} {Q : Option mw_V → mw_S → Prop} : mw_WP d 3 13 [l0, l1, l2] (jR 13 :: st) σ Q ↔ mw_WP d 3 16 [l0, l1, l2] (jI (σ 13 1) :: st) σ Q := WP_getI (ci := 0) (k := 1) mq3 dd3_13 (by decide) (Or.inl rfl)
theorem ww3_13i77 {d : Nat} {l0 l1 l2 : Option mw_V} {st : List mw_V} {σ : mw_S} {Q : Option mw_V → mw_S → Prop} : mw_WP d 3 13 [l0, l1, l2] (jR 77 :: st) σ Q ↔ mw_WP d 3 16 [l0, l1, l2] (jI (σ 77 1) :: st) σ Q := WP_getI (ci := 0) (k := 1) mq3 dd3_13 (by decide) (Or.inl rfl)
theorem ww3_13i88 {d : Nat} {l0 l1 l2 : Option mw_V} {st : List mw_V} {σ : mw_S} {Q : Option mw_V → mw_S → Prop} : mw_WP d 3 13 [l0, l1, l2] (jR 88 :: st) σ Q ↔ mw_WP d 3 16 [l0, l1, l2] (jI (σ 88 1) :: st) σ Q := WP_getI (ci := 0) (k := 1) mq3 dd3_13 (by decide) (Or.inl rfl)
theorem dd3_16 : decode cX0_addPerson 16 = .ok (.iload_n 1, 1) := by decide +kernel
theorem ww3_16 {d : Nat} {l0 l2 : Option mw_V} {x : Int} {st : List mw_V} {σ : mw_S} {Q : Option mw_V → mw_S → Prop} : mw_WP d 3 16 [l0, some (jI x), l2] st σ Q ↔ mw_WP d 3 17 [l0, some (jI x), l2] (jI x :: st) σ Q := WP_iload_n mq3 dd3_16 rfl
theorem dd3_17 : decode cX0_addPerson 17 = .ok (.iastore, 1) := by decide +kernel
theorem ww3_17 {d : Nat} {l0 l1 l2 : Option mw_V} {x z : Int} {a : Nat} {st : List mw_V} {σ : mw_S} {Q : Option mw_V → mw_S → Prop} : mw_WP d 3 17 [l0, l1, l2] (jI x :: jI z :: jR a :: st) σ Q ↔ ((0 ≤ z ∧ z < mw_lenW 0 a) ∧ mw_WP d 3 18 [l0, l1, l2] st (upS σ a z.toNat x) Q) := WP_iastore mq3 dd3_17
theorem dd3_18 : decode cX0_addPerson 18 = .ok (.aload_n 0, 1) := by decide +kernel
theorem ww3_18 {d : Nat} {l1 l2 : Option mw_V} {x : Nat} {st : List mw_V} {σ : mw_S} {Q : Option mw_V → mw_S → Prop} : mw_WP d 3 18 [some (jR x), l1, l2] st σ Q ↔ mw_WP d 3 19 [some (jR x), l1, l2] (jR x :: st) σ Q := WP_aload_n mq3 dd3_18 rfl
theorem dd3_19 : decode cX0_addPerson 19 = .ok (.getfield 19, 3) := by decide +kernel
theorem ww3_19i3 {d : Nat} {l0 l1 l2 : Option mw_V} {st : List mw_V} {σ : mw_S} {Q : Option mw_V → mw_S → Prop} : mw_WP d 3 19 [l0, l1, l2] (jR 3 :: st) σ Q ↔ mw_WP d 3 22 [l0, l1, l2] (jR 5 :: st) σ Q := WP_getR (ci := 0) (k := 8) mq3 dd3_19 (by decide) rfl
theorem ww3_19i13 {d : Nat} {l0 l1 l2 : Option mw_V} {st : List mw_V} {σ : mw_S} {Q : Option mw_V → mw_S → Prop} : mw_WP d 3 19 [l0, l1, l2] (jR 13 :: st) σ Q ↔ mw_WP d 3 22 [l0, l1, l2] (jR 15 :: st) σ Q := WP_getR (ci := 0) (k := 8) mq3 dd3_19 (by decide) rfl
theorem ww3_19i77 {d : Nat} {l0 l1 l2 : Option mw_V} {st : List mw_V} {σ : mw_S} {Q : Option mw_V → mw_S → Prop} : mw_WP d 3 19 [l0, l1, l2] (jR 77 :: st) σ Q ↔ mw_WP d 3 22 [l0, l1, l2] (jR 79 :: st) σ Q := WP_getR (ci := 0) (k := 8) mq3 dd3_19 (by decide) rfl
theorem ww3_19i88 {d : Nat} {l0 l1 l2 : Option mw_V} {st : List mw_V} {σ : mw_S} {Q : Option mw_V → mw_S → Prop} : mw_WP d 3 19 [l0, l1, l2] (jR 88 :: st) σ Q ↔ mw_WP d 3 22 [l0, l1, l2] (jR 90 :: st) σ Q := WP_getR (ci := 0) (k := 8) mq3 dd3_19 (by decide) rfl
theorem dd3_22 : decode cX0_addPerson 22 = .ok (.aload_n 0, 1) := by decide +kernel
theorem ww3_22 {d : Nat} {l1 l2 : Option mw_V} {x : Nat} {st : List mw_V} {σ : mw_S} {Q : Option mw_V → mw_S → Prop} : mw_WP d 3 22 [some (jR x), l1, l2] st σ Q ↔ mw_WP d 3 23 [some (jR x), l1, l2] (jR x :: st) σ Q := WP_aload_n mq3 dd3_22 rfl
theorem dd3_23 : decode cX0_addPerson 23 = .ok (.getfield 40, 3) := by decide +kernel
theorem ww3_23i3 {d : Nat} {l0 l1 l2 : Option mw_V} {st : List mw_V} {σ : mw_S} {Q : Option mw_V → mw_S → Prop} : mw_WP d 3 23 [l0, l1, l2] (jR 3 :: st) σ Q ↔ mw_WP d 3 26 [l0, l1, l2] (jI (σ 3 1) :: st) σ Q := WP_getI (ci := 0) (k := 1) mq3 dd3_23 (by decide) (Or.inl rfl)
theorem ww3_23i13 {d : Nat} {l0 l1 l2 : Option mw_V} {st : List mw_V} {σ : mw_S} {Q : Option mw_V → mw_S → Prop} : mw_WP d 3 23 [l0, l1, l2] (jR 13 :: st) σ Q ↔ mw_WP d 3 26 [l0, l1, l2] (jI (σ 13 1) :: st) σ Q := WP_getI (ci := 0) (k := 1) mq3 dd3_23 (by decide) (Or.inl rfl)
theorem ww3_23i77 {d : Nat} {l0 l1 l2 : Option mw_V} {st : List mw_V} {σ : mw_S} {Q : Option mw_V → mw_S → Prop} : mw_WP d 3 23 [l0, l1, l2] (jR 77 :: st) σ Q ↔ mw_WP d 3 26 [l0, l1, l2] (jI (σ 77 1) :: st) σ Q := WP_getI (ci := 0) (k := 1) mq3 dd3_23 (by decide) (Or.inl rfl)
theorem ww3_23i88 {d : Nat} {l0 l1 l2 : Option mw_V} {st : List mw_V} {σ : mw_S} {Q : Option mw_V → mw_S → Prop} : mw_WP d 3 23 [l0, l1, l2] (jR 88 :: st) σ Q ↔ mw_WP d 3 26 [l0, l1, l2] (jI (σ 88 1) :: st) σ Q := WP_getI (ci := 0) (k := 1) mq3 dd3_23 (by decide) (Or.inl rfl)
theorem dd3_26 : decode cX0_addPerson 26 = .ok (.iload_n 2, 1) := by decide +kernel
theorem ww3_26 {d : Nat} {l0 l1 : Option mw_V} {x : Int} {st : List mw_V} {σ : mw_S} {Q : Option mw_V → mw_S → Prop} : mw_WP d 3 26 [l0, l1, some (jI x)] st σ Q ↔ mw_WP d 3 27 [l0, l1, some (jI x)] (jI x :: st) σ Q := WP_iload_n mq3 dd3_26 rfl
theorem dd3_27 : decode cX0_addPerson 27 = .ok (.iastore, 1) := by decide +kernel
theorem ww3_27 {d : Nat} {l0 l1 l2 : Option mw_V} {x z : Int} {a : Nat} {st : List mw_V} {σ : mw_S} {Q : Option mw_V → mw_S → Prop} : mw_WP d 3 27 [l0, l1, l2] (jI x :: jI z :: jR a :: st) σ Q ↔ ((0 ≤ z ∧ z < mw_lenW 0 a) ∧ mw_WP d 3 28 [l0, l1, l2] st (upS σ a z.toNat x) Q) := WP_iastore mq3 dd3_27
theorem dd3_28 : decode cX0_addPerson 28 = .ok (.aload_n 0, 1) := by decide +kernel
theorem ww3_28 {d : Nat} {l1 l2 : Option mw_V} {x : Nat} {st : List mw_V} {σ : mw_S} {Q : Option mw_V → mw_S → Prop} : mw_WP d 3 28 [some (jR x), l1, l2] st σ Q ↔ mw_WP d 3 29 [some (jR x), l1, l2] (jR x :: st) σ Q := WP_aload_n mq3 dd3_28 rfl
theorem dd3_29 : decode cX0_addPerson 29 = .ok (.dup, 1) := by decide +kernel
theorem ww3_29 {d : Nat} {l0 l1 l2 : Option mw_V} {v : mw_V} {st : List mw_V} {σ : mw_S} {Q : Option mw_V → mw_S → Prop} (h : mw_cat v = 1) : mw_WP d 3 29 [l0, l1, l2] (v :: st) σ Q ↔ mw_WP d 3 30 [l0, l1, l2] (v :: v :: st) σ Q := WP_dup mq3 dd3_29 h
theorem dd3_30 : decode cX0_addPerson 30 = .ok (.getfield 40, 3) := by decide +kernel
theorem ww3_30i3 {d : Nat} {l0 l1 l2 : Option mw_V} {st : List mw_V} {σ : mw_S} {Q : Option mw_V → mw_S → Prop} : mw_WP d 3 30 [l0, l1, l2] (jR 3 :: st) σ Q ↔ mw_WP d 3 33 [l0, l1, l2] (jI (σ 3 1) :: st) σ Q := WP_getI (ci := 0) (k := 1) mq3 dd3_30 (by decide) (Or.inl rfl)
theorem ww3_30i13 {d : Nat} {l0 l1 l2 : Option mw_V} {st : List mw_V} {σ : mw_S} {Q : Option mw_V → mw_S → Prop} : mw_WP d 3 30 [l0, l1, l2] (jR 13 :: st) σ Q ↔ mw_WP d 3 33 [l0, l1, l2] (jI (σ 13 1) :: st) σ Q := WP_getI (ci := 0) (k := 1) mq3 dd3_30 (by decide) (Or.inl rfl)
theorem ww3_30i77 {d : Nat} {l0 l1 l2 : Option mw_V} {st : List mw_V} {σ : mw_S} {Q : Option mw_V → mw_S → Prop} : mw_WP d 3 30 [l0, l1, l2] (jR 77 :: st) σ Q ↔ mw_WP d 3 33 [l0, l1, l2] (jI (σ 77 1) :: st) σ Q := WP_getI (ci := 0) (k := 1) mq3 dd3_30 (by decide) (Or.inl rfl)
theorem ww3_30i88 {d : Nat} {l0 l1 l2 : Option mw_V} {st : List mw_V} {σ : mw_S} {Q : Option mw_V → mw_S → Prop} : mw_WP d 3 30 [l0, l1, l2] (jR 88 :: st) σ Q ↔ mw_WP d 3 33 [l0, l1, l2] (jI (σ 88 1) :: st) σ Q := WP_getI (ci := 0) (k := 1) mq3 dd3_30 (by decide) (Or.inl rfl)
theorem dd3_33 : decode cX0_addPerson 33 = .ok (.iconst 1, 1) := by decide +kernel
theorem ww3_33 {d : Nat} {l0 l1 l2 : Option mw_V} {st : List mw_V} {σ : mw_S} {Q : Option mw_V → mw_S → Prop} : mw_WP d 3 33 [l0, l1, l2] st σ Q ↔ mw_WP d 3 34 [l0, l1, l2] (jI (1) :: st) σ Q := WP_iconst mq3 dd3_33 (by decide)
theorem dd3_34 : decode cX0_addPerson 34 = .ok (.iadd, 1) := by decide +kernel
theorem ww3_34 {d : Nat} {l0 l1 l2 : Option mw_V} {x y : Int} {st : List mw_V} {σ : mw_S} {Q : Option mw_V → mw_S → Prop} : mw_WP d 3 34 [l0, l1, l2] (jI y :: jI x :: st) σ Q ↔ mw_WP d 3 35 [l0, l1, l2] (jI (w32 (x + y)) :: st) σ Q := WP_iadd mq3 dd3_34
theorem dd3_35 : decode cX0_addPerson 35 = .ok (.putfield 40, 3) := by decide +kernel
theorem ww3_35i3 {d : Nat} {l0 l1 l2 : Option mw_V} {v : Int} {st : List mw_V} {σ : mw_S} {Q : Option mw_V → mw_S → Prop} : mw_WP d 3 35 [l0, l1, l2] (jI v :: jR 3 :: st) σ Q ↔ mw_WP d 3 38 [l0, l1, l2] st (upS σ 3 1 v) Q := WP_putI (ci := 0) (k := 1) mq3 dd3_35 (by decide) rfl
theorem ww3_35i13 {d : Nat} {l0 l1 l2 : Option mw_V} {v : Int} {st : List mw_V} {σ : mw_S} {Q : Option mw_V → mw_S → Prop} : mw_WP d 3 35 [l0, l1, l2] (jI v :: jR 13 :: st) σ Q ↔ mw_WP d 3 38 [l0, l1, l2] st (upS σ 13 1 v) Q := WP_putI (ci := 0) (k := 1) mq3 dd3_35 (by decide) rfl
theorem ww3_35i77 {d : Nat} {l0 l1 l2 : Option mw_V} {v : Int} {st : List mw_V} {σ : mw_S} {Q : Option mw_V → mw_S → Prop} : mw_WP d 3 35 [l0, l1, l2] (jI v :: jR 77 :: st) σ Q ↔ mw_WP d 3 38 [l0, l1, l2] st (upS σ 77 1 v) Q := WP_putI (ci := 0) (k := 1) mq3 dd3_35 (by decide) rfl
theorem ww3_35i88 {d : Nat} {l0 l1 l2 : Option mw_V} {v : Int} {st : List mw_V} {σ : mw_S} {Q : Option mw_V → mw_S → Prop} : mw_WP d 3 35 [l0, l1, l2] (jI v :: jR 88 :: st) σ Q ↔ mw_WP d 3 38 [l0, l1, l2] st (upS σ 88 1 v) Q := WP_putI (ci := 0) (k := 1) mq3 dd3_35 (by decide) rfl
theorem dd3_38 : decode cX0_addPerson 38 = .ok (.return_, 1) := by decide +kernel
theorem ww3_38 {d : Nat} {l0 l1 l2 : Option mw_V} {σ : mw_S} {Q : Option mw_V → mw_S → Prop} : mw_WP d 3 38 [l0, l1, l2] [] σ Q ↔ Q none σ := WP_return mq3 dd3_38 rfl
theorem ee4 {d : Nat} {a : Nat} {z0 : Int} {σ : mw_S} {Q : Option mw_V → mw_S → Prop} : mw_Call (d + 1) 4 [jR a, jI z0] σ Q ↔ mw_WP d 4 0 [some (jR a), some (jI z0)] [] σ Q := CL_u mq4 (Nat.le_of_ble_eq_true rfl) rfl
theorem dd4_0 : decode cX0_addThing 0 = .ok (.aload_n 0, 1) := by decide +kernel
theorem ww4_0 {d : Nat} {l1 : Option mw_V} {x : Nat} {st : List mw_V} {σ : mw_S} {Q : Option mw_V → mw_S → Prop} : mw_WP d 4 0 [some (jR x), l1] st σ Q ↔ mw_WP d 4 1 [some (jR x), l1] (jR x :: st) σ Q := WP_aload_n mq4 dd4_0 rfl
theorem dd4_1 : decode cX0_addThing 1 = .ok (.getfield 43, 3) := by decide +kernel
theorem ww4_1i3 {d : Nat} {l0 l1 : Option mw_V} {st : List mw_V} {σ : mw_S} {Q : Option mw_V → mw_S → Prop} : mw_WP d 4 1 [l0, l1] (jR 3 :: st) σ Q ↔ mw_WP d 4 4 [l0, l1] (jI (σ 3 2) :: st) σ Q := WP_getI (ci := 0) (k := 2) mq4 dd4_1 (by decide) (Or.inl rfl)
theorem ww4_1i13 {d : Nat} {l0 l1 : Option mw_V} {st : List mw_V} {σ : mw_S} {Q : Option mw_V → mw_S → Prop} : mw_WP d 4 1 [l0, l1] (jR 13 :: st) σ Q ↔ mw_WP d 4 4 [l0, l1] (jI (σ 13 2) :: st) σ Q := WP_getI (ci := 0) (k := 2) mq4 dd4_1 (by decide) (Or.inl rfl)
theorem ww4_1i77 {d : Nat} {l0 l1 : Option mw_V} {st : List mw_V} {σ : mw_S} {Q : Option mw_V → mw_S → Prop} : mw_WP d 4 1 [l0, l1] (jR 77 :: st) σ Q ↔ mw_WP d 4 4 [l0, l1] (jI (σ 77 2) :: st) σ Q := WP_getI (ci := 0) (k := 2) mq4 dd4_1 (by decide) (Or.inl rfl)
theorem ww4_1i88 {d : Nat} {l0 l1 : Option mw_V} {st : List mw_V} {σ : mw_S} {Q : Option mw_V → mw_S → Prop} : mw_WP d 4 1 [l0, l1] (jR 88 :: st) σ Q ↔ mw_WP d 4 4 [l0, l1] (jI (σ 88 2) :: st) σ Q := WP_getI (ci := 0) (k := 2) mq4 dd4_1 (by decide) (Or.inl rfl)
theorem dd4_4 : decode cX0_addThing 4 = .ok (.iconst 4, 1) := by decide +kernel
theorem ww4_4 {d : Nat} {l0 l1 : Option mw_V} {st : List mw_V} {σ : mw_S} {Q : Option mw_V → mw_S → Prop} : mw_WP d 4 4 [l0, l1] st σ Q ↔ mw_WP d 4 5 [l0, l1] (jI (4) :: st) σ Q := WP_iconst mq4 dd4_4 (by decide)
theorem dd4_5 : decode cX0_addThing 5 = .ok (.if_icmp .ge 23, 3) := by decide +kernel
theorem ww4_5 {d : Nat} {l0 l1 : Option mw_V} {x y : Int} {st : List mw_V} {σ : mw_S} {Q : Option mw_V → mw_S → Prop} : mw_WP d 4 5 [l0, l1] (jI y :: jI x :: st) σ Q ↔ (if y ≤ x then mw_WP d 4 28 [l0, l1] st σ Q else mw_WP d 4 8 [l0, l1] st σ Q) := WP_icmp_ge mq4 dd4_5 (by decide)
theorem dd4_8 : decode cX0_addThing 8 = .ok (.aload_n 0, 1) := by decide +kernel
theorem ww4_8 {d : Nat} {l1 : Option mw_V} {x : Nat} {st : List mw_V} {σ : mw_S} {Q : Option mw_V → mw_S → Prop} : mw_WP d 4 8 [some (jR x), l1] st σ Q ↔ mw_WP d 4 9 [some (jR x), l1] (jR x :: st) σ Q := WP_aload_n mq4 dd4_8 rfl
theorem dd4_9 : decode cX0_addThing 9 = .ok (.getfield 22, 3) := by decide +kernel
theorem ww4_9i3 {d : Nat} {l0 l1 : Option mw_V} {st : List mw_V} {σ : mw_S} {Q : Option mw_V → mw_S → Prop} : mw_WP d 4 9 [l0, l1] (jR 3 :: st) σ Q ↔ mw_WP d 4 12 [l0, l1] (jR 6 :: st) σ Q := WP_getR (ci := 0) (k := 9) mq4 dd4_9 (by decide) rfl
theorem ww4_9i13 {d : Nat} {l0 l1 : Option mw_V} {st : List mw_V} {σ : mw_S} {Q : Option mw_V → mw_S → Prop} : mw_WP d 4 9 [l0, l1] (jR 13 :: st) σ Q ↔ mw_WP d 4 12 [l0, l1] (jR 16 :: st) σ Q := WP_getR (ci := 0) (k := 9) mq4 dd4_9 (by decide) rfl
theorem ww4_9i77 {d : Nat} {l0 l1 : Option mw_V} {st : List mw_V} {σ : mw_S} {Q : Option mw_V → mw_S → Prop} : mw_WP d 4 9 [l0, l1] (jR 77 :: st) σ Q ↔ mw_WP d 4 12 [l0, l1] (jR 80 :: st) σ Q := WP_getR (ci := 0) (k := 9) mq4 dd4_9 (by decide) rfl
theorem ww4_9i88 {d : Nat} {l0 l1 : Option mw_V} {st : List mw_V} {σ : mw_S} {Q : Option mw_V → mw_S → Prop} : mw_WP d 4 9 [l0, l1] (jR 88 :: st) σ Q ↔ mw_WP d 4 12 [l0, l1] (jR 91 :: st) σ Q := WP_getR (ci := 0) (k := 9) mq4 dd4_9 (by decide) rfl
theorem dd4_12 : decode cX0_addThing 12 = .ok (.aload_n 0, 1) := by decide +kernel
theorem ww4_12 {d : Nat} {l1 : Option mw_V} {x : Nat} {st : List mw_V} {σ : mw_S} {Q : Option mw_V → mw_S → Prop} : mw_WP d 4 12 [some (jR x), l1] st σ Q ↔ mw_WP d 4 13 [some (jR x), l1] (jR x :: st) σ Q := WP_aload_n mq4 dd4_12 rfl
theorem dd4_13 : decode cX0_addThing 13 = .ok (.getfield 43, 3) := by decide +kernel
theorem ww4_13i3 {d : Nat} {l0 l1 : Option mw_V} {st : List mw_V} {σ : mw_S} {Q : Option mw_V → mw_S → Prop} : mw_WP d 4 13 [l0, l1] (jR 3 :: st) σ Q ↔ mw_WP d 4 16 [l0, l1] (jI (σ 3 2) :: st) σ Q := WP_getI (ci := 0) (k := 2) mq4 dd4_13 (by decide) (Or.inl rfl)
theorem ww4_13i13 {d : Nat} {l0 l1 : Option mw_V} {st : List mw_V} {σ : mw_S} {Q : Option mw_V → mw_S → Prop} : mw_WP d 4 13 [l0, l1] (jR 13 :: st) σ Q ↔ mw_WP d 4 16 [l0, l1] (jI (σ 13 2) :: st) σ Q := WP_getI (ci := 0) (k := 2) mq4 dd4_13 (by decide) (Or.inl rfl)
theorem ww4_13i77 {d : Nat} {l0 l1 : Option mw_V} {st : List mw_V} {σ : mw_S} {Q : Option mw_V → mw_S → Prop} : mw_WP d 4 13 [l0, l1] (jR 77 :: st) σ Q ↔ mw_WP d 4 16 [l0, l1] (jI (σ 77 2) :: st) σ Q := WP_getI (ci := 0) (k := 2) mq4 dd4_13 (by decide) (Or.inl rfl)
theorem ww4_13i88 {d : Nat} {l0 l1 : Option mw_V} {st : List mw_V} {σ : mw_S} {Q : Option mw_V → mw_S → Prop} : mw_WP d 4 13 [l0, l1] (jR 88 :: st) σ Q ↔ mw_WP d 4 16 [l0, l1] (jI (σ 88 2) :: st) σ Q := WP_getI (ci := 0) (k := 2) mq4 dd4_13 (by decide) (Or.inl rfl)
theorem dd4_16 : decode cX0_addThing 16 = .ok (.iload_n 1, 1) := by decide +kernel
theorem ww4_16 {d : Nat} {l0 : Option mw_V} {x : Int} {st : List mw_V} {σ : mw_S} {Q : Option mw_V → mw_S → Prop} : mw_WP d 4 16 [l0, some (jI x)] st σ Q ↔ mw_WP d 4 17 [l0, some (jI x)] (jI x :: st) σ Q := WP_iload_n mq4 dd4_16 rfl
theorem dd4_17 : decode cX0_addThing 17 = .ok (.iastore, 1) := by decide +kernel
theorem ww4_17 {d : Nat} {l0 l1 : Option mw_V} {x z : Int} {a : Nat} {st : List mw_V} {σ : mw_S} {Q : Option mw_V → mw_S → Prop} : mw_WP d 4 17 [l0, l1] (jI x :: jI z :: jR a :: st) σ Q ↔ ((0 ≤ z ∧ z < mw_lenW 0 a) ∧ mw_WP d 4 18 [l0, l1] st (upS σ a z.toNat x) Q) := WP_iastore mq4 dd4_17
theorem dd4_18 : decode cX0_addThing 18 = .ok (.aload_n 0, 1) := by decide +kernel
theorem ww4_18 {d : Nat} {l1 : Option mw_V} {x : Nat} {st : List mw_V} {σ : mw_S} {Q : Option mw_V → mw_S → Prop} : mw_WP d 4 18 [some (jR x), l1] st σ Q ↔ mw_WP d 4 19 [some (jR x), l1] (jR x :: st) σ Q := WP_aload_n mq4 dd4_18 rfl
theorem dd4_19 : decode cX0_addThing 19 = .ok (.dup, 1) := by decide +kernel
theorem ww4_19 {d : Nat} {l0 l1 : Option mw_V} {v : mw_V} {st : List mw_V} {σ : mw_S} {Q : Option mw_V → mw_S → Prop} (h : mw_cat v = 1) : mw_WP d 4 19 [l0, l1] (v :: st) σ Q ↔ mw_WP d 4 20 [l0, l1] (v :: v :: st) σ Q := WP_dup mq4 dd4_19 h
theorem dd4_20 : decode cX0_addThing 20 = .ok (.getfield 43, 3) := by decide +kernel
theorem ww4_20i3 {d : Nat} {l0 l1 : Option mw_V} {st : List mw_V} {σ : mw_S} {Q : Option mw_V → mw_S → Prop} : mw_WP d 4 20 [l0, l1] (jR 3 :: st) σ Q ↔ mw_WP d 4 23 [l0, l1] (jI (σ 3 2) :: st) σ Q := WP_getI (ci := 0) (k := 2) mq4 dd4_20 (by decide) (Or.inl rfl)
theorem ww4_20i13 {d : Nat} {l0 l1 : Option mw_V} {st : List mw_V} {σ : mw_S} {Q : Option mw_V → mw_S → Prop} : mw_WP d 4 20 [l0, l1] (jR 13 :: st) σ Q ↔ mw_WP d 4 23 [l0, l1] (jI (σ 13 2) :: st) σ Q := WP_getI (ci := 0) (k := 2) mq4 dd4_20 (by decide) (Or.inl rfl)
theorem ww4_20i77 {d : Nat} {l0 l1 : Option mw_V} {st : List mw_V} {σ : mw_S} {Q : Option mw_V → mw_S → Prop} : mw_WP d 4 20 [l0, l1] (jR 77 :: st) σ Q ↔ mw_WP d 4 23 [l0, l1] (jI (σ 77 2) :: st) σ Q := WP_getI (ci := 0) (k := 2) mq4 dd4_20 (by decide) (Or.inl rfl)
theorem ww4_20i88 {d : Nat} {l0 l1 : Option mw_V} {st : List mw_V} {σ : mw_S} {Q : Option mw_V → mw_S → Prop} : mw_WP d 4 20 [l0, l1] (jR 88 :: st) σ Q ↔ mw_WP d 4 23 [l0, l1] (jI (σ 88 2) :: st) σ Q := WP_getI (ci := 0) (k := 2) mq4 dd4_20 (by decide) (Or.inl rfl)
theorem dd4_23 : decode cX0_addThing 23 = .ok (.iconst 1, 1) := by decide +kernel
theorem ww4_23 {d : Nat} {l0 l1 : Option mw_V} {st : List mw_V} {σ : mw_S} {Q : Option mw_V → mw_S → Prop} : mw_WP d 4 23 [l0, l1] st σ Q ↔ mw_WP d 4 24 [l0, l1] (jI (1) :: st) σ Q := WP_iconst mq4 dd4_23 (by decide)
theorem dd4_24 : decode cX0_addThing 24 = .ok (.iadd, 1) := by decide +kernel
theorem ww4_24 {d : Nat} {l0 l1 : Option mw_V} {x y : Int} {st : List mw_V} {σ : mw_S} {Q : Option mw_V → mw_S → Prop} : mw_WP d 4 24 [l0, l1] (jI y :: jI x :: st) σ Q ↔ mw_WP d 4 25 [l0, l1] (jI (w32 (x + y)) :: st) σ Q := WP_iadd mq4 dd4_24
theorem dd4_25 : decode cX0_addThing 25 = .ok (.putfield 43, 3) := by decide +kernel
theorem ww4_25i3 {d : Nat} {l0 l1 : Option mw_V} {v : Int} {st : List mw_V} {σ : mw_S} {Q : Option mw_V → mw_S → Prop} : mw_WP d 4 25 [l0, l1] (jI v :: jR 3 :: st) σ Q ↔ mw_WP d 4 28 [l0, l1] st (upS σ 3 2 v) Q := WP_putI (ci := 0) (k := 2) mq4 dd4_25 (by decide) rfl
theorem ww4_25i13 {d : Nat} {l0 l1 : Option mw_V} {v : Int} {st : List mw_V} {σ : mw_S} {Q : Option mw_V → mw_S → Prop} : mw_WP d 4 25 [l0, l1] (jI v :: jR 13 :: st) σ Q ↔ mw_WP d 4 28 [l0, l1] st (upS σ 13 2 v) Q := WP_putI (ci := 0) (k := 2) mq4 dd4_25 (by decide) rfl
theorem ww4_25i77 {d : Nat} {l0 l1 : Option mw_V} {v : Int} {st : List mw_V} {σ : mw_S} {Q : Option mw_V → mw_S → Prop} : mw_WP d 4 25 [l0, l1] (jI v :: jR 77 :: st) σ Q ↔ mw_WP d 4 28 [l0, l1] st (upS σ 77 2 v) Q := WP_putI (ci := 0) (k := 2) mq4 dd4_25 (by decide) rfl
theorem ww4_25i88 {d : Nat} {l0 l1 : Option mw_V} {v : Int} {st : List mw_V} {σ : mw_S} {Q : Option mw_V → mw_S → Prop} : mw_WP d 4 25 [l0, l1] (jI v :: jR 88 :: st) σ Q ↔ mw_WP d 4 28 [l0, l1] st (upS σ 88 2 v) Q := WP_putI (ci := 0) (k := 2) mq4 dd4_25 (by decide) rfl
theorem dd4_28 : decode cX0_addThing 28 = .ok (.return_, 1) := by decide +kernel
theorem ww4_28 {d : Nat} {l0 l1 : Option mw_V} {σ : mw_S} {Q : Option mw_V → mw_S → Prop} : mw_WP d 4 28 [l0, l1] [] σ Q ↔ Q none σ := WP_return mq4 dd4_28 rfl
theorem ee5 {d : Nat} {a : Nat} {z0 : Int} {z1 : Int} {z2 : Int} {σ : mw_S} {Q : Option mw_V → mw_S → Prop} : mw_Call (d + 1) 5 [jR a, jI z0, jI z1, jI z2] σ Q ↔ mw_WP d 5 0 [some (jR a), some (jI z0), some (jI z1), some (jI z2)] [] σ Q := CL_u mq5 (Nat.le_of_ble_eq_true rfl) rfl
theorem dd5_0 : decode cX0_addRule 0 = .ok (.aload_n 0, 1) := by decide +kernel
theorem ww5_0 {d : Nat} {l1 l2 l3 : Option mw_V} {x : Nat} {st : List mw_V} {σ : mw_S} {Q : Option mw_V → mw_S → Prop} : mw_WP d 5 0 [some (jR x), l1, l2, l3] st σ Q ↔ mw_WP d 5 1 [some (jR x), l1, l2, l3] (jR x :: st) σ Q := WP_aload_n mq5 dd5_0 rfl
theorem dd5_1 : decode cX0_addRule 1 = .ok (.getfield 46, 3) := by decide +kernel
theorem ww5_1i3 {d : Nat} {l0 l1 l2 l3 : Option mw_V} {st : List mw_V} {σ : mw_S} {Q : Option mw_V → mw_S → Prop} : mw_WP d 5 1 [l0, l1, l2, l3] (jR 3 :: st) σ Q ↔ mw_WP d 5 4 [l0, l1, l2, l3] (jI (σ 3 3) :: st) σ Q := WP_getI (ci := 0) (k := 3) mq5 dd5_1 (by decide) (Or.inl rfl)
theorem ww5_1i13 {d : Nat} {l0 l1 l2 l3 : Option mw_V} {st : List mw_V} {σ : mw_S} {Q : Option mw_V → mw_S → Prop} : mw_WP d 5 1 [l0, l1, l2, l3] (jR 13 :: st) σ Q ↔ mw_WP d 5 4 [l0, l1, l2, l3] (jI (σ 13 3) :: st) σ Q := WP_getI (ci := 0) (k := 3) mq5 dd5_1 (by decide) (Or.inl rfl)
theorem ww5_1i77 {d : Nat} {l0 l1 l2 l3 : Option mw_V} {st : List mw_V} {σ : mw_S} {Q : Option mw_V → mw_S → Prop} : mw_WP d 5 1 [l0, l1, l2, l3] (jR 77 :: st) σ Q ↔ mw_WP d 5 4 [l0, l1, l2, l3] (jI (σ 77 3) :: st) σ Q := WP_getI (ci := 0) (k := 3) mq5 dd5_1 (by decide) (Or.inl rfl)
theorem ww5_1i88 {d : Nat} {l0 l1 l2 l3 : Option mw_V} {st : List mw_V} {σ : mw_S} {Q : Option mw_V → mw_S → Prop} : mw_WP d 5 1 [l0, l1, l2, l3] (jR 88 :: st) σ Q ↔ mw_WP d 5 4 [l0, l1, l2, l3] (jI (σ 88 3) :: st) σ Q := WP_getI (ci := 0) (k := 3) mq5 dd5_1 (by decide) (Or.inl rfl)
theorem dd5_4 : decode cX0_addRule 4 = .ok (.bipush 8, 2) := by decide +kernel
theorem ww5_4 {d : Nat} {l0 l1 l2 l3 : Option mw_V} {st : List mw_V} {σ : mw_S} {Q : Option mw_V → mw_S → Prop} : mw_WP d 5 4 [l0, l1, l2, l3] st σ Q ↔ mw_WP d 5 6 [l0, l1, l2, l3] (jI (8) :: st) σ Q := WP_bipush mq5 dd5_4 (by decide)
theorem dd5_6 : decode cX0_addRule 6 = .ok (.if_icmp .ge 56, 3) := by decide +kernel
theorem ww5_6 {d : Nat} {l0 l1 l2 l3 : Option mw_V} {x y : Int} {st : List mw_V} {σ : mw_S} {Q : Option mw_V → mw_S → Prop} : mw_WP d 5 6 [l0, l1, l2, l3] (jI y :: jI x :: st) σ Q ↔ (if y ≤ x then mw_WP d 5 62 [l0, l1, l2, l3] st σ Q else mw_WP d 5 9 [l0, l1, l2, l3] st σ Q) := WP_icmp_ge mq5 dd5_6 (by decide)
theorem dd5_9 : decode cX0_addRule 9 = .ok (.aload_n 0, 1) := by decide +kernel
theorem ww5_9 {d : Nat} {l1 l2 l3 : Option mw_V} {x : Nat} {st : List mw_V} {σ : mw_S} {Q : Option mw_V → mw_S → Prop} : mw_WP d 5 9 [some (jR x), l1, l2, l3] st σ Q ↔ mw_WP d 5 10 [some (jR x), l1, l2, l3] (jR x :: st) σ Q := WP_aload_n mq5 dd5_9 rfl
theorem dd5_10 : decode cX0_addRule 10 = .ok (.getfield 25, 3) := by decide +kernel
theorem ww5_10i3 {d : Nat} {l0 l1 l2 l3 : Option mw_V} {st : List mw_V} {σ : mw_S} {Q : Option mw_V → mw_S → Prop} : mw_WP d 5 10 [l0, l1, l2, l3] (jR 3 :: st) σ Q ↔ mw_WP d 5 13 [l0, l1, l2, l3] (jR 7 :: st) σ Q := WP_getR (ci := 0) (k := 10) mq5 dd5_10 (by decide) rfl
theorem ww5_10i13 {d : Nat} {l0 l1 l2 l3 : Option mw_V} {st : List mw_V} {σ : mw_S} {Q : Option mw_V → mw_S → Prop} : mw_WP d 5 10 [l0, l1, l2, l3] (jR 13 :: st) σ Q ↔ mw_WP d 5 13 [l0, l1, l2, l3] (jR 17 :: st) σ Q := WP_getR (ci := 0) (k := 10) mq5 dd5_10 (by decide) rfl
theorem ww5_10i77 {d : Nat} {l0 l1 l2 l3 : Option mw_V} {st : List mw_V} {σ : mw_S} {Q : Option mw_V → mw_S → Prop} : mw_WP d 5 10 [l0, l1, l2, l3] (jR 77 :: st) σ Q ↔ mw_WP d 5 13 [l0, l1, l2, l3] (jR 81 :: st) σ Q := WP_getR (ci := 0) (k := 10) mq5 dd5_10 (by decide) rfl
theorem ww5_10i88 {d : Nat} {l0 l1 l2 l3 : Option mw_V} {st : List mw_V} {σ : mw_S} {Q : Option mw_V → mw_S → Prop} : mw_WP d 5 10 [l0, l1, l2, l3] (jR 88 :: st) σ Q ↔ mw_WP d 5 13 [l0, l1, l2, l3] (jR 92 :: st) σ Q := WP_getR (ci := 0) (k := 10) mq5 dd5_10 (by decide) rfl
theorem dd5_13 : decode cX0_addRule 13 = .ok (.aload_n 0, 1) := by decide +kernel
theorem ww5_13 {d : Nat} {l1 l2 l3 : Option mw_V} {x : Nat} {st : List mw_V} {σ : mw_S} {Q : Option mw_V → mw_S → Prop} : mw_WP d 5 13 [some (jR x), l1, l2, l3] st σ Q ↔ mw_WP d 5 14 [some (jR x), l1, l2, l3] (jR x :: st) σ Q := WP_aload_n mq5 dd5_13 rfl
theorem dd5_14 : decode cX0_addRule 14 = .ok (.getfield 46, 3) := by decide +kernel
theorem ww5_14i3 {d : Nat} {l0 l1 l2 l3 : Option mw_V} {st : List mw_V} {σ : mw_S} {Q : Option mw_V → mw_S → Prop} : mw_WP d 5 14 [l0, l1, l2, l3] (jR 3 :: st) σ Q ↔ mw_WP d 5 17 [l0, l1, l2, l3] (jI (σ 3 3) :: st) σ Q := WP_getI (ci := 0) (k := 3) mq5 dd5_14 (by decide) (Or.inl rfl)
theorem ww5_14i13 {d : Nat} {l0 l1 l2 l3 : Option mw_V} {st : List mw_V} {σ : mw_S} {Q : Option mw_V → mw_S → Prop} : mw_WP d 5 14 [l0, l1, l2, l3] (jR 13 :: st) σ Q ↔ mw_WP d 5 17 [l0, l1, l2, l3] (jI (σ 13 3) :: st) σ Q := WP_getI (ci := 0) (k := 3) mq5 dd5_14 (by decide) (Or.inl rfl)
theorem ww5_14i77 {d : Nat} {l0 l1 l2 l3 : Option mw_V} {st : List mw_V} {σ : mw_S} {Q : Option mw_V → mw_S → Prop} : mw_WP d 5 14 [l0, l1, l2, l3] (jR 77 :: st) σ Q ↔ mw_WP d 5 17 [l0, l1, l2, l3] (jI (σ 77 3) :: st) σ Q := WP_getI (ci := 0) (k := 3) mq5 dd5_14 (by decide) (Or.inl rfl)
theorem ww5_14i88 {d : Nat} {l0 l1 l2 l3 : Option mw_V} {st : List mw_V} {σ : mw_S} {Q : Option mw_V → mw_S → Prop} : mw_WP d 5 14 [l0, l1, l2, l3] (jR 88 :: st) σ Q ↔ mw_WP d 5 17 [l0, l1, l2, l3] (jI (σ 88 3) :: st) σ Q := WP_getI (ci := 0) (k := 3) mq5 dd5_14 (by decide) (Or.inl rfl)
theorem dd5_17 : decode cX0_addRule 17 = .ok (.iload_n 1, 1) := by decide +kernel
theorem ww5_17 {d : Nat} {l0 l2 l3 : Option mw_V} {x : Int} {st : List mw_V} {σ : mw_S} {Q : Option mw_V → mw_S → Prop} : mw_WP d 5 17 [l0, some (jI x), l2, l3] st σ Q ↔ mw_WP d 5 18 [l0, some (jI x), l2, l3] (jI x :: st) σ Q := WP_iload_n mq5 dd5_17 rfl
theorem dd5_18 : decode cX0_addRule 18 = .ok (.iastore, 1) := by decide +kernel
theorem ww5_18 {d : Nat} {l0 l1 l2 l3 : Option mw_V} {x z : Int} {a : Nat} {st : List mw_V} {σ : mw_S} {Q : Option mw_V → mw_S → Prop} : mw_WP d 5 18 [l0, l1, l2, l3] (jI x :: jI z :: jR a :: st) σ Q ↔ ((0 ≤ z ∧ z < mw_lenW 0 a) ∧ mw_WP d 5 19 [l0, l1, l2, l3] st (upS σ a z.toNat x) Q) := WP_iastore mq5 dd5_18
theorem dd5_19 : decode cX0_addRule 19 = .ok (.aload_n 0, 1) := by decide +kernel
theorem ww5_19 {d : Nat} {l1 l2 l3 : Option mw_V} {x : Nat} {st : List mw_V} {σ : mw_S} {Q : Option mw_V → mw_S → Prop} : mw_WP d 5 19 [some (jR x), l1, l2, l3] st σ Q ↔ mw_WP d 5 20 [some (jR x), l1, l2, l3] (jR x :: st) σ Q := WP_aload_n mq5 dd5_19 rfl
theorem dd5_20 : decode cX0_addRule 20 = .ok (.getfield 28, 3) := by decide +kernel
theorem ww5_20i3 {d : Nat} {l0 l1 l2 l3 : Option mw_V} {st : List mw_V} {σ : mw_S} {Q : Option mw_V → mw_S → Prop} : mw_WP d 5 20 [l0, l1, l2, l3] (jR 3 :: st) σ Q ↔ mw_WP d 5 23 [l0, l1, l2, l3] (jR 8 :: st) σ Q := WP_getR (ci := 0) (k := 11) mq5 dd5_20 (by decide) rfl
theorem ww5_20i13 {d : Nat} {l0 l1 l2 l3 : Option mw_V} {st : List mw_V} {σ : mw_S} {Q : Option mw_V → mw_S → Prop} : mw_WP d 5 20 [l0, l1, l2, l3] (jR 13 :: st) σ Q ↔ mw_WP d 5 23 [l0, l1, l2, l3] (jR 18 :: st) σ Q := WP_getR (ci := 0) (k := 11) mq5 dd5_20 (by decide) rfl
theorem ww5_20i77 {d : Nat} {l0 l1 l2 l3 : Option mw_V} {st : List mw_V} {σ : mw_S} {Q : Option mw_V → mw_S → Prop} : mw_WP d 5 20 [l0, l1, l2, l3] (jR 77 :: st) σ Q ↔ mw_WP d 5 23 [l0, l1, l2, l3] (jR 82 :: st) σ Q := WP_getR (ci := 0) (k := 11) mq5 dd5_20 (by decide) rfl
theorem ww5_20i88 {d : Nat} {l0 l1 l2 l3 : Option mw_V} {st : List mw_V} {σ : mw_S} {Q : Option mw_V → mw_S → Prop} : mw_WP d 5 20 [l0, l1, l2, l3] (jR 88 :: st) σ Q ↔ mw_WP d 5 23 [l0, l1, l2, l3] (jR 93 :: st) σ Q := WP_getR (ci := 0) (k := 11) mq5 dd5_20 (by decide) rfl
theorem dd5_23 : decode cX0_addRule 23 = .ok (.aload_n 0, 1) := by decide +kernel
theorem ww5_23 {d : Nat} {l1 l2 l3 : Option mw_V} {x : Nat} {st : List mw_V} {σ : mw_S} {Q : Option mw_V → mw_S → Prop} : mw_WP d 5 23 [some (jR x), l1, l2, l3] st σ Q ↔ mw_WP d 5 24 [some (jR x), l1, l2, l3] (jR x :: st) σ Q := WP_aload_n mq5 dd5_23 rfl
theorem dd5_24 : decode cX0_addRule 24 = .ok (.getfield 46, 3) := by decide +kernel
theorem ww5_24i3 {d : Nat} {l0 l1 l2 l3 : Option mw_V} {st : List mw_V} {σ : mw_S} {Q : Option mw_V → mw_S → Prop} : mw_WP d 5 24 [l0, l1, l2, l3] (jR 3 :: st) σ Q ↔ mw_WP d 5 27 [l0, l1, l2, l3] (jI (σ 3 3) :: st) σ Q := WP_getI (ci := 0) (k := 3) mq5 dd5_24 (by decide) (Or.inl rfl)
theorem ww5_24i13 {d : Nat} {l0 l1 l2 l3 : Option mw_V} {st : List mw_V} {σ : mw_S} {Q : Option mw_V → mw_S → Prop} : mw_WP d 5 24 [l0, l1, l2, l3] (jR 13 :: st) σ Q ↔ mw_WP d 5 27 [l0, l1, l2, l3] (jI (σ 13 3) :: st) σ Q := WP_getI (ci := 0) (k := 3) mq5 dd5_24 (by decide) (Or.inl rfl)
theorem ww5_24i77 {d : Nat} {l0 l1 l2 l3 : Option mw_V} {st : List mw_V} {σ : mw_S} {Q : Option mw_V → mw_S → Prop} : mw_WP d 5 24 [l0, l1, l2, l3] (jR 77 :: st) σ Q ↔ mw_WP d 5 27 [l0, l1, l2, l3] (jI (σ 77 3) :: st) σ Q := WP_getI (ci := 0) (k := 3) mq5 dd5_24 (by decide) (Or.inl rfl)
theorem ww5_24i88 {d : Nat} {l0 l1 l2 l3 : Option mw_V} {st : List mw_V} {σ : mw_S} {Q : Option mw_V → mw_S → Prop} : mw_WP d 5 24 [l0, l1, l2, l3] (jR 88 :: st) σ Q ↔ mw_WP d 5 27 [l0, l1, l2, l3] (jI (σ 88 3) :: st) σ Q := WP_getI (ci := 0) (k := 3) mq5 dd5_24 (by decide) (Or.inl rfl)
theorem dd5_27 : decode cX0_addRule 27 = .ok (.iload_n 2, 1) := by decide +kernel
theorem ww5_27 {d : Nat} {l0 l1 l3 : Option mw_V} {x : Int} {st : List mw_V} {σ : mw_S} {Q : Option mw_V → mw_S → Prop} : mw_WP d 5 27 [l0, l1, some (jI x), l3] st σ Q ↔ mw_WP d 5 28 [l0, l1, some (jI x), l3] (jI x :: st) σ Q := WP_iload_n mq5 dd5_27 rfl
theorem dd5_28 : decode cX0_addRule 28 = .ok (.iastore, 1) := by decide +kernel
theorem ww5_28 {d : Nat} {l0 l1 l2 l3 : Option mw_V} {x z : Int} {a : Nat} {st : List mw_V} {σ : mw_S} {Q : Option mw_V → mw_S → Prop} : mw_WP d 5 28 [l0, l1, l2, l3] (jI x :: jI z :: jR a :: st) σ Q ↔ ((0 ≤ z ∧ z < mw_lenW 0 a) ∧ mw_WP d 5 29 [l0, l1, l2, l3] st (upS σ a z.toNat x) Q) := WP_iastore mq5 dd5_28
theorem dd5_29 : decode cX0_addRule 29 = .ok (.aload_n 0, 1) := by decide +kernel
theorem ww5_29 {d : Nat} {l1 l2 l3 : Option mw_V} {x : Nat} {st : List mw_V} {σ : mw_S} {Q : Option mw_V → mw_S → Prop} : mw_WP d 5 29 [some (jR x), l1, l2, l3] st σ Q ↔ mw_WP d 5 30 [some (jR x), l1, l2, l3] (jR x :: st) σ Q := WP_aload_n mq5 dd5_29 rfl
theorem dd5_30 : decode cX0_addRule 30 = .ok (.getfield 31, 3) := by decide +kernel
theorem ww5_30i3 {d : Nat} {l0 l1 l2 l3 : Option mw_V} {st : List mw_V} {σ : mw_S} {Q : Option mw_V → mw_S → Prop} : mw_WP d 5 30 [l0, l1, l2, l3] (jR 3 :: st) σ Q ↔ mw_WP d 5 33 [l0, l1, l2, l3] (jR 9 :: st) σ Q := WP_getR (ci := 0) (k := 12) mq5 dd5_30 (by decide) rfl
theorem ww5_30i13 {d : Nat} {l0 l1 l2 l3 : Option mw_V} {st : List mw_V} {σ : mw_S} {Q : Option mw_V → mw_S → Prop} : mw_WP d 5 30 [l0, l1, l2, l3] (jR 13 :: st) σ Q ↔ mw_WP d 5 33 [l0, l1, l2, l3] (jR 19 :: st) σ Q := WP_getR (ci := 0) (k := 12) mq5 dd5_30 (by decide) rfl
theorem ww5_30i77 {d : Nat} {l0 l1 l2 l3 : Option mw_V} {st : List mw_V} {σ : mw_S} {Q : Option mw_V → mw_S → Prop} : mw_WP d 5 30 [l0, l1, l2, l3] (jR 77 :: st) σ Q ↔ mw_WP d 5 33 [l0, l1, l2, l3] (jR 83 :: st) σ Q := WP_getR (ci := 0) (k := 12) mq5 dd5_30 (by decide) rfl
theorem ww5_30i88 {d : Nat} {l0 l1 l2 l3 : Option mw_V} {st : List mw_V} {σ : mw_S} {Q : Option mw_V → mw_S → Prop} : mw_WP d 5 30 [l0, l1, l2, l3] (jR 88 :: st) σ Q ↔ mw_WP d 5 33 [l0, l1, l2, l3] (jR 94 :: st) σ Q := WP_getR (ci := 0) (k := 12) mq5 dd5_30 (by decide) rfl
theorem dd5_33 : decode cX0_addRule 33 = .ok (.aload_n 0, 1) := by decide +kernel
theorem ww5_33 {d : Nat} {l1 l2 l3 : Option mw_V} {x : Nat} {st : List mw_V} {σ : mw_S} {Q : Option mw_V → mw_S → Prop} : mw_WP d 5 33 [some (jR x), l1, l2, l3] st σ Q ↔ mw_WP d 5 34 [some (jR x), l1, l2, l3] (jR x :: st) σ Q := WP_aload_n mq5 dd5_33 rfl
theorem dd5_34 : decode cX0_addRule 34 = .ok (.getfield 46, 3) := by decide +kernel
theorem ww5_34i3 {d : Nat} {l0 l1 l2 l3 : Option mw_V} {st : List mw_V} {σ : mw_S} {Q : Option mw_V → mw_S → Prop} : mw_WP d 5 34 [l0, l1, l2, l3] (jR 3 :: st) σ Q ↔ mw_WP d 5 37 [l0, l1, l2, l3] (jI (σ 3 3) :: st) σ Q := WP_getI (ci := 0) (k := 3) mq5 dd5_34 (by decide) (Or.inl rfl)
theorem ww5_34i13 {d : Nat} {l0 l1 l2 l3 : Option mw_V} {st : List mw_V} {σ : mw_S} {Q : Option mw_V → mw_S → Prop} : mw_WP d 5 34 [l0, l1, l2, l3] (jR 13 :: st) σ Q ↔ mw_WP d 5 37 [l0, l1, l2, l3] (jI (σ 13 3) :: st) σ Q := WP_getI (ci := 0) (k := 3) mq5 dd5_34 (by decide) (Or.inl rfl)
theorem ww5_34i77 {d : Nat} {l0 l1 l2 l3 : Option mw_V} {st : List mw_V} {σ : mw_S} {Q : Option mw_V → mw_S → Prop} : mw_WP d 5 34 [l0, l1, l2, l3] (jR 77 :: st) σ Q ↔ mw_WP d 5 37 [l0, l1, l2, l3] (jI (σ 77 3) :: st) σ Q := WP_getI (ci := 0) (k := 3) mq5 dd5_34 (by decide) (Or.inl rfl)
theorem ww5_34i88 {d : Nat} {l0 l1 l2 l3 : Option mw_V} {st : List mw_V} {σ : mw_S} {Q : Option mw_V → mw_S → Prop} : mw_WP d 5 34 [l0, l1, l2, l3] (jR 88 :: st) σ Q ↔ mw_WP d 5 37 [l0, l1, l2, l3] (jI (σ 88 3) :: st) σ Q := WP_getI (ci := 0) (k := 3) mq5 dd5_34 (by decide) (Or.inl rfl)
theorem dd5_37 : decode cX0_addRule 37 = .ok (.aload_n 0, 1) := by decide +kernel
theorem ww5_37 {d : Nat} {l1 l2 l3 : Option mw_V} {x : Nat} {st : List mw_V} {σ : mw_S} {Q : Option mw_V → mw_S → Prop} : mw_WP d 5 37 [some (jR x), l1, l2, l3] st σ Q ↔ mw_WP d 5 38 [some (jR x), l1, l2, l3] (jR x :: st) σ Q := WP_aload_n mq5 dd5_37 rfl
theorem dd5_38 : decode cX0_addRule 38 = .ok (.getfield 55, 3) := by decide +kernel
theorem ww5_38i3 {d : Nat} {l0 l1 l2 l3 : Option mw_V} {st : List mw_V} {σ : mw_S} {Q : Option mw_V → mw_S → Prop} : mw_WP d 5 38 [l0, l1, l2, l3] (jR 3 :: st) σ Q ↔ mw_WP d 5 41 [l0, l1, l2, l3] (jI (σ 3 6) :: st) σ Q := WP_getI (ci := 0) (k := 6) mq5 dd5_38 (by decide) (Or.inl rfl)
theorem ww5_38i13 {d : Nat} {l0 l1 l2 l3 : Option mw_V} {st : List mw_V} {σ : mw_S} {Q : Option mw_V → mw_S → Prop} : mw_WP d 5 38 [l0, l1, l2, l3] (jR 13 :: st) σ Q ↔ mw_WP d 5 41 [l0, l1, l2, l3] (jI (σ 13 6) :: st) σ Q := WP_getI (ci := 0) (k := 6) mq5 dd5_38 (by decide) (Or.inl rfl)
theorem ww5_38i77 {d : Nat} {l0 l1 l2 l3 : Option mw_V} {st : List mw_V} {σ : mw_S} {Q : Option mw_V → mw_S → Prop} : mw_WP d 5 38 [l0, l1, l2, l3] (jR 77 :: st) σ Q ↔ mw_WP d 5 41 [l0, l1, l2, l3] (jI (σ 77 6) :: st) σ Q := WP_getI (ci := 0) (k := 6) mq5 dd5_38 (by decide) (Or.inl rfl)
theorem ww5_38i88 {d : Nat} {l0 l1 l2 l3 : Option mw_V} {st : List mw_V} {σ : mw_S} {Q : Option mw_V → mw_S → Prop} : mw_WP d 5 38 [l0, l1, l2, l3] (jR 88 :: st) σ Q ↔ mw_WP d 5 41 [l0, l1, l2, l3] (jI (σ 88 6) :: st) σ Q := WP_getI (ci := 0) (k := 6) mq5 dd5_38 (by decide) (Or.inl rfl)
theorem dd5_41 : decode cX0_addRule 41 = .ok (.iastore, 1) := by decide +kernel
theorem ww5_41 {d : Nat} {l0 l1 l2 l3 : Option mw_V} {x z : Int} {a : Nat} {st : List mw_V} {σ : mw_S} {Q : Option mw_V → mw_S → Prop} : mw_WP d 5 41 [l0, l1, l2, l3] (jI x :: jI z :: jR a :: st) σ Q ↔ ((0 ≤ z ∧ z < mw_lenW 0 a) ∧ mw_WP d 5 42 [l0, l1, l2, l3] st (upS σ a z.toNat x) Q) := WP_iastore mq5 dd5_41
theorem dd5_42 : decode cX0_addRule 42 = .ok (.aload_n 0, 1) := by decide +kernel
theorem ww5_42 {d : Nat} {l1 l2 l3 : Option mw_V} {x : Nat} {st : List mw_V} {σ : mw_S} {Q : Option mw_V → mw_S → Prop} : mw_WP d 5 42 [some (jR x), l1, l2, l3] st σ Q ↔ mw_WP d 5 43 [some (jR x), l1, l2, l3] (jR x :: st) σ Q := WP_aload_n mq5 dd5_42 rfl
theorem dd5_43 : decode cX0_addRule 43 = .ok (.getfield 34, 3) := by decide +kernel
theorem ww5_43i3 {d : Nat} {l0 l1 l2 l3 : Option mw_V} {st : List mw_V} {σ : mw_S} {Q : Option mw_V → mw_S → Prop} : mw_WP d 5 43 [l0, l1, l2, l3] (jR 3 :: st) σ Q ↔ mw_WP d 5 46 [l0, l1, l2, l3] (jR 10 :: st) σ Q := WP_getR (ci := 0) (k := 13) mq5 dd5_43 (by decide) rfl
theorem ww5_43i13 {d : Nat} {l0 l1 l2 l3 : Option mw_V} {st : List mw_V} {σ : mw_S} {Q : Option mw_V → mw_S → Prop} : mw_WP d 5 43 [l0, l1, l2, l3] (jR 13 :: st) σ Q ↔ mw_WP d 5 46 [l0, l1, l2, l3] (jR 20 :: st) σ Q := WP_getR (ci := 0) (k := 13) mq5 dd5_43 (by decide) rfl
theorem ww5_43i77 {d : Nat} {l0 l1 l2 l3 : Option mw_V} {st : List mw_V} {σ : mw_S} {Q : Option mw_V → mw_S → Prop} : mw_WP d 5 43 [l0, l1, l2, l3] (jR 77 :: st) σ Q ↔ mw_WP d 5 46 [l0, l1, l2, l3] (jR 84 :: st) σ Q := WP_getR (ci := 0) (k := 13) mq5 dd5_43 (by decide) rfl
theorem ww5_43i88 {d : Nat} {l0 l1 l2 l3 : Option mw_V} {st : List mw_V} {σ : mw_S} {Q : Option mw_V → mw_S → Prop} : mw_WP d 5 43 [l0, l1, l2, l3] (jR 88 :: st) σ Q ↔ mw_WP d 5 46 [l0, l1, l2, l3] (jR 95 :: st) σ Q := WP_getR (ci := 0) (k := 13) mq5 dd5_43 (by decide) rfl
theorem dd5_46 : decode cX0_addRule 46 = .ok (.aload_n 0, 1) := by decide +kernel
theorem ww5_46 {d : Nat} {l1 l2 l3 : Option mw_V} {x : Nat} {st : List mw_V} {σ : mw_S} {Q : Option mw_V → mw_S → Prop} : mw_WP d 5 46 [some (jR x), l1, l2, l3] st σ Q ↔ mw_WP d 5 47 [some (jR x), l1, l2, l3] (jR x :: st) σ Q := WP_aload_n mq5 dd5_46 rfl
theorem dd5_47 : decode cX0_addRule 47 = .ok (.getfield 46, 3) := by decide +kernel
theorem ww5_47i3 {d : Nat} {l0 l1 l2 l3 : Option mw_V} {st : List mw_V} {σ : mw_S} {Q : Option mw_V → mw_S → Prop} : mw_WP d 5 47 [l0, l1, l2, l3] (jR 3 :: st) σ Q ↔ mw_WP d 5 50 [l0, l1, l2, l3] (jI (σ 3 3) :: st) σ Q := WP_getI (ci := 0) (k := 3) mq5 dd5_47 (by decide) (Or.inl rfl)
theorem ww5_47i13 {d : Nat} {l0 l1 l2 l3 : Option mw_V} {st : List mw_V} {σ : mw_S} {Q : Option mw_V → mw_S → Prop} : mw_WP d 5 47 [l0, l1, l2, l3] (jR 13 :: st) σ Q ↔ mw_WP d 5 50 [l0, l1, l2, l3] (jI (σ 13 3) :: st) σ Q := WP_getI (ci := 0) (k := 3) mq5 dd5_47 (by decide) (Or.inl rfl)
theorem ww5_47i77 {d : Nat} {l0 l1 l2 l3 : Option mw_V} {st : List mw_V} {σ : mw_S} {Q : Option mw_V → mw_S → Prop} : mw_WP d 5 47 [l0, l1, l2, l3] (jR 77 :: st) σ Q ↔ mw_WP d 5 50 [l0, l1, l2, l3] (jI (σ 77 3) :: st) σ Q := WP_getI (ci := 0) (k := 3) mq5 dd5_47 (by decide) (Or.inl rfl)
theorem ww5_47i88 {d : Nat} {l0 l1 l2 l3 : Option mw_V} {st : List mw_V} {σ : mw_S} {Q : Option mw_V → mw_S → Prop} : mw_WP d 5 47 [l0, l1, l2, l3] (jR 88 :: st) σ Q ↔ mw_WP d 5 50 [l0, l1, l2, l3] (jI (σ 88 3) :: st) σ Q := WP_getI (ci := 0) (k := 3) mq5 dd5_47 (by decide) (Or.inl rfl)
theorem dd5_50 : decode cX0_addRule 50 = .ok (.iload_n 3, 1) := by decide +kernel
theorem ww5_50 {d : Nat} {l0 l1 l2 : Option mw_V} {x : Int} {st : List mw_V} {σ : mw_S} {Q : Option mw_V → mw_S → Prop} : mw_WP d 5 50 [l0, l1, l2, some (jI x)] st σ Q ↔ mw_WP d 5 51 [l0, l1, l2, some (jI x)] (jI x :: st) σ Q := WP_iload_n mq5 dd5_50 rfl
theorem dd5_51 : decode cX0_addRule 51 = .ok (.iastore, 1) := by decide +kernel
theorem ww5_51 {d : Nat} {l0 l1 l2 l3 : Option mw_V} {x z : Int} {a : Nat} {st : List mw_V} {σ : mw_S} {Q : Option mw_V → mw_S → Prop} : mw_WP d 5 51 [l0, l1, l2, l3] (jI x :: jI z :: jR a :: st) σ Q ↔ ((0 ≤ z ∧ z < mw_lenW 0 a) ∧ mw_WP d 5 52 [l0, l1, l2, l3] st (upS σ a z.toNat x) Q) := WP_iastore mq5 dd5_51
theorem dd5_52 : decode cX0_addRule 52 = .ok (.aload_n 0, 1) := by decide +kernel
theorem ww5_52 {d : Nat} {l1 l2 l3 : Option mw_V} {x : Nat} {st : List mw_V} {σ : mw_S} {Q : Option mw_V → mw_S → Prop} : mw_WP d 5 52 [some (jR x), l1, l2, l3] st σ Q ↔ mw_WP d 5 53 [some (jR x), l1, l2, l3] (jR x :: st) σ Q := WP_aload_n mq5 dd5_52 rfl
theorem dd5_53 : decode cX0_addRule 53 = .ok (.dup, 1) := by decide +kernel
theorem ww5_53 {d : Nat} {l0 l1 l2 l3 : Option mw_V} {v : mw_V} {st : List mw_V} {σ : mw_S} {Q : Option mw_V → mw_S → Prop} (h : mw_cat v = 1) : mw_WP d 5 53 [l0, l1, l2, l3] (v :: st) σ Q ↔ mw_WP d 5 54 [l0, l1, l2, l3] (v :: v :: st) σ Q := WP_dup mq5 dd5_53 h
theorem dd5_54 : decode cX0_addRule 54 = .ok (.getfield 46, 3) := by decide +kernel
theorem ww5_54i3 {d : Nat} {l0 l1 l2 l3 : Option mw_V} {st : List mw_V} {σ : mw_S} {Q : Option mw_V → mw_S → Prop} : mw_WP d 5 54 [l0, l1, l2, l3] (jR 3 :: st) σ Q ↔ mw_WP d 5 57 [l0, l1, l2, l3] (jI (σ 3 3) :: st) σ Q := WP_getI (ci := 0) (k := 3) mq5 dd5_54 (by decide) (Or.inl rfl)
theorem ww5_54i13 {d : Nat} {l0 l1 l2 l3 : Option mw_V} {st : List mw_V} {σ : mw_S} {Q : Option mw_V → mw_S → Prop} : mw_WP d 5 54 [l0, l1, l2, l3] (jR 13 :: st) σ Q ↔ mw_WP d 5 57 [l0, l1, l2, l3] (jI (σ 13 3) :: st) σ Q := WP_getI (ci := 0) (k := 3) mq5 dd5_54 (by decide) (Or.inl rfl)
theorem ww5_54i77 {d : Nat} {l0 l1 l2 l3 : Option mw_V} {st : List mw_V} {σ : mw_S} {Q : Option mw_V → mw_S → Prop} : mw_WP d 5 54 [l0, l1, l2, l3] (jR 77 :: st) σ Q ↔ mw_WP d 5 57 [l0, l1, l2, l3] (jI (σ 77 3) :: st) σ Q := WP_getI (ci := 0) (k := 3) mq5 dd5_54 (by decide) (Or.inl rfl)
theorem ww5_54i88 {d : Nat} {l0 l1 l2 l3 : Option mw_V} {st : List mw_V} {σ : mw_S} {Q : Option mw_V → mw_S → Prop} : mw_WP d 5 54 [l0, l1, l2, l3] (jR 88 :: st) σ Q ↔ mw_WP d 5 57 [l0, l1, l2, l3] (jI (σ 88 3) :: st) σ Q := WP_getI (ci := 0) (k := 3) mq5 dd5_54 (by decide) (Or.inl rfl)
theorem dd5_57 : decode cX0_addRule 57 = .ok (.iconst 1, 1) := by decide +kernel
theorem ww5_57 {d : Nat} {l0 l1 l2 l3 : Option mw_V} {st : List mw_V} {σ : mw_S} {Q : Option mw_V → mw_S → Prop} : mw_WP d 5 57 [l0, l1, l2, l3] st σ Q ↔ mw_WP d 5 58 [l0, l1, l2, l3] (jI (1) :: st) σ Q := WP_iconst mq5 dd5_57 (by decide)
theorem dd5_58 : decode cX0_addRule 58 = .ok (.iadd, 1) := by decide +kernel
theorem ww5_58 {d : Nat} {l0 l1 l2 l3 : Option mw_V} {x y : Int} {st : List mw_V} {σ : mw_S} {Q : Option mw_V → mw_S → Prop} : mw_WP d 5 58 [l0, l1, l2, l3] (jI y :: jI x :: st) σ Q ↔ mw_WP d 5 59 [l0, l1, l2, l3] (jI (w32 (x + y)) :: st) σ Q := WP_iadd mq5 dd5_58
theorem dd5_59 : decode cX0_addRule 59 = .ok (.putfield 46, 3) := by decide +kernel
theorem ww5_59i3 {d : Nat} {l0 l1 l2 l3 : Option mw_V} {v : Int} {st : List mw_V} {σ : mw_S} {Q : Option mw_V → mw_S → Prop} : mw_WP d 5 59 [l0, l1, l2, l3] (jI v :: jR 3 :: st) σ Q ↔ mw_WP d 5 62 [l0, l1, l2, l3] st (upS σ 3 3 v) Q := WP_putI (ci := 0) (k := 3) mq5 dd5_59 (by decide) rfl
theorem ww5_59i13 {d : Nat} {l0 l1 l2 l3 : Option mw_V} {v : Int} {st : List mw_V} {σ : mw_S} {Q : Option mw_V → mw_S → Prop} : mw_WP d 5 59 [l0, l1, l2, l3] (jI v :: jR 13 :: st) σ Q ↔ mw_WP d 5 62 [l0, l1, l2, l3] st (upS σ 13 3 v) Q := WP_putI (ci := 0) (k := 3) mq5 dd5_59 (by decide) rfl
theorem ww5_59i77 {d : Nat} {l0 l1 l2 l3 : Option mw_V} {v : Int} {st : List mw_V} {σ : mw_S} {Q : Option mw_V → mw_S → Prop} : mw_WP d 5 59 [l0, l1, l2, l3] (jI v :: jR 77 :: st) σ Q ↔ mw_WP d 5 62 [l0, l1, l2, l3] st (upS σ 77 3 v) Q := WP_putI (ci := 0) (k := 3) mq5 dd5_59 (by decide) rfl
theorem ww5_59i88 {d : Nat} {l0 l1 l2 l3 : Option mw_V} {v : Int} {st : List mw_V} {σ : mw_S} {Q : Option mw_V → mw_S → Prop} : mw_WP d 5 59 [l0, l1, l2, l3] (jI v :: jR 88 :: st) σ Q ↔ mw_WP d 5 62 [l0, l1, l2, l3] st (upS σ 88 3 v) Q := WP_putI (ci := 0) (k := 3) mq5 dd5_59 (by decide) rfl
theorem dd5_62 : decode cX0_addRule 62 = .ok (.return_, 1) := by decide +kernel
theorem ww5_62 {d : Nat} {l0 l1 l2 l3 : Option mw_V} {σ : mw_S} {Q : Option mw_V → mw_S → Prop} : mw_WP d 5 62 [l0, l1, l2, l3] [] σ Q ↔ Q none σ := WP_return mq5 dd5_62 rfl
theorem ee6 {d : Nat} {a : Nat} {z0 : Int} {σ : mw_S} {Q : Option mw_V → mw_S → Prop} : mw_Call (d + 1) 6 [jR a, jI z0] σ Q ↔ mw_WP d 6 0 [some (jR a), some (jI z0)] [] σ Q := CL_u mq6 (Nat.le_of_ble_eq_true rfl) rfl
theorem dd6_0 : decode cX0_addCode 0 = .ok (.aload_n 0, 1) := by decide +kernel
theorem ww6_0 {d : Nat} {l1 : Option mw_V} {x : Nat} {st : List mw_V} {σ : mw_S} {Q : Option mw_V → mw_S → Prop} : mw_WP d 6 0 [some (jR x), l1] st σ Q ↔ mw_WP d 6 1 [some (jR x), l1] (jR x :: st) σ Q := WP_aload_n mq6 dd6_0 rfl
theorem dd6_1 : decode cX0_addCode 1 = .ok (.getfield 55, 3) := by decide +kernel
theorem ww6_1i3 {d : Nat} {l0 l1 : Option mw_V} {st : List mw_V} {σ : mw_S} {Q : Option mw_V → mw_S → Prop} : mw_WP d 6 1 [l0, l1] (jR 3 :: st) σ Q ↔ mw_WP d 6 4 [l0, l1] (jI (σ 3 6) :: st) σ Q := WP_getI (ci := 0) (k := 6) mq6 dd6_1 (by decide) (Or.inl rfl)
theorem ww6_1i13 {d : Nat} {l0 l1 : Option mw_V} {st : List mw_V} {σ : mw_S} {Q : Option mw_V → mw_S → Prop} : mw_WP d 6 1 [l0, l1] (jR 13 :: st) σ Q ↔ mw_WP d 6 4 [l0, l1] (jI (σ 13 6) :: st) σ Q := WP_getI (ci := 0) (k := 6) mq6 dd6_1 (by decide) (Or.inl rfl)
theorem ww6_1i77 {d : Nat} {l0 l1 : Option mw_V} {st : List mw_V} {σ : mw_S} {Q : Option mw_V → mw_S → Prop} : mw_WP d 6 1 [l0, l1] (jR 77 :: st) σ Q ↔ mw_WP d 6 4 [l0, l1] (jI (σ 77 6) :: st) σ Q := WP_getI (ci := 0) (k := 6) mq6 dd6_1 (by decide) (Or.inl rfl)
theorem ww6_1i88 {d : Nat} {l0 l1 : Option mw_V} {st : List mw_V} {σ : mw_S} {Q : Option mw_V → mw_S → Prop} : mw_WP d 6 1 [l0, l1] (jR 88 :: st) σ Q ↔ mw_WP d 6 4 [l0, l1] (jI (σ 88 6) :: st) σ Q := WP_getI (ci := 0) (k := 6) mq6 dd6_1 (by decide) (Or.inl rfl)
theorem dd6_4 : decode cX0_addCode 4 = .ok (.sipush 900, 3) := by decide +kernel
theorem ww6_4 {d : Nat} {l0 l1 : Option mw_V} {st : List mw_V} {σ : mw_S} {Q : Option mw_V → mw_S → Prop} : mw_WP d 6 4 [l0, l1] st σ Q ↔ mw_WP d 6 7 [l0, l1] (jI (900) :: st) σ Q := WP_sipush mq6 dd6_4 (by decide)
theorem dd6_7 : decode cX0_addCode 7 = .ok (.if_icmp .ge 23, 3) := by decide +kernel
theorem ww6_7 {d : Nat} {l0 l1 : Option mw_V} {x y : Int} {st : List mw_V} {σ : mw_S} {Q : Option mw_V → mw_S → Prop} : mw_WP d 6 7 [l0, l1] (jI y :: jI x :: st) σ Q ↔ (if y ≤ x then mw_WP d 6 30 [l0, l1] st σ Q else mw_WP d 6 10 [l0, l1] st σ Q) := WP_icmp_ge mq6 dd6_7 (by decide)
theorem dd6_10 : decode cX0_addCode 10 = .ok (.aload_n 0, 1) := by decide +kernel
theorem ww6_10 {d : Nat} {l1 : Option mw_V} {x : Nat} {st : List mw_V} {σ : mw_S} {Q : Option mw_V → mw_S → Prop} : mw_WP d 6 10 [some (jR x), l1] st σ Q ↔ mw_WP d 6 11 [some (jR x), l1] (jR x :: st) σ Q := WP_aload_n mq6 dd6_10 rfl
theorem dd6_11 : decode cX0_addCode 11 = .ok (.getfield 37, 3) := by decide +kernel
theorem ww6_11i3 {d : Nat} {l0 l1 : Option mw_V} {st : List mw_V} {σ : mw_S} {Q : Option mw_V → mw_S → Prop} : mw_WP d 6 11 [l0, l1] (jR 3 :: st) σ Q ↔ mw_WP d 6 14 [l0, l1] (jR 11 :: st) σ Q := WP_getR (ci := 0) (k := 14) mq6 dd6_11 (by decide) rfl
theorem ww6_11i13 {d : Nat} {l0 l1 : Option mw_V} {st : List mw_V} {σ : mw_S} {Q : Option mw_V → mw_S → Prop} : mw_WP d 6 11 [l0, l1] (jR 13 :: st) σ Q ↔ mw_WP d 6 14 [l0, l1] (jR 21 :: st) σ Q := WP_getR (ci := 0) (k := 14) mq6 dd6_11 (by decide) rfl
theorem ww6_11i77 {d : Nat} {l0 l1 : Option mw_V} {st : List mw_V} {σ : mw_S} {Q : Option mw_V → mw_S → Prop} : mw_WP d 6 11 [l0, l1] (jR 77 :: st) σ Q ↔ mw_WP d 6 14 [l0, l1] (jR 85 :: st) σ Q := WP_getR (ci := 0) (k := 14) mq6 dd6_11 (by decide) rfl
theorem ww6_11i88 {d : Nat} {l0 l1 : Option mw_V} {st : List mw_V} {σ : mw_S} {Q : Option mw_V → mw_S → Prop} : mw_WP d 6 11 [l0, l1] (jR 88 :: st) σ Q ↔ mw_WP d 6 14 [l0, l1] (jR 96 :: st) σ Q := WP_getR (ci := 0) (k := 14) mq6 dd6_11 (by decide) rfl
theorem dd6_14 : decode cX0_addCode 14 = .ok (.aload_n 0, 1) := by decide +kernel
theorem ww6_14 {d : Nat} {l1 : Option mw_V} {x : Nat} {st : List mw_V} {σ : mw_S} {Q : Option mw_V → mw_S → Prop} : mw_WP d 6 14 [some (jR x), l1] st σ Q ↔ mw_WP d 6 15 [some (jR x), l1] (jR x :: st) σ Q := WP_aload_n mq6 dd6_14 rfl
theorem dd6_15 : decode cX0_addCode 15 = .ok (.getfield 55, 3) := by decide +kernel
theorem ww6_15i3 {d : Nat} {l0 l1 : Option mw_V} {st : List mw_V} {σ : mw_S} {Q : Option mw_V → mw_S → Prop} : mw_WP d 6 15 [l0, l1] (jR 3 :: st) σ Q ↔ mw_WP d 6 18 [l0, l1] (jI (σ 3 6) :: st) σ Q := WP_getI (ci := 0) (k := 6) mq6 dd6_15 (by decide) (Or.inl rfl)
theorem ww6_15i13 {d : Nat} {l0 l1 : Option mw_V} {st : List mw_V} {σ : mw_S} {Q : Option mw_V → mw_S → Prop} : mw_WP d 6 15 [l0, l1] (jR 13 :: st) σ Q ↔ mw_WP d 6 18 [l0, l1] (jI (σ 13 6) :: st) σ Q := WP_getI (ci := 0) (k := 6) mq6 dd6_15 (by decide) (Or.inl rfl)
theorem ww6_15i77 {d : Nat} {l0 l1 : Option mw_V} {st : List mw_V} {σ : mw_S} {Q : Option mw_V → mw_S → Prop} : mw_WP d 6 15 [l0, l1] (jR 77 :: st) σ Q ↔ mw_WP d 6 18 [l0, l1] (jI (σ 77 6) :: st) σ Q := WP_getI (ci := 0) (k := 6) mq6 dd6_15 (by decide) (Or.inl rfl)
theorem ww6_15i88 {d : Nat} {l0 l1 : Option mw_V} {st : List mw_V} {σ : mw_S} {Q : Option mw_V → mw_S → Prop} : mw_WP d 6 15 [l0, l1] (jR 88 :: st) σ Q ↔ mw_WP d 6 18 [l0, l1] (jI (σ 88 6) :: st) σ Q := WP_getI (ci := 0) (k := 6) mq6 dd6_15 (by decide) (Or.inl rfl)
theorem dd6_18 : decode cX0_addCode 18 = .ok (.iload_n 1, 1) := by decide +kernel
theorem ww6_18 {d : Nat} {l0 : Option mw_V} {x : Int} {st : List mw_V} {σ : mw_S} {Q : Option mw_V → mw_S → Prop} : mw_WP d 6 18 [l0, some (jI x)] st σ Q ↔ mw_WP d 6 19 [l0, some (jI x)] (jI x :: st) σ Q := WP_iload_n mq6 dd6_18 rfl
theorem dd6_19 : decode cX0_addCode 19 = .ok (.iastore, 1) := by decide +kernel
theorem ww6_19 {d : Nat} {l0 l1 : Option mw_V} {x z : Int} {a : Nat} {st : List mw_V} {σ : mw_S} {Q : Option mw_V → mw_S → Prop} : mw_WP d 6 19 [l0, l1] (jI x :: jI z :: jR a :: st) σ Q ↔ ((0 ≤ z ∧ z < mw_lenW 0 a) ∧ mw_WP d 6 20 [l0, l1] st (upS σ a z.toNat x) Q) := WP_iastore mq6 dd6_19
theorem dd6_20 : decode cX0_addCode 20 = .ok (.aload_n 0, 1) := by decide +kernel
theorem ww6_20 {d : Nat} {l1 : Option mw_V} {x : Nat} {st : List mw_V} {σ : mw_S} {Q : Option mw_V → mw_S → Prop} : mw_WP d 6 20 [some (jR x), l1] st σ Q ↔ mw_WP d 6 21 [some (jR x), l1] (jR x :: st) σ Q := WP_aload_n mq6 dd6_20 rfl
theorem dd6_21 : decode cX0_addCode 21 = .ok (.dup, 1) := by decide +kernel
theorem ww6_21 {d : Nat} {l0 l1 : Option mw_V} {v : mw_V} {st : List mw_V} {σ : mw_S} {Q : Option mw_V → mw_S → Prop} (h : mw_cat v = 1) : mw_WP d 6 21 [l0, l1] (v :: st) σ Q ↔ mw_WP d 6 22 [l0, l1] (v :: v :: st) σ Q := WP_dup mq6 dd6_21 h
theorem dd6_22 : decode cX0_addCode 22 = .ok (.getfield 55, 3) := by decide +kernel
theorem ww6_22i3 {d : Nat} {l0 l1 : Option mw_V} {st : List mw_V} {σ : mw_S} {Q : Option mw_V → mw_S → Prop} : mw_WP d 6 22 [l0, l1] (jR 3 :: st) σ Q ↔ mw_WP d 6 25 [l0, l1] (jI (σ 3 6) :: st) σ Q := WP_getI (ci := 0) (k := 6) mq6 dd6_22 (by decide) (Or.inl rfl)
theorem ww6_22i13 {d : Nat} {l0 l1 : Option mw_V} {st : List mw_V} {σ : mw_S} {Q : Option mw_V → mw_S → Prop} : mw_WP d 6 22 [l0, l1] (jR 13 :: st) σ Q ↔ mw_WP d 6 25 [l0, l1] (jI (σ 13 6) :: st) σ Q := WP_getI (ci := 0) (k := 6) mq6 dd6_22 (by decide) (Or.inl rfl)
theorem ww6_22i77 {d : Nat} {l0 l1 : Option mw_V} {st : List mw_V} {σ : mw_S} {Q : Option mw_V → mw_S → Prop} : mw_WP d 6 22 [l0, l1] (jR 77 :: st) σ Q ↔ mw_WP d 6 25 [l0, l1] (jI (σ 77 6) :: st) σ Q := WP_getI (ci := 0) (k := 6) mq6 dd6_22 (by decide) (Or.inl rfl)
theorem ww6_22i88 {d : Nat} {l0 l1 : Option mw_V} {st : List mw_V} {σ : mw_S} {Q : Option mw_V → mw_S → Prop} : mw_WP d 6 22 [l0, l1] (jR 88 :: st) σ Q ↔ mw_WP d 6 25 [l0, l1] (jI (σ 88 6) :: st) σ Q := WP_getI (ci := 0) (k := 6) mq6 dd6_22 (by decide) (Or.inl rfl)
theorem dd6_25 : decode cX0_addCode 25 = .ok (.iconst 1, 1) := by decide +kernel
theorem ww6_25 {d : Nat} {l0 l1 : Option mw_V} {st : List mw_V} {σ : mw_S} {Q : Option mw_V → mw_S → Prop} : mw_WP d 6 25 [l0, l1] st σ Q ↔ mw_WP d 6 26 [l0, l1] (jI (1) :: st) σ Q := WP_iconst mq6 dd6_25 (by decide)
theorem dd6_26 : decode cX0_addCode 26 = .ok (.iadd, 1) := by decide +kernel
theorem ww6_26 {d : Nat} {l0 l1 : Option mw_V} {x y : Int} {st : List mw_V} {σ : mw_S} {Q : Option mw_V → mw_S → Prop} : mw_WP d 6 26 [l0, l1] (jI y :: jI x :: st) σ Q ↔ mw_WP d 6 27 [l0, l1] (jI (w32 (x + y)) :: st) σ Q := WP_iadd mq6 dd6_26
theorem dd6_27 : decode cX0_addCode 27 = .ok (.putfield 55, 3) := by decide +kernel
theorem ww6_27i3 {d : Nat} {l0 l1 : Option mw_V} {v : Int} {st : List mw_V} {σ : mw_S} {Q : Option mw_V → mw_S → Prop} : mw_WP d 6 27 [l0, l1] (jI v :: jR 3 :: st) σ Q ↔ mw_WP d 6 30 [l0, l1] st (upS σ 3 6 v) Q := WP_putI (ci := 0) (k := 6) mq6 dd6_27 (by decide) rfl
theorem ww6_27i13 {d : Nat} {l0 l1 : Option mw_V} {v : Int} {st : List mw_V} {σ : mw_S} {Q : Option mw_V → mw_S → Prop} : mw_WP d 6 27 [l0, l1] (jI v :: jR 13 :: st) σ Q ↔ mw_WP d 6 30 [l0, l1] st (upS σ 13 6 v) Q := WP_putI (ci := 0) (k := 6) mq6 dd6_27 (by decide) rfl
theorem ww6_27i77 {d : Nat} {l0 l1 : Option mw_V} {v : Int} {st : List mw_V} {σ : mw_S} {Q : Option mw_V → mw_S → Prop} : mw_WP d 6 27 [l0, l1] (jI v :: jR 77 :: st) σ Q ↔ mw_WP d 6 30 [l0, l1] st (upS σ 77 6 v) Q := WP_putI (ci := 0) (k := 6) mq6 dd6_27 (by decide) rfl
theorem ww6_27i88 {d : Nat} {l0 l1 : Option mw_V} {v : Int} {st : List mw_V} {σ : mw_S} {Q : Option mw_V → mw_S → Prop} : mw_WP d 6 27 [l0, l1] (jI v :: jR 88 :: st) σ Q ↔ mw_WP d 6 30 [l0, l1] st (upS σ 88 6 v) Q := WP_putI (ci := 0) (k := 6) mq6 dd6_27 (by decide) rfl
theorem dd6_30 : decode cX0_addCode 30 = .ok (.return_, 1) := by decide +kernel
theorem ww6_30 {d : Nat} {l0 l1 : Option mw_V} {σ : mw_S} {Q : Option mw_V → mw_S → Prop} : mw_WP d 6 30 [l0, l1] [] σ Q ↔ Q none σ := WP_return mq6 dd6_30 rfl
theorem ee7 {d : Nat} {a0 : Nat} {z1 : Int} {z2 : Int} {σ : mw_S} {Q : Option mw_V → mw_S → Prop} : mw_Call (d + 1) 7 [jR a0, jI z1, jI z2] σ Q ↔ mw_WP d 7 0 [some (jR a0), some (jI z1), some (jI z2)] [] σ Q := CL_u mq7 (Nat.le_of_ble_eq_true rfl) rfl
theorem dd7_0 : decode cX1_owed 0 = .ok (.aload_n 0, 1) := by decide +kernel
theorem ww7_0 {d : Nat} {l1 l2 : Option mw_V} {x : Nat} {st : List mw_V} {σ : mw_S} {Q : Option mw_V → mw_S → Prop} : mw_WP d 7 0 [some (jR x), l1, l2] st σ Q ↔ mw_WP d 7 1 [some (jR x), l1, l2] (jR x :: st) σ Q := WP_aload_n mq7 dd7_0 rfl
theorem dd7_1 : decode cX1_owed 1 = .ok (.bipush 25, 2) := by decide +kernel
theorem ww7_1 {d : Nat} {l0 l1 l2 : Option mw_V} {st : List mw_V} {σ : mw_S} {Q : Option mw_V → mw_S → Prop} : mw_WP d 7 1 [l0, l1, l2] st σ Q ↔ mw_WP d 7 3 [l0, l1, l2] (jI (25) :: st) σ Q := WP_bipush mq7 dd7_1 (by decide)
theorem dd7_3 : decode cX1_owed 3 = .ok (.iconst 3, 1) := by decide +kernel
theorem ww7_3 {d : Nat} {l0 l1 l2 : Option mw_V} {st : List mw_V} {σ : mw_S} {Q : Option mw_V → mw_S → Prop} : mw_WP d 7 3 [l0, l1, l2] st σ Q ↔ mw_WP d 7 4 [l0, l1, l2] (jI (3) :: st) σ Q := WP_iconst mq7 dd7_3 (by decide)
theorem dd7_4 : decode cX1_owed 4 = .ok (.iload_n 1, 1) := by decide +kernel
theorem ww7_4 {d : Nat} {l0 l2 : Option mw_V} {x : Int} {st : List mw_V} {σ : mw_S} {Q : Option mw_V → mw_S → Prop} : mw_WP d 7 4 [l0, some (jI x), l2] st σ Q ↔ mw_WP d 7 5 [l0, some (jI x), l2] (jI x :: st) σ Q := WP_iload_n mq7 dd7_4 rfl
theorem dd7_5 : decode cX1_owed 5 = .ok (.imul, 1) := by decide +kernel
theorem ww7_5 {d : Nat} {l0 l1 l2 : Option mw_V} {x y : Int} {st : List mw_V} {σ : mw_S} {Q : Option mw_V → mw_S → Prop} : mw_WP d 7 5 [l0, l1, l2] (jI y :: jI x :: st) σ Q ↔ mw_WP d 7 6 [l0, l1, l2] (jI (w32 (x * y)) :: st) σ Q := WP_imul mq7 dd7_5
theorem dd7_6 : decode cX1_owed 6 = .ok (.iadd, 1) := by decide +kernel
theorem ww7_6 {d : Nat} {l0 l1 l2 : Option mw_V} {x y : Int} {st : List mw_V} {σ : mw_S} {Q : Option mw_V → mw_S → Prop} : mw_WP d 7 6 [l0, l1, l2] (jI y :: jI x :: st) σ Q ↔ mw_WP d 7 7 [l0, l1, l2] (jI (w32 (x + y)) :: st) σ Q := WP_iadd mq7 dd7_6
theorem dd7_7 : decode cX1_owed 7 = .ok (.iload_n 2, 1) := by decide +kernel
theorem ww7_7 {d : Nat} {l0 l1 : Option mw_V} {x : Int} {st : List mw_V} {σ : mw_S} {Q : Option mw_V → mw_S → Prop} : mw_WP d 7 7 [l0, l1, some (jI x)] st σ Q ↔ mw_WP d 7 8 [l0, l1, some (jI x)] (jI x :: st) σ Q := WP_iload_n mq7 dd7_7 rfl
theorem dd7_8 : decode cX1_owed 8 = .ok (.iadd, 1) := by decide +kernel
theorem ww7_8 {d : Nat} {l0 l1 l2 : Option mw_V} {x y : Int} {st : List mw_V} {σ : mw_S} {Q : Option mw_V → mw_S → Prop} : mw_WP d 7 8 [l0, l1, l2] (jI y :: jI x :: st) σ Q ↔ mw_WP d 7 9 [l0, l1, l2] (jI (w32 (x + y)) :: st) σ Q := WP_iadd mq7 dd7_8
theorem dd7_9 : decode cX1_owed 9 = .ok (.iaload, 1) := by decide +kernel
theorem ww7_9 {d : Nat} {l0 l1 l2 : Option mw_V} {z : Int} {a : Nat} {st : List mw_V} {σ : mw_S} {Q : Option mw_V → mw_S → Prop} : mw_WP d 7 9 [l0, l1, l2] (jI z :: jR a :: st) σ Q ↔ ((0 ≤ z ∧ z < mw_lenI a) ∧ mw_WP d 7 10 [l0, l1, l2] (jI (mw_rdI σ a z.toNat) :: st) σ Q) := WP_iaload mq7 dd7_9
theorem dd7_10 : decode cX1_owed 10 = .ok (.ireturn, 1) := by decide +kernel
theorem ww7_10 {d : Nat} {l0 l1 l2 : Option mw_V} {z : Int} {σ : mw_S} {Q : Option mw_V → mw_S → Prop} : mw_WP d 7 10 [l0, l1, l2] [jI z] σ Q ↔ Q (some (jI z)) σ := WP_ireturn (ty := .int) mq7 dd7_10 rfl rfl
theorem ee8 {d : Nat} {a0 : Nat} {z1 : Int} {z2 : Int} {z3 : Int} {σ : mw_S} {Q : Option mw_V → mw_S → Prop} : mw_Call (d + 1) 8 [jR a0, jI z1, jI z2, jI z3] σ Q ↔ mw_WP d 8 0 [some (jR a0), some (jI z1), some (jI z2), some (jI z3)] [] σ Q := CL_u mq8 (Nat.le_of_ble_eq_true rfl) rfl
theorem dd8_0 : decode cX1_add 0 = .ok (.aload_n 0, 1) := by decide +kernel
theorem ww8_0 {d : Nat} {l1 l2 l3 : Option mw_V} {x : Nat} {st : List mw_V} {σ : mw_S} {Q : Option mw_V → mw_S → Prop} : mw_WP d 8 0 [some (jR x), l1, l2, l3] st σ Q ↔ mw_WP d 8 1 [some (jR x), l1, l2, l3] (jR x :: st) σ Q := WP_aload_n mq8 dd8_0 rfl
theorem dd8_1 : decode cX1_add 1 = .ok (.bipush 25, 2) := by decide +kernel
theorem ww8_1 {d : Nat} {l0 l1 l2 l3 : Option mw_V} {st : List mw_V} {σ : mw_S} {Q : Option mw_V → mw_S → Prop} : mw_WP d 8 1 [l0, l1, l2, l3] st σ Q ↔ mw_WP d 8 3 [l0, l1, l2, l3] (jI (25) :: st) σ Q := WP_bipush mq8 dd8_1 (by decide)
theorem dd8_3 : decode cX1_add 3 = .ok (.iconst 3, 1) := by decide +kernel
theorem ww8_3 {d : Nat} {l0 l1 l2 l3 : Option mw_V} {st : List mw_V} {σ : mw_S} {Q : Option mw_V → mw_S → Prop} : mw_WP d 8 3 [l0, l1, l2, l3] st σ Q ↔ mw_WP d 8 4 [l0, l1, l2, l3] (jI (3) :: st) σ Q := WP_iconst mq8 dd8_3 (by decide)
theorem dd8_4 : decode cX1_add 4 = .ok (.iload_n 1, 1) := by decide +kernel
theorem ww8_4 {d : Nat} {l0 l2 l3 : Option mw_V} {x : Int} {st : List mw_V} {σ : mw_S} {Q : Option mw_V → mw_S → Prop} : mw_WP d 8 4 [l0, some (jI x), l2, l3] st σ Q ↔ mw_WP d 8 5 [l0, some (jI x), l2, l3] (jI x :: st) σ Q := WP_iload_n mq8 dd8_4 rfl
theorem dd8_5 : decode cX1_add 5 = .ok (.imul, 1) := by decide +kernel
theorem ww8_5 {d : Nat} {l0 l1 l2 l3 : Option mw_V} {x y : Int} {st : List mw_V} {σ : mw_S} {Q : Option mw_V → mw_S → Prop} : mw_WP d 8 5 [l0, l1, l2, l3] (jI y :: jI x :: st) σ Q ↔ mw_WP d 8 6 [l0, l1, l2, l3] (jI (w32 (x * y)) :: st) σ Q := WP_imul mq8 dd8_5
theorem dd8_6 : decode cX1_add 6 = .ok (.iadd, 1) := by decide +kernel
theorem ww8_6 {d : Nat} {l0 l1 l2 l3 : Option mw_V} {x y : Int} {st : List mw_V} {σ : mw_S} {Q : Option mw_V → mw_S → Prop} : mw_WP d 8 6 [l0, l1, l2, l3] (jI y :: jI x :: st) σ Q ↔ mw_WP d 8 7 [l0, l1, l2, l3] (jI (w32 (x + y)) :: st) σ Q := WP_iadd mq8 dd8_6
theorem dd8_7 : decode cX1_add 7 = .ok (.iload_n 2, 1) := by decide +kernel
theorem ww8_7 {d : Nat} {l0 l1 l3 : Option mw_V} {x : Int} {st : List mw_V} {σ : mw_S} {Q : Option mw_V → mw_S → Prop} : mw_WP d 8 7 [l0, l1, some (jI x), l3] st σ Q ↔ mw_WP d 8 8 [l0, l1, some (jI x), l3] (jI x :: st) σ Q := WP_iload_n mq8 dd8_7 rfl
theorem dd8_8 : decode cX1_add 8 = .ok (.iadd, 1) := by decide +kernel
theorem ww8_8 {d : Nat} {l0 l1 l2 l3 : Option mw_V} {x y : Int} {st : List mw_V} {σ : mw_S} {Q : Option mw_V → mw_S → Prop} : mw_WP d 8 8 [l0, l1, l2, l3] (jI y :: jI x :: st) σ Q ↔ mw_WP d 8 9 [l0, l1, l2, l3] (jI (w32 (x + y)) :: st) σ Q := WP_iadd mq8 dd8_8
theorem dd8_9 : decode cX1_add 9 = .ok (.dup2, 1) := by decide +kernel
theorem ww8_9 {d : Nat} {l0 l1 l2 l3 : Option mw_V} {v w : mw_V} {st : List mw_V} {σ : mw_S} {Q : Option mw_V → mw_S → Prop} (h : mw_cat v = 1) (h2 : mw_cat w = 1) : mw_WP d 8 9 [l0, l1, l2, l3] (v :: w :: st) σ Q ↔ mw_WP d 8 10 [l0, l1, l2, l3] (v :: w :: v :: w :: st) σ Q := WP_dup2 mq8 dd8_9 h h2
theorem dd8_10 : decode cX1_add 10 = .ok (.iaload, 1) := by decide +kernel
theorem ww8_10 {d : Nat} {l0 l1 l2 l3 : Option mw_V} {z : Int} {a : Nat} {st : List mw_V} {σ : mw_S} {Q : Option mw_V → mw_S → Prop} : mw_WP d 8 10 [l0, l1, l2, l3] (jI z :: jR a :: st) σ Q ↔ ((0 ≤ z ∧ z < mw_lenI a) ∧ mw_WP d 8 11 [l0, l1, l2, l3] (jI (mw_rdI σ a z.toNat) :: st) σ Q) := WP_iaload mq8 dd8_10
theorem dd8_11 : decode cX1_add 11 = .ok (.iload_n 3, 1) := by decide +kernel
theorem ww8_11 {d : Nat} {l0 l1 l2 : Option mw_V} {x : Int} {st : List mw_V} {σ : mw_S} {Q : Option mw_V → mw_S → Prop} : mw_WP d 8 11 [l0, l1, l2, some (jI x)] st σ Q ↔ mw_WP d 8 12 [l0, l1, l2, some (jI x)] (jI x :: st) σ Q := WP_iload_n mq8 dd8_11 rfl
theorem dd8_12 : decode cX1_add 12 = .ok (.iadd, 1) := by decide +kernel
theorem ww8_12 {d : Nat} {l0 l1 l2 l3 : Option mw_V} {x y : Int} {st : List mw_V} {σ : mw_S} {Q : Option mw_V → mw_S → Prop} : mw_WP d 8 12 [l0, l1, l2, l3] (jI y :: jI x :: st) σ Q ↔ mw_WP d 8 13 [l0, l1, l2, l3] (jI (w32 (x + y)) :: st) σ Q := WP_iadd mq8 dd8_12
theorem dd8_13 : decode cX1_add 13 = .ok (.iastore, 1) := by decide +kernel
theorem ww8_13 {d : Nat} {l0 l1 l2 l3 : Option mw_V} {x z : Int} {a : Nat} {st : List mw_V} {σ : mw_S} {Q : Option mw_V → mw_S → Prop} : mw_WP d 8 13 [l0, l1, l2, l3] (jI x :: jI z :: jR a :: st) σ Q ↔ ((0 ≤ z ∧ z < mw_lenW 0 a) ∧ mw_WP d 8 14 [l0, l1, l2, l3] st (upS σ a z.toNat x) Q) := WP_iastore mq8 dd8_13
theorem dd8_14 : decode cX1_add 14 = .ok (.return_, 1) := by decide +kernel
theorem ww8_14 {d : Nat} {l0 l1 l2 l3 : Option mw_V} {σ : mw_S} {Q : Option mw_V → mw_S → Prop} : mw_WP d 8 14 [l0, l1, l2, l3] [] σ Q ↔ Q none σ := WP_return mq8 dd8_14 rfl
theorem ee9 {d : Nat} {a0 : Nat} {z1 : Int} {σ : mw_S} {Q : Option mw_V → mw_S → Prop} : mw_Call (d + 1) 9 [jR a0, jI z1] σ Q ↔ mw_WP d 9 0 [some (jR a0), some (jI z1), none, none] [] σ Q := CL_u mq9 (Nat.le_of_ble_eq_true rfl) rfl
theorem dd9_0 : decode cX1_netOf 0 = .ok (.iconst 0, 1) := by decide +kernel
theorem ww9_0 {d : Nat} {l0 l1 l2 l3 : Option mw_V} {st : List mw_V} {σ : mw_S} {Q : Option mw_V → mw_S → Prop} : mw_WP d 9 0 [l0, l1, l2, l3] st σ Q ↔ mw_WP d 9 1 [l0, l1, l2, l3] (jI (0) :: st) σ Q := WP_iconst mq9 dd9_0 (by decide)
theorem dd9_1 : decode cX1_netOf 1 = .ok (.istore_n 2, 1) := by decide +kernel
theorem ww9_1 {d : Nat} {l0 l1 l2 l3 : Option mw_V} {x : Int} {st : List mw_V} {σ : mw_S} {Q : Option mw_V → mw_S → Prop} (h : mw_nlo l1 = true) : mw_WP d 9 1 [l0, l1, l2, l3] (jI x :: st) σ Q ↔ mw_WP d 9 2 [l0, l1, some (jI x), l3] st σ Q := WP_istore_n mq9 dd9_1 (Nat.le_of_ble_eq_true rfl) (mw_nl_of (i := 1) rfl h) rfl
theorem dd9_2 : decode cX1_netOf 2 = .ok (.iconst 0, 1) := by decide +kernel
theorem ww9_2 {d : Nat} {l0 l1 l2 l3 : Option mw_V} {st : List mw_V} {σ : mw_S} {Q : Option mw_V → mw_S → Prop} : mw_WP d 9 2 [l0, l1, l2, l3] st σ Q ↔ mw_WP d 9 3 [l0, l1, l2, l3] (jI (0) :: st) σ Q := WP_iconst mq9 dd9_2 (by decide)
theorem dd9_3 : decode cX1_netOf 3 = .ok (.istore_n 3, 1) := by decide +kernel
theorem ww9_3 {d : Nat} {l0 l1 l2 l3 : Option mw_V} {x : Int} {st : List mw_V} {σ : mw_S} {Q : Option mw_V → mw_S → Prop} (h : mw_nlo l2 = true) : mw_WP d 9 3 [l0, l1, l2, l3] (jI x :: st) σ Q ↔ mw_WP d 9 4 [l0, l1, l2, some (jI x)] st σ Q := WP_istore_n mq9 dd9_3 (Nat.le_of_ble_eq_true rfl) (mw_nl_of (i := 2) rfl h) rfl
theorem dd9_4 : decode cX1_netOf 4 = .ok (.iload_n 3, 1) := by decide +kernel
theorem ww9_4 {d : Nat} {l0 l1 l2 : Option mw_V} {x : Int} {st : List mw_V} {σ : mw_S} {Q : Option mw_V → mw_S → Prop} : mw_WP d 9 4 [l0, l1, l2, some (jI x)] st σ Q ↔ mw_WP d 9 5 [l0, l1, l2, some (jI x)] (jI x :: st) σ Q := WP_iload_n mq9 dd9_4 rfl
theorem dd9_5 : decode cX1_netOf 5 = .ok (.iconst 3, 1) := by decide +kernel
theorem ww9_5 {d : Nat} {l0 l1 l2 l3 : Option mw_V} {st : List mw_V} {σ : mw_S} {Q : Option mw_V → mw_S → Prop} : mw_WP d 9 5 [l0, l1, l2, l3] st σ Q ↔ mw_WP d 9 6 [l0, l1, l2, l3] (jI (3) :: st) σ Q := WP_iconst mq9 dd9_5 (by decide)
theorem dd9_6 : decode cX1_netOf 6 = .ok (.if_icmp .ge 25, 3) := by decide +kernel
theorem ww9_6 {d : Nat} {l0 l1 l2 l3 : Option mw_V} {x y : Int} {st : List mw_V} {σ : mw_S} {Q : Option mw_V → mw_S → Prop} : mw_WP d 9 6 [l0, l1, l2, l3] (jI y :: jI x :: st) σ Q ↔ (if y ≤ x then mw_WP d 9 31 [l0, l1, l2, l3] st σ Q else mw_WP d 9 9 [l0, l1, l2, l3] st σ Q) := WP_icmp_ge mq9 dd9_6 (by decide)
theorem dd9_9 : decode cX1_netOf 9 = .ok (.iload_n 2, 1) := by decide +kernel
theorem ww9_9 {d : Nat} {l0 l1 l3 : Option mw_V} {x : Int} {st : List mw_V} {σ : mw_S} {Q : Option mw_V → mw_S → Prop} : mw_WP d 9 9 [l0, l1, some (jI x), l3] st σ Q ↔ mw_WP d 9 10 [l0, l1, some (jI x), l3] (jI x :: st) σ Q := WP_iload_n mq9 dd9_9 rfl
theorem dd9_10 : decode cX1_netOf 10 = .ok (.aload_n 0, 1) := by decide +kernel
theorem ww9_10 {d : Nat} {l1 l2 l3 : Option mw_V} {x : Nat} {st : List mw_V} {σ : mw_S} {Q : Option mw_V → mw_S → Prop} : mw_WP d 9 10 [some (jR x), l1, l2, l3] st σ Q ↔ mw_WP d 9 11 [some (jR x), l1, l2, l3] (jR x :: st) σ Q := WP_aload_n mq9 dd9_10 rfl
theorem dd9_11 : decode cX1_netOf 11 = .ok (.iload_n 3, 1) := by decide +kernel
theorem ww9_11 {d : Nat} {l0 l1 l2 : Option mw_V} {x : Int} {st : List mw_V} {σ : mw_S} {Q : Option mw_V → mw_S → Prop} : mw_WP d 9 11 [l0, l1, l2, some (jI x)] st σ Q ↔ mw_WP d 9 12 [l0, l1, l2, some (jI x)] (jI x :: st) σ Q := WP_iload_n mq9 dd9_11 rfl
theorem dd9_12 : decode cX1_netOf 12 = .ok (.iload_n 1, 1) := by decide +kernel
theorem ww9_12 {d : Nat} {l0 l2 l3 : Option mw_V} {x : Int} {st : List mw_V} {σ : mw_S} {Q : Option mw_V → mw_S → Prop} : mw_WP d 9 12 [l0, some (jI x), l2, l3] st σ Q ↔ mw_WP d 9 13 [l0, some (jI x), l2, l3] (jI x :: st) σ Q := WP_iload_n mq9 dd9_12 rfl
theorem dd9_13 : decode cX1_netOf 13 = .ok (.invokestatic 9, 3) := by decide +kernel
theorem ww9_13 {d : Nat} {l0 l1 l2 l3 : Option mw_V} {v0 v1 v2 : mw_V} {st : List mw_V} {σ : mw_S} {Q : Option mw_V → mw_S → Prop} (h8 : (st.map mw_cat).sum ≤ 8) : mw_WP d 9 13 [l0, l1, l2, l3] (v2 :: v1 :: v0 :: st) σ Q ↔ mw_Call d 7 [v0, v1, v2] σ (fun r1 s1 => mw_WP d 9 16 [l0, l1, l2, l3] (r1.toList ++ st) s1 Q) := WP_invs (as := [v2, v1, v0]) mq9 dd9_13 (by decide) mq7 rfl rfl h8
theorem dd9_16 : decode cX1_netOf 16 = .ok (.aload_n 0, 1) := by decide +kernel
theorem ww9_16 {d : Nat} {l1 l2 l3 : Option mw_V} {x : Nat} {st : List mw_V} {σ : mw_S} {Q : Option mw_V → mw_S → Prop} : mw_WP d 9 16 [some (jR x), l1, l2, l3] st σ Q ↔ mw_WP d 9 17 [some (jR x), l1, l2, l3] (jR x :: st) σ Q := WP_aload_n mq9 dd9_16 rfl
theorem dd9_17 : decode cX1_netOf 17 = .ok (.iload_n 1, 1) := by decide +kernel
theorem ww9_17 {d : Nat} {l0 l2 l3 : Option mw_V} {x : Int} {st : List mw_V} {σ : mw_S} {Q : Option mw_V → mw_S → Prop} : mw_WP d 9 17 [l0, some (jI x), l2, l3] st σ Q ↔ mw_WP d 9 18 [l0, some (jI x), l2, l3] (jI x :: st) σ Q := WP_iload_n mq9 dd9_17 rfl
theorem dd9_18 : decode cX1_netOf 18 = .ok (.iload_n 3, 1) := by decide +kernel
theorem ww9_18 {d : Nat} {l0 l1 l2 : Option mw_V} {x : Int} {st : List mw_V} {σ : mw_S} {Q : Option mw_V → mw_S → Prop} : mw_WP d 9 18 [l0, l1, l2, some (jI x)] st σ Q ↔ mw_WP d 9 19 [l0, l1, l2, some (jI x)] (jI x :: st) σ Q := WP_iload_n mq9 dd9_18 rfl
theorem dd9_19 : decode cX1_netOf 19 = .ok (.invokestatic 9, 3) := by decide +kernel
theorem ww9_19 {d : Nat} {l0 l1 l2 l3 : Option mw_V} {v0 v1 v2 : mw_V} {st : List mw_V} {σ : mw_S} {Q : Option mw_V → mw_S → Prop} (h8 : (st.map mw_cat).sum ≤ 8) : mw_WP d 9 19 [l0, l1, l2, l3] (v2 :: v1 :: v0 :: st) σ Q ↔ mw_Call d 7 [v0, v1, v2] σ (fun r1 s1 => mw_WP d 9 22 [l0, l1, l2, l3] (r1.toList ++ st) s1 Q) := WP_invs (as := [v2, v1, v0]) mq9 dd9_19 (by decide) mq7 rfl rfl h8
theorem dd9_22 : decode cX1_netOf 22 = .ok (.isub, 1) := by decide +kernel
theorem ww9_22 {d : Nat} {l0 l1 l2 l3 : Option mw_V} {x y : Int} {st : List mw_V} {σ : mw_S} {Q : Option mw_V → mw_S → Prop} : mw_WP d 9 22 [l0, l1, l2, l3] (jI y :: jI x :: st) σ Q ↔ mw_WP d 9 23 [l0, l1, l2, l3] (jI (w32 (x - y)) :: st) σ Q := WP_isub mq9 dd9_22
theorem dd9_23 : decode cX1_netOf 23 = .ok (.iadd, 1) := by decide +kernel
theorem ww9_23 {d : Nat} {l0 l1 l2 l3 : Option mw_V} {x y : Int} {st : List mw_V} {σ : mw_S} {Q : Option mw_V → mw_S → Prop} : mw_WP d 9 23 [l0, l1, l2, l3] (jI y :: jI x :: st) σ Q ↔ mw_WP d 9 24 [l0, l1, l2, l3] (jI (w32 (x + y)) :: st) σ Q := WP_iadd mq9 dd9_23
theorem dd9_24 : decode cX1_netOf 24 = .ok (.istore_n 2, 1) := by decide +kernel
theorem ww9_24 {d : Nat} {l0 l1 l2 l3 : Option mw_V} {x : Int} {st : List mw_V} {σ : mw_S} {Q : Option mw_V → mw_S → Prop} (h : mw_nlo l1 = true) : mw_WP d 9 24 [l0, l1, l2, l3] (jI x :: st) σ Q ↔ mw_WP d 9 25 [l0, l1, some (jI x), l3] st σ Q := WP_istore_n mq9 dd9_24 (Nat.le_of_ble_eq_true rfl) (mw_nl_of (i := 1) rfl h) rfl
theorem dd9_25 : decode cX1_netOf 25 = .ok (.iinc 3 1, 3) := by decide +kernel
theorem ww9_25 {d : Nat} {l0 l1 l2 : Option mw_V} {x : Int} {st : List mw_V} {σ : mw_S} {Q : Option mw_V → mw_S → Prop} (h : mw_nlo l2 = true) : mw_WP d 9 25 [l0, l1, l2, some (jI x)] st σ Q ↔ mw_WP d 9 28 [l0, l1, l2, some (jI (w32 (x + (1))))] st σ Q := WP_iinc mq9 dd9_25 rfl (Nat.le_of_ble_eq_true rfl) (mw_nl_of (i := 2) rfl h) rfl
theorem dd9_28 : decode cX1_netOf 28 = .ok (.goto (-24), 3) := by decide +kernel
theorem ww9_28 {d : Nat} {l0 l1 l2 l3 : Option mw_V} {st : List mw_V} {σ : mw_S} {Q : Option mw_V → mw_S → Prop} : mw_WP d 9 28 [l0, l1, l2, l3] st σ Q ↔ mw_WP d 9 4 [l0, l1, l2, l3] st σ Q := WP_goto mq9 dd9_28 (by decide)
theorem dd9_31 : decode cX1_netOf 31 = .ok (.iload_n 2, 1) := by decide +kernel
theorem ww9_31 {d : Nat} {l0 l1 l3 : Option mw_V} {x : Int} {st : List mw_V} {σ : mw_S} {Q : Option mw_V → mw_S → Prop} : mw_WP d 9 31 [l0, l1, some (jI x), l3] st σ Q ↔ mw_WP d 9 32 [l0, l1, some (jI x), l3] (jI x :: st) σ Q := WP_iload_n mq9 dd9_31 rfl
theorem dd9_32 : decode cX1_netOf 32 = .ok (.ireturn, 1) := by decide +kernel
theorem ww9_32 {d : Nat} {l0 l1 l2 l3 : Option mw_V} {z : Int} {σ : mw_S} {Q : Option mw_V → mw_S → Prop} : mw_WP d 9 32 [l0, l1, l2, l3] [jI z] σ Q ↔ Q (some (jI z)) σ := WP_ireturn (ty := .int) mq9 dd9_32 rfl rfl
theorem ee10 {d : Nat} {a0 : Nat} {z1 : Int} {σ : mw_S} {Q : Option mw_V → mw_S → Prop} : mw_Call (d + 1) 10 [jR a0, jI z1] σ Q ↔ mw_WP d 10 0 [some (jR a0), some (jI z1), none, none, none] [] σ Q := CL_u mq10 (Nat.le_of_ble_eq_true rfl) rfl
theorem dd10_0 : decode cX1_takeOffRings 0 = .ok (.iconst 0, 1) := by decide +kernel
theorem ww10_0 {d : Nat} {l0 l1 l2 l3 l4 : Option mw_V} {st : List mw_V} {σ : mw_S} {Q : Option mw_V → mw_S → Prop} : mw_WP d 10 0 [l0, l1, l2, l3, l4] st σ Q ↔ mw_WP d 10 1 [l0, l1, l2, l3, l4] (jI (0) :: st) σ Q := WP_iconst mq10 dd10_0 (by decide)
theorem dd10_1 : decode cX1_takeOffRings 1 = .ok (.istore_n 2, 1) := by decide +kernel
theorem ww10_1 {d : Nat} {l0 l1 l2 l3 l4 : Option mw_V} {x : Int} {st : List mw_V} {σ : mw_S} {Q : Option mw_V → mw_S → Prop} (h : mw_nlo l1 = true) : mw_WP d 10 1 [l0, l1, l2, l3, l4] (jI x :: st) σ Q ↔ mw_WP d 10 2 [l0, l1, some (jI x), l3, l4] st σ Q := WP_istore_n mq10 dd10_1 (Nat.le_of_ble_eq_true rfl) (mw_nl_of (i := 1) rfl h) rfl
theorem dd10_2 : decode cX1_takeOffRings 2 = .ok (.iconst 0, 1) := by decide +kernel
theorem ww10_2 {d : Nat} {l0 l1 l2 l3 l4 : Option mw_V} {st : List mw_V} {σ : mw_S} {Q : Option mw_V → mw_S → Prop} : mw_WP d 10 2 [l0, l1, l2, l3, l4] st σ Q ↔ mw_WP d 10 3 [l0, l1, l2, l3, l4] (jI (0) :: st) σ Q := WP_iconst mq10 dd10_2 (by decide)
theorem dd10_3 : decode cX1_takeOffRings 3 = .ok (.istore_n 3, 1) := by decide +kernel
theorem ww10_3 {d : Nat} {l0 l1 l2 l3 l4 : Option mw_V} {x : Int} {st : List mw_V} {σ : mw_S} {Q : Option mw_V → mw_S → Prop} (h : mw_nlo l2 = true) : mw_WP d 10 3 [l0, l1, l2, l3, l4] (jI x :: st) σ Q ↔ mw_WP d 10 4 [l0, l1, l2, some (jI x), l4] st σ Q := WP_istore_n mq10 dd10_3 (Nat.le_of_ble_eq_true rfl) (mw_nl_of (i := 2) rfl h) rfl
theorem dd10_4 : decode cX1_takeOffRings 4 = .ok (.iload_n 3, 1) := by decide +kernel
theorem ww10_4 {d : Nat} {l0 l1 l2 l4 : Option mw_V} {x : Int} {st : List mw_V} {σ : mw_S} {Q : Option mw_V → mw_S → Prop} : mw_WP d 10 4 [l0, l1, l2, some (jI x), l4] st σ Q ↔ mw_WP d 10 5 [l0, l1, l2, some (jI x), l4] (jI x :: st) σ Q := WP_iload_n mq10 dd10_4 rfl
theorem dd10_5 : decode cX1_takeOffRings 5 = .ok (.iload_n 1, 1) := by decide +kernel
theorem ww10_5 {d : Nat} {l0 l2 l3 l4 : Option mw_V} {x : Int} {st : List mw_V} {σ : mw_S} {Q : Option mw_V → mw_S → Prop} : mw_WP d 10 5 [l0, some (jI x), l2, l3, l4] st σ Q ↔ mw_WP d 10 6 [l0, some (jI x), l2, l3, l4] (jI x :: st) σ Q := WP_iload_n mq10 dd10_5 rfl
theorem dd10_6 : decode cX1_takeOffRings 6 = .ok (.if_icmp .ge 36, 3) := by decide +kernel
theorem ww10_6 {d : Nat} {l0 l1 l2 l3 l4 : Option mw_V} {x y : Int} {st : List mw_V} {σ : mw_S} {Q : Option mw_V → mw_S → Prop} : mw_WP d 10 6 [l0, l1, l2, l3, l4] (jI y :: jI x :: st) σ Q ↔ (if y ≤ x then mw_WP d 10 42 [l0, l1, l2, l3, l4] st σ Q else mw_WP d 10 9 [l0, l1, l2, l3, l4] st σ Q) := WP_icmp_ge mq10 dd10_6 (by decide)
theorem dd10_9 : decode cX1_takeOffRings 9 = .ok (.iload_n 3, 1) := by decide +kernel
theorem ww10_9 {d : Nat} {l0 l1 l2 l4 : Option mw_V} {x : Int} {st : List mw_V} {σ : mw_S} {Q : Option mw_V → mw_S → Prop} : mw_WP d 10 9 [l0, l1, l2, some (jI x), l4] st σ Q ↔ mw_WP d 10 10 [l0, l1, l2, some (jI x), l4] (jI x :: st) σ Q := WP_iload_n mq10 dd10_9 rfl
theorem dd10_10 : decode cX1_takeOffRings 10 = .ok (.iconst 1, 1) := by decide +kernel
theorem ww10_10 {d : Nat} {l0 l1 l2 l3 l4 : Option mw_V} {st : List mw_V} {σ : mw_S} {Q : Option mw_V → mw_S → Prop} : mw_WP d 10 10 [l0, l1, l2, l3, l4] st σ Q ↔ mw_WP d 10 11 [l0, l1, l2, l3, l4] (jI (1) :: st) σ Q := WP_iconst mq10 dd10_10 (by decide)
theorem dd10_11 : decode cX1_takeOffRings 11 = .ok (.iadd, 1) := by decide +kernel
theorem ww10_11 {d : Nat} {l0 l1 l2 l3 l4 : Option mw_V} {x y : Int} {st : List mw_V} {σ : mw_S} {Q : Option mw_V → mw_S → Prop} : mw_WP d 10 11 [l0, l1, l2, l3, l4] (jI y :: jI x :: st) σ Q ↔ mw_WP d 10 12 [l0, l1, l2, l3, l4] (jI (w32 (x + y)) :: st) σ Q := WP_iadd mq10 dd10_11
theorem dd10_12 : decode cX1_takeOffRings 12 = .ok (.istore 4, 2) := by decide +kernel
theorem ww10_12 {d : Nat} {l0 l1 l2 l3 l4 : Option mw_V} {x : Int} {st : List mw_V} {σ : mw_S} {Q : Option mw_V → mw_S → Prop} (h : mw_nlo l3 = true) : mw_WP d 10 12 [l0, l1, l2, l3, l4] (jI x :: st) σ Q ↔ mw_WP d 10 14 [l0, l1, l2, l3, some (jI x)] st σ Q := WP_istore mq10 dd10_12 (Nat.le_of_ble_eq_true rfl) (mw_nl_of (i := 3) rfl h) rfl
theorem dd10_14 : decode cX1_takeOffRings 14 = .ok (.iload 4, 2) := by decide +kernel
theorem ww10_14 {d : Nat} {l0 l1 l2 l3 : Option mw_V} {x : Int} {st : List mw_V} {σ : mw_S} {Q : Option mw_V → mw_S → Prop} : mw_WP d 10 14 [l0, l1, l2, l3, some (jI x)] st σ Q ↔ mw_WP d 10 16 [l0, l1, l2, l3, some (jI x)] (jI x :: st) σ Q := WP_iload mq10 dd10_14 rfl
theorem dd10_16 : decode cX1_takeOffRings 16 = .ok (.iload_n 1, 1) := by decide +kernel
theorem ww10_16 {d : Nat} {l0 l2 l3 l4 : Option mw_V} {x : Int} {st : List mw_V} {σ : mw_S} {Q : Option mw_V → mw_S → Prop} : mw_WP d 10 16 [l0, some (jI x), l2, l3, l4] st σ Q ↔ mw_WP d 10 17 [l0, some (jI x), l2, l3, l4] (jI x :: st) σ Q := WP_iload_n mq10 dd10_16 rfl
theorem dd10_17 : decode cX1_takeOffRings 17 = .ok (.if_icmp .ge 19, 3) := by decide +kernel
theorem ww10_17 {d : Nat} {l0 l1 l2 l3 l4 : Option mw_V} {x y : Int} {st : List mw_V} {σ : mw_S} {Q : Option mw_V → mw_S → Prop} : mw_WP d 10 17 [l0, l1, l2, l3, l4] (jI y :: jI x :: st) σ Q ↔ (if y ≤ x then mw_WP d 10 36 [l0, l1, l2, l3, l4] st σ Q else mw_WP d 10 20 [l0, l1, l2, l3, l4] st σ Q) := WP_icmp_ge mq10 dd10_17 (by decide)
theorem dd10_20 : decode cX1_takeOffRings 20 = .ok (.iload_n 2, 1) := by decide +kernel
theorem ww10_20 {d : Nat} {l0 l1 l3 l4 : Option mw_V} {x : Int} {st : List mw_V} {σ : mw_S} {Q : Option mw_V → mw_S → Prop} : mw_WP d 10 20 [l0, l1, some (jI x), l3, l4] st σ Q ↔ mw_WP d 10 21 [l0, l1, some (jI x), l3, l4] (jI x :: st) σ Q := WP_iload_n mq10 dd10_20 rfl
theorem dd10_21 : decode cX1_takeOffRings 21 = .ok (.aload_n 0, 1) := by decide +kernel
theorem ww10_21 {d : Nat} {l1 l2 l3 l4 : Option mw_V} {x : Nat} {st : List mw_V} {σ : mw_S} {Q : Option mw_V → mw_S → Prop} : mw_WP d 10 21 [some (jR x), l1, l2, l3, l4] st σ Q ↔ mw_WP d 10 22 [some (jR x), l1, l2, l3, l4] (jR x :: st) σ Q := WP_aload_n mq10 dd10_21 rfl
theorem dd10_22 : decode cX1_takeOffRings 22 = .ok (.iload_n 3, 1) := by decide +kernel
theorem ww10_22 {d : Nat} {l0 l1 l2 l4 : Option mw_V} {x : Int} {st : List mw_V} {σ : mw_S} {Q : Option mw_V → mw_S → Prop} : mw_WP d 10 22 [l0, l1, l2, some (jI x), l4] st σ Q ↔ mw_WP d 10 23 [l0, l1, l2, some (jI x), l4] (jI x :: st) σ Q := WP_iload_n mq10 dd10_22 rfl
theorem dd10_23 : decode cX1_takeOffRings 23 = .ok (.iload 4, 2) := by decide +kernel
theorem ww10_23 {d : Nat} {l0 l1 l2 l3 : Option mw_V} {x : Int} {st : List mw_V} {σ : mw_S} {Q : Option mw_V → mw_S → Prop} : mw_WP d 10 23 [l0, l1, l2, l3, some (jI x)] st σ Q ↔ mw_WP d 10 25 [l0, l1, l2, l3, some (jI x)] (jI x :: st) σ Q := WP_iload mq10 dd10_23 rfl
theorem dd10_25 : decode cX1_takeOffRings 25 = .ok (.invokestatic 15, 3) := by decide +kernel
theorem ww10_25 {d : Nat} {l0 l1 l2 l3 l4 : Option mw_V} {v0 v1 v2 : mw_V} {st : List mw_V} {σ : mw_S} {Q : Option mw_V → mw_S → Prop} (h8 : (st.map mw_cat).sum ≤ 8) : mw_WP d 10 25 [l0, l1, l2, l3, l4] (v2 :: v1 :: v0 :: st) σ Q ↔ mw_Call d 11 [v0, v1, v2] σ (fun r1 s1 => mw_WP d 10 28 [l0, l1, l2, l3, l4] (r1.toList ++ st) s1 Q) := WP_invs (as := [v2, v1, v0]) mq10 dd10_25 (by decide) mq11 rfl rfl h8
theorem dd10_28 : decode cX1_takeOffRings 28 = .ok (.iadd, 1) := by decide +kernel
theorem ww10_28 {d : Nat} {l0 l1 l2 l3 l4 : Option mw_V} {x y : Int} {st : List mw_V} {σ : mw_S} {Q : Option mw_V → mw_S → Prop} : mw_WP d 10 28 [l0, l1, l2, l3, l4] (jI y :: jI x :: st) σ Q ↔ mw_WP d 10 29 [l0, l1, l2, l3, l4] (jI (w32 (x + y)) :: st) σ Q := WP_iadd mq10 dd10_28
theorem dd10_29 : decode cX1_takeOffRings 29 = .ok (.istore_n 2, 1) := by decide +kernel
theorem ww10_29 {d : Nat} {l0 l1 l2 l3 l4 : Option mw_V} {x : Int} {st : List mw_V} {σ : mw_S} {Q : Option mw_V → mw_S → Prop} (h : mw_nlo l1 = true) : mw_WP d 10 29 [l0, l1, l2, l3, l4] (jI x :: st) σ Q ↔ mw_WP d 10 30 [l0, l1, some (jI x), l3, l4] st σ Q := WP_istore_n mq10 dd10_29 (Nat.le_of_ble_eq_true rfl) (mw_nl_of (i := 1) rfl h) rfl
theorem dd10_30 : decode cX1_takeOffRings 30 = .ok (.iinc 4 1, 3) := by decide +kernel
theorem ww10_30 {d : Nat} {l0 l1 l2 l3 : Option mw_V} {x : Int} {st : List mw_V} {σ : mw_S} {Q : Option mw_V → mw_S → Prop} (h : mw_nlo l3 = true) : mw_WP d 10 30 [l0, l1, l2, l3, some (jI x)] st σ Q ↔ mw_WP d 10 33 [l0, l1, l2, l3, some (jI (w32 (x + (1))))] st σ Q := WP_iinc mq10 dd10_30 rfl (Nat.le_of_ble_eq_true rfl) (mw_nl_of (i := 3) rfl h) rfl
theorem dd10_33 : decode cX1_takeOffRings 33 = .ok (.goto (-19), 3) := by decide +kernel
theorem ww10_33 {d : Nat} {l0 l1 l2 l3 l4 : Option mw_V} {st : List mw_V} {σ : mw_S} {Q : Option mw_V → mw_S → Prop} : mw_WP d 10 33 [l0, l1, l2, l3, l4] st σ Q ↔ mw_WP d 10 14 [l0, l1, l2, l3, l4] st σ Q := WP_goto mq10 dd10_33 (by decide)
theorem dd10_36 : decode cX1_takeOffRings 36 = .ok (.iinc 3 1, 3) := by decide +kernel
theorem ww10_36 {d : Nat} {l0 l1 l2 l4 : Option mw_V} {x : Int} {st : List mw_V} {σ : mw_S} {Q : Option mw_V → mw_S → Prop} (h : mw_nlo l2 = true) : mw_WP d 10 36 [l0, l1, l2, some (jI x), l4] st σ Q ↔ mw_WP d 10 39 [l0, l1, l2, some (jI (w32 (x + (1)))), l4] st σ Q := WP_iinc mq10 dd10_36 rfl (Nat.le_of_ble_eq_true rfl) (mw_nl_of (i := 2) rfl h) rfl
theorem dd10_39 : decode cX1_takeOffRings 39 = .ok (.goto (-35), 3) := by decide +kernel
theorem ww10_39 {d : Nat} {l0 l1 l2 l3 l4 : Option mw_V} {st : List mw_V} {σ : mw_S} {Q : Option mw_V → mw_S → Prop} : mw_WP d 10 39 [l0, l1, l2, l3, l4] st σ Q ↔ mw_WP d 10 4 [l0, l1, l2, l3, l4] st σ Q := WP_goto mq10 dd10_39 (by decide)
theorem dd10_42 : decode cX1_takeOffRings 42 = .ok (.iload_n 1, 1) := by decide +kernel
theorem ww10_42 {d : Nat} {l0 l2 l3 l4 : Option mw_V} {x : Int} {st : List mw_V} {σ : mw_S} {Q : Option mw_V → mw_S → Prop} : mw_WP d 10 42 [l0, some (jI x), l2, l3, l4] st σ Q ↔ mw_WP d 10 43 [l0, some (jI x), l2, l3, l4] (jI x :: st) σ Q := WP_iload_n mq10 dd10_42 rfl
theorem dd10_43 : decode cX1_takeOffRings 43 = .ok (.iconst 3, 1) := by decide +kernel
theorem ww10_43 {d : Nat} {l0 l1 l2 l3 l4 : Option mw_V} {st : List mw_V} {σ : mw_S} {Q : Option mw_V → mw_S → Prop} : mw_WP d 10 43 [l0, l1, l2, l3, l4] st σ Q ↔ mw_WP d 10 44 [l0, l1, l2, l3, l4] (jI (3) :: st) σ Q := WP_iconst mq10 dd10_43 (by decide)
theorem dd10_44 : decode cX1_takeOffRings 44 = .ok (.if_icmp .ne 21, 3) := by decide +kernel
theorem ww10_44 {d : Nat} {l0 l1 l2 l3 l4 : Option mw_V} {x y : Int} {st : List mw_V} {σ : mw_S} {Q : Option mw_V → mw_S → Prop} : mw_WP d 10 44 [l0, l1, l2, l3, l4] (jI y :: jI x :: st) σ Q ↔ (if ¬ x = y then mw_WP d 10 65 [l0, l1, l2, l3, l4] st σ Q else mw_WP d 10 47 [l0, l1, l2, l3, l4] st σ Q) := WP_icmp_ne mq10 dd10_44 (by decide)
theorem dd10_47 : decode cX1_takeOffRings 47 = .ok (.iload_n 2, 1) := by decide +kernel
theorem ww10_47 {d : Nat} {l0 l1 l3 l4 : Option mw_V} {x : Int} {st : List mw_V} {σ : mw_S} {Q : Option mw_V → mw_S → Prop} : mw_WP d 10 47 [l0, l1, some (jI x), l3, l4] st σ Q ↔ mw_WP d 10 48 [l0, l1, some (jI x), l3, l4] (jI x :: st) σ Q := WP_iload_n mq10 dd10_47 rfl
theorem dd10_48 : decode cX1_takeOffRings 48 = .ok (.aload_n 0, 1) := by decide +kernel
theorem ww10_48 {d : Nat} {l1 l2 l3 l4 : Option mw_V} {x : Nat} {st : List mw_V} {σ : mw_S} {Q : Option mw_V → mw_S → Prop} : mw_WP d 10 48 [some (jR x), l1, l2, l3, l4] st σ Q ↔ mw_WP d 10 49 [some (jR x), l1, l2, l3, l4] (jR x :: st) σ Q := WP_aload_n mq10 dd10_48 rfl
theorem dd10_49 : decode cX1_takeOffRings 49 = .ok (.iconst 1, 1) := by decide +kernel
theorem ww10_49 {d : Nat} {l0 l1 l2 l3 l4 : Option mw_V} {st : List mw_V} {σ : mw_S} {Q : Option mw_V → mw_S → Prop} : mw_WP d 10 49 [l0, l1, l2, l3, l4] st σ Q ↔ mw_WP d 10 50 [l0, l1, l2, l3, l4] (jI (1) :: st) σ Q := WP_iconst mq10 dd10_49 (by decide)
theorem dd10_50 : decode cX1_takeOffRings 50 = .ok (.iconst 2, 1) := by decide +kernel
theorem ww10_50 {d : Nat} {l0 l1 l2 l3 l4 : Option mw_V} {st : List mw_V} {σ : mw_S} {Q : Option mw_V → mw_S → Prop} : mw_WP d 10 50 [l0, l1, l2, l3, l4] st σ Q ↔ mw_WP d 10 51 [l0, l1, l2, l3, l4] (jI (2) :: st) σ Q := WP_iconst mq10 dd10_50 (by decide)
theorem dd10_51 : decode cX1_takeOffRings 51 = .ok (.invokestatic 18, 3) := by decide +kernel
theorem ww10_51 {d : Nat} {l0 l1 l2 l3 l4 : Option mw_V} {v0 v1 v2 : mw_V} {st : List mw_V} {σ : mw_S} {Q : Option mw_V → mw_S → Prop} (h8 : (st.map mw_cat).sum ≤ 8) : mw_WP d 10 51 [l0, l1, l2, l3, l4] (v2 :: v1 :: v0 :: st) σ Q ↔ mw_Call d 12 [v0, v1, v2] σ (fun r1 s1 => mw_WP d 10 54 [l0, l1, l2, l3, l4] (r1.toList ++ st) s1 Q) := WP_invs (as := [v2, v1, v0]) mq10 dd10_51 (by decide) mq12 rfl rfl h8
theorem dd10_54 : decode cX1_takeOffRings 54 = .ok (.iadd, 1) := by decide +kernel
theorem ww10_54 {d : Nat} {l0 l1 l2 l3 l4 : Option mw_V} {x y : Int} {st : List mw_V} {σ : mw_S} {Q : Option mw_V → mw_S → Prop} : mw_WP d 10 54 [l0, l1, l2, l3, l4] (jI y :: jI x :: st) σ Q ↔ mw_WP d 10 55 [l0, l1, l2, l3, l4] (jI (w32 (x + y)) :: st) σ Q := WP_iadd mq10 dd10_54
theorem dd10_55 : decode cX1_takeOffRings 55 = .ok (.istore_n 2, 1) := by decide +kernel
theorem ww10_55 {d : Nat} {l0 l1 l2 l3 l4 : Option mw_V} {x : Int} {st : List mw_V} {σ : mw_S} {Q : Option mw_V → mw_S → Prop} (h : mw_nlo l1 = true) : mw_WP d 10 55 [l0, l1, l2, l3, l4] (jI x :: st) σ Q ↔ mw_WP d 10 56 [l0, l1, some (jI x), l3, l4] st σ Q := WP_istore_n mq10 dd10_55 (Nat.le_of_ble_eq_true rfl) (mw_nl_of (i := 1) rfl h) rfl
theorem dd10_56 : decode cX1_takeOffRings 56 = .ok (.iload_n 2, 1) := by decide +kernel
theorem ww10_56 {d : Nat} {l0 l1 l3 l4 : Option mw_V} {x : Int} {st : List mw_V} {σ : mw_S} {Q : Option mw_V → mw_S → Prop} : mw_WP d 10 56 [l0, l1, some (jI x), l3, l4] st σ Q ↔ mw_WP d 10 57 [l0, l1, some (jI x), l3, l4] (jI x :: st) σ Q := WP_iload_n mq10 dd10_56 rfl
theorem dd10_57 : decode cX1_takeOffRings 57 = .ok (.aload_n 0, 1) := by decide +kernel
theorem ww10_57 {d : Nat} {l1 l2 l3 l4 : Option mw_V} {x : Nat} {st : List mw_V} {σ : mw_S} {Q : Option mw_V → mw_S → Prop} : mw_WP d 10 57 [some (jR x), l1, l2, l3, l4] st σ Q ↔ mw_WP d 10 58 [some (jR x), l1, l2, l3, l4] (jR x :: st) σ Q := WP_aload_n mq10 dd10_57 rfl
theorem dd10_58 : decode cX1_takeOffRings 58 = .ok (.iconst 2, 1) := by decide +kernel
theorem ww10_58 {d : Nat} {l0 l1 l2 l3 l4 : Option mw_V} {st : List mw_V} {σ : mw_S} {Q : Option mw_V → mw_S → Prop} : mw_WP d 10 58 [l0, l1, l2, l3, l4] st σ Q ↔ mw_WP d 10 59 [l0, l1, l2, l3, l4] (jI (2) :: st) σ Q := WP_iconst mq10 dd10_58 (by decide)
theorem dd10_59 : decode cX1_takeOffRings 59 = .ok (.iconst 1, 1) := by decide +kernel
theorem ww10_59 {d : Nat} {l0 l1 l2 l3 l4 : Option mw_V} {st : List mw_V} {σ : mw_S} {Q : Option mw_V → mw_S → Prop} : mw_WP d 10 59 [l0, l1, l2, l3, l4] st σ Q ↔ mw_WP d 10 60 [l0, l1, l2, l3, l4] (jI (1) :: st) σ Q := WP_iconst mq10 dd10_59 (by decide)
theorem dd10_60 : decode cX1_takeOffRings 60 = .ok (.invokestatic 18, 3) := by decide +kernel
theorem ww10_60 {d : Nat} {l0 l1 l2 l3 l4 : Option mw_V} {v0 v1 v2 : mw_V} {st : List mw_V} {σ : mw_S} {Q : Option mw_V → mw_S → Prop} (h8 : (st.map mw_cat).sum ≤ 8) : mw_WP d 10 60 [l0, l1, l2, l3, l4] (v2 :: v1 :: v0 :: st) σ Q ↔ mw_Call d 12 [v0, v1, v2] σ (fun r1 s1 => mw_WP d 10 63 [l0, l1, l2, l3, l4] (r1.toList ++ st) s1 Q) := WP_invs (as := [v2, v1, v0]) mq10 dd10_60 (by decide) mq12 rfl rfl h8
theorem dd10_63 : decode cX1_takeOffRings 63 = .ok (.iadd, 1) := by decide +kernel
theorem ww10_63 {d : Nat} {l0 l1 l2 l3 l4 : Option mw_V} {x y : Int} {st : List mw_V} {σ : mw_S} {Q : Option mw_V → mw_S → Prop} : mw_WP d 10 63 [l0, l1, l2, l3, l4] (jI y :: jI x :: st) σ Q ↔ mw_WP d 10 64 [l0, l1, l2, l3, l4] (jI (w32 (x + y)) :: st) σ Q := WP_iadd mq10 dd10_63
theorem dd10_64 : decode cX1_takeOffRings 64 = .ok (.istore_n 2, 1) := by decide +kernel
theorem ww10_64 {d : Nat} {l0 l1 l2 l3 l4 : Option mw_V} {x : Int} {st : List mw_V} {σ : mw_S} {Q : Option mw_V → mw_S → Prop} (h : mw_nlo l1 = true) : mw_WP d 10 64 [l0, l1, l2, l3, l4] (jI x :: st) σ Q ↔ mw_WP d 10 65 [l0, l1, some (jI x), l3, l4] st σ Q := WP_istore_n mq10 dd10_64 (Nat.le_of_ble_eq_true rfl) (mw_nl_of (i := 1) rfl h) rfl
theorem dd10_65 : decode cX1_takeOffRings 65 = .ok (.iload_n 2, 1) := by decide +kernel
theorem ww10_65 {d : Nat} {l0 l1 l3 l4 : Option mw_V} {x : Int} {st : List mw_V} {σ : mw_S} {Q : Option mw_V → mw_S → Prop} : mw_WP d 10 65 [l0, l1, some (jI x), l3, l4] st σ Q ↔ mw_WP d 10 66 [l0, l1, some (jI x), l3, l4] (jI x :: st) σ Q := WP_iload_n mq10 dd10_65 rfl
theorem dd10_66 : decode cX1_takeOffRings 66 = .ok (.ireturn, 1) := by decide +kernel
theorem ww10_66 {d : Nat} {l0 l1 l2 l3 l4 : Option mw_V} {z : Int} {σ : mw_S} {Q : Option mw_V → mw_S → Prop} : mw_WP d 10 66 [l0, l1, l2, l3, l4] [jI z] σ Q ↔ Q (some (jI z)) σ := WP_ireturn (ty := .int) mq10 dd10_66 rfl rfl
theorem ee11 {d : Nat} {a0 : Nat} {z1 : Int} {z2 : Int} {σ : mw_S} {Q : Option mw_V → mw_S → Prop} : mw_Call (d + 1) 11 [jR a0, jI z1, jI z2] σ Q ↔ mw_WP d 11 0 [some (jR a0), some (jI z1), some (jI z2), none] [] σ Q := CL_u mq11 (Nat.le_of_ble_eq_true rfl) rfl
theorem dd11_0 : decode cX1_takeOffPair 0 = .ok (.aload_n 0, 1) := by decide +kernel
theorem ww11_0 {d : Nat} {l1 l2 l3 : Option mw_V} {x : Nat} {st : List mw_V} {σ : mw_S} {Q : Option mw_V → mw_S → Prop} : mw_WP d 11 0 [some (jR x), l1, l2, l3] st σ Q ↔ mw_WP d 11 1 [some (jR x), l1, l2, l3] (jR x :: st) σ Q := WP_aload_n mq11 dd11_0 rfl
theorem dd11_1 : decode cX1_takeOffPair 1 = .ok (.iload_n 1, 1) := by decide +kernel
theorem ww11_1 {d : Nat} {l0 l2 l3 : Option mw_V} {x : Int} {st : List mw_V} {σ : mw_S} {Q : Option mw_V → mw_S → Prop} : mw_WP d 11 1 [l0, some (jI x), l2, l3] st σ Q ↔ mw_WP d 11 2 [l0, some (jI x), l2, l3] (jI x :: st) σ Q := WP_iload_n mq11 dd11_1 rfl
theorem dd11_2 : decode cX1_takeOffPair 2 = .ok (.iload_n 2, 1) := by decide +kernel
theorem ww11_2 {d : Nat} {l0 l1 l3 : Option mw_V} {x : Int} {st : List mw_V} {σ : mw_S} {Q : Option mw_V → mw_S → Prop} : mw_WP d 11 2 [l0, l1, some (jI x), l3] st σ Q ↔ mw_WP d 11 3 [l0, l1, some (jI x), l3] (jI x :: st) σ Q := WP_iload_n mq11 dd11_2 rfl
theorem dd11_3 : decode cX1_takeOffPair 3 = .ok (.invokestatic 9, 3) := by decide +kernel
theorem ww11_3 {d : Nat} {l0 l1 l2 l3 : Option mw_V} {v0 v1 v2 : mw_V} {st : List mw_V} {σ : mw_S} {Q : Option mw_V → mw_S → Prop} (h8 : (st.map mw_cat).sum ≤ 8) : mw_WP d 11 3 [l0, l1, l2, l3] (v2 :: v1 :: v0 :: st) σ Q ↔ mw_Call d 7 [v0, v1, v2] σ (fun r1 s1 => mw_WP d 11 6 [l0, l1, l2, l3] (r1.toList ++ st) s1 Q) := WP_invs (as := [v2, v1, v0]) mq11 dd11_3 (by decide) mq7 rfl rfl h8
theorem dd11_6 : decode cX1_takeOffPair 6 = .ok (.aload_n 0, 1) := by decide +kernel
theorem ww11_6 {d : Nat} {l1 l2 l3 : Option mw_V} {x : Nat} {st : List mw_V} {σ : mw_S} {Q : Option mw_V → mw_S → Prop} : mw_WP d 11 6 [some (jR x), l1, l2, l3] st σ Q ↔ mw_WP d 11 7 [some (jR x), l1, l2, l3] (jR x :: st) σ Q := WP_aload_n mq11 dd11_6 rfl
theorem dd11_7 : decode cX1_takeOffPair 7 = .ok (.iload_n 2, 1) := by decide +kernel
theorem ww11_7 {d : Nat} {l0 l1 l3 : Option mw_V} {x : Int} {st : List mw_V} {σ : mw_S} {Q : Option mw_V → mw_S → Prop} : mw_WP d 11 7 [l0, l1, some (jI x), l3] st σ Q ↔ mw_WP d 11 8 [l0, l1, some (jI x), l3] (jI x :: st) σ Q := WP_iload_n mq11 dd11_7 rfl
theorem dd11_8 : decode cX1_takeOffPair 8 = .ok (.iload_n 1, 1) := by decide +kernel
theorem ww11_8 {d : Nat} {l0 l2 l3 : Option mw_V} {x : Int} {st : List mw_V} {σ : mw_S} {Q : Option mw_V → mw_S → Prop} : mw_WP d 11 8 [l0, some (jI x), l2, l3] st σ Q ↔ mw_WP d 11 9 [l0, some (jI x), l2, l3] (jI x :: st) σ Q := WP_iload_n mq11 dd11_8 rfl
theorem dd11_9 : decode cX1_takeOffPair 9 = .ok (.invokestatic 9, 3) := by decide +kernel
theorem ww11_9 {d : Nat} {l0 l1 l2 l3 : Option mw_V} {v0 v1 v2 : mw_V} {st : List mw_V} {σ : mw_S} {Q : Option mw_V → mw_S → Prop} (h8 : (st.map mw_cat).sum ≤ 8) : mw_WP d 11 9 [l0, l1, l2, l3] (v2 :: v1 :: v0 :: st) σ Q ↔ mw_Call d 7 [v0, v1, v2] σ (fun r1 s1 => mw_WP d 11 12 [l0, l1, l2, l3] (r1.toList ++ st) s1 Q) := WP_invs (as := [v2, v1, v0]) mq11 dd11_9 (by decide) mq7 rfl rfl h8
theorem dd11_12 : decode cX1_takeOffPair 12 = .ok (.invokestatic 21, 3) := by decide +kernel
theorem ww11_12 {d : Nat} {l0 l1 l2 l3 : Option mw_V} {v0 v1 : mw_V} {st : List mw_V} {σ : mw_S} {Q : Option mw_V → mw_S → Prop} (h8 : (st.map mw_cat).sum ≤ 8) : mw_WP d 11 12 [l0, l1, l2, l3] (v1 :: v0 :: st) σ Q ↔ mw_Call d 283 [v0, v1] σ (fun r1 s1 => mw_WP d 11 15 [l0, l1, l2, l3] (r1.toList ++ st) s1 Q) := WP_invs (as := [v1, v0]) mq11 dd11_12 (by decide) mq283 rfl rfl h8
theorem dd11_15 : decode cX1_takeOffPair 15 = .ok (.istore_n 3, 1) := by decide +kernel
theorem ww11_15 {d : Nat} {l0 l1 l2 l3 : Option mw_V} {x : Int} {st : List mw_V} {σ : mw_S} {Q : Option mw_V → mw_S → Prop} (h : mw_nlo l2 = true) : mw_WP d 11 15 [l0, l1, l2, l3] (jI x :: st) σ Q ↔ mw_WP d 11 16 [l0, l1, l2, some (jI x)] st σ Q := WP_istore_n mq11 dd11_15 (Nat.le_of_ble_eq_true rfl) (mw_nl_of (i := 2) rfl h) rfl
theorem dd11_16 : decode cX1_takeOffPair 16 = .ok (.aload_n 0, 1) := by decide +kernel
theorem ww11_16 {d : Nat} {l1 l2 l3 : Option mw_V} {x : Nat} {st : List mw_V} {σ : mw_S} {Q : Option mw_V → mw_S → Prop} : mw_WP d 11 16 [some (jR x), l1, l2, l3] st σ Q ↔ mw_WP d 11 17 [some (jR x), l1, l2, l3] (jR x :: st) σ Q := WP_aload_n mq11 dd11_16 rfl
theorem dd11_17 : decode cX1_takeOffPair 17 = .ok (.iload_n 1, 1) := by decide +kernel
theorem ww11_17 {d : Nat} {l0 l2 l3 : Option mw_V} {x : Int} {st : List mw_V} {σ : mw_S} {Q : Option mw_V → mw_S → Prop} : mw_WP d 11 17 [l0, some (jI x), l2, l3] st σ Q ↔ mw_WP d 11 18 [l0, some (jI x), l2, l3] (jI x :: st) σ Q := WP_iload_n mq11 dd11_17 rfl
theorem dd11_18 : decode cX1_takeOffPair 18 = .ok (.iload_n 2, 1) := by decide +kernel
theorem ww11_18 {d : Nat} {l0 l1 l3 : Option mw_V} {x : Int} {st : List mw_V} {σ : mw_S} {Q : Option mw_V → mw_S → Prop} : mw_WP d 11 18 [l0, l1, some (jI x), l3] st σ Q ↔ mw_WP d 11 19 [l0, l1, some (jI x), l3] (jI x :: st) σ Q := WP_iload_n mq11 dd11_18 rfl
theorem dd11_19 : decode cX1_takeOffPair 19 = .ok (.iload_n 3, 1) := by decide +kernel
theorem ww11_19 {d : Nat} {l0 l1 l2 : Option mw_V} {x : Int} {st : List mw_V} {σ : mw_S} {Q : Option mw_V → mw_S → Prop} : mw_WP d 11 19 [l0, l1, l2, some (jI x)] st σ Q ↔ mw_WP d 11 20 [l0, l1, l2, some (jI x)] (jI x :: st) σ Q := WP_iload_n mq11 dd11_19 rfl
theorem dd11_20 : decode cX1_takeOffPair 20 = .ok (.ineg, 1) := by decide +kernel
theorem ww11_20 {d : Nat} {l0 l1 l2 l3 : Option mw_V} {x : Int} {st : List mw_V} {σ : mw_S} {Q : Option mw_V → mw_S → Prop} : mw_WP d 11 20 [l0, l1, l2, l3] (jI x :: st) σ Q ↔ mw_WP d 11 21 [l0, l1, l2, l3] (jI (w32 (-x)) :: st) σ Q := WP_ineg mq11 dd11_20
theorem dd11_21 : decode cX1_takeOffPair 21 = .ok (.invokestatic 27, 3) := by decide +kernel
theorem ww11_21 {d : Nat} {l0 l1 l2 l3 : Option mw_V} {v0 v1 v2 v3 : mw_V} {st : List mw_V} {σ : mw_S} {Q : Option mw_V → mw_S → Prop} (h8 : (st.map mw_cat).sum ≤ 8) : mw_WP d 11 21 [l0, l1, l2, l3] (v3 :: v2 :: v1 :: v0 :: st) σ Q ↔ mw_Call d 8 [v0, v1, v2, v3] σ (fun r1 s1 => mw_WP d 11 24 [l0, l1, l2, l3] (r1.toList ++ st) s1 Q) := WP_invs (as := [v3, v2, v1, v0]) mq11 dd11_21 (by decide) mq8 rfl rfl h8
theorem dd11_24 : decode cX1_takeOffPair 24 = .ok (.aload_n 0, 1) := by decide +kernel
theorem ww11_24 {d : Nat} {l1 l2 l3 : Option mw_V} {x : Nat} {st : List mw_V} {σ : mw_S} {Q : Option mw_V → mw_S → Prop} : mw_WP d 11 24 [some (jR x), l1, l2, l3] st σ Q ↔ mw_WP d 11 25 [some (jR x), l1, l2, l3] (jR x :: st) σ Q := WP_aload_n mq11 dd11_24 rfl
theorem dd11_25 : decode cX1_takeOffPair 25 = .ok (.iload_n 2, 1) := by decide +kernel
theorem ww11_25 {d : Nat} {l0 l1 l3 : Option mw_V} {x : Int} {st : List mw_V} {σ : mw_S} {Q : Option mw_V → mw_S → Prop} : mw_WP d 11 25 [l0, l1, some (jI x), l3] st σ Q ↔ mw_WP d 11 26 [l0, l1, some (jI x), l3] (jI x :: st) σ Q := WP_iload_n mq11 dd11_25 rfl
theorem dd11_26 : decode cX1_takeOffPair 26 = .ok (.iload_n 1, 1) := by decide +kernel
theorem ww11_26 {d : Nat} {l0 l2 l3 : Option mw_V} {x : Int} {st : List mw_V} {σ : mw_S} {Q : Option mw_V → mw_S → Prop} : mw_WP d 11 26 [l0, some (jI x), l2, l3] st σ Q ↔ mw_WP d 11 27 [l0, some (jI x), l2, l3] (jI x :: st) σ Q := WP_iload_n mq11 dd11_26 rfl
theorem dd11_27 : decode cX1_takeOffPair 27 = .ok (.iload_n 3, 1) := by decide +kernel
theorem ww11_27 {d : Nat} {l0 l1 l2 : Option mw_V} {x : Int} {st : List mw_V} {σ : mw_S} {Q : Option mw_V → mw_S → Prop} : mw_WP d 11 27 [l0, l1, l2, some (jI x)] st σ Q ↔ mw_WP d 11 28 [l0, l1, l2, some (jI x)] (jI x :: st) σ Q := WP_iload_n mq11 dd11_27 rfl
theorem dd11_28 : decode cX1_takeOffPair 28 = .ok (.ineg, 1) := by decide +kernel
theorem ww11_28 {d : Nat} {l0 l1 l2 l3 : Option mw_V} {x : Int} {st : List mw_V} {σ : mw_S} {Q : Option mw_V → mw_S → Prop} : mw_WP d 11 28 [l0, l1, l2, l3] (jI x :: st) σ Q ↔ mw_WP d 11 29 [l0, l1, l2, l3] (jI (w32 (-x)) :: st) σ Q := WP_ineg mq11 dd11_28
theorem dd11_29 : decode cX1_takeOffPair 29 = .ok (.invokestatic 27, 3) := by decide +kernel
theorem ww11_29 {d : Nat} {l0 l1 l2 l3 : Option mw_V} {v0 v1 v2 v3 : mw_V} {st : List mw_V} {σ : mw_S} {Q : Option mw_V → mw_S → Prop} (h8 : (st.map mw_cat).sum ≤ 8) : mw_WP d 11 29 [l0, l1, l2, l3] (v3 :: v2 :: v1 :: v0 :: st) σ Q ↔ mw_Call d 8 [v0, v1, v2, v3] σ (fun r1 s1 => mw_WP d 11 32 [l0, l1, l2, l3] (r1.toList ++ st) s1 Q) := WP_invs (as := [v3, v2, v1, v0]) mq11 dd11_29 (by decide) mq8 rfl rfl h8
theorem dd11_32 : decode cX1_takeOffPair 32 = .ok (.iconst 2, 1) := by decide +kernel
theorem ww11_32 {d : Nat} {l0 l1 l2 l3 : Option mw_V} {st : List mw_V} {σ : mw_S} {Q : Option mw_V → mw_S → Prop} : mw_WP d 11 32 [l0, l1, l2, l3] st σ Q ↔ mw_WP d 11 33 [l0, l1, l2, l3] (jI (2) :: st) σ Q := WP_iconst mq11 dd11_32 (by decide)
theorem dd11_33 : decode cX1_takeOffPair 33 = .ok (.iload_n 3, 1) := by decide +kernel
theorem ww11_33 {d : Nat} {l0 l1 l2 : Option mw_V} {x : Int} {st : List mw_V} {σ : mw_S} {Q : Option mw_V → mw_S → Prop} : mw_WP d 11 33 [l0, l1, l2, some (jI x)] st σ Q ↔ mw_WP d 11 34 [l0, l1, l2, some (jI x)] (jI x :: st) σ Q := WP_iload_n mq11 dd11_33 rfl
theorem dd11_34 : decode cX1_takeOffPair 34 = .ok (.imul, 1) := by decide +kernel
theorem ww11_34 {d : Nat} {l0 l1 l2 l3 : Option mw_V} {x y : Int} {st : List mw_V} {σ : mw_S} {Q : Option mw_V → mw_S → Prop} : mw_WP d 11 34 [l0, l1, l2, l3] (jI y :: jI x :: st) σ Q ↔ mw_WP d 11 35 [l0, l1, l2, l3] (jI (w32 (x * y)) :: st) σ Q := WP_imul mq11 dd11_34
theorem dd11_35 : decode cX1_takeOffPair 35 = .ok (.ireturn, 1) := by decide +kernel
theorem ww11_35 {d : Nat} {l0 l1 l2 l3 : Option mw_V} {z : Int} {σ : mw_S} {Q : Option mw_V → mw_S → Prop} : mw_WP d 11 35 [l0, l1, l2, l3] [jI z] σ Q ↔ Q (some (jI z)) σ := WP_ireturn (ty := .int) mq11 dd11_35 rfl rfl
theorem ee12 {d : Nat} {a0 : Nat} {z1 : Int} {z2 : Int} {σ : mw_S} {Q : Option mw_V → mw_S → Prop} : mw_Call (d + 1) 12 [jR a0, jI z1, jI z2] σ Q ↔ mw_WP d 12 0 [some (jR a0), some (jI z1), some (jI z2), none] [] σ Q := CL_u mq12 (Nat.le_of_ble_eq_true rfl) rfl
theorem dd12_0 : decode cX1_takeOffThree 0 = .ok (.aload_n 0, 1) := by decide +kernel
theorem ww12_0 {d : Nat} {l1 l2 l3 : Option mw_V} {x : Nat} {st : List mw_V} {σ : mw_S} {Q : Option mw_V → mw_S → Prop} : mw_WP d 12 0 [some (jR x), l1, l2, l3] st σ Q ↔ mw_WP d 12 1 [some (jR x), l1, l2, l3] (jR x :: st) σ Q := WP_aload_n mq12 dd12_0 rfl
theorem dd12_1 : decode cX1_takeOffThree 1 = .ok (.iconst 0, 1) := by decide +kernel
theorem ww12_1 {d : Nat} {l0 l1 l2 l3 : Option mw_V} {st : List mw_V} {σ : mw_S} {Q : Option mw_V → mw_S → Prop} : mw_WP d 12 1 [l0, l1, l2, l3] st σ Q ↔ mw_WP d 12 2 [l0, l1, l2, l3] (jI (0) :: st) σ Q := WP_iconst mq12 dd12_1 (by decide)
theorem dd12_2 : decode cX1_takeOffThree 2 = .ok (.iload_n 1, 1) := by decide +kernel
theorem ww12_2 {d : Nat} {l0 l2 l3 : Option mw_V} {x : Int} {st : List mw_V} {σ : mw_S} {Q : Option mw_V → mw_S → Prop} : mw_WP d 12 2 [l0, some (jI x), l2, l3] st σ Q ↔ mw_WP d 12 3 [l0, some (jI x), l2, l3] (jI x :: st) σ Q := WP_iload_n mq12 dd12_2 rfl
theorem dd12_3 : decode cX1_takeOffThree 3 = .ok (.invokestatic 9, 3) := by decide +kernel
theorem ww12_3 {d : Nat} {l0 l1 l2 l3 : Option mw_V} {v0 v1 v2 : mw_V} {st : List mw_V} {σ : mw_S} {Q : Option mw_V → mw_S → Prop} (h8 : (st.map mw_cat).sum ≤ 8) : mw_WP d 12 3 [l0, l1, l2, l3] (v2 :: v1 :: v0 :: st) σ Q ↔ mw_Call d 7 [v0, v1, v2] σ (fun r1 s1 => mw_WP d 12 6 [l0, l1, l2, l3] (r1.toList ++ st) s1 Q) := WP_invs (as := [v2, v1, v0]) mq12 dd12_3 (by decide) mq7 rfl rfl h8
theorem dd12_6 : decode cX1_takeOffThree 6 = .ok (.aload_n 0, 1) := by decide +kernel
theorem ww12_6 {d : Nat} {l1 l2 l3 : Option mw_V} {x : Nat} {st : List mw_V} {σ : mw_S} {Q : Option mw_V → mw_S → Prop} : mw_WP d 12 6 [some (jR x), l1, l2, l3] st σ Q ↔ mw_WP d 12 7 [some (jR x), l1, l2, l3] (jR x :: st) σ Q := WP_aload_n mq12 dd12_6 rfl
theorem dd12_7 : decode cX1_takeOffThree 7 = .ok (.iload_n 1, 1) := by decide +kernel
theorem ww12_7 {d : Nat} {l0 l2 l3 : Option mw_V} {x : Int} {st : List mw_V} {σ : mw_S} {Q : Option mw_V → mw_S → Prop} : mw_WP d 12 7 [l0, some (jI x), l2, l3] st σ Q ↔ mw_WP d 12 8 [l0, some (jI x), l2, l3] (jI x :: st) σ Q := WP_iload_n mq12 dd12_7 rfl
theorem dd12_8 : decode cX1_takeOffThree 8 = .ok (.iload_n 2, 1) := by decide +kernel
theorem ww12_8 {d : Nat} {l0 l1 l3 : Option mw_V} {x : Int} {st : List mw_V} {σ : mw_S} {Q : Option mw_V → mw_S → Prop} : mw_WP d 12 8 [l0, l1, some (jI x), l3] st σ Q ↔ mw_WP d 12 9 [l0, l1, some (jI x), l3] (jI x :: st) σ Q := WP_iload_n mq12 dd12_8 rfl
theorem dd12_9 : decode cX1_takeOffThree 9 = .ok (.invokestatic 9, 3) := by decide +kernel
theorem ww12_9 {d : Nat} {l0 l1 l2 l3 : Option mw_V} {v0 v1 v2 : mw_V} {st : List mw_V} {σ : mw_S} {Q : Option mw_V → mw_S → Prop} (h8 : (st.map mw_cat).sum ≤ 8) : mw_WP d 12 9 [l0, l1, l2, l3] (v2 :: v1 :: v0 :: st) σ Q ↔ mw_Call d 7 [v0, v1, v2] σ (fun r1 s1 => mw_WP d 12 12 [l0, l1, l2, l3] (r1.toList ++ st) s1 Q) := WP_invs (as := [v2, v1, v0]) mq12 dd12_9 (by decide) mq7 rfl rfl h8
theorem dd12_12 : decode cX1_takeOffThree 12 = .ok (.aload_n 0, 1) := by decide +kernel
theorem ww12_12 {d : Nat} {l1 l2 l3 : Option mw_V} {x : Nat} {st : List mw_V} {σ : mw_S} {Q : Option mw_V → mw_S → Prop} : mw_WP d 12 12 [some (jR x), l1, l2, l3] st σ Q ↔ mw_WP d 12 13 [some (jR x), l1, l2, l3] (jR x :: st) σ Q := WP_aload_n mq12 dd12_12 rfl
theorem dd12_13 : decode cX1_takeOffThree 13 = .ok (.iload_n 2, 1) := by decide +kernel
theorem ww12_13 {d : Nat} {l0 l1 l3 : Option mw_V} {x : Int} {st : List mw_V} {σ : mw_S} {Q : Option mw_V → mw_S → Prop} : mw_WP d 12 13 [l0, l1, some (jI x), l3] st σ Q ↔ mw_WP d 12 14 [l0, l1, some (jI x), l3] (jI x :: st) σ Q := WP_iload_n mq12 dd12_13 rfl
theorem dd12_14 : decode cX1_takeOffThree 14 = .ok (.iconst 0, 1) := by decide +kernel
theorem ww12_14 {d : Nat} {l0 l1 l2 l3 : Option mw_V} {st : List mw_V} {σ : mw_S} {Q : Option mw_V → mw_S → Prop} : mw_WP d 12 14 [l0, l1, l2, l3] st σ Q ↔ mw_WP d 12 15 [l0, l1, l2, l3] (jI (0) :: st) σ Q := WP_iconst mq12 dd12_14 (by decide)
theorem dd12_15 : decode cX1_takeOffThree 15 = .ok (.invokestatic 9, 3) := by decide +kernel
theorem ww12_15 {d : Nat} {l0 l1 l2 l3 : Option mw_V} {v0 v1 v2 : mw_V} {st : List mw_V} {σ : mw_S} {Q : Option mw_V → mw_S → Prop} (h8 : (st.map mw_cat).sum ≤ 8) : mw_WP d 12 15 [l0, l1, l2, l3] (v2 :: v1 :: v0 :: st) σ Q ↔ mw_Call d 7 [v0, v1, v2] σ (fun r1 s1 => mw_WP d 12 18 [l0, l1, l2, l3] (r1.toList ++ st) s1 Q) := WP_invs (as := [v2, v1, v0]) mq12 dd12_15 (by decide) mq7 rfl rfl h8
theorem dd12_18 : decode cX1_takeOffThree 18 = .ok (.invokestatic 21, 3) := by decide +kernel
theorem ww12_18 {d : Nat} {l0 l1 l2 l3 : Option mw_V} {v0 v1 : mw_V} {st : List mw_V} {σ : mw_S} {Q : Option mw_V → mw_S → Prop} (h8 : (st.map mw_cat).sum ≤ 8) : mw_WP d 12 18 [l0, l1, l2, l3] (v1 :: v0 :: st) σ Q ↔ mw_Call d 283 [v0, v1] σ (fun r1 s1 => mw_WP d 12 21 [l0, l1, l2, l3] (r1.toList ++ st) s1 Q) := WP_invs (as := [v1, v0]) mq12 dd12_18 (by decide) mq283 rfl rfl h8
theorem dd12_21 : decode cX1_takeOffThree 21 = .ok (.invokestatic 21, 3) := by decide +kernel
theorem ww12_21 {d : Nat} {l0 l1 l2 l3 : Option mw_V} {v0 v1 : mw_V} {st : List mw_V} {σ : mw_S} {Q : Option mw_V → mw_S → Prop} (h8 : (st.map mw_cat).sum ≤ 8) : mw_WP d 12 21 [l0, l1, l2, l3] (v1 :: v0 :: st) σ Q ↔ mw_Call d 283 [v0, v1] σ (fun r1 s1 => mw_WP d 12 24 [l0, l1, l2, l3] (r1.toList ++ st) s1 Q) := WP_invs (as := [v1, v0]) mq12 dd12_21 (by decide) mq283 rfl rfl h8
theorem dd12_24 : decode cX1_takeOffThree 24 = .ok (.istore_n 3, 1) := by decide +kernel
theorem ww12_24 {d : Nat} {l0 l1 l2 l3 : Option mw_V} {x : Int} {st : List mw_V} {σ : mw_S} {Q : Option mw_V → mw_S → Prop} (h : mw_nlo l2 = true) : mw_WP d 12 24 [l0, l1, l2, l3] (jI x :: st) σ Q ↔ mw_WP d 12 25 [l0, l1, l2, some (jI x)] st σ Q := WP_istore_n mq12 dd12_24 (Nat.le_of_ble_eq_true rfl) (mw_nl_of (i := 2) rfl h) rfl
theorem dd12_25 : decode cX1_takeOffThree 25 = .ok (.aload_n 0, 1) := by decide +kernel
theorem ww12_25 {d : Nat} {l1 l2 l3 : Option mw_V} {x : Nat} {st : List mw_V} {σ : mw_S} {Q : Option mw_V → mw_S → Prop} : mw_WP d 12 25 [some (jR x), l1, l2, l3] st σ Q ↔ mw_WP d 12 26 [some (jR x), l1, l2, l3] (jR x :: st) σ Q := WP_aload_n mq12 dd12_25 rfl
theorem dd12_26 : decode cX1_takeOffThree 26 = .ok (.iconst 0, 1) := by decide +kernel
theorem ww12_26 {d : Nat} {l0 l1 l2 l3 : Option mw_V} {st : List mw_V} {σ : mw_S} {Q : Option mw_V → mw_S → Prop} : mw_WP d 12 26 [l0, l1, l2, l3] st σ Q ↔ mw_WP d 12 27 [l0, l1, l2, l3] (jI (0) :: st) σ Q := WP_iconst mq12 dd12_26 (by decide)
theorem dd12_27 : decode cX1_takeOffThree 27 = .ok (.iload_n 1, 1) := by decide +kernel
theorem ww12_27 {d : Nat} {l0 l2 l3 : Option mw_V} {x : Int} {st : List mw_V} {σ : mw_S} {Q : Option mw_V → mw_S → Prop} : mw_WP d 12 27 [l0, some (jI x), l2, l3] st σ Q ↔ mw_WP d 12 28 [l0, some (jI x), l2, l3] (jI x :: st) σ Q := WP_iload_n mq12 dd12_27 rfl
theorem dd12_28 : decode cX1_takeOffThree 28 = .ok (.iload_n 3, 1) := by decide +kernel
theorem ww12_28 {d : Nat} {l0 l1 l2 : Option mw_V} {x : Int} {st : List mw_V} {σ : mw_S} {Q : Option mw_V → mw_S → Prop} : mw_WP d 12 28 [l0, l1, l2, some (jI x)] st σ Q ↔ mw_WP d 12 29 [l0, l1, l2, some (jI x)] (jI x :: st) σ Q := WP_iload_n mq12 dd12_28 rfl
theorem dd12_29 : decode cX1_takeOffThree 29 = .ok (.ineg, 1) := by decide +kernel
theorem ww12_29 {d : Nat} {l0 l1 l2 l3 : Option mw_V} {x : Int} {st : List mw_V} {σ : mw_S} {Q : Option mw_V → mw_S → Prop} : mw_WP d 12 29 [l0, l1, l2, l3] (jI x :: st) σ Q ↔ mw_WP d 12 30 [l0, l1, l2, l3] (jI (w32 (-x)) :: st) σ Q := WP_ineg mq12 dd12_29
theorem dd12_30 : decode cX1_takeOffThree 30 = .ok (.invokestatic 27, 3) := by decide +kernel
theorem ww12_30 {d : Nat} {l0 l1 l2 l3 : Option mw_V} {v0 v1 v2 v3 : mw_V} {st : List mw_V} {σ : mw_S} {Q : Option mw_V → mw_S → Prop} (h8 : (st.map mw_cat).sum ≤ 8) : mw_WP d 12 30 [l0, l1, l2, l3] (v3 :: v2 :: v1 :: v0 :: st) σ Q ↔ mw_Call d 8 [v0, v1, v2, v3] σ (fun r1 s1 => mw_WP d 12 33 [l0, l1, l2, l3] (r1.toList ++ st) s1 Q) := WP_invs (as := [v3, v2, v1, v0]) mq12 dd12_30 (by decide) mq8 rfl rfl h8
theorem dd12_33 : decode cX1_takeOffThree 33 = .ok (.aload_n 0, 1) := by decide +kernel
theorem ww12_33 {d : Nat} {l1 l2 l3 : Option mw_V} {x : Nat} {st : List mw_V} {σ : mw_S} {Q : Option mw_V → mw_S → Prop} : mw_WP d 12 33 [some (jR x), l1, l2, l3] st σ Q ↔ mw_WP d 12 34 [some (jR x), l1, l2, l3] (jR x :: st) σ Q := WP_aload_n mq12 dd12_33 rfl
theorem dd12_34 : decode cX1_takeOffThree 34 = .ok (.iload_n 1, 1) := by decide +kernel
theorem ww12_34 {d : Nat} {l0 l2 l3 : Option mw_V} {x : Int} {st : List mw_V} {σ : mw_S} {Q : Option mw_V → mw_S → Prop} : mw_WP d 12 34 [l0, some (jI x), l2, l3] st σ Q ↔ mw_WP d 12 35 [l0, some (jI x), l2, l3] (jI x :: st) σ Q := WP_iload_n mq12 dd12_34 rfl
theorem dd12_35 : decode cX1_takeOffThree 35 = .ok (.iload_n 2, 1) := by decide +kernel
theorem ww12_35 {d : Nat} {l0 l1 l3 : Option mw_V} {x : Int} {st : List mw_V} {σ : mw_S} {Q : Option mw_V → mw_S → Prop} : mw_WP d 12 35 [l0, l1, some (jI x), l3] st σ Q ↔ mw_WP d 12 36 [l0, l1, some (jI x), l3] (jI x :: st) σ Q := WP_iload_n mq12 dd12_35 rfl
theorem dd12_36 : decode cX1_takeOffThree 36 = .ok (.iload_n 3, 1) := by decide +kernel
theorem ww12_36 {d : Nat} {l0 l1 l2 : Option mw_V} {x : Int} {st : List mw_V} {σ : mw_S} {Q : Option mw_V → mw_S → Prop} : mw_WP d 12 36 [l0, l1, l2, some (jI x)] st σ Q ↔ mw_WP d 12 37 [l0, l1, l2, some (jI x)] (jI x :: st) σ Q := WP_iload_n mq12 dd12_36 rfl
theorem dd12_37 : decode cX1_takeOffThree 37 = .ok (.ineg, 1) := by decide +kernel
theorem ww12_37 {d : Nat} {l0 l1 l2 l3 : Option mw_V} {x : Int} {st : List mw_V} {σ : mw_S} {Q : Option mw_V → mw_S → Prop} : mw_WP d 12 37 [l0, l1, l2, l3] (jI x :: st) σ Q ↔ mw_WP d 12 38 [l0, l1, l2, l3] (jI (w32 (-x)) :: st) σ Q := WP_ineg mq12 dd12_37
theorem dd12_38 : decode cX1_takeOffThree 38 = .ok (.invokestatic 27, 3) := by decide +kernel
theorem ww12_38 {d : Nat} {l0 l1 l2 l3 : Option mw_V} {v0 v1 v2 v3 : mw_V} {st : List mw_V} {σ : mw_S} {Q : Option mw_V → mw_S → Prop} (h8 : (st.map mw_cat).sum ≤ 8) : mw_WP d 12 38 [l0, l1, l2, l3] (v3 :: v2 :: v1 :: v0 :: st) σ Q ↔ mw_Call d 8 [v0, v1, v2, v3] σ (fun r1 s1 => mw_WP d 12 41 [l0, l1, l2, l3] (r1.toList ++ st) s1 Q) := WP_invs (as := [v3, v2, v1, v0]) mq12 dd12_38 (by decide) mq8 rfl rfl h8
theorem dd12_41 : decode cX1_takeOffThree 41 = .ok (.aload_n 0, 1) := by decide +kernel
theorem ww12_41 {d : Nat} {l1 l2 l3 : Option mw_V} {x : Nat} {st : List mw_V} {σ : mw_S} {Q : Option mw_V → mw_S → Prop} : mw_WP d 12 41 [some (jR x), l1, l2, l3] st σ Q ↔ mw_WP d 12 42 [some (jR x), l1, l2, l3] (jR x :: st) σ Q := WP_aload_n mq12 dd12_41 rfl
theorem dd12_42 : decode cX1_takeOffThree 42 = .ok (.iload_n 2, 1) := by decide +kernel
theorem ww12_42 {d : Nat} {l0 l1 l3 : Option mw_V} {x : Int} {st : List mw_V} {σ : mw_S} {Q : Option mw_V → mw_S → Prop} : mw_WP d 12 42 [l0, l1, some (jI x), l3] st σ Q ↔ mw_WP d 12 43 [l0, l1, some (jI x), l3] (jI x :: st) σ Q := WP_iload_n mq12 dd12_42 rfl
theorem dd12_43 : decode cX1_takeOffThree 43 = .ok (.iconst 0, 1) := by decide +kernel
theorem ww12_43 {d : Nat} {l0 l1 l2 l3 : Option mw_V} {st : List mw_V} {σ : mw_S} {Q : Option mw_V → mw_S → Prop} : mw_WP d 12 43 [l0, l1, l2, l3] st σ Q ↔ mw_WP d 12 44 [l0, l1, l2, l3] (jI (0) :: st) σ Q := WP_iconst mq12 dd12_43 (by decide)
theorem dd12_44 : decode cX1_takeOffThree 44 = .ok (.iload_n 3, 1) := by decide +kernel
theorem ww12_44 {d : Nat} {l0 l1 l2 : Option mw_V} {x : Int} {st : List mw_V} {σ : mw_S} {Q : Option mw_V → mw_S → Prop} : mw_WP d 12 44 [l0, l1, l2, some (jI x)] st σ Q ↔ mw_WP d 12 45 [l0, l1, l2, some (jI x)] (jI x :: st) σ Q := WP_iload_n mq12 dd12_44 rfl
theorem dd12_45 : decode cX1_takeOffThree 45 = .ok (.ineg, 1) := by decide +kernel
theorem ww12_45 {d : Nat} {l0 l1 l2 l3 : Option mw_V} {x : Int} {st : List mw_V} {σ : mw_S} {Q : Option mw_V → mw_S → Prop} : mw_WP d 12 45 [l0, l1, l2, l3] (jI x :: st) σ Q ↔ mw_WP d 12 46 [l0, l1, l2, l3] (jI (w32 (-x)) :: st) σ Q := WP_ineg mq12 dd12_45
theorem dd12_46 : decode cX1_takeOffThree 46 = .ok (.invokestatic 27, 3) := by decide +kernel
theorem ww12_46 {d : Nat} {l0 l1 l2 l3 : Option mw_V} {v0 v1 v2 v3 : mw_V} {st : List mw_V} {σ : mw_S} {Q : Option mw_V → mw_S → Prop} (h8 : (st.map mw_cat).sum ≤ 8) : mw_WP d 12 46 [l0, l1, l2, l3] (v3 :: v2 :: v1 :: v0 :: st) σ Q ↔ mw_Call d 8 [v0, v1, v2, v3] σ (fun r1 s1 => mw_WP d 12 49 [l0, l1, l2, l3] (r1.toList ++ st) s1 Q) := WP_invs (as := [v3, v2, v1, v0]) mq12 dd12_46 (by decide) mq8 rfl rfl h8
theorem dd12_49 : decode cX1_takeOffThree 49 = .ok (.iconst 3, 1) := by decide +kernel
theorem ww12_49 {d : Nat} {l0 l1 l2 l3 : Option mw_V} {st : List mw_V} {σ : mw_S} {Q : Option mw_V → mw_S → Prop} : mw_WP d 12 49 [l0, l1, l2, l3] st σ Q ↔ mw_WP d 12 50 [l0, l1, l2, l3] (jI (3) :: st) σ Q := WP_iconst mq12 dd12_49 (by decide)
theorem dd12_50 : decode cX1_takeOffThree 50 = .ok (.iload_n 3, 1) := by decide +kernel
theorem ww12_50 {d : Nat} {l0 l1 l2 : Option mw_V} {x : Int} {st : List mw_V} {σ : mw_S} {Q : Option mw_V → mw_S → Prop} : mw_WP d 12 50 [l0, l1, l2, some (jI x)] st σ Q ↔ mw_WP d 12 51 [l0, l1, l2, some (jI x)] (jI x :: st) σ Q := WP_iload_n mq12 dd12_50 rfl
theorem dd12_51 : decode cX1_takeOffThree 51 = .ok (.imul, 1) := by decide +kernel
theorem ww12_51 {d : Nat} {l0 l1 l2 l3 : Option mw_V} {x y : Int} {st : List mw_V} {σ : mw_S} {Q : Option mw_V → mw_S → Prop} : mw_WP d 12 51 [l0, l1, l2, l3] (jI y :: jI x :: st) σ Q ↔ mw_WP d 12 52 [l0, l1, l2, l3] (jI (w32 (x * y)) :: st) σ Q := WP_imul mq12 dd12_51
theorem dd12_52 : decode cX1_takeOffThree 52 = .ok (.ireturn, 1) := by decide +kernel
theorem ww12_52 {d : Nat} {l0 l1 l2 l3 : Option mw_V} {z : Int} {σ : mw_S} {Q : Option mw_V → mw_S → Prop} : mw_WP d 12 52 [l0, l1, l2, l3] [jI z] σ Q ↔ Q (some (jI z)) σ := WP_ireturn (ty := .int) mq12 dd12_52 rfl rfl
theorem ee13 {d : Nat} {a0 : Nat} {z1 : Int} {σ : mw_S} {Q : Option mw_V → mw_S → Prop} : mw_Call (d + 1) 13 [jR a0, jI z1] σ Q ↔ mw_WP d 13 0 [some (jR a0), some (jI z1), none, none] [] σ Q := CL_u mq13 (Nat.le_of_ble_eq_true rfl) rfl
theorem dd13_0 : decode cX1_fewestPayments 0 = .ok (.iconst 0, 1) := by decide +kernel
theorem ww13_0 {d : Nat} {l0 l1 l2 l3 : Option mw_V} {st : List mw_V} {σ : mw_S} {Q : Option mw_V → mw_S → Prop} : mw_WP d 13 0 [l0, l1, l2, l3] st σ Q ↔ mw_WP d 13 1 [l0, l1, l2, l3] (jI (0) :: st) σ Q := WP_iconst mq13 dd13_0 (by decide)
theorem dd13_1 : decode cX1_fewestPayments 1 = .ok (.istore_n 2, 1) := by decide +kernel
theorem ww13_1 {d : Nat} {l0 l1 l2 l3 : Option mw_V} {x : Int} {st : List mw_V} {σ : mw_S} {Q : Option mw_V → mw_S → Prop} (h : mw_nlo l1 = true) : mw_WP d 13 1 [l0, l1, l2, l3] (jI x :: st) σ Q ↔ mw_WP d 13 2 [l0, l1, some (jI x), l3] st σ Q := WP_istore_n mq13 dd13_1 (Nat.le_of_ble_eq_true rfl) (mw_nl_of (i := 1) rfl h) rfl
theorem dd13_2 : decode cX1_fewestPayments 2 = .ok (.iconst 0, 1) := by decide +kernel
theorem ww13_2 {d : Nat} {l0 l1 l2 l3 : Option mw_V} {st : List mw_V} {σ : mw_S} {Q : Option mw_V → mw_S → Prop} : mw_WP d 13 2 [l0, l1, l2, l3] st σ Q ↔ mw_WP d 13 3 [l0, l1, l2, l3] (jI (0) :: st) σ Q := WP_iconst mq13 dd13_2 (by decide)
theorem dd13_3 : decode cX1_fewestPayments 3 = .ok (.istore_n 3, 1) := by decide +kernel
theorem ww13_3 {d : Nat} {l0 l1 l2 l3 : Option mw_V} {x : Int} {st : List mw_V} {σ : mw_S} {Q : Option mw_V → mw_S → Prop} (h : mw_nlo l2 = true) : mw_WP d 13 3 [l0, l1, l2, l3] (jI x :: st) σ Q ↔ mw_WP d 13 4 [l0, l1, l2, some (jI x)] st σ Q := WP_istore_n mq13 dd13_3 (Nat.le_of_ble_eq_true rfl) (mw_nl_of (i := 2) rfl h) rfl
theorem dd13_4 : decode cX1_fewestPayments 4 = .ok (.iload_n 3, 1) := by decide +kernel
theorem ww13_4 {d : Nat} {l0 l1 l2 : Option mw_V} {x : Int} {st : List mw_V} {σ : mw_S} {Q : Option mw_V → mw_S → Prop} : mw_WP d 13 4 [l0, l1, l2, some (jI x)] st σ Q ↔ mw_WP d 13 5 [l0, l1, l2, some (jI x)] (jI x :: st) σ Q := WP_iload_n mq13 dd13_4 rfl
theorem dd13_5 : decode cX1_fewestPayments 5 = .ok (.iload_n 1, 1) := by decide +kernel
theorem ww13_5 {d : Nat} {l0 l2 l3 : Option mw_V} {x : Int} {st : List mw_V} {σ : mw_S} {Q : Option mw_V → mw_S → Prop} : mw_WP d 13 5 [l0, some (jI x), l2, l3] st σ Q ↔ mw_WP d 13 6 [l0, some (jI x), l2, l3] (jI x :: st) σ Q := WP_iload_n mq13 dd13_5 rfl
theorem dd13_6 : decode cX1_fewestPayments 6 = .ok (.if_icmp .ge 20, 3) := by decide +kernel
theorem ww13_6 {d : Nat} {l0 l1 l2 l3 : Option mw_V} {x y : Int} {st : List mw_V} {σ : mw_S} {Q : Option mw_V → mw_S → Prop} : mw_WP d 13 6 [l0, l1, l2, l3] (jI y :: jI x :: st) σ Q ↔ (if y ≤ x then mw_WP d 13 26 [l0, l1, l2, l3] st σ Q else mw_WP d 13 9 [l0, l1, l2, l3] st σ Q) := WP_icmp_ge mq13 dd13_6 (by decide)
theorem dd13_9 : decode cX1_fewestPayments 9 = .ok (.aload_n 0, 1) := by decide +kernel
theorem ww13_9 {d : Nat} {l1 l2 l3 : Option mw_V} {x : Nat} {st : List mw_V} {σ : mw_S} {Q : Option mw_V → mw_S → Prop} : mw_WP d 13 9 [some (jR x), l1, l2, l3] st σ Q ↔ mw_WP d 13 10 [some (jR x), l1, l2, l3] (jR x :: st) σ Q := WP_aload_n mq13 dd13_9 rfl
theorem dd13_10 : decode cX1_fewestPayments 10 = .ok (.iload_n 3, 1) := by decide +kernel
theorem ww13_10 {d : Nat} {l0 l1 l2 : Option mw_V} {x : Int} {st : List mw_V} {σ : mw_S} {Q : Option mw_V → mw_S → Prop} : mw_WP d 13 10 [l0, l1, l2, some (jI x)] st σ Q ↔ mw_WP d 13 11 [l0, l1, l2, some (jI x)] (jI x :: st) σ Q := WP_iload_n mq13 dd13_10 rfl
theorem dd13_11 : decode cX1_fewestPayments 11 = .ok (.invokestatic 31, 3) := by decide +kernel
theorem ww13_11 {d : Nat} {l0 l1 l2 l3 : Option mw_V} {v0 v1 : mw_V} {st : List mw_V} {σ : mw_S} {Q : Option mw_V → mw_S → Prop} (h8 : (st.map mw_cat).sum ≤ 8) : mw_WP d 13 11 [l0, l1, l2, l3] (v1 :: v0 :: st) σ Q ↔ mw_Call d 9 [v0, v1] σ (fun r1 s1 => mw_WP d 13 14 [l0, l1, l2, l3] (r1.toList ++ st) s1 Q) := WP_invs (as := [v1, v0]) mq13 dd13_11 (by decide) mq9 rfl rfl h8
theorem dd13_14 : decode cX1_fewestPayments 14 = .ok (.ifCond .eq 6, 3) := by decide +kernel
theorem ww13_14 {d : Nat} {l0 l1 l2 l3 : Option mw_V} {x : Int} {st : List mw_V} {σ : mw_S} {Q : Option mw_V → mw_S → Prop} : mw_WP d 13 14 [l0, l1, l2, l3] (jI x :: st) σ Q ↔ (if x = 0 then mw_WP d 13 20 [l0, l1, l2, l3] st σ Q else mw_WP d 13 17 [l0, l1, l2, l3] st σ Q) := WP_if_eq mq13 dd13_14 (by decide)
theorem dd13_17 : decode cX1_fewestPayments 17 = .ok (.iinc 2 1, 3) := by decide +kernel
theorem ww13_17 {d : Nat} {l0 l1 l3 : Option mw_V} {x : Int} {st : List mw_V} {σ : mw_S} {Q : Option mw_V → mw_S → Prop} (h : mw_nlo l1 = true) : mw_WP d 13 17 [l0, l1, some (jI x), l3] st σ Q ↔ mw_WP d 13 20 [l0, l1, some (jI (w32 (x + (1)))), l3] st σ Q := WP_iinc mq13 dd13_17 rfl (Nat.le_of_ble_eq_true rfl) (mw_nl_of (i := 1) rfl h) rfl
theorem dd13_20 : decode cX1_fewestPayments 20 = .ok (.iinc 3 1, 3) := by decide +kernel
theorem ww13_20 {d : Nat} {l0 l1 l2 : Option mw_V} {x : Int} {st : List mw_V} {σ : mw_S} {Q : Option mw_V → mw_S → Prop} (h : mw_nlo l2 = true) : mw_WP d 13 20 [l0, l1, l2, some (jI x)] st σ Q ↔ mw_WP d 13 23 [l0, l1, l2, some (jI (w32 (x + (1))))] st σ Q := WP_iinc mq13 dd13_20 rfl (Nat.le_of_ble_eq_true rfl) (mw_nl_of (i := 2) rfl h) rfl
theorem dd13_23 : decode cX1_fewestPayments 23 = .ok (.goto (-19), 3) := by decide +kernel
theorem ww13_23 {d : Nat} {l0 l1 l2 l3 : Option mw_V} {st : List mw_V} {σ : mw_S} {Q : Option mw_V → mw_S → Prop} : mw_WP d 13 23 [l0, l1, l2, l3] st σ Q ↔ mw_WP d 13 4 [l0, l1, l2, l3] st σ Q := WP_goto mq13 dd13_23 (by decide)
theorem dd13_26 : decode cX1_fewestPayments 26 = .ok (.iconst 0, 1) := by decide +kernel
theorem ww13_26 {d : Nat} {l0 l1 l2 l3 : Option mw_V} {st : List mw_V} {σ : mw_S} {Q : Option mw_V → mw_S → Prop} : mw_WP d 13 26 [l0, l1, l2, l3] st σ Q ↔ mw_WP d 13 27 [l0, l1, l2, l3] (jI (0) :: st) σ Q := WP_iconst mq13 dd13_26 (by decide)
theorem dd13_27 : decode cX1_fewestPayments 27 = .ok (.iload_n 2, 1) := by decide +kernel
theorem ww13_27 {d : Nat} {l0 l1 l3 : Option mw_V} {x : Int} {st : List mw_V} {σ : mw_S} {Q : Option mw_V → mw_S → Prop} : mw_WP d 13 27 [l0, l1, some (jI x), l3] st σ Q ↔ mw_WP d 13 28 [l0, l1, some (jI x), l3] (jI x :: st) σ Q := WP_iload_n mq13 dd13_27 rfl
theorem dd13_28 : decode cX1_fewestPayments 28 = .ok (.iconst 1, 1) := by decide +kernel
theorem ww13_28 {d : Nat} {l0 l1 l2 l3 : Option mw_V} {st : List mw_V} {σ : mw_S} {Q : Option mw_V → mw_S → Prop} : mw_WP d 13 28 [l0, l1, l2, l3] st σ Q ↔ mw_WP d 13 29 [l0, l1, l2, l3] (jI (1) :: st) σ Q := WP_iconst mq13 dd13_28 (by decide)
theorem dd13_29 : decode cX1_fewestPayments 29 = .ok (.isub, 1) := by decide +kernel
theorem ww13_29 {d : Nat} {l0 l1 l2 l3 : Option mw_V} {x y : Int} {st : List mw_V} {σ : mw_S} {Q : Option mw_V → mw_S → Prop} : mw_WP d 13 29 [l0, l1, l2, l3] (jI y :: jI x :: st) σ Q ↔ mw_WP d 13 30 [l0, l1, l2, l3] (jI (w32 (x - y)) :: st) σ Q := WP_isub mq13 dd13_29
theorem dd13_30 : decode cX1_fewestPayments 30 = .ok (.invokestatic 35, 3) := by decide +kernel
theorem ww13_30 {d : Nat} {l0 l1 l2 l3 : Option mw_V} {v0 v1 : mw_V} {st : List mw_V} {σ : mw_S} {Q : Option mw_V → mw_S → Prop} (h8 : (st.map mw_cat).sum ≤ 8) : mw_WP d 13 30 [l0, l1, l2, l3] (v1 :: v0 :: st) σ Q ↔ mw_Call d 282 [v0, v1] σ (fun r1 s1 => mw_WP d 13 33 [l0, l1, l2, l3] (r1.toList ++ st) s1 Q) := WP_invs (as := [v1, v0]) mq13 dd13_30 (by decide) mq282 rfl rfl h8
theorem dd13_33 : decode cX1_fewestPayments 33 = .ok (.ireturn, 1) := by decide +kernel
theorem ww13_33 {d : Nat} {l0 l1 l2 l3 : Option mw_V} {z : Int} {σ : mw_S} {Q : Option mw_V → mw_S → Prop} : mw_WP d 13 33 [l0, l1, l2, l3] [jI z] σ Q ↔ Q (some (jI z)) σ := WP_ireturn (ty := .int) mq13 dd13_33 rfl rfl
theorem ee14 {d : Nat} {a : Nat} {z0 : Int} {z1 : Int} {σ : mw_S} {Q : Option mw_V → mw_S → Prop} : mw_Call (d + 1) 14 [jR a, jI z0, jI z1] σ Q ↔ mw_WP d 14 0 [some (jR a), some (jI z0), some (jI z1), none, none, none] [] σ Q := CL_u mq14 (Nat.le_of_ble_eq_true rfl) rfl
theorem dd14_0 : decode cX2_solve 0 = .ok (.aload_n 0, 1) := by decide +kernel
theorem ww14_0 {d : Nat} {l1 l2 l3 l4 l5 : Option mw_V} {x : Nat} {st : List mw_V} {σ : mw_S} {Q : Option mw_V → mw_S → Prop} : mw_WP d 14 0 [some (jR x), l1, l2, l3, l4, l5] st σ Q ↔ mw_WP d 14 1 [some (jR x), l1, l2, l3, l4, l5] (jR x :: st) σ Q := WP_aload_n mq14 dd14_0 rfl
theorem dd14_1 : decode cX2_solve 1 = .ok (.iload_n 1, 1) := by decide +kernel
theorem ww14_1 {d : Nat} {l0 l2 l3 l4 l5 : Option mw_V} {x : Int} {st : List mw_V} {σ : mw_S} {Q : Option mw_V → mw_S → Prop} : mw_WP d 14 1 [l0, some (jI x), l2, l3, l4, l5] st σ Q ↔ mw_WP d 14 2 [l0, some (jI x), l2, l3, l4, l5] (jI x :: st) σ Q := WP_iload_n mq14 dd14_1 rfl
theorem dd14_2 : decode cX2_solve 2 = .ok (.putfield 13, 3) := by decide +kernel
theorem ww14_2 {d : Nat} {l0 l1 l2 l3 l4 l5 : Option mw_V} {v : Int} {st : List mw_V} {σ : mw_S} {Q : Option mw_V → mw_S → Prop} : mw_WP d 14 2 [l0, l1, l2, l3, l4, l5] (jI v :: jR 74 :: st) σ Q ↔ mw_WP d 14 5 [l0, l1, l2, l3, l4, l5] st (upS σ 74 1 v) Q := WP_putI (ci := 1) (k := 1) mq14 dd14_2 (by decide) rfl
theorem dd14_5 : decode cX2_solve 5 = .ok (.aload_n 0, 1) := by decide +kernel
theorem ww14_5 {d : Nat} {l1 l2 l3 l4 l5 : Option mw_V} {x : Nat} {st : List mw_V} {σ : mw_S} {Q : Option mw_V → mw_S → Prop} : mw_WP d 14 5 [some (jR x), l1, l2, l3, l4, l5] st σ Q ↔ mw_WP d 14 6 [some (jR x), l1, l2, l3, l4, l5] (jR x :: st) σ Q := WP_aload_n mq14 dd14_5 rfl
theorem dd14_6 : decode cX2_solve 6 = .ok (.iload_n 2, 1) := by decide +kernel
theorem ww14_6 {d : Nat} {l0 l1 l3 l4 l5 : Option mw_V} {x : Int} {st : List mw_V} {σ : mw_S} {Q : Option mw_V → mw_S → Prop} : mw_WP d 14 6 [l0, l1, some (jI x), l3, l4, l5] st σ Q ↔ mw_WP d 14 7 [l0, l1, some (jI x), l3, l4, l5] (jI x :: st) σ Q := WP_iload_n mq14 dd14_6 rfl
theorem dd14_7 : decode cX2_solve 7 = .ok (.putfield 17, 3) := by decide +kernel
theorem ww14_7 {d : Nat} {l0 l1 l2 l3 l4 l5 : Option mw_V} {v : Int} {st : List mw_V} {σ : mw_S} {Q : Option mw_V → mw_S → Prop} : mw_WP d 14 7 [l0, l1, l2, l3, l4, l5] (jI v :: jR 74 :: st) σ Q ↔ mw_WP d 14 10 [l0, l1, l2, l3, l4, l5] st (upS σ 74 2 v) Q := WP_putI (ci := 1) (k := 2) mq14 dd14_7 (by decide) rfl
theorem dd14_10 : decode cX2_solve 10 = .ok (.iconst 1, 1) := by decide +kernel
theorem ww14_10 {d : Nat} {l0 l1 l2 l3 l4 l5 : Option mw_V} {st : List mw_V} {σ : mw_S} {Q : Option mw_V → mw_S → Prop} : mw_WP d 14 10 [l0, l1, l2, l3, l4, l5] st σ Q ↔ mw_WP d 14 11 [l0, l1, l2, l3, l4, l5] (jI (1) :: st) σ Q := WP_iconst mq14 dd14_10 (by decide)
theorem dd14_11 : decode cX2_solve 11 = .ok (.istore_n 3, 1) := by decide +kernel
theorem ww14_11 {d : Nat} {l0 l1 l2 l3 l4 l5 : Option mw_V} {x : Int} {st : List mw_V} {σ : mw_S} {Q : Option mw_V → mw_S → Prop} (h : mw_nlo l2 = true) : mw_WP d 14 11 [l0, l1, l2, l3, l4, l5] (jI x :: st) σ Q ↔ mw_WP d 14 12 [l0, l1, l2, some (jI x), l4, l5] st σ Q := WP_istore_n mq14 dd14_11 (Nat.le_of_ble_eq_true rfl) (mw_nl_of (i := 2) rfl h) rfl
theorem dd14_12 : decode cX2_solve 12 = .ok (.aload_n 0, 1) := by decide +kernel
theorem ww14_12 {d : Nat} {l1 l2 l3 l4 l5 : Option mw_V} {x : Nat} {st : List mw_V} {σ : mw_S} {Q : Option mw_V → mw_S → Prop} : mw_WP d 14 12 [some (jR x), l1, l2, l3, l4, l5] st σ Q ↔ mw_WP d 14 13 [some (jR x), l1, l2, l3, l4, l5] (jR x :: st) σ Q := WP_aload_n mq14 dd14_12 rfl
theorem dd14_13 : decode cX2_solve 13 = .ok (.iconst 1, 1) := by decide +kernel
theorem ww14_13 {d : Nat} {l0 l1 l2 l3 l4 l5 : Option mw_V} {st : List mw_V} {σ : mw_S} {Q : Option mw_V → mw_S → Prop} : mw_WP d 14 13 [l0, l1, l2, l3, l4, l5] st σ Q ↔ mw_WP d 14 14 [l0, l1, l2, l3, l4, l5] (jI (1) :: st) σ Q := WP_iconst mq14 dd14_13 (by decide)
theorem dd14_14 : decode cX2_solve 14 = .ok (.putfield 20, 3) := by decide +kernel
theorem ww14_14 {d : Nat} {l0 l1 l2 l3 l4 l5 : Option mw_V} {v : Int} {st : List mw_V} {σ : mw_S} {Q : Option mw_V → mw_S → Prop} : mw_WP d 14 14 [l0, l1, l2, l3, l4, l5] (jI v :: jR 74 :: st) σ Q ↔ mw_WP d 14 17 [l0, l1, l2, l3, l4, l5] st (upS σ 74 3 v) Q := WP_putI (ci := 1) (k := 3) mq14 dd14_14 (by decide) rfl
theorem dd14_17 : decode cX2_solve 17 = .ok (.iconst 0, 1) := by decide +kernel
theorem ww14_17 {d : Nat} {l0 l1 l2 l3 l4 l5 : Option mw_V} {st : List mw_V} {σ : mw_S} {Q : Option mw_V → mw_S → Prop} : mw_WP d 14 17 [l0, l1, l2, l3, l4, l5] st σ Q ↔ mw_WP d 14 18 [l0, l1, l2, l3, l4, l5] (jI (0) :: st) σ Q := WP_iconst mq14 dd14_17 (by decide)
theorem dd14_18 : decode cX2_solve 18 = .ok (.istore 4, 2) := by decide +kernel
theorem ww14_18 {d : Nat} {l0 l1 l2 l3 l4 l5 : Option mw_V} {x : Int} {st : List mw_V} {σ : mw_S} {Q : Option mw_V → mw_S → Prop} (h : mw_nlo l3 = true) : mw_WP d 14 18 [l0, l1, l2, l3, l4, l5] (jI x :: st) σ Q ↔ mw_WP d 14 20 [l0, l1, l2, l3, some (jI x), l5] st σ Q := WP_istore mq14 dd14_18 (Nat.le_of_ble_eq_true rfl) (mw_nl_of (i := 3) rfl h) rfl
theorem dd14_20 : decode cX2_solve 20 = .ok (.iload 4, 2) := by decide +kernel
theorem ww14_20 {d : Nat} {l0 l1 l2 l3 l5 : Option mw_V} {x : Int} {st : List mw_V} {σ : mw_S} {Q : Option mw_V → mw_S → Prop} : mw_WP d 14 20 [l0, l1, l2, l3, some (jI x), l5] st σ Q ↔ mw_WP d 14 22 [l0, l1, l2, l3, some (jI x), l5] (jI x :: st) σ Q := WP_iload mq14 dd14_20 rfl
theorem dd14_22 : decode cX2_solve 22 = .ok (.aload_n 0, 1) := by decide +kernel
theorem ww14_22 {d : Nat} {l1 l2 l3 l4 l5 : Option mw_V} {x : Nat} {st : List mw_V} {σ : mw_S} {Q : Option mw_V → mw_S → Prop} : mw_WP d 14 22 [some (jR x), l1, l2, l3, l4, l5] st σ Q ↔ mw_WP d 14 23 [some (jR x), l1, l2, l3, l4, l5] (jR x :: st) σ Q := WP_aload_n mq14 dd14_22 rfl
theorem dd14_23 : decode cX2_solve 23 = .ok (.getfield 17, 3) := by decide +kernel
theorem ww14_23 {d : Nat} {l0 l1 l2 l3 l4 l5 : Option mw_V} {st : List mw_V} {σ : mw_S} {Q : Option mw_V → mw_S → Prop} : mw_WP d 14 23 [l0, l1, l2, l3, l4, l5] (jR 74 :: st) σ Q ↔ mw_WP d 14 26 [l0, l1, l2, l3, l4, l5] (jI (σ 74 2) :: st) σ Q := WP_getI (ci := 1) (k := 2) mq14 dd14_23 (by decide) (Or.inl rfl)
theorem dd14_26 : decode cX2_solve 26 = .ok (.if_icmp .ge 23, 3) := by decide +kernel
theorem ww14_26 {d : Nat} {l0 l1 l2 l3 l4 l5 : Option mw_V} {x y : Int} {st : List mw_V} {σ : mw_S} {Q : Option mw_V → mw_S → Prop} : mw_WP d 14 26 [l0, l1, l2, l3, l4, l5] (jI y :: jI x :: st) σ Q ↔ (if y ≤ x then mw_WP d 14 49 [l0, l1, l2, l3, l4, l5] st σ Q else mw_WP d 14 29 [l0, l1, l2, l3, l4, l5] st σ Q) := WP_icmp_ge mq14 dd14_26 (by decide)
theorem dd14_29 : decode cX2_solve 29 = .ok (.aload_n 0, 1) := by decide +kernel
theorem ww14_29 {d : Nat} {l1 l2 l3 l4 l5 : Option mw_V} {x : Nat} {st : List mw_V} {σ : mw_S} {Q : Option mw_V → mw_S → Prop} : mw_WP d 14 29 [some (jR x), l1, l2, l3, l4, l5] st σ Q ↔ mw_WP d 14 30 [some (jR x), l1, l2, l3, l4, l5] (jR x :: st) σ Q := WP_aload_n mq14 dd14_29 rfl
theorem dd14_30 : decode cX2_solve 30 = .ok (.iload_n 3, 1) := by decide +kernel
theorem ww14_30 {d : Nat} {l0 l1 l2 l4 l5 : Option mw_V} {x : Int} {st : List mw_V} {σ : mw_S} {Q : Option mw_V → mw_S → Prop} : mw_WP d 14 30 [l0, l1, l2, some (jI x), l4, l5] st σ Q ↔ mw_WP d 14 31 [l0, l1, l2, some (jI x), l4, l5] (jI x :: st) σ Q := WP_iload_n mq14 dd14_30 rfl
theorem dd14_31 : decode cX2_solve 31 = .ok (.putfield 20, 3) := by decide +kernel
theorem ww14_31 {d : Nat} {l0 l1 l2 l3 l4 l5 : Option mw_V} {v : Int} {st : List mw_V} {σ : mw_S} {Q : Option mw_V → mw_S → Prop} : mw_WP d 14 31 [l0, l1, l2, l3, l4, l5] (jI v :: jR 74 :: st) σ Q ↔ mw_WP d 14 34 [l0, l1, l2, l3, l4, l5] st (upS σ 74 3 v) Q := WP_putI (ci := 1) (k := 3) mq14 dd14_31 (by decide) rfl
theorem dd14_34 : decode cX2_solve 34 = .ok (.iload_n 3, 1) := by decide +kernel
theorem ww14_34 {d : Nat} {l0 l1 l2 l4 l5 : Option mw_V} {x : Int} {st : List mw_V} {σ : mw_S} {Q : Option mw_V → mw_S → Prop} : mw_WP d 14 34 [l0, l1, l2, some (jI x), l4, l5] st σ Q ↔ mw_WP d 14 35 [l0, l1, l2, some (jI x), l4, l5] (jI x :: st) σ Q := WP_iload_n mq14 dd14_34 rfl
theorem dd14_35 : decode cX2_solve 35 = .ok (.aload_n 0, 1) := by decide +kernel
theorem ww14_35 {d : Nat} {l1 l2 l3 l4 l5 : Option mw_V} {x : Nat} {st : List mw_V} {σ : mw_S} {Q : Option mw_V → mw_S → Prop} : mw_WP d 14 35 [some (jR x), l1, l2, l3, l4, l5] st σ Q ↔ mw_WP d 14 36 [some (jR x), l1, l2, l3, l4, l5] (jR x :: st) σ Q := WP_aload_n mq14 dd14_35 rfl
theorem dd14_36 : decode cX2_solve 36 = .ok (.getfield 13, 3) := by decide +kernel
theorem ww14_36 {d : Nat} {l0 l1 l2 l3 l4 l5 : Option mw_V} {st : List mw_V} {σ : mw_S} {Q : Option mw_V → mw_S → Prop} : mw_WP d 14 36 [l0, l1, l2, l3, l4, l5] (jR 74 :: st) σ Q ↔ mw_WP d 14 39 [l0, l1, l2, l3, l4, l5] (jI (σ 74 1) :: st) σ Q := WP_getI (ci := 1) (k := 1) mq14 dd14_36 (by decide) (Or.inl rfl)
theorem dd14_39 : decode cX2_solve 39 = .ok (.iconst 1, 1) := by decide +kernel
theorem ww14_39 {d : Nat} {l0 l1 l2 l3 l4 l5 : Option mw_V} {st : List mw_V} {σ : mw_S} {Q : Option mw_V → mw_S → Prop} : mw_WP d 14 39 [l0, l1, l2, l3, l4, l5] st σ Q ↔ mw_WP d 14 40 [l0, l1, l2, l3, l4, l5] (jI (1) :: st) σ Q := WP_iconst mq14 dd14_39 (by decide)
theorem dd14_40 : decode cX2_solve 40 = .ok (.iadd, 1) := by decide +kernel
theorem ww14_40 {d : Nat} {l0 l1 l2 l3 l4 l5 : Option mw_V} {x y : Int} {st : List mw_V} {σ : mw_S} {Q : Option mw_V → mw_S → Prop} : mw_WP d 14 40 [l0, l1, l2, l3, l4, l5] (jI y :: jI x :: st) σ Q ↔ mw_WP d 14 41 [l0, l1, l2, l3, l4, l5] (jI (w32 (x + y)) :: st) σ Q := WP_iadd mq14 dd14_40
theorem dd14_41 : decode cX2_solve 41 = .ok (.imul, 1) := by decide +kernel
theorem ww14_41 {d : Nat} {l0 l1 l2 l3 l4 l5 : Option mw_V} {x y : Int} {st : List mw_V} {σ : mw_S} {Q : Option mw_V → mw_S → Prop} : mw_WP d 14 41 [l0, l1, l2, l3, l4, l5] (jI y :: jI x :: st) σ Q ↔ mw_WP d 14 42 [l0, l1, l2, l3, l4, l5] (jI (w32 (x * y)) :: st) σ Q := WP_imul mq14 dd14_41
theorem dd14_42 : decode cX2_solve 42 = .ok (.istore_n 3, 1) := by decide +kernel
theorem ww14_42 {d : Nat} {l0 l1 l2 l3 l4 l5 : Option mw_V} {x : Int} {st : List mw_V} {σ : mw_S} {Q : Option mw_V → mw_S → Prop} (h : mw_nlo l2 = true) : mw_WP d 14 42 [l0, l1, l2, l3, l4, l5] (jI x :: st) σ Q ↔ mw_WP d 14 43 [l0, l1, l2, some (jI x), l4, l5] st σ Q := WP_istore_n mq14 dd14_42 (Nat.le_of_ble_eq_true rfl) (mw_nl_of (i := 2) rfl h) rfl
theorem dd14_43 : decode cX2_solve 43 = .ok (.iinc 4 1, 3) := by decide +kernel
theorem ww14_43 {d : Nat} {l0 l1 l2 l3 l5 : Option mw_V} {x : Int} {st : List mw_V} {σ : mw_S} {Q : Option mw_V → mw_S → Prop} (h : mw_nlo l3 = true) : mw_WP d 14 43 [l0, l1, l2, l3, some (jI x), l5] st σ Q ↔ mw_WP d 14 46 [l0, l1, l2, l3, some (jI (w32 (x + (1)))), l5] st σ Q := WP_iinc mq14 dd14_43 rfl (Nat.le_of_ble_eq_true rfl) (mw_nl_of (i := 3) rfl h) rfl
theorem dd14_46 : decode cX2_solve 46 = .ok (.goto (-26), 3) := by decide +kernel
theorem ww14_46 {d : Nat} {l0 l1 l2 l3 l4 l5 : Option mw_V} {st : List mw_V} {σ : mw_S} {Q : Option mw_V → mw_S → Prop} : mw_WP d 14 46 [l0, l1, l2, l3, l4, l5] st σ Q ↔ mw_WP d 14 20 [l0, l1, l2, l3, l4, l5] st σ Q := WP_goto mq14 dd14_46 (by decide)
theorem dd14_49 : decode cX2_solve 49 = .ok (.iload_n 3, 1) := by decide +kernel
theorem ww14_49 {d : Nat} {l0 l1 l2 l4 l5 : Option mw_V} {x : Int} {st : List mw_V} {σ : mw_S} {Q : Option mw_V → mw_S → Prop} : mw_WP d 14 49 [l0, l1, l2, some (jI x), l4, l5] st σ Q ↔ mw_WP d 14 50 [l0, l1, l2, some (jI x), l4, l5] (jI x :: st) σ Q := WP_iload_n mq14 dd14_49 rfl
theorem dd14_50 : decode cX2_solve 50 = .ok (.bipush 125, 2) := by decide +kernel
theorem ww14_50 {d : Nat} {l0 l1 l2 l3 l4 l5 : Option mw_V} {st : List mw_V} {σ : mw_S} {Q : Option mw_V → mw_S → Prop} : mw_WP d 14 50 [l0, l1, l2, l3, l4, l5] st σ Q ↔ mw_WP d 14 52 [l0, l1, l2, l3, l4, l5] (jI (125) :: st) σ Q := WP_bipush mq14 dd14_50 (by decide)
theorem dd14_52 : decode cX2_solve 52 = .ok (.invokestatic 23, 3) := by decide +kernel
theorem ww14_52 {d : Nat} {l0 l1 l2 l3 l4 l5 : Option mw_V} {v0 v1 : mw_V} {st : List mw_V} {σ : mw_S} {Q : Option mw_V → mw_S → Prop} (h8 : (st.map mw_cat).sum ≤ 8) : mw_WP d 14 52 [l0, l1, l2, l3, l4, l5] (v1 :: v0 :: st) σ Q ↔ mw_Call d 283 [v0, v1] σ (fun r1 s1 => mw_WP d 14 55 [l0, l1, l2, l3, l4, l5] (r1.toList ++ st) s1 Q) := WP_invs (as := [v1, v0]) mq14 dd14_52 (by decide) mq283 rfl rfl h8
theorem dd14_55 : decode cX2_solve 55 = .ok (.istore_n 3, 1) := by decide +kernel
theorem ww14_55 {d : Nat} {l0 l1 l2 l3 l4 l5 : Option mw_V} {x : Int} {st : List mw_V} {σ : mw_S} {Q : Option mw_V → mw_S → Prop} (h : mw_nlo l2 = true) : mw_WP d 14 55 [l0, l1, l2, l3, l4, l5] (jI x :: st) σ Q ↔ mw_WP d 14 56 [l0, l1, l2, some (jI x), l4, l5] st σ Q := WP_istore_n mq14 dd14_55 (Nat.le_of_ble_eq_true rfl) (mw_nl_of (i := 2) rfl h) rfl
theorem dd14_56 : decode cX2_solve 56 = .ok (.iconst 0, 1) := by decide +kernel
theorem ww14_56 {d : Nat} {l0 l1 l2 l3 l4 l5 : Option mw_V} {st : List mw_V} {σ : mw_S} {Q : Option mw_V → mw_S → Prop} : mw_WP d 14 56 [l0, l1, l2, l3, l4, l5] st σ Q ↔ mw_WP d 14 57 [l0, l1, l2, l3, l4, l5] (jI (0) :: st) σ Q := WP_iconst mq14 dd14_56 (by decide)
theorem dd14_57 : decode cX2_solve 57 = .ok (.istore 4, 2) := by decide +kernel
theorem ww14_57 {d : Nat} {l0 l1 l2 l3 l4 l5 : Option mw_V} {x : Int} {st : List mw_V} {σ : mw_S} {Q : Option mw_V → mw_S → Prop} (h : mw_nlo l3 = true) : mw_WP d 14 57 [l0, l1, l2, l3, l4, l5] (jI x :: st) σ Q ↔ mw_WP d 14 59 [l0, l1, l2, l3, some (jI x), l5] st σ Q := WP_istore mq14 dd14_57 (Nat.le_of_ble_eq_true rfl) (mw_nl_of (i := 3) rfl h) rfl
theorem dd14_59 : decode cX2_solve 59 = .ok (.iload 4, 2) := by decide +kernel
theorem ww14_59 {d : Nat} {l0 l1 l2 l3 l5 : Option mw_V} {x : Int} {st : List mw_V} {σ : mw_S} {Q : Option mw_V → mw_S → Prop} : mw_WP d 14 59 [l0, l1, l2, l3, some (jI x), l5] st σ Q ↔ mw_WP d 14 61 [l0, l1, l2, l3, some (jI x), l5] (jI x :: st) σ Q := WP_iload mq14 dd14_59 rfl
theorem dd14_61 : decode cX2_solve 61 = .ok (.iload_n 3, 1) := by decide +kernel
theorem ww14_61 {d : Nat} {l0 l1 l2 l4 l5 : Option mw_V} {x : Int} {st : List mw_V} {σ : mw_S} {Q : Option mw_V → mw_S → Prop} : mw_WP d 14 61 [l0, l1, l2, some (jI x), l4, l5] st σ Q ↔ mw_WP d 14 62 [l0, l1, l2, some (jI x), l4, l5] (jI x :: st) σ Q := WP_iload_n mq14 dd14_61 rfl
theorem dd14_62 : decode cX2_solve 62 = .ok (.if_icmp .ge 17, 3) := by decide +kernel
theorem ww14_62 {d : Nat} {l0 l1 l2 l3 l4 l5 : Option mw_V} {x y : Int} {st : List mw_V} {σ : mw_S} {Q : Option mw_V → mw_S → Prop} : mw_WP d 14 62 [l0, l1, l2, l3, l4, l5] (jI y :: jI x :: st) σ Q ↔ (if y ≤ x then mw_WP d 14 79 [l0, l1, l2, l3, l4, l5] st σ Q else mw_WP d 14 65 [l0, l1, l2, l3, l4, l5] st σ Q) := WP_icmp_ge mq14 dd14_62 (by decide)
theorem dd14_65 : decode cX2_solve 65 = .ok (.aload_n 0, 1) := by decide +kernel
theorem ww14_65 {d : Nat} {l1 l2 l3 l4 l5 : Option mw_V} {x : Nat} {st : List mw_V} {σ : mw_S} {Q : Option mw_V → mw_S → Prop} : mw_WP d 14 65 [some (jR x), l1, l2, l3, l4, l5] st σ Q ↔ mw_WP d 14 66 [some (jR x), l1, l2, l3, l4, l5] (jR x :: st) σ Q := WP_aload_n mq14 dd14_65 rfl
theorem dd14_66 : decode cX2_solve 66 = .ok (.getfield 9, 3) := by decide +kernel
theorem ww14_66 {d : Nat} {l0 l1 l2 l3 l4 l5 : Option mw_V} {st : List mw_V} {σ : mw_S} {Q : Option mw_V → mw_S → Prop} : mw_WP d 14 66 [l0, l1, l2, l3, l4, l5] (jR 74 :: st) σ Q ↔ mw_WP d 14 69 [l0, l1, l2, l3, l4, l5] (jR 75 :: st) σ Q := WP_getR (ci := 1) (k := 0) mq14 dd14_66 (by decide) rfl
theorem dd14_69 : decode cX2_solve 69 = .ok (.iload 4, 2) := by decide +kernel
theorem ww14_69 {d : Nat} {l0 l1 l2 l3 l5 : Option mw_V} {x : Int} {st : List mw_V} {σ : mw_S} {Q : Option mw_V → mw_S → Prop} : mw_WP d 14 69 [l0, l1, l2, l3, some (jI x), l5] st σ Q ↔ mw_WP d 14 71 [l0, l1, l2, l3, some (jI x), l5] (jI x :: st) σ Q := WP_iload mq14 dd14_69 rfl
theorem dd14_71 : decode cX2_solve 71 = .ok (.lconst 0, 1) := by decide +kernel
theorem ww14_71 {d : Nat} {l0 l1 l2 l3 l4 l5 : Option mw_V} {st : List mw_V} {σ : mw_S} {Q : Option mw_V → mw_S → Prop} : mw_WP d 14 71 [l0, l1, l2, l3, l4, l5] st σ Q ↔ mw_WP d 14 72 [l0, l1, l2, l3, l4, l5] (jL (0) :: st) σ Q := WP_lconst mq14 dd14_71 (by decide)
theorem dd14_72 : decode cX2_solve 72 = .ok (.lastore, 1) := by decide +kernel
theorem ww14_72 {d : Nat} {l0 l1 l2 l3 l4 l5 : Option mw_V} {x z : Int} {a : Nat} {st : List mw_V} {σ : mw_S} {Q : Option mw_V → mw_S → Prop} : mw_WP d 14 72 [l0, l1, l2, l3, l4, l5] (jL x :: jI z :: jR a :: st) σ Q ↔ ((0 ≤ z ∧ z < mw_lenW 2 a) ∧ mw_WP d 14 73 [l0, l1, l2, l3, l4, l5] st (upS σ a z.toNat x) Q) := WP_lastore mq14 dd14_72
theorem dd14_73 : decode cX2_solve 73 = .ok (.iinc 4 1, 3) := by decide +kernel
theorem ww14_73 {d : Nat} {l0 l1 l2 l3 l5 : Option mw_V} {x : Int} {st : List mw_V} {σ : mw_S} {Q : Option mw_V → mw_S → Prop} (h : mw_nlo l3 = true) : mw_WP d 14 73 [l0, l1, l2, l3, some (jI x), l5] st σ Q ↔ mw_WP d 14 76 [l0, l1, l2, l3, some (jI (w32 (x + (1)))), l5] st σ Q := WP_iinc mq14 dd14_73 rfl (Nat.le_of_ble_eq_true rfl) (mw_nl_of (i := 3) rfl h) rfl
theorem dd14_76 : decode cX2_solve 76 = .ok (.goto (-17), 3) := by decide +kernel
theorem ww14_76 {d : Nat} {l0 l1 l2 l3 l4 l5 : Option mw_V} {st : List mw_V} {σ : mw_S} {Q : Option mw_V → mw_S → Prop} : mw_WP d 14 76 [l0, l1, l2, l3, l4, l5] st σ Q ↔ mw_WP d 14 59 [l0, l1, l2, l3, l4, l5] st σ Q := WP_goto mq14 dd14_76 (by decide)
theorem dd14_79 : decode cX2_solve 79 = .ok (.iconst 1, 1) := by decide +kernel
theorem ww14_79 {d : Nat} {l0 l1 l2 l3 l4 l5 : Option mw_V} {st : List mw_V} {σ : mw_S} {Q : Option mw_V → mw_S → Prop} : mw_WP d 14 79 [l0, l1, l2, l3, l4, l5] st σ Q ↔ mw_WP d 14 80 [l0, l1, l2, l3, l4, l5] (jI (1) :: st) σ Q := WP_iconst mq14 dd14_79 (by decide)
theorem dd14_80 : decode cX2_solve 80 = .ok (.istore 4, 2) := by decide +kernel
theorem ww14_80 {d : Nat} {l0 l1 l2 l3 l4 l5 : Option mw_V} {x : Int} {st : List mw_V} {σ : mw_S} {Q : Option mw_V → mw_S → Prop} (h : mw_nlo l3 = true) : mw_WP d 14 80 [l0, l1, l2, l3, l4, l5] (jI x :: st) σ Q ↔ mw_WP d 14 82 [l0, l1, l2, l3, some (jI x), l5] st σ Q := WP_istore mq14 dd14_80 (Nat.le_of_ble_eq_true rfl) (mw_nl_of (i := 3) rfl h) rfl
theorem dd14_82 : decode cX2_solve 82 = .ok (.iload 4, 2) := by decide +kernel
theorem ww14_82 {d : Nat} {l0 l1 l2 l3 l5 : Option mw_V} {x : Int} {st : List mw_V} {σ : mw_S} {Q : Option mw_V → mw_S → Prop} : mw_WP d 14 82 [l0, l1, l2, l3, some (jI x), l5] st σ Q ↔ mw_WP d 14 84 [l0, l1, l2, l3, some (jI x), l5] (jI x :: st) σ Q := WP_iload mq14 dd14_82 rfl
theorem dd14_84 : decode cX2_solve 84 = .ok (.bipush 60, 2) := by decide +kernel
theorem ww14_84 {d : Nat} {l0 l1 l2 l3 l4 l5 : Option mw_V} {st : List mw_V} {σ : mw_S} {Q : Option mw_V → mw_S → Prop} : mw_WP d 14 84 [l0, l1, l2, l3, l4, l5] st σ Q ↔ mw_WP d 14 86 [l0, l1, l2, l3, l4, l5] (jI (60) :: st) σ Q := WP_bipush mq14 dd14_84 (by decide)
theorem dd14_86 : decode cX2_solve 86 = .ok (.if_icmp .gt 49, 3) := by decide +kernel
theorem ww14_86 {d : Nat} {l0 l1 l2 l3 l4 l5 : Option mw_V} {x y : Int} {st : List mw_V} {σ : mw_S} {Q : Option mw_V → mw_S → Prop} : mw_WP d 14 86 [l0, l1, l2, l3, l4, l5] (jI y :: jI x :: st) σ Q ↔ (if y < x then mw_WP d 14 135 [l0, l1, l2, l3, l4, l5] st σ Q else mw_WP d 14 89 [l0, l1, l2, l3, l4, l5] st σ Q) := WP_icmp_gt mq14 dd14_86 (by decide)
theorem dd14_89 : decode cX2_solve 89 = .ok (.iconst 0, 1) := by decide +kernel
theorem ww14_89 {d : Nat} {l0 l1 l2 l3 l4 l5 : Option mw_V} {st : List mw_V} {σ : mw_S} {Q : Option mw_V → mw_S → Prop} : mw_WP d 14 89 [l0, l1, l2, l3, l4, l5] st σ Q ↔ mw_WP d 14 90 [l0, l1, l2, l3, l4, l5] (jI (0) :: st) σ Q := WP_iconst mq14 dd14_89 (by decide)
theorem dd14_90 : decode cX2_solve 90 = .ok (.istore 5, 2) := by decide +kernel
theorem ww14_90 {d : Nat} {l0 l1 l2 l3 l4 l5 : Option mw_V} {x : Int} {st : List mw_V} {σ : mw_S} {Q : Option mw_V → mw_S → Prop} (h : mw_nlo l4 = true) : mw_WP d 14 90 [l0, l1, l2, l3, l4, l5] (jI x :: st) σ Q ↔ mw_WP d 14 92 [l0, l1, l2, l3, l4, some (jI x)] st σ Q := WP_istore mq14 dd14_90 (Nat.le_of_ble_eq_true rfl) (mw_nl_of (i := 4) rfl h) rfl
theorem dd14_92 : decode cX2_solve 92 = .ok (.iload 5, 2) := by decide +kernel
theorem ww14_92 {d : Nat} {l0 l1 l2 l3 l4 : Option mw_V} {x : Int} {st : List mw_V} {σ : mw_S} {Q : Option mw_V → mw_S → Prop} : mw_WP d 14 92 [l0, l1, l2, l3, l4, some (jI x)] st σ Q ↔ mw_WP d 14 94 [l0, l1, l2, l3, l4, some (jI x)] (jI x :: st) σ Q := WP_iload mq14 dd14_92 rfl
theorem dd14_94 : decode cX2_solve 94 = .ok (.iload_n 3, 1) := by decide +kernel
theorem ww14_94 {d : Nat} {l0 l1 l2 l4 l5 : Option mw_V} {x : Int} {st : List mw_V} {σ : mw_S} {Q : Option mw_V → mw_S → Prop} : mw_WP d 14 94 [l0, l1, l2, some (jI x), l4, l5] st σ Q ↔ mw_WP d 14 95 [l0, l1, l2, some (jI x), l4, l5] (jI x :: st) σ Q := WP_iload_n mq14 dd14_94 rfl
theorem dd14_95 : decode cX2_solve 95 = .ok (.if_icmp .ge 34, 3) := by decide +kernel
theorem ww14_95 {d : Nat} {l0 l1 l2 l3 l4 l5 : Option mw_V} {x y : Int} {st : List mw_V} {σ : mw_S} {Q : Option mw_V → mw_S → Prop} : mw_WP d 14 95 [l0, l1, l2, l3, l4, l5] (jI y :: jI x :: st) σ Q ↔ (if y ≤ x then mw_WP d 14 129 [l0, l1, l2, l3, l4, l5] st σ Q else mw_WP d 14 98 [l0, l1, l2, l3, l4, l5] st σ Q) := WP_icmp_ge mq14 dd14_95 (by decide)
theorem dd14_98 : decode cX2_solve 98 = .ok (.aload_n 0, 1) := by decide +kernel
theorem ww14_98 {d : Nat} {l1 l2 l3 l4 l5 : Option mw_V} {x : Nat} {st : List mw_V} {σ : mw_S} {Q : Option mw_V → mw_S → Prop} : mw_WP d 14 98 [some (jR x), l1, l2, l3, l4, l5] st σ Q ↔ mw_WP d 14 99 [some (jR x), l1, l2, l3, l4, l5] (jR x :: st) σ Q := WP_aload_n mq14 dd14_98 rfl
theorem dd14_99 : decode cX2_solve 99 = .ok (.iload 4, 2) := by decide +kernel
theorem ww14_99 {d : Nat} {l0 l1 l2 l3 l5 : Option mw_V} {x : Int} {st : List mw_V} {σ : mw_S} {Q : Option mw_V → mw_S → Prop} : mw_WP d 14 99 [l0, l1, l2, l3, some (jI x), l5] st σ Q ↔ mw_WP d 14 101 [l0, l1, l2, l3, some (jI x), l5] (jI x :: st) σ Q := WP_iload mq14 dd14_99 rfl
theorem dd14_101 : decode cX2_solve 101 = .ok (.iload 5, 2) := by decide +kernel
theorem ww14_101 {d : Nat} {l0 l1 l2 l3 l4 : Option mw_V} {x : Int} {st : List mw_V} {σ : mw_S} {Q : Option mw_V → mw_S → Prop} : mw_WP d 14 101 [l0, l1, l2, l3, l4, some (jI x)] st σ Q ↔ mw_WP d 14 103 [l0, l1, l2, l3, l4, some (jI x)] (jI x :: st) σ Q := WP_iload mq14 dd14_101 rfl
theorem dd14_103 : decode cX2_solve 103 = .ok (.invokevirtual 29, 3) := by decide +kernel
theorem ww14_103 {d : Nat} {l0 l1 l2 l3 l4 l5 : Option mw_V} {v0 v1 : mw_V} {a : Nat} {st : List mw_V} {σ : mw_S} {Q : Option mw_V → mw_S → Prop} (hr : mw_rc a = 2) (h8 : (st.map mw_cat).sum ≤ 8) : mw_WP d 14 103 [l0, l1, l2, l3, l4, l5] (v1 :: v0 :: jR a :: st) σ Q ↔ mw_Call d 17 [jR a, v0, v1] σ (fun r1 s1 => mw_WP d 14 106 [l0, l1, l2, l3, l4, l5] (r1.toList ++ st) s1 Q) := WP_inv (as := [v1, v0]) mq14 dd14_103 (by decide) mq17 rfl hr h8
theorem dd14_106 : decode cX2_solve 106 = .ok (.ifCond .le 17, 3) := by decide +kernel
theorem ww14_106 {d : Nat} {l0 l1 l2 l3 l4 l5 : Option mw_V} {x : Int} {st : List mw_V} {σ : mw_S} {Q : Option mw_V → mw_S → Prop} : mw_WP d 14 106 [l0, l1, l2, l3, l4, l5] (jI x :: st) σ Q ↔ (if x ≤ 0 then mw_WP d 14 123 [l0, l1, l2, l3, l4, l5] st σ Q else mw_WP d 14 109 [l0, l1, l2, l3, l4, l5] st σ Q) := WP_if_le mq14 dd14_106 (by decide)
theorem dd14_109 : decode cX2_solve 109 = .ok (.aload_n 0, 1) := by decide +kernel
theorem ww14_109 {d : Nat} {l1 l2 l3 l4 l5 : Option mw_V} {x : Nat} {st : List mw_V} {σ : mw_S} {Q : Option mw_V → mw_S → Prop} : mw_WP d 14 109 [some (jR x), l1, l2, l3, l4, l5] st σ Q ↔ mw_WP d 14 110 [some (jR x), l1, l2, l3, l4, l5] (jR x :: st) σ Q := WP_aload_n mq14 dd14_109 rfl
theorem dd14_110 : decode cX2_solve 110 = .ok (.getfield 9, 3) := by decide +kernel
theorem ww14_110 {d : Nat} {l0 l1 l2 l3 l4 l5 : Option mw_V} {st : List mw_V} {σ : mw_S} {Q : Option mw_V → mw_S → Prop} : mw_WP d 14 110 [l0, l1, l2, l3, l4, l5] (jR 74 :: st) σ Q ↔ mw_WP d 14 113 [l0, l1, l2, l3, l4, l5] (jR 75 :: st) σ Q := WP_getR (ci := 1) (k := 0) mq14 dd14_110 (by decide) rfl
theorem dd14_113 : decode cX2_solve 113 = .ok (.iload 5, 2) := by decide +kernel
theorem ww14_113 {d : Nat} {l0 l1 l2 l3 l4 : Option mw_V} {x : Int} {st : List mw_V} {σ : mw_S} {Q : Option mw_V → mw_S → Prop} : mw_WP d 14 113 [l0, l1, l2, l3, l4, some (jI x)] st σ Q ↔ mw_WP d 14 115 [l0, l1, l2, l3, l4, some (jI x)] (jI x :: st) σ Q := WP_iload mq14 dd14_113 rfl
theorem dd14_115 : decode cX2_solve 115 = .ok (.dup2, 1) := by decide +kernel
theorem ww14_115 {d : Nat} {l0 l1 l2 l3 l4 l5 : Option mw_V} {v w : mw_V} {st : List mw_V} {σ : mw_S} {Q : Option mw_V → mw_S → Prop} (h : mw_cat v = 1) (h2 : mw_cat w = 1) : mw_WP d 14 115 [l0, l1, l2, l3, l4, l5] (v :: w :: st) σ Q ↔ mw_WP d 14 116 [l0, l1, l2, l3, l4, l5] (v :: w :: v :: w :: st) σ Q := WP_dup2 mq14 dd14_115 h h2
theorem dd14_116 : decode cX2_solve 116 = .ok (.laload, 1) := by decide +kernel
theorem ww14_116 {d : Nat} {l0 l1 l2 l3 l4 l5 : Option mw_V} {z : Int} {a : Nat} {st : List mw_V} {σ : mw_S} {Q : Option mw_V → mw_S → Prop} : mw_WP d 14 116 [l0, l1, l2, l3, l4, l5] (jI z :: jR a :: st) σ Q ↔ ((0 ≤ z ∧ z < mw_lenW 2 a) ∧ mw_WP d 14 117 [l0, l1, l2, l3, l4, l5] (jL (σ a z.toNat) :: st) σ Q) := WP_laload mq14 dd14_116
theorem dd14_117 : decode cX2_solve 117 = .ok (.lconst 1, 1) := by decide +kernel
theorem ww14_117 {d : Nat} {l0 l1 l2 l3 l4 l5 : Option mw_V} {st : List mw_V} {σ : mw_S} {Q : Option mw_V → mw_S → Prop} : mw_WP d 14 117 [l0, l1, l2, l3, l4, l5] st σ Q ↔ mw_WP d 14 118 [l0, l1, l2, l3, l4, l5] (jL (1) :: st) σ Q := WP_lconst mq14 dd14_117 (by decide)
theorem dd14_118 : decode cX2_solve 118 = .ok (.iload 4, 2) := by decide +kernel
theorem ww14_118 {d : Nat} {l0 l1 l2 l3 l5 : Option mw_V} {x : Int} {st : List mw_V} {σ : mw_S} {Q : Option mw_V → mw_S → Prop} : mw_WP d 14 118 [l0, l1, l2, l3, some (jI x), l5] st σ Q ↔ mw_WP d 14 120 [l0, l1, l2, l3, some (jI x), l5] (jI x :: st) σ Q := WP_iload mq14 dd14_118 rfl
theorem dd14_120 : decode cX2_solve 120 = .ok (.lshl, 1) := by decide +kernel
theorem ww14_120 {d : Nat} {l0 l1 l2 l3 l4 l5 : Option mw_V} {x y : Int} {st : List mw_V} {σ : mw_S} {Q : Option mw_V → mw_S → Prop} : mw_WP d 14 120 [l0, l1, l2, l3, l4, l5] (jI y :: jL x :: st) σ Q ↔ mw_WP d 14 121 [l0, l1, l2, l3, l4, l5] (jL (yShl x y) :: st) σ Q := WP_lshl mq14 dd14_120
theorem dd14_121 : decode cX2_solve 121 = .ok (.lor, 1) := by decide +kernel
theorem ww14_121 {d : Nat} {l0 l1 l2 l3 l4 l5 : Option mw_V} {x y : Int} {st : List mw_V} {σ : mw_S} {Q : Option mw_V → mw_S → Prop} : mw_WP d 14 121 [l0, l1, l2, l3, l4, l5] (jL y :: jL x :: st) σ Q ↔ mw_WP d 14 122 [l0, l1, l2, l3, l4, l5] (jL (yOr x y) :: st) σ Q := WP_lor mq14 dd14_121
theorem dd14_122 : decode cX2_solve 122 = .ok (.lastore, 1) := by decide +kernel
theorem ww14_122 {d : Nat} {l0 l1 l2 l3 l4 l5 : Option mw_V} {x z : Int} {a : Nat} {st : List mw_V} {σ : mw_S} {Q : Option mw_V → mw_S → Prop} : mw_WP d 14 122 [l0, l1, l2, l3, l4, l5] (jL x :: jI z :: jR a :: st) σ Q ↔ ((0 ≤ z ∧ z < mw_lenW 2 a) ∧ mw_WP d 14 123 [l0, l1, l2, l3, l4, l5] st (upS σ a z.toNat x) Q) := WP_lastore mq14 dd14_122
theorem dd14_123 : decode cX2_solve 123 = .ok (.iinc 5 1, 3) := by decide +kernel
theorem ww14_123 {d : Nat} {l0 l1 l2 l3 l4 : Option mw_V} {x : Int} {st : List mw_V} {σ : mw_S} {Q : Option mw_V → mw_S → Prop} (h : mw_nlo l4 = true) : mw_WP d 14 123 [l0, l1, l2, l3, l4, some (jI x)] st σ Q ↔ mw_WP d 14 126 [l0, l1, l2, l3, l4, some (jI (w32 (x + (1))))] st σ Q := WP_iinc mq14 dd14_123 rfl (Nat.le_of_ble_eq_true rfl) (mw_nl_of (i := 4) rfl h) rfl
theorem dd14_126 : decode cX2_solve 126 = .ok (.goto (-34), 3) := by decide +kernel
theorem ww14_126 {d : Nat} {l0 l1 l2 l3 l4 l5 : Option mw_V} {st : List mw_V} {σ : mw_S} {Q : Option mw_V → mw_S → Prop} : mw_WP d 14 126 [l0, l1, l2, l3, l4, l5] st σ Q ↔ mw_WP d 14 92 [l0, l1, l2, l3, l4, l5] st σ Q := WP_goto mq14 dd14_126 (by decide)
theorem dd14_129 : decode cX2_solve 129 = .ok (.iinc 4 1, 3) := by decide +kernel
theorem ww14_129 {d : Nat} {l0 l1 l2 l3 l5 : Option mw_V} {x : Int} {st : List mw_V} {σ : mw_S} {Q : Option mw_V → mw_S → Prop} (h : mw_nlo l3 = true) : mw_WP d 14 129 [l0, l1, l2, l3, some (jI x), l5] st σ Q ↔ mw_WP d 14 132 [l0, l1, l2, l3, some (jI (w32 (x + (1)))), l5] st σ Q := WP_iinc mq14 dd14_129 rfl (Nat.le_of_ble_eq_true rfl) (mw_nl_of (i := 3) rfl h) rfl
theorem dd14_132 : decode cX2_solve 132 = .ok (.goto (-50), 3) := by decide +kernel
theorem ww14_132 {d : Nat} {l0 l1 l2 l3 l4 l5 : Option mw_V} {st : List mw_V} {σ : mw_S} {Q : Option mw_V → mw_S → Prop} : mw_WP d 14 132 [l0, l1, l2, l3, l4, l5] st σ Q ↔ mw_WP d 14 82 [l0, l1, l2, l3, l4, l5] st σ Q := WP_goto mq14 dd14_132 (by decide)
theorem dd14_135 : decode cX2_solve 135 = .ok (.return_, 1) := by decide +kernel
theorem ww14_135 {d : Nat} {l0 l1 l2 l3 l4 l5 : Option mw_V} {σ : mw_S} {Q : Option mw_V → mw_S → Prop} : mw_WP d 14 135 [l0, l1, l2, l3, l4, l5] [] σ Q ↔ Q none σ := WP_return mq14 dd14_135 rfl
theorem ee15 {d : Nat} {a : Nat} {z0 : Int} {σ : mw_S} {Q : Option mw_V → mw_S → Prop} : mw_Call (d + 1) 15 [jR a, jI z0] σ Q ↔ mw_WP d 15 0 [some (jR a), some (jI z0)] [] σ Q := CL_u mq15 (Nat.le_of_ble_eq_true rfl) rfl
theorem dd15_0 : decode cX2_firstWinning 0 = .ok (.aload_n 0, 1) := by decide +kernel
theorem ww15_0 {d : Nat} {l1 : Option mw_V} {x : Nat} {st : List mw_V} {σ : mw_S} {Q : Option mw_V → mw_S → Prop} : mw_WP d 15 0 [some (jR x), l1] st σ Q ↔ mw_WP d 15 1 [some (jR x), l1] (jR x :: st) σ Q := WP_aload_n mq15 dd15_0 rfl
theorem dd15_1 : decode cX2_firstWinning 1 = .ok (.iload_n 1, 1) := by decide +kernel
theorem ww15_1 {d : Nat} {l0 : Option mw_V} {x : Int} {st : List mw_V} {σ : mw_S} {Q : Option mw_V → mw_S → Prop} : mw_WP d 15 1 [l0, some (jI x)] st σ Q ↔ mw_WP d 15 2 [l0, some (jI x)] (jI x :: st) σ Q := WP_iload_n mq15 dd15_1 rfl
theorem dd15_2 : decode cX2_firstWinning 2 = .ok (.iconst 0, 1) := by decide +kernel
theorem ww15_2 {d : Nat} {l0 l1 : Option mw_V} {st : List mw_V} {σ : mw_S} {Q : Option mw_V → mw_S → Prop} : mw_WP d 15 2 [l0, l1] st σ Q ↔ mw_WP d 15 3 [l0, l1] (jI (0) :: st) σ Q := WP_iconst mq15 dd15_2 (by decide)
theorem dd15_3 : decode cX2_firstWinning 3 = .ok (.invokevirtual 29, 3) := by decide +kernel
theorem ww15_3 {d : Nat} {l0 l1 : Option mw_V} {v0 v1 : mw_V} {a : Nat} {st : List mw_V} {σ : mw_S} {Q : Option mw_V → mw_S → Prop} (hr : mw_rc a = 2) (h8 : (st.map mw_cat).sum ≤ 8) : mw_WP d 15 3 [l0, l1] (v1 :: v0 :: jR a :: st) σ Q ↔ mw_Call d 17 [jR a, v0, v1] σ (fun r1 s1 => mw_WP d 15 6 [l0, l1] (r1.toList ++ st) s1 Q) := WP_inv (as := [v1, v0]) mq15 dd15_3 (by decide) mq17 rfl hr h8
theorem dd15_6 : decode cX2_firstWinning 6 = .ok (.ireturn, 1) := by decide +kernel
theorem ww15_6 {d : Nat} {l0 l1 : Option mw_V} {z : Int} {σ : mw_S} {Q : Option mw_V → mw_S → Prop} : mw_WP d 15 6 [l0, l1] [jI z] σ Q ↔ Q (some (jI z)) σ := WP_ireturn (ty := .int) mq15 dd15_6 rfl rfl
theorem ee16 {d : Nat} {a : Nat} {σ : mw_S} {Q : Option mw_V → mw_S → Prop} : mw_Call (d + 1) 16 [jR a] σ Q ↔ mw_WP d 16 0 [some (jR a)] [] σ Q := CL_u mq16 (Nat.le_of_ble_eq_true rfl) rfl
theorem dd16_0 : decode cX2_winnable 0 = .ok (.aload_n 0, 1) := by decide +kernel
theorem ww16_0 {d : Nat} {x : Nat} {st : List mw_V} {σ : mw_S} {Q : Option mw_V → mw_S → Prop} : mw_WP d 16 0 [some (jR x)] st σ Q ↔ mw_WP d 16 1 [some (jR x)] (jR x :: st) σ Q := WP_aload_n mq16 dd16_0 rfl
theorem dd16_1 : decode cX2_winnable 1 = .ok (.getfield 9, 3) := by decide +kernel
theorem ww16_1 {d : Nat} {l0 : Option mw_V} {st : List mw_V} {σ : mw_S} {Q : Option mw_V → mw_S → Prop} : mw_WP d 16 1 [l0] (jR 74 :: st) σ Q ↔ mw_WP d 16 4 [l0] (jR 75 :: st) σ Q := WP_getR (ci := 1) (k := 0) mq16 dd16_1 (by decide) rfl
theorem dd16_4 : decode cX2_winnable 4 = .ok (.iconst 0, 1) := by decide +kernel
theorem ww16_4 {d : Nat} {l0 : Option mw_V} {st : List mw_V} {σ : mw_S} {Q : Option mw_V → mw_S → Prop} : mw_WP d 16 4 [l0] st σ Q ↔ mw_WP d 16 5 [l0] (jI (0) :: st) σ Q := WP_iconst mq16 dd16_4 (by decide)
theorem dd16_5 : decode cX2_winnable 5 = .ok (.laload, 1) := by decide +kernel
theorem ww16_5 {d : Nat} {l0 : Option mw_V} {z : Int} {a : Nat} {st : List mw_V} {σ : mw_S} {Q : Option mw_V → mw_S → Prop} : mw_WP d 16 5 [l0] (jI z :: jR a :: st) σ Q ↔ ((0 ≤ z ∧ z < mw_lenW 2 a) ∧ mw_WP d 16 6 [l0] (jL (σ a z.toNat) :: st) σ Q) := WP_laload mq16 dd16_5
theorem dd16_6 : decode cX2_winnable 6 = .ok (.invokestatic 32, 3) := by decide +kernel
theorem ww16_6 {d : Nat} {l0 : Option mw_V} {v0 : mw_V} {st : List mw_V} {σ : mw_S} {Q : Option mw_V → mw_S → Prop} (h8 : (st.map mw_cat).sum ≤ 8) : mw_WP d 16 6 [l0] (v0 :: st) σ Q ↔ mw_Call d 280 [v0] σ (fun r1 s1 => mw_WP d 16 9 [l0] (r1.toList ++ st) s1 Q) := WP_invs (as := [v0]) mq16 dd16_6 (by decide) mq280 rfl rfl h8
theorem dd16_9 : decode cX2_winnable 9 = .ok (.ireturn, 1) := by decide +kernel
theorem ww16_9 {d : Nat} {l0 : Option mw_V} {z : Int} {σ : mw_S} {Q : Option mw_V → mw_S → Prop} : mw_WP d 16 9 [l0] [jI z] σ Q ↔ Q (some (jI z)) σ := WP_ireturn (ty := .int) mq16 dd16_9 rfl rfl
theorem ee17 {d : Nat} {a : Nat} {z0 : Int} {z1 : Int} {σ : mw_S} {Q : Option mw_V → mw_S → Prop} : mw_Call (d + 1) 17 [jR a, jI z0, jI z1] σ Q ↔ mw_WP d 17 0 [some (jR a), some (jI z0), some (jI z1), none] [] σ Q := CL_u mq17 (Nat.le_of_ble_eq_true rfl) rfl
theorem dd17_0 : decode cX2_leastWinning 0 = .ok (.iconst 1, 1) := by decide +kernel
theorem ww17_0 {d : Nat} {l0 l1 l2 l3 : Option mw_V} {st : List mw_V} {σ : mw_S} {Q : Option mw_V → mw_S → Prop} : mw_WP d 17 0 [l0, l1, l2, l3] st σ Q ↔ mw_WP d 17 1 [l0, l1, l2, l3] (jI (1) :: st) σ Q := WP_iconst mq17 dd17_0 (by decide)
theorem dd17_1 : decode cX2_leastWinning 1 = .ok (.istore_n 3, 1) := by decide +kernel
theorem ww17_1 {d : Nat} {l0 l1 l2 l3 : Option mw_V} {x : Int} {st : List mw_V} {σ : mw_S} {Q : Option mw_V → mw_S → Prop} (h : mw_nlo l2 = true) : mw_WP d 17 1 [l0, l1, l2, l3] (jI x :: st) σ Q ↔ mw_WP d 17 2 [l0, l1, l2, some (jI x)] st σ Q := WP_istore_n mq17 dd17_1 (Nat.le_of_ble_eq_true rfl) (mw_nl_of (i := 2) rfl h) rfl
theorem dd17_2 : decode cX2_leastWinning 2 = .ok (.iload_n 3, 1) := by decide +kernel
theorem ww17_2 {d : Nat} {l0 l1 l2 : Option mw_V} {x : Int} {st : List mw_V} {σ : mw_S} {Q : Option mw_V → mw_S → Prop} : mw_WP d 17 2 [l0, l1, l2, some (jI x)] st σ Q ↔ mw_WP d 17 3 [l0, l1, l2, some (jI x)] (jI x :: st) σ Q := WP_iload_n mq17 dd17_2 rfl
theorem dd17_3 : decode cX2_leastWinning 3 = .ok (.aload_n 0, 1) := by decide +kernel
theorem ww17_3 {d : Nat} {l1 l2 l3 : Option mw_V} {x : Nat} {st : List mw_V} {σ : mw_S} {Q : Option mw_V → mw_S → Prop} : mw_WP d 17 3 [some (jR x), l1, l2, l3] st σ Q ↔ mw_WP d 17 4 [some (jR x), l1, l2, l3] (jR x :: st) σ Q := WP_aload_n mq17 dd17_3 rfl
theorem dd17_4 : decode cX2_leastWinning 4 = .ok (.getfield 13, 3) := by decide +kernel
theorem ww17_4 {d : Nat} {l0 l1 l2 l3 : Option mw_V} {st : List mw_V} {σ : mw_S} {Q : Option mw_V → mw_S → Prop} : mw_WP d 17 4 [l0, l1, l2, l3] (jR 74 :: st) σ Q ↔ mw_WP d 17 7 [l0, l1, l2, l3] (jI (σ 74 1) :: st) σ Q := WP_getI (ci := 1) (k := 1) mq17 dd17_4 (by decide) (Or.inl rfl)
theorem dd17_7 : decode cX2_leastWinning 7 = .ok (.if_icmp .gt 26, 3) := by decide +kernel
theorem ww17_7 {d : Nat} {l0 l1 l2 l3 : Option mw_V} {x y : Int} {st : List mw_V} {σ : mw_S} {Q : Option mw_V → mw_S → Prop} : mw_WP d 17 7 [l0, l1, l2, l3] (jI y :: jI x :: st) σ Q ↔ (if y < x then mw_WP d 17 33 [l0, l1, l2, l3] st σ Q else mw_WP d 17 10 [l0, l1, l2, l3] st σ Q) := WP_icmp_gt mq17 dd17_7 (by decide)
theorem dd17_10 : decode cX2_leastWinning 10 = .ok (.iload_n 3, 1) := by decide +kernel
theorem ww17_10 {d : Nat} {l0 l1 l2 : Option mw_V} {x : Int} {st : List mw_V} {σ : mw_S} {Q : Option mw_V → mw_S → Prop} : mw_WP d 17 10 [l0, l1, l2, some (jI x)] st σ Q ↔ mw_WP d 17 11 [l0, l1, l2, some (jI x)] (jI x :: st) σ Q := WP_iload_n mq17 dd17_10 rfl
theorem dd17_11 : decode cX2_leastWinning 11 = .ok (.iload_n 1, 1) := by decide +kernel
theorem ww17_11 {d : Nat} {l0 l2 l3 : Option mw_V} {x : Int} {st : List mw_V} {σ : mw_S} {Q : Option mw_V → mw_S → Prop} : mw_WP d 17 11 [l0, some (jI x), l2, l3] st σ Q ↔ mw_WP d 17 12 [l0, some (jI x), l2, l3] (jI x :: st) σ Q := WP_iload_n mq17 dd17_11 rfl
theorem dd17_12 : decode cX2_leastWinning 12 = .ok (.if_icmp .gt 21, 3) := by decide +kernel
theorem ww17_12 {d : Nat} {l0 l1 l2 l3 : Option mw_V} {x y : Int} {st : List mw_V} {σ : mw_S} {Q : Option mw_V → mw_S → Prop} : mw_WP d 17 12 [l0, l1, l2, l3] (jI y :: jI x :: st) σ Q ↔ (if y < x then mw_WP d 17 33 [l0, l1, l2, l3] st σ Q else mw_WP d 17 15 [l0, l1, l2, l3] st σ Q) := WP_icmp_gt mq17 dd17_12 (by decide)
theorem dd17_15 : decode cX2_leastWinning 15 = .ok (.aload_n 0, 1) := by decide +kernel
theorem ww17_15 {d : Nat} {l1 l2 l3 : Option mw_V} {x : Nat} {st : List mw_V} {σ : mw_S} {Q : Option mw_V → mw_S → Prop} : mw_WP d 17 15 [some (jR x), l1, l2, l3] st σ Q ↔ mw_WP d 17 16 [some (jR x), l1, l2, l3] (jR x :: st) σ Q := WP_aload_n mq17 dd17_15 rfl
theorem dd17_16 : decode cX2_leastWinning 16 = .ok (.iload_n 1, 1) := by decide +kernel
theorem ww17_16 {d : Nat} {l0 l2 l3 : Option mw_V} {x : Int} {st : List mw_V} {σ : mw_S} {Q : Option mw_V → mw_S → Prop} : mw_WP d 17 16 [l0, some (jI x), l2, l3] st σ Q ↔ mw_WP d 17 17 [l0, some (jI x), l2, l3] (jI x :: st) σ Q := WP_iload_n mq17 dd17_16 rfl
theorem dd17_17 : decode cX2_leastWinning 17 = .ok (.iload_n 2, 1) := by decide +kernel
theorem ww17_17 {d : Nat} {l0 l1 l3 : Option mw_V} {x : Int} {st : List mw_V} {σ : mw_S} {Q : Option mw_V → mw_S → Prop} : mw_WP d 17 17 [l0, l1, some (jI x), l3] st σ Q ↔ mw_WP d 17 18 [l0, l1, some (jI x), l3] (jI x :: st) σ Q := WP_iload_n mq17 dd17_17 rfl
theorem dd17_18 : decode cX2_leastWinning 18 = .ok (.iload_n 3, 1) := by decide +kernel
theorem ww17_18 {d : Nat} {l0 l1 l2 : Option mw_V} {x : Int} {st : List mw_V} {σ : mw_S} {Q : Option mw_V → mw_S → Prop} : mw_WP d 17 18 [l0, l1, l2, some (jI x)] st σ Q ↔ mw_WP d 17 19 [l0, l1, l2, some (jI x)] (jI x :: st) σ Q := WP_iload_n mq17 dd17_18 rfl
theorem dd17_19 : decode cX2_leastWinning 19 = .ok (.invokevirtual 38, 3) := by decide +kernel
theorem ww17_19 {d : Nat} {l0 l1 l2 l3 : Option mw_V} {v0 v1 v2 : mw_V} {a : Nat} {st : List mw_V} {σ : mw_S} {Q : Option mw_V → mw_S → Prop} (hr : mw_rc a = 2) (h8 : (st.map mw_cat).sum ≤ 8) : mw_WP d 17 19 [l0, l1, l2, l3] (v2 :: v1 :: v0 :: jR a :: st) σ Q ↔ mw_Call d 18 [jR a, v0, v1, v2] σ (fun r1 s1 => mw_WP d 17 22 [l0, l1, l2, l3] (r1.toList ++ st) s1 Q) := WP_inv (as := [v2, v1, v0]) mq17 dd17_19 (by decide) mq18 rfl hr h8
theorem dd17_22 : decode cX2_leastWinning 22 = .ok (.ifCond .eq 5, 3) := by decide +kernel
theorem ww17_22 {d : Nat} {l0 l1 l2 l3 : Option mw_V} {x : Int} {st : List mw_V} {σ : mw_S} {Q : Option mw_V → mw_S → Prop} : mw_WP d 17 22 [l0, l1, l2, l3] (jI x :: st) σ Q ↔ (if x = 0 then mw_WP d 17 27 [l0, l1, l2, l3] st σ Q else mw_WP d 17 25 [l0, l1, l2, l3] st σ Q) := WP_if_eq mq17 dd17_22 (by decide)
theorem dd17_25 : decode cX2_leastWinning 25 = .ok (.iload_n 3, 1) := by decide +kernel
theorem ww17_25 {d : Nat} {l0 l1 l2 : Option mw_V} {x : Int} {st : List mw_V} {σ : mw_S} {Q : Option mw_V → mw_S → Prop} : mw_WP d 17 25 [l0, l1, l2, some (jI x)] st σ Q ↔ mw_WP d 17 26 [l0, l1, l2, some (jI x)] (jI x :: st) σ Q := WP_iload_n mq17 dd17_25 rfl
theorem dd17_26 : decode cX2_leastWinning 26 = .ok (.ireturn, 1) := by decide +kernel
theorem ww17_26 {d : Nat} {l0 l1 l2 l3 : Option mw_V} {z : Int} {σ : mw_S} {Q : Option mw_V → mw_S → Prop} : mw_WP d 17 26 [l0, l1, l2, l3] [jI z] σ Q ↔ Q (some (jI z)) σ := WP_ireturn (ty := .int) mq17 dd17_26 rfl rfl
theorem dd17_27 : decode cX2_leastWinning 27 = .ok (.iinc 3 1, 3) := by decide +kernel
theorem ww17_27 {d : Nat} {l0 l1 l2 : Option mw_V} {x : Int} {st : List mw_V} {σ : mw_S} {Q : Option mw_V → mw_S → Prop} (h : mw_nlo l2 = true) : mw_WP d 17 27 [l0, l1, l2, some (jI x)] st σ Q ↔ mw_WP d 17 30 [l0, l1, l2, some (jI (w32 (x + (1))))] st σ Q := WP_iinc mq17 dd17_27 rfl (Nat.le_of_ble_eq_true rfl) (mw_nl_of (i := 2) rfl h) rfl
theorem dd17_30 : decode cX2_leastWinning 30 = .ok (.goto (-28), 3) := by decide +kernel
theorem ww17_30 {d : Nat} {l0 l1 l2 l3 : Option mw_V} {st : List mw_V} {σ : mw_S} {Q : Option mw_V → mw_S → Prop} : mw_WP d 17 30 [l0, l1, l2, l3] st σ Q ↔ mw_WP d 17 2 [l0, l1, l2, l3] st σ Q := WP_goto mq17 dd17_30 (by decide)
theorem dd17_33 : decode cX2_leastWinning 33 = .ok (.iconst 0, 1) := by decide +kernel
theorem ww17_33 {d : Nat} {l0 l1 l2 l3 : Option mw_V} {st : List mw_V} {σ : mw_S} {Q : Option mw_V → mw_S → Prop} : mw_WP d 17 33 [l0, l1, l2, l3] st σ Q ↔ mw_WP d 17 34 [l0, l1, l2, l3] (jI (0) :: st) σ Q := WP_iconst mq17 dd17_33 (by decide)
theorem dd17_34 : decode cX2_leastWinning 34 = .ok (.ireturn, 1) := by decide +kernel
theorem ww17_34 {d : Nat} {l0 l1 l2 l3 : Option mw_V} {z : Int} {σ : mw_S} {Q : Option mw_V → mw_S → Prop} : mw_WP d 17 34 [l0, l1, l2, l3] [jI z] σ Q ↔ Q (some (jI z)) σ := WP_ireturn (ty := .int) mq17 dd17_34 rfl rfl
theorem ee18 {d : Nat} {a : Nat} {z0 : Int} {z1 : Int} {z2 : Int} {σ : mw_S} {Q : Option mw_V → mw_S → Prop} : mw_Call (d + 1) 18 [jR a, jI z0, jI z1, jI z2] σ Q ↔ mw_WP d 18 0 [some (jR a), some (jI z0), some (jI z1), some (jI z2), none, none, none] [] σ Q := CL_u mq18 (Nat.le_of_ble_eq_true rfl) rfl
theorem dd18_0 : decode cX2_isWinning 0 = .ok (.iload_n 1, 1) := by decide +kernel
theorem ww18_0 {d : Nat} {l0 l2 l3 l4 l5 l6 : Option mw_V} {x : Int} {st : List mw_V} {σ : mw_S} {Q : Option mw_V → mw_S → Prop} : mw_WP d 18 0 [l0, some (jI x), l2, l3, l4, l5, l6] st σ Q ↔ mw_WP d 18 1 [l0, some (jI x), l2, l3, l4, l5, l6] (jI x :: st) σ Q := WP_iload_n mq18 dd18_0 rfl
theorem dd18_1 : decode cX2_isWinning 1 = .ok (.iload_n 3, 1) := by decide +kernel
theorem ww18_1 {d : Nat} {l0 l1 l2 l4 l5 l6 : Option mw_V} {x : Int} {st : List mw_V} {σ : mw_S} {Q : Option mw_V → mw_S → Prop} : mw_WP d 18 1 [l0, l1, l2, some (jI x), l4, l5, l6] st σ Q ↔ mw_WP d 18 2 [l0, l1, l2, some (jI x), l4, l5, l6] (jI x :: st) σ Q := WP_iload_n mq18 dd18_1 rfl
theorem dd18_2 : decode cX2_isWinning 2 = .ok (.isub, 1) := by decide +kernel
theorem ww18_2 {d : Nat} {l0 l1 l2 l3 l4 l5 l6 : Option mw_V} {x y : Int} {st : List mw_V} {σ : mw_S} {Q : Option mw_V → mw_S → Prop} : mw_WP d 18 2 [l0, l1, l2, l3, l4, l5, l6] (jI y :: jI x :: st) σ Q ↔ mw_WP d 18 3 [l0, l1, l2, l3, l4, l5, l6] (jI (w32 (x - y)) :: st) σ Q := WP_isub mq18 dd18_2
theorem dd18_3 : decode cX2_isWinning 3 = .ok (.istore 4, 2) := by decide +kernel
theorem ww18_3 {d : Nat} {l0 l1 l2 l3 l4 l5 l6 : Option mw_V} {x : Int} {st : List mw_V} {σ : mw_S} {Q : Option mw_V → mw_S → Prop} (h : mw_nlo l3 = true) : mw_WP d 18 3 [l0, l1, l2, l3, l4, l5, l6] (jI x :: st) σ Q ↔ mw_WP d 18 5 [l0, l1, l2, l3, some (jI x), l5, l6] st σ Q := WP_istore mq18 dd18_3 (Nat.le_of_ble_eq_true rfl) (mw_nl_of (i := 3) rfl h) rfl
theorem dd18_5 : decode cX2_isWinning 5 = .ok (.iload 4, 2) := by decide +kernel
theorem ww18_5 {d : Nat} {l0 l1 l2 l3 l5 l6 : Option mw_V} {x : Int} {st : List mw_V} {σ : mw_S} {Q : Option mw_V → mw_S → Prop} : mw_WP d 18 5 [l0, l1, l2, l3, some (jI x), l5, l6] st σ Q ↔ mw_WP d 18 7 [l0, l1, l2, l3, some (jI x), l5, l6] (jI x :: st) σ Q := WP_iload mq18 dd18_5 rfl
theorem dd18_7 : decode cX2_isWinning 7 = .ok (.ifCond .ne 5, 3) := by decide +kernel
theorem ww18_7 {d : Nat} {l0 l1 l2 l3 l4 l5 l6 : Option mw_V} {x : Int} {st : List mw_V} {σ : mw_S} {Q : Option mw_V → mw_S → Prop} : mw_WP d 18 7 [l0, l1, l2, l3, l4, l5, l6] (jI x :: st) σ Q ↔ (if ¬ x = 0 then mw_WP d 18 12 [l0, l1, l2, l3, l4, l5, l6] st σ Q else mw_WP d 18 10 [l0, l1, l2, l3, l4, l5, l6] st σ Q) := WP_if_ne mq18 dd18_7 (by decide)
theorem dd18_10 : decode cX2_isWinning 10 = .ok (.iconst 1, 1) := by decide +kernel
theorem ww18_10 {d : Nat} {l0 l1 l2 l3 l4 l5 l6 : Option mw_V} {st : List mw_V} {σ : mw_S} {Q : Option mw_V → mw_S → Prop} : mw_WP d 18 10 [l0, l1, l2, l3, l4, l5, l6] st σ Q ↔ mw_WP d 18 11 [l0, l1, l2, l3, l4, l5, l6] (jI (1) :: st) σ Q := WP_iconst mq18 dd18_10 (by decide)
theorem dd18_11 : decode cX2_isWinning 11 = .ok (.ireturn, 1) := by decide +kernel
theorem ww18_11 {d : Nat} {l0 l1 l2 l3 l4 l5 l6 : Option mw_V} {z : Int} {σ : mw_S} {Q : Option mw_V → mw_S → Prop} (h : z = 0 ∨ z = 1) : mw_WP d 18 11 [l0, l1, l2, l3, l4, l5, l6] [jI z] σ Q ↔ Q (some (jI z)) σ := WP_ireturn (ty := .boolean) mq18 dd18_11 rfl (by rcases h with rfl | rfl <;> decide)
theorem dd18_12 : decode cX2_isWinning 12 = .ok (.aload_n 0, 1) := by decide +kernel
theorem ww18_12 {d : Nat} {l1 l2 l3 l4 l5 l6 : Option mw_V} {x : Nat} {st : List mw_V} {σ : mw_S} {Q : Option mw_V → mw_S → Prop} : mw_WP d 18 12 [some (jR x), l1, l2, l3, l4, l5, l6] st σ Q ↔ mw_WP d 18 13 [some (jR x), l1, l2, l3, l4, l5, l6] (jR x :: st) σ Q := WP_aload_n mq18 dd18_12 rfl
theorem dd18_13 : decode cX2_isWinning 13 = .ok (.getfield 17, 3) := by decide +kernel
theorem ww18_13 {d : Nat} {l0 l1 l2 l3 l4 l5 l6 : Option mw_V} {st : List mw_V} {σ : mw_S} {Q : Option mw_V → mw_S → Prop} : mw_WP d 18 13 [l0, l1, l2, l3, l4, l5, l6] (jR 74 :: st) σ Q ↔ mw_WP d 18 16 [l0, l1, l2, l3, l4, l5, l6] (jI (σ 74 2) :: st) σ Q := WP_getI (ci := 1) (k := 2) mq18 dd18_13 (by decide) (Or.inl rfl)
theorem dd18_16 : decode cX2_isWinning 16 = .ok (.ifCond .ne 7, 3) := by decide +kernel
theorem ww18_16 {d : Nat} {l0 l1 l2 l3 l4 l5 l6 : Option mw_V} {x : Int} {st : List mw_V} {σ : mw_S} {Q : Option mw_V → mw_S → Prop} : mw_WP d 18 16 [l0, l1, l2, l3, l4, l5, l6] (jI x :: st) σ Q ↔ (if ¬ x = 0 then mw_WP d 18 23 [l0, l1, l2, l3, l4, l5, l6] st σ Q else mw_WP d 18 19 [l0, l1, l2, l3, l4, l5, l6] st σ Q) := WP_if_ne mq18 dd18_16 (by decide)
theorem dd18_19 : decode cX2_isWinning 19 = .ok (.iload_n 3, 1) := by decide +kernel
theorem ww18_19 {d : Nat} {l0 l1 l2 l4 l5 l6 : Option mw_V} {x : Int} {st : List mw_V} {σ : mw_S} {Q : Option mw_V → mw_S → Prop} : mw_WP d 18 19 [l0, l1, l2, some (jI x), l4, l5, l6] st σ Q ↔ mw_WP d 18 20 [l0, l1, l2, some (jI x), l4, l5, l6] (jI x :: st) σ Q := WP_iload_n mq18 dd18_19 rfl
theorem dd18_20 : decode cX2_isWinning 20 = .ok (.goto 13, 3) := by decide +kernel
theorem ww18_20 {d : Nat} {l0 l1 l2 l3 l4 l5 l6 : Option mw_V} {st : List mw_V} {σ : mw_S} {Q : Option mw_V → mw_S → Prop} : mw_WP d 18 20 [l0, l1, l2, l3, l4, l5, l6] st σ Q ↔ mw_WP d 18 33 [l0, l1, l2, l3, l4, l5, l6] st σ Q := WP_goto mq18 dd18_20 (by decide)
theorem dd18_23 : decode cX2_isWinning 23 = .ok (.iload_n 2, 1) := by decide +kernel
theorem ww18_23 {d : Nat} {l0 l1 l3 l4 l5 l6 : Option mw_V} {x : Int} {st : List mw_V} {σ : mw_S} {Q : Option mw_V → mw_S → Prop} : mw_WP d 18 23 [l0, l1, some (jI x), l3, l4, l5, l6] st σ Q ↔ mw_WP d 18 24 [l0, l1, some (jI x), l3, l4, l5, l6] (jI x :: st) σ Q := WP_iload_n mq18 dd18_23 rfl
theorem dd18_24 : decode cX2_isWinning 24 = .ok (.iconst 1, 1) := by decide +kernel
theorem ww18_24 {d : Nat} {l0 l1 l2 l3 l4 l5 l6 : Option mw_V} {st : List mw_V} {σ : mw_S} {Q : Option mw_V → mw_S → Prop} : mw_WP d 18 24 [l0, l1, l2, l3, l4, l5, l6] st σ Q ↔ mw_WP d 18 25 [l0, l1, l2, l3, l4, l5, l6] (jI (1) :: st) σ Q := WP_iconst mq18 dd18_24 (by decide)
theorem dd18_25 : decode cX2_isWinning 25 = .ok (.aload_n 0, 1) := by decide +kernel
theorem ww18_25 {d : Nat} {l1 l2 l3 l4 l5 l6 : Option mw_V} {x : Nat} {st : List mw_V} {σ : mw_S} {Q : Option mw_V → mw_S → Prop} : mw_WP d 18 25 [some (jR x), l1, l2, l3, l4, l5, l6] st σ Q ↔ mw_WP d 18 26 [some (jR x), l1, l2, l3, l4, l5, l6] (jR x :: st) σ Q := WP_aload_n mq18 dd18_25 rfl
theorem dd18_26 : decode cX2_isWinning 26 = .ok (.getfield 20, 3) := by decide +kernel
theorem ww18_26 {d : Nat} {l0 l1 l2 l3 l4 l5 l6 : Option mw_V} {st : List mw_V} {σ : mw_S} {Q : Option mw_V → mw_S → Prop} : mw_WP d 18 26 [l0, l1, l2, l3, l4, l5, l6] (jR 74 :: st) σ Q ↔ mw_WP d 18 29 [l0, l1, l2, l3, l4, l5, l6] (jI (σ 74 3) :: st) σ Q := WP_getI (ci := 1) (k := 3) mq18 dd18_26 (by decide) (Or.inl rfl)
theorem dd18_29 : decode cX2_isWinning 29 = .ok (.invokestatic 42, 3) := by decide +kernel
theorem ww18_29 {d : Nat} {l0 l1 l2 l3 l4 l5 l6 : Option mw_V} {v0 v1 : mw_V} {st : List mw_V} {σ : mw_S} {Q : Option mw_V → mw_S → Prop} (h8 : (st.map mw_cat).sum ≤ 8) : mw_WP d 18 29 [l0, l1, l2, l3, l4, l5, l6] (v1 :: v0 :: st) σ Q ↔ mw_Call d 282 [v0, v1] σ (fun r1 s1 => mw_WP d 18 32 [l0, l1, l2, l3, l4, l5, l6] (r1.toList ++ st) s1 Q) := WP_invs (as := [v1, v0]) mq18 dd18_29 (by decide) mq282 rfl rfl h8
theorem dd18_32 : decode cX2_isWinning 32 = .ok (.idiv, 1) := by decide +kernel
theorem ww18_32 {d : Nat} {l0 l1 l2 l3 l4 l5 l6 : Option mw_V} {x y : Int} {st : List mw_V} {σ : mw_S} {Q : Option mw_V → mw_S → Prop} : mw_WP d 18 32 [l0, l1, l2, l3, l4, l5, l6] (jI y :: jI x :: st) σ Q ↔ (¬ i32 y = 0 ∧ mw_WP d 18 33 [l0, l1, l2, l3, l4, l5, l6] (jI (zDiv x y) :: st) σ Q) := WP_idiv mq18 dd18_32
theorem dd18_33 : decode cX2_isWinning 33 = .ok (.istore 5, 2) := by decide +kernel
theorem ww18_33 {d : Nat} {l0 l1 l2 l3 l4 l5 l6 : Option mw_V} {x : Int} {st : List mw_V} {σ : mw_S} {Q : Option mw_V → mw_S → Prop} (h : mw_nlo l4 = true) : mw_WP d 18 33 [l0, l1, l2, l3, l4, l5, l6] (jI x :: st) σ Q ↔ mw_WP d 18 35 [l0, l1, l2, l3, l4, some (jI x), l6] st σ Q := WP_istore mq18 dd18_33 (Nat.le_of_ble_eq_true rfl) (mw_nl_of (i := 4) rfl h) rfl
theorem dd18_35 : decode cX2_isWinning 35 = .ok (.iload 5, 2) := by decide +kernel
theorem ww18_35 {d : Nat} {l0 l1 l2 l3 l4 l6 : Option mw_V} {x : Int} {st : List mw_V} {σ : mw_S} {Q : Option mw_V → mw_S → Prop} : mw_WP d 18 35 [l0, l1, l2, l3, l4, some (jI x), l6] st σ Q ↔ mw_WP d 18 37 [l0, l1, l2, l3, l4, some (jI x), l6] (jI x :: st) σ Q := WP_iload mq18 dd18_35 rfl
theorem dd18_37 : decode cX2_isWinning 37 = .ok (.iload 4, 2) := by decide +kernel
theorem ww18_37 {d : Nat} {l0 l1 l2 l3 l5 l6 : Option mw_V} {x : Int} {st : List mw_V} {σ : mw_S} {Q : Option mw_V → mw_S → Prop} : mw_WP d 18 37 [l0, l1, l2, l3, some (jI x), l5, l6] st σ Q ↔ mw_WP d 18 39 [l0, l1, l2, l3, some (jI x), l5, l6] (jI x :: st) σ Q := WP_iload mq18 dd18_37 rfl
theorem dd18_39 : decode cX2_isWinning 39 = .ok (.if_icmp .lt 5, 3) := by decide +kernel
theorem ww18_39 {d : Nat} {l0 l1 l2 l3 l4 l5 l6 : Option mw_V} {x y : Int} {st : List mw_V} {σ : mw_S} {Q : Option mw_V → mw_S → Prop} : mw_WP d 18 39 [l0, l1, l2, l3, l4, l5, l6] (jI y :: jI x :: st) σ Q ↔ (if x < y then mw_WP d 18 44 [l0, l1, l2, l3, l4, l5, l6] st σ Q else mw_WP d 18 42 [l0, l1, l2, l3, l4, l5, l6] st σ Q) := WP_icmp_lt mq18 dd18_39 (by decide)
theorem dd18_42 : decode cX2_isWinning 42 = .ok (.iconst 0, 1) := by decide +kernel
theorem ww18_42 {d : Nat} {l0 l1 l2 l3 l4 l5 l6 : Option mw_V} {st : List mw_V} {σ : mw_S} {Q : Option mw_V → mw_S → Prop} : mw_WP d 18 42 [l0, l1, l2, l3, l4, l5, l6] st σ Q ↔ mw_WP d 18 43 [l0, l1, l2, l3, l4, l5, l6] (jI (0) :: st) σ Q := WP_iconst mq18 dd18_42 (by decide)
theorem dd18_43 : decode cX2_isWinning 43 = .ok (.ireturn, 1) := by decide +kernel
theorem ww18_43 {d : Nat} {l0 l1 l2 l3 l4 l5 l6 : Option mw_V} {z : Int} {σ : mw_S} {Q : Option mw_V → mw_S → Prop} (h : z = 0 ∨ z = 1) : mw_WP d 18 43 [l0, l1, l2, l3, l4, l5, l6] [jI z] σ Q ↔ Q (some (jI z)) σ := WP_ireturn (ty := .boolean) mq18 dd18_43 rfl (by rcases h with rfl | rfl <;> decide)
theorem dd18_44 : decode cX2_isWinning 44 = .ok (.aload_n 0, 1) := by decide +kernel
theorem ww18_44 {d : Nat} {l1 l2 l3 l4 l5 l6 : Option mw_V} {x : Nat} {st : List mw_V} {σ : mw_S} {Q : Option mw_V → mw_S → Prop} : mw_WP d 18 44 [some (jR x), l1, l2, l3, l4, l5, l6] st σ Q ↔ mw_WP d 18 45 [some (jR x), l1, l2, l3, l4, l5, l6] (jR x :: st) σ Q := WP_aload_n mq18 dd18_44 rfl
theorem dd18_45 : decode cX2_isWinning 45 = .ok (.getfield 17, 3) := by decide +kernel
theorem ww18_45 {d : Nat} {l0 l1 l2 l3 l4 l5 l6 : Option mw_V} {st : List mw_V} {σ : mw_S} {Q : Option mw_V → mw_S → Prop} : mw_WP d 18 45 [l0, l1, l2, l3, l4, l5, l6] (jR 74 :: st) σ Q ↔ mw_WP d 18 48 [l0, l1, l2, l3, l4, l5, l6] (jI (σ 74 2) :: st) σ Q := WP_getI (ci := 1) (k := 2) mq18 dd18_45 (by decide) (Or.inl rfl)
theorem dd18_48 : decode cX2_isWinning 48 = .ok (.ifCond .ne 7, 3) := by decide +kernel
theorem ww18_48 {d : Nat} {l0 l1 l2 l3 l4 l5 l6 : Option mw_V} {x : Int} {st : List mw_V} {σ : mw_S} {Q : Option mw_V → mw_S → Prop} : mw_WP d 18 48 [l0, l1, l2, l3, l4, l5, l6] (jI x :: st) σ Q ↔ (if ¬ x = 0 then mw_WP d 18 55 [l0, l1, l2, l3, l4, l5, l6] st σ Q else mw_WP d 18 51 [l0, l1, l2, l3, l4, l5, l6] st σ Q) := WP_if_ne mq18 dd18_48 (by decide)
theorem dd18_51 : decode cX2_isWinning 51 = .ok (.iconst 0, 1) := by decide +kernel
theorem ww18_51 {d : Nat} {l0 l1 l2 l3 l4 l5 l6 : Option mw_V} {st : List mw_V} {σ : mw_S} {Q : Option mw_V → mw_S → Prop} : mw_WP d 18 51 [l0, l1, l2, l3, l4, l5, l6] st σ Q ↔ mw_WP d 18 52 [l0, l1, l2, l3, l4, l5, l6] (jI (0) :: st) σ Q := WP_iconst mq18 dd18_51 (by decide)
theorem dd18_52 : decode cX2_isWinning 52 = .ok (.goto 22, 3) := by decide +kernel
theorem ww18_52 {d : Nat} {l0 l1 l2 l3 l4 l5 l6 : Option mw_V} {st : List mw_V} {σ : mw_S} {Q : Option mw_V → mw_S → Prop} : mw_WP d 18 52 [l0, l1, l2, l3, l4, l5, l6] st σ Q ↔ mw_WP d 18 74 [l0, l1, l2, l3, l4, l5, l6] st σ Q := WP_goto mq18 dd18_52 (by decide)
theorem dd18_55 : decode cX2_isWinning 55 = .ok (.iload_n 2, 1) := by decide +kernel
theorem ww18_55 {d : Nat} {l0 l1 l3 l4 l5 l6 : Option mw_V} {x : Int} {st : List mw_V} {σ : mw_S} {Q : Option mw_V → mw_S → Prop} : mw_WP d 18 55 [l0, l1, some (jI x), l3, l4, l5, l6] st σ Q ↔ mw_WP d 18 56 [l0, l1, some (jI x), l3, l4, l5, l6] (jI x :: st) σ Q := WP_iload_n mq18 dd18_55 rfl
theorem dd18_56 : decode cX2_isWinning 56 = .ok (.iconst 1, 1) := by decide +kernel
theorem ww18_56 {d : Nat} {l0 l1 l2 l3 l4 l5 l6 : Option mw_V} {st : List mw_V} {σ : mw_S} {Q : Option mw_V → mw_S → Prop} : mw_WP d 18 56 [l0, l1, l2, l3, l4, l5, l6] st σ Q ↔ mw_WP d 18 57 [l0, l1, l2, l3, l4, l5, l6] (jI (1) :: st) σ Q := WP_iconst mq18 dd18_56 (by decide)
theorem dd18_57 : decode cX2_isWinning 57 = .ok (.aload_n 0, 1) := by decide +kernel
theorem ww18_57 {d : Nat} {l1 l2 l3 l4 l5 l6 : Option mw_V} {x : Nat} {st : List mw_V} {σ : mw_S} {Q : Option mw_V → mw_S → Prop} : mw_WP d 18 57 [some (jR x), l1, l2, l3, l4, l5, l6] st σ Q ↔ mw_WP d 18 58 [some (jR x), l1, l2, l3, l4, l5, l6] (jR x :: st) σ Q := WP_aload_n mq18 dd18_57 rfl
theorem dd18_58 : decode cX2_isWinning 58 = .ok (.getfield 20, 3) := by decide +kernel
theorem ww18_58 {d : Nat} {l0 l1 l2 l3 l4 l5 l6 : Option mw_V} {st : List mw_V} {σ : mw_S} {Q : Option mw_V → mw_S → Prop} : mw_WP d 18 58 [l0, l1, l2, l3, l4, l5, l6] (jR 74 :: st) σ Q ↔ mw_WP d 18 61 [l0, l1, l2, l3, l4, l5, l6] (jI (σ 74 3) :: st) σ Q := WP_getI (ci := 1) (k := 3) mq18 dd18_58 (by decide) (Or.inl rfl)
theorem dd18_61 : decode cX2_isWinning 61 = .ok (.invokestatic 42, 3) := by decide +kernel
theorem ww18_61 {d : Nat} {l0 l1 l2 l3 l4 l5 l6 : Option mw_V} {v0 v1 : mw_V} {st : List mw_V} {σ : mw_S} {Q : Option mw_V → mw_S → Prop} (h8 : (st.map mw_cat).sum ≤ 8) : mw_WP d 18 61 [l0, l1, l2, l3, l4, l5, l6] (v1 :: v0 :: st) σ Q ↔ mw_Call d 282 [v0, v1] σ (fun r1 s1 => mw_WP d 18 64 [l0, l1, l2, l3, l4, l5, l6] (r1.toList ++ st) s1 Q) := WP_invs (as := [v1, v0]) mq18 dd18_61 (by decide) mq282 rfl rfl h8
theorem dd18_64 : decode cX2_isWinning 64 = .ok (.irem, 1) := by decide +kernel
theorem ww18_64 {d : Nat} {l0 l1 l2 l3 l4 l5 l6 : Option mw_V} {x y : Int} {st : List mw_V} {σ : mw_S} {Q : Option mw_V → mw_S → Prop} : mw_WP d 18 64 [l0, l1, l2, l3, l4, l5, l6] (jI y :: jI x :: st) σ Q ↔ (¬ i32 y = 0 ∧ mw_WP d 18 65 [l0, l1, l2, l3, l4, l5, l6] (jI (zRem x y) :: st) σ Q) := WP_irem mq18 dd18_64
theorem dd18_65 : decode cX2_isWinning 65 = .ok (.aload_n 0, 1) := by decide +kernel
theorem ww18_65 {d : Nat} {l1 l2 l3 l4 l5 l6 : Option mw_V} {x : Nat} {st : List mw_V} {σ : mw_S} {Q : Option mw_V → mw_S → Prop} : mw_WP d 18 65 [some (jR x), l1, l2, l3, l4, l5, l6] st σ Q ↔ mw_WP d 18 66 [some (jR x), l1, l2, l3, l4, l5, l6] (jR x :: st) σ Q := WP_aload_n mq18 dd18_65 rfl
theorem dd18_66 : decode cX2_isWinning 66 = .ok (.getfield 13, 3) := by decide +kernel
theorem ww18_66 {d : Nat} {l0 l1 l2 l3 l4 l5 l6 : Option mw_V} {st : List mw_V} {σ : mw_S} {Q : Option mw_V → mw_S → Prop} : mw_WP d 18 66 [l0, l1, l2, l3, l4, l5, l6] (jR 74 :: st) σ Q ↔ mw_WP d 18 69 [l0, l1, l2, l3, l4, l5, l6] (jI (σ 74 1) :: st) σ Q := WP_getI (ci := 1) (k := 1) mq18 dd18_66 (by decide) (Or.inl rfl)
theorem dd18_69 : decode cX2_isWinning 69 = .ok (.iconst 1, 1) := by decide +kernel
theorem ww18_69 {d : Nat} {l0 l1 l2 l3 l4 l5 l6 : Option mw_V} {st : List mw_V} {σ : mw_S} {Q : Option mw_V → mw_S → Prop} : mw_WP d 18 69 [l0, l1, l2, l3, l4, l5, l6] st σ Q ↔ mw_WP d 18 70 [l0, l1, l2, l3, l4, l5, l6] (jI (1) :: st) σ Q := WP_iconst mq18 dd18_69 (by decide)
theorem dd18_70 : decode cX2_isWinning 70 = .ok (.iadd, 1) := by decide +kernel
theorem ww18_70 {d : Nat} {l0 l1 l2 l3 l4 l5 l6 : Option mw_V} {x y : Int} {st : List mw_V} {σ : mw_S} {Q : Option mw_V → mw_S → Prop} : mw_WP d 18 70 [l0, l1, l2, l3, l4, l5, l6] (jI y :: jI x :: st) σ Q ↔ mw_WP d 18 71 [l0, l1, l2, l3, l4, l5, l6] (jI (w32 (x + y)) :: st) σ Q := WP_iadd mq18 dd18_70
theorem dd18_71 : decode cX2_isWinning 71 = .ok (.imul, 1) := by decide +kernel
theorem ww18_71 {d : Nat} {l0 l1 l2 l3 l4 l5 l6 : Option mw_V} {x y : Int} {st : List mw_V} {σ : mw_S} {Q : Option mw_V → mw_S → Prop} : mw_WP d 18 71 [l0, l1, l2, l3, l4, l5, l6] (jI y :: jI x :: st) σ Q ↔ mw_WP d 18 72 [l0, l1, l2, l3, l4, l5, l6] (jI (w32 (x * y)) :: st) σ Q := WP_imul mq18 dd18_71
theorem dd18_72 : decode cX2_isWinning 72 = .ok (.iload_n 3, 1) := by decide +kernel
theorem ww18_72 {d : Nat} {l0 l1 l2 l4 l5 l6 : Option mw_V} {x : Int} {st : List mw_V} {σ : mw_S} {Q : Option mw_V → mw_S → Prop} : mw_WP d 18 72 [l0, l1, l2, some (jI x), l4, l5, l6] st σ Q ↔ mw_WP d 18 73 [l0, l1, l2, some (jI x), l4, l5, l6] (jI x :: st) σ Q := WP_iload_n mq18 dd18_72 rfl
theorem dd18_73 : decode cX2_isWinning 73 = .ok (.iadd, 1) := by decide +kernel
theorem ww18_73 {d : Nat} {l0 l1 l2 l3 l4 l5 l6 : Option mw_V} {x y : Int} {st : List mw_V} {σ : mw_S} {Q : Option mw_V → mw_S → Prop} : mw_WP d 18 73 [l0, l1, l2, l3, l4, l5, l6] (jI y :: jI x :: st) σ Q ↔ mw_WP d 18 74 [l0, l1, l2, l3, l4, l5, l6] (jI (w32 (x + y)) :: st) σ Q := WP_iadd mq18 dd18_73
theorem dd18_74 : decode cX2_isWinning 74 = .ok (.istore 6, 2) := by decide +kernel
theorem ww18_74 {d : Nat} {l0 l1 l2 l3 l4 l5 l6 : Option mw_V} {x : Int} {st : List mw_V} {σ : mw_S} {Q : Option mw_V → mw_S → Prop} (h : mw_nlo l5 = true) : mw_WP d 18 74 [l0, l1, l2, l3, l4, l5, l6] (jI x :: st) σ Q ↔ mw_WP d 18 76 [l0, l1, l2, l3, l4, l5, some (jI x)] st σ Q := WP_istore mq18 dd18_74 (Nat.le_of_ble_eq_true rfl) (mw_nl_of (i := 5) rfl h) rfl
theorem dd18_76 : decode cX2_isWinning 76 = .ok (.iload 6, 2) := by decide +kernel
theorem ww18_76 {d : Nat} {l0 l1 l2 l3 l4 l5 : Option mw_V} {x : Int} {st : List mw_V} {σ : mw_S} {Q : Option mw_V → mw_S → Prop} : mw_WP d 18 76 [l0, l1, l2, l3, l4, l5, some (jI x)] st σ Q ↔ mw_WP d 18 78 [l0, l1, l2, l3, l4, l5, some (jI x)] (jI x :: st) σ Q := WP_iload mq18 dd18_76 rfl
theorem dd18_78 : decode cX2_isWinning 78 = .ok (.ifCond .lt 34, 3) := by decide +kernel
theorem ww18_78 {d : Nat} {l0 l1 l2 l3 l4 l5 l6 : Option mw_V} {x : Int} {st : List mw_V} {σ : mw_S} {Q : Option mw_V → mw_S → Prop} : mw_WP d 18 78 [l0, l1, l2, l3, l4, l5, l6] (jI x :: st) σ Q ↔ (if x < 0 then mw_WP d 18 112 [l0, l1, l2, l3, l4, l5, l6] st σ Q else mw_WP d 18 81 [l0, l1, l2, l3, l4, l5, l6] st σ Q) := WP_if_lt mq18 dd18_78 (by decide)
theorem dd18_81 : decode cX2_isWinning 81 = .ok (.iload 6, 2) := by decide +kernel
theorem ww18_81 {d : Nat} {l0 l1 l2 l3 l4 l5 : Option mw_V} {x : Int} {st : List mw_V} {σ : mw_S} {Q : Option mw_V → mw_S → Prop} : mw_WP d 18 81 [l0, l1, l2, l3, l4, l5, some (jI x)] st σ Q ↔ mw_WP d 18 83 [l0, l1, l2, l3, l4, l5, some (jI x)] (jI x :: st) σ Q := WP_iload mq18 dd18_81 rfl
theorem dd18_83 : decode cX2_isWinning 83 = .ok (.bipush 125, 2) := by decide +kernel
theorem ww18_83 {d : Nat} {l0 l1 l2 l3 l4 l5 l6 : Option mw_V} {st : List mw_V} {σ : mw_S} {Q : Option mw_V → mw_S → Prop} : mw_WP d 18 83 [l0, l1, l2, l3, l4, l5, l6] st σ Q ↔ mw_WP d 18 85 [l0, l1, l2, l3, l4, l5, l6] (jI (125) :: st) σ Q := WP_bipush mq18 dd18_83 (by decide)
theorem dd18_85 : decode cX2_isWinning 85 = .ok (.if_icmp .ge 27, 3) := by decide +kernel
theorem ww18_85 {d : Nat} {l0 l1 l2 l3 l4 l5 l6 : Option mw_V} {x y : Int} {st : List mw_V} {σ : mw_S} {Q : Option mw_V → mw_S → Prop} : mw_WP d 18 85 [l0, l1, l2, l3, l4, l5, l6] (jI y :: jI x :: st) σ Q ↔ (if y ≤ x then mw_WP d 18 112 [l0, l1, l2, l3, l4, l5, l6] st σ Q else mw_WP d 18 88 [l0, l1, l2, l3, l4, l5, l6] st σ Q) := WP_icmp_ge mq18 dd18_85 (by decide)
theorem dd18_88 : decode cX2_isWinning 88 = .ok (.aload_n 0, 1) := by decide +kernel
theorem ww18_88 {d : Nat} {l1 l2 l3 l4 l5 l6 : Option mw_V} {x : Nat} {st : List mw_V} {σ : mw_S} {Q : Option mw_V → mw_S → Prop} : mw_WP d 18 88 [some (jR x), l1, l2, l3, l4, l5, l6] st σ Q ↔ mw_WP d 18 89 [some (jR x), l1, l2, l3, l4, l5, l6] (jR x :: st) σ Q := WP_aload_n mq18 dd18_88 rfl
theorem dd18_89 : decode cX2_isWinning 89 = .ok (.getfield 9, 3) := by decide +kernel
theorem ww18_89 {d : Nat} {l0 l1 l2 l3 l4 l5 l6 : Option mw_V} {st : List mw_V} {σ : mw_S} {Q : Option mw_V → mw_S → Prop} : mw_WP d 18 89 [l0, l1, l2, l3, l4, l5, l6] (jR 74 :: st) σ Q ↔ mw_WP d 18 92 [l0, l1, l2, l3, l4, l5, l6] (jR 75 :: st) σ Q := WP_getR (ci := 1) (k := 0) mq18 dd18_89 (by decide) rfl
theorem dd18_92 : decode cX2_isWinning 92 = .ok (.iload 6, 2) := by decide +kernel
theorem ww18_92 {d : Nat} {l0 l1 l2 l3 l4 l5 : Option mw_V} {x : Int} {st : List mw_V} {σ : mw_S} {Q : Option mw_V → mw_S → Prop} : mw_WP d 18 92 [l0, l1, l2, l3, l4, l5, some (jI x)] st σ Q ↔ mw_WP d 18 94 [l0, l1, l2, l3, l4, l5, some (jI x)] (jI x :: st) σ Q := WP_iload mq18 dd18_92 rfl
theorem dd18_94 : decode cX2_isWinning 94 = .ok (.laload, 1) := by decide +kernel
theorem ww18_94 {d : Nat} {l0 l1 l2 l3 l4 l5 l6 : Option mw_V} {z : Int} {a : Nat} {st : List mw_V} {σ : mw_S} {Q : Option mw_V → mw_S → Prop} : mw_WP d 18 94 [l0, l1, l2, l3, l4, l5, l6] (jI z :: jR a :: st) σ Q ↔ ((0 ≤ z ∧ z < mw_lenW 2 a) ∧ mw_WP d 18 95 [l0, l1, l2, l3, l4, l5, l6] (jL (σ a z.toNat) :: st) σ Q) := WP_laload mq18 dd18_94
theorem dd18_95 : decode cX2_isWinning 95 = .ok (.iload 4, 2) := by decide +kernel
theorem ww18_95 {d : Nat} {l0 l1 l2 l3 l5 l6 : Option mw_V} {x : Int} {st : List mw_V} {σ : mw_S} {Q : Option mw_V → mw_S → Prop} : mw_WP d 18 95 [l0, l1, l2, l3, some (jI x), l5, l6] st σ Q ↔ mw_WP d 18 97 [l0, l1, l2, l3, some (jI x), l5, l6] (jI x :: st) σ Q := WP_iload mq18 dd18_95 rfl
theorem dd18_97 : decode cX2_isWinning 97 = .ok (.iload 5, 2) := by decide +kernel
theorem ww18_97 {d : Nat} {l0 l1 l2 l3 l4 l6 : Option mw_V} {x : Int} {st : List mw_V} {σ : mw_S} {Q : Option mw_V → mw_S → Prop} : mw_WP d 18 97 [l0, l1, l2, l3, l4, some (jI x), l6] st σ Q ↔ mw_WP d 18 99 [l0, l1, l2, l3, l4, some (jI x), l6] (jI x :: st) σ Q := WP_iload mq18 dd18_97 rfl
theorem dd18_99 : decode cX2_isWinning 99 = .ok (.isub, 1) := by decide +kernel
theorem ww18_99 {d : Nat} {l0 l1 l2 l3 l4 l5 l6 : Option mw_V} {x y : Int} {st : List mw_V} {σ : mw_S} {Q : Option mw_V → mw_S → Prop} : mw_WP d 18 99 [l0, l1, l2, l3, l4, l5, l6] (jI y :: jI x :: st) σ Q ↔ mw_WP d 18 100 [l0, l1, l2, l3, l4, l5, l6] (jI (w32 (x - y)) :: st) σ Q := WP_isub mq18 dd18_99
theorem dd18_100 : decode cX2_isWinning 100 = .ok (.lshr, 1) := by decide +kernel
theorem ww18_100 {d : Nat} {l0 l1 l2 l3 l4 l5 l6 : Option mw_V} {x y : Int} {st : List mw_V} {σ : mw_S} {Q : Option mw_V → mw_S → Prop} : mw_WP d 18 100 [l0, l1, l2, l3, l4, l5, l6] (jI y :: jL x :: st) σ Q ↔ mw_WP d 18 101 [l0, l1, l2, l3, l4, l5, l6] (jL (yShr x y) :: st) σ Q := WP_lshr mq18 dd18_100
theorem dd18_101 : decode cX2_isWinning 101 = .ok (.lconst 1, 1) := by decide +kernel
theorem ww18_101 {d : Nat} {l0 l1 l2 l3 l4 l5 l6 : Option mw_V} {st : List mw_V} {σ : mw_S} {Q : Option mw_V → mw_S → Prop} : mw_WP d 18 101 [l0, l1, l2, l3, l4, l5, l6] st σ Q ↔ mw_WP d 18 102 [l0, l1, l2, l3, l4, l5, l6] (jL (1) :: st) σ Q := WP_lconst mq18 dd18_101 (by decide)
theorem dd18_102 : decode cX2_isWinning 102 = .ok (.land, 1) := by decide +kernel
theorem ww18_102 {d : Nat} {l0 l1 l2 l3 l4 l5 l6 : Option mw_V} {x y : Int} {st : List mw_V} {σ : mw_S} {Q : Option mw_V → mw_S → Prop} : mw_WP d 18 102 [l0, l1, l2, l3, l4, l5, l6] (jL y :: jL x :: st) σ Q ↔ mw_WP d 18 103 [l0, l1, l2, l3, l4, l5, l6] (jL (yAnd x y) :: st) σ Q := WP_land mq18 dd18_102
theorem dd18_103 : decode cX2_isWinning 103 = .ok (.lconst 1, 1) := by decide +kernel
theorem ww18_103 {d : Nat} {l0 l1 l2 l3 l4 l5 l6 : Option mw_V} {st : List mw_V} {σ : mw_S} {Q : Option mw_V → mw_S → Prop} : mw_WP d 18 103 [l0, l1, l2, l3, l4, l5, l6] st σ Q ↔ mw_WP d 18 104 [l0, l1, l2, l3, l4, l5, l6] (jL (1) :: st) σ Q := WP_lconst mq18 dd18_103 (by decide)
theorem dd18_104 : decode cX2_isWinning 104 = .ok (.lcmp, 1) := by decide +kernel
theorem ww18_104 {d : Nat} {l0 l1 l2 l3 l4 l5 l6 : Option mw_V} {x y : Int} {st : List mw_V} {σ : mw_S} {Q : Option mw_V → mw_S → Prop} : mw_WP d 18 104 [l0, l1, l2, l3, l4, l5, l6] (jL y :: jL x :: st) σ Q ↔ mw_WP d 18 105 [l0, l1, l2, l3, l4, l5, l6] (jI (yCmp x y) :: st) σ Q := WP_lcmp mq18 dd18_104
theorem dd18_105 : decode cX2_isWinning 105 = .ok (.ifCond .ne 7, 3) := by decide +kernel
theorem ww18_105 {d : Nat} {l0 l1 l2 l3 l4 l5 l6 : Option mw_V} {x : Int} {st : List mw_V} {σ : mw_S} {Q : Option mw_V → mw_S → Prop} : mw_WP d 18 105 [l0, l1, l2, l3, l4, l5, l6] (jI x :: st) σ Q ↔ (if ¬ x = 0 then mw_WP d 18 112 [l0, l1, l2, l3, l4, l5, l6] st σ Q else mw_WP d 18 108 [l0, l1, l2, l3, l4, l5, l6] st σ Q) := WP_if_ne mq18 dd18_105 (by decide)
theorem dd18_108 : decode cX2_isWinning 108 = .ok (.iconst 1, 1) := by decide +kernel
theorem ww18_108 {d : Nat} {l0 l1 l2 l3 l4 l5 l6 : Option mw_V} {st : List mw_V} {σ : mw_S} {Q : Option mw_V → mw_S → Prop} : mw_WP d 18 108 [l0, l1, l2, l3, l4, l5, l6] st σ Q ↔ mw_WP d 18 109 [l0, l1, l2, l3, l4, l5, l6] (jI (1) :: st) σ Q := WP_iconst mq18 dd18_108 (by decide)
theorem dd18_109 : decode cX2_isWinning 109 = .ok (.goto 4, 3) := by decide +kernel
theorem ww18_109 {d : Nat} {l0 l1 l2 l3 l4 l5 l6 : Option mw_V} {st : List mw_V} {σ : mw_S} {Q : Option mw_V → mw_S → Prop} : mw_WP d 18 109 [l0, l1, l2, l3, l4, l5, l6] st σ Q ↔ mw_WP d 18 113 [l0, l1, l2, l3, l4, l5, l6] st σ Q := WP_goto mq18 dd18_109 (by decide)
theorem dd18_112 : decode cX2_isWinning 112 = .ok (.iconst 0, 1) := by decide +kernel
theorem ww18_112 {d : Nat} {l0 l1 l2 l3 l4 l5 l6 : Option mw_V} {st : List mw_V} {σ : mw_S} {Q : Option mw_V → mw_S → Prop} : mw_WP d 18 112 [l0, l1, l2, l3, l4, l5, l6] st σ Q ↔ mw_WP d 18 113 [l0, l1, l2, l3, l4, l5, l6] (jI (0) :: st) σ Q := WP_iconst mq18 dd18_112 (by decide)
theorem dd18_113 : decode cX2_isWinning 113 = .ok (.ireturn, 1) := by decide +kernel
theorem ww18_113 {d : Nat} {l0 l1 l2 l3 l4 l5 l6 : Option mw_V} {z : Int} {σ : mw_S} {Q : Option mw_V → mw_S → Prop} (h : z = 0 ∨ z = 1) : mw_WP d 18 113 [l0, l1, l2, l3, l4, l5, l6] [jI z] σ Q ↔ Q (some (jI z)) σ := WP_ireturn (ty := .boolean) mq18 dd18_113 rfl (by rcases h with rfl | rfl <;> decide)
theorem ee27 {d : Nat} {a : Nat} {a0 : Nat} {a1 : Nat} {σ : mw_S} {Q : Option mw_V → mw_S → Prop} : mw_Call (d + 1) 27 [jR a, jR a0, jR a1] σ Q ↔ mw_WP d 27 0 [some (jR a), some (jR a0), some (jR a1)] [] σ Q := CL_u mq27 (Nat.le_of_ble_eq_true rfl) rfl
theorem dd27_0 : decode cX4_keep 0 = .ok (.aload_n 0, 1) := by decide +kernel
theorem ww27_0 {d : Nat} {l1 l2 : Option mw_V} {x : Nat} {st : List mw_V} {σ : mw_S} {Q : Option mw_V → mw_S → Prop} : mw_WP d 27 0 [some (jR x), l1, l2] st σ Q ↔ mw_WP d 27 1 [some (jR x), l1, l2] (jR x :: st) σ Q := WP_aload_n mq27 dd27_0 rfl
theorem dd27_1 : decode cX4_keep 1 = .ok (.getfield 12, 3) := by decide +kernel
theorem ww27_1i76 {d : Nat} {l0 l1 l2 : Option mw_V} {st : List mw_V} {σ : mw_S} {Q : Option mw_V → mw_S → Prop} : mw_WP d 27 1 [l0, l1, l2] (jR 76 :: st) σ Q ↔ mw_WP d 27 4 [l0, l1, l2] (jR 77 :: st) σ Q := WP_getR (ci := 3) (k := 1) mq27 dd27_1 (by decide) rfl
theorem ww27_1i87 {d : Nat} {l0 l1 l2 : Option mw_V} {st : List mw_V} {σ : mw_S} {Q : Option mw_V → mw_S → Prop} : mw_WP d 27 1 [l0, l1, l2] (jR 87 :: st) σ Q ↔ mw_WP d 27 4 [l0, l1, l2] (jR 88 :: st) σ Q := WP_getR (ci := 3) (k := 1) mq27 dd27_1 (by decide) rfl
theorem dd27_4 : decode cX4_keep 4 = .ok (.aload_n 1, 1) := by decide +kernel
theorem ww27_4 {d : Nat} {l0 l2 : Option mw_V} {x : Nat} {st : List mw_V} {σ : mw_S} {Q : Option mw_V → mw_S → Prop} : mw_WP d 27 4 [l0, some (jR x), l2] st σ Q ↔ mw_WP d 27 5 [l0, some (jR x), l2] (jR x :: st) σ Q := WP_aload_n mq27 dd27_4 rfl
theorem dd27_5 : decode cX4_keep 5 = .ok (.invokevirtual 22, 3) := by decide +kernel
theorem ww27_5 {d : Nat} {l0 l1 l2 : Option mw_V} {v0 : mw_V} {a : Nat} {st : List mw_V} {σ : mw_S} {Q : Option mw_V → mw_S → Prop} (hr : mw_rc a = 1) (h8 : (st.map mw_cat).sum ≤ 8) : mw_WP d 27 5 [l0, l1, l2] (v0 :: jR a :: st) σ Q ↔ mw_Call d 1 [jR a, v0] σ (fun r1 s1 => mw_WP d 27 8 [l0, l1, l2] (r1.toList ++ st) s1 Q) := WP_inv (as := [v0]) mq27 dd27_5 (by decide) mq1 rfl hr h8
theorem dd27_8 : decode cX4_keep 8 = .ok (.aload_n 2, 1) := by decide +kernel
theorem ww27_8 {d : Nat} {l0 l1 : Option mw_V} {x : Nat} {st : List mw_V} {σ : mw_S} {Q : Option mw_V → mw_S → Prop} : mw_WP d 27 8 [l0, l1, some (jR x)] st σ Q ↔ mw_WP d 27 9 [l0, l1, some (jR x)] (jR x :: st) σ Q := WP_aload_n mq27 dd27_8 rfl
theorem dd27_9 : decode cX4_keep 9 = .ok (.aload_n 0, 1) := by decide +kernel
theorem ww27_9 {d : Nat} {l1 l2 : Option mw_V} {x : Nat} {st : List mw_V} {σ : mw_S} {Q : Option mw_V → mw_S → Prop} : mw_WP d 27 9 [some (jR x), l1, l2] st σ Q ↔ mw_WP d 27 10 [some (jR x), l1, l2] (jR x :: st) σ Q := WP_aload_n mq27 dd27_9 rfl
theorem dd27_10 : decode cX4_keep 10 = .ok (.getfield 18, 3) := by decide +kernel
theorem ww27_10i76 {d : Nat} {l0 l1 l2 : Option mw_V} {st : List mw_V} {σ : mw_S} {Q : Option mw_V → mw_S → Prop} : mw_WP d 27 10 [l0, l1, l2] (jR 76 :: st) σ Q ↔ mw_WP d 27 13 [l0, l1, l2] (jR 86 :: st) σ Q := WP_getR (ci := 3) (k := 2) mq27 dd27_10 (by decide) rfl
theorem ww27_10i87 {d : Nat} {l0 l1 l2 : Option mw_V} {st : List mw_V} {σ : mw_S} {Q : Option mw_V → mw_S → Prop} : mw_WP d 27 10 [l0, l1, l2] (jR 87 :: st) σ Q ↔ mw_WP d 27 13 [l0, l1, l2] (jR 97 :: st) σ Q := WP_getR (ci := 3) (k := 2) mq27 dd27_10 (by decide) rfl
theorem dd27_13 : decode cX4_keep 13 = .ok (.invokestatic 26, 3) := by decide +kernel
theorem ww27_13 {d : Nat} {l0 l1 l2 : Option mw_V} {v0 v1 : mw_V} {st : List mw_V} {σ : mw_S} {Q : Option mw_V → mw_S → Prop} (h8 : (st.map mw_cat).sum ≤ 8) : mw_WP d 27 13 [l0, l1, l2] (v1 :: v0 :: st) σ Q ↔ mw_Call d 169 [v0, v1] σ (fun r1 s1 => mw_WP d 27 16 [l0, l1, l2] (r1.toList ++ st) s1 Q) := WP_invn (as := [v1, v0]) mq27 dd27_13 (by decide) (by decide) mq169 rfl rfl h8
theorem dd27_16 : decode cX4_keep 16 = .ok (.aload_n 0, 1) := by decide +kernel
theorem ww27_16 {d : Nat} {l1 l2 : Option mw_V} {x : Nat} {st : List mw_V} {σ : mw_S} {Q : Option mw_V → mw_S → Prop} : mw_WP d 27 16 [some (jR x), l1, l2] st σ Q ↔ mw_WP d 27 17 [some (jR x), l1, l2] (jR x :: st) σ Q := WP_aload_n mq27 dd27_16 rfl
theorem dd27_17 : decode cX4_keep 17 = .ok (.iconst 1, 1) := by decide +kernel
theorem ww27_17 {d : Nat} {l0 l1 l2 : Option mw_V} {st : List mw_V} {σ : mw_S} {Q : Option mw_V → mw_S → Prop} : mw_WP d 27 17 [l0, l1, l2] st σ Q ↔ mw_WP d 27 18 [l0, l1, l2] (jI (1) :: st) σ Q := WP_iconst mq27 dd27_17 (by decide)
theorem dd27_18 : decode cX4_keep 18 = .ok (.putfield 30, 3) := by decide +kernel
theorem ww27_18i76 {d : Nat} {l0 l1 l2 : Option mw_V} {v : Int} {st : List mw_V} {σ : mw_S} {Q : Option mw_V → mw_S → Prop} : mw_WP d 27 18 [l0, l1, l2] (jI v :: jR 76 :: st) σ Q ↔ ((v = 0 ∨ v = 1) ∧ mw_WP d 27 21 [l0, l1, l2] st (upS σ 76 0 v) Q) := WP_putZ (ci := 3) (k := 0) mq27 dd27_18 (by decide) rfl
theorem ww27_18i87 {d : Nat} {l0 l1 l2 : Option mw_V} {v : Int} {st : List mw_V} {σ : mw_S} {Q : Option mw_V → mw_S → Prop} : mw_WP d 27 18 [l0, l1, l2] (jI v :: jR 87 :: st) σ Q ↔ ((v = 0 ∨ v = 1) ∧ mw_WP d 27 21 [l0, l1, l2] st (upS σ 87 0 v) Q) := WP_putZ (ci := 3) (k := 0) mq27 dd27_18 (by decide) rfl
theorem dd27_21 : decode cX4_keep 21 = .ok (.return_, 1) := by decide +kernel
theorem ww27_21 {d : Nat} {l0 l1 l2 : Option mw_V} {σ : mw_S} {Q : Option mw_V → mw_S → Prop} : mw_WP d 27 21 [l0, l1, l2] [] σ Q ↔ Q none σ := WP_return mq27 dd27_21 rfl
theorem ee40 {d : Nat} {a : Nat} {σ : mw_S} {Q : Option mw_V → mw_S → Prop} : mw_Call (d + 1) 40 [jR a] σ Q ↔ mw_WP d 40 0 [some (jR a)] [] σ Q := CL_u mq40 (Nat.le_of_ble_eq_true rfl) rfl
theorem dd40_0 : decode cX6_forget 0 = .ok (.aload_n 0, 1) := by decide +kernel
theorem ww40_0 {d : Nat} {x : Nat} {st : List mw_V} {σ : mw_S} {Q : Option mw_V → mw_S → Prop} : mw_WP d 40 0 [some (jR x)] st σ Q ↔ mw_WP d 40 1 [some (jR x)] (jR x :: st) σ Q := WP_aload_n mq40 dd40_0 rfl
theorem dd40_1 : decode cX6_forget 1 = .ok (.iconst 0, 1) := by decide +kernel
theorem ww40_1 {d : Nat} {l0 : Option mw_V} {st : List mw_V} {σ : mw_S} {Q : Option mw_V → mw_S → Prop} : mw_WP d 40 1 [l0] st σ Q ↔ mw_WP d 40 2 [l0] (jI (0) :: st) σ Q := WP_iconst mq40 dd40_1 (by decide)
theorem dd40_2 : decode cX6_forget 2 = .ok (.putfield 16, 3) := by decide +kernel
theorem ww40_2 {d : Nat} {l0 : Option mw_V} {v : Int} {st : List mw_V} {σ : mw_S} {Q : Option mw_V → mw_S → Prop} : mw_WP d 40 2 [l0] (jI v :: jR 25 :: st) σ Q ↔ mw_WP d 40 5 [l0] st (upS σ 25 0 v) Q := WP_putI (ci := 5) (k := 0) mq40 dd40_2 (by decide) rfl
theorem dd40_5 : decode cX6_forget 5 = .ok (.return_, 1) := by decide +kernel
theorem ww40_5 {d : Nat} {l0 : Option mw_V} {σ : mw_S} {Q : Option mw_V → mw_S → Prop} : mw_WP d 40 5 [l0] [] σ Q ↔ Q none σ := WP_return mq40 dd40_5 rfl
theorem ee41 {d : Nat} {a : Nat} {a0 : Nat} {σ : mw_S} {Q : Option mw_V → mw_S → Prop} : mw_Call (d + 1) 41 [jR a, jR a0] σ Q ↔ mw_WP d 41 0 [some (jR a), some (jR a0)] [] σ Q := CL_u mq41 (Nat.le_of_ble_eq_true rfl) rfl
theorem dd41_0 : decode cX6_remember 0 = .ok (.aload_n 1, 1) := by decide +kernel
theorem ww41_0 {d : Nat} {l0 : Option mw_V} {x : Nat} {st : List mw_V} {σ : mw_S} {Q : Option mw_V → mw_S → Prop} : mw_WP d 41 0 [l0, some (jR x)] st σ Q ↔ mw_WP d 41 1 [l0, some (jR x)] (jR x :: st) σ Q := WP_aload_n mq41 dd41_0 rfl
theorem dd41_1 : decode cX6_remember 1 = .ok (.aload_n 0, 1) := by decide +kernel
theorem ww41_1 {d : Nat} {l1 : Option mw_V} {x : Nat} {st : List mw_V} {σ : mw_S} {Q : Option mw_V → mw_S → Prop} : mw_WP d 41 1 [some (jR x), l1] st σ Q ↔ mw_WP d 41 2 [some (jR x), l1] (jR x :: st) σ Q := WP_aload_n mq41 dd41_1 rfl
theorem dd41_2 : decode cX6_remember 2 = .ok (.getfield 11, 3) := by decide +kernel
theorem ww41_2 {d : Nat} {l0 l1 : Option mw_V} {st : List mw_V} {σ : mw_S} {Q : Option mw_V → mw_S → Prop} : mw_WP d 41 2 [l0, l1] (jR 25 :: st) σ Q ↔ mw_WP d 41 5 [l0, l1] (jR 26 :: st) σ Q := WP_getR (ci := 5) (k := 2) mq41 dd41_2 (by decide) rfl
theorem dd41_5 : decode cX6_remember 5 = .ok (.aload_n 0, 1) := by decide +kernel
theorem ww41_5 {d : Nat} {l1 : Option mw_V} {x : Nat} {st : List mw_V} {σ : mw_S} {Q : Option mw_V → mw_S → Prop} : mw_WP d 41 5 [some (jR x), l1] st σ Q ↔ mw_WP d 41 6 [some (jR x), l1] (jR x :: st) σ Q := WP_aload_n mq41 dd41_5 rfl
theorem dd41_6 : decode cX6_remember 6 = .ok (.getfield 20, 3) := by decide +kernel
theorem ww41_6 {d : Nat} {l0 l1 : Option mw_V} {st : List mw_V} {σ : mw_S} {Q : Option mw_V → mw_S → Prop} : mw_WP d 41 6 [l0, l1] (jR 25 :: st) σ Q ↔ mw_WP d 41 9 [l0, l1] (jI (σ 25 1) :: st) σ Q := WP_getI (ci := 5) (k := 1) mq41 dd41_6 (by decide) (Or.inl rfl)
theorem dd41_9 : decode cX6_remember 9 = .ok (.aaload, 1) := by decide +kernel
theorem ww41_9 {d : Nat} {l0 l1 : Option mw_V} {z : Int} {a : Nat} {st : List mw_V} {σ : mw_S} {Q : Option mw_V → mw_S → Prop} : mw_WP d 41 9 [l0, l1] (jI z :: jR a :: st) σ Q ↔ ((0 ≤ z ∧ z < (mw_rows a).length) ∧ mw_WP d 41 10 [l0, l1] (jR ((mw_rows a).getD z.toNat 0) :: st) σ Q) := WP_aaload mq41 dd41_9
theorem dd41_10 : decode cX6_remember 10 = .ok (.invokestatic 23, 3) := by decide +kernel
theorem ww41_10 {d : Nat} {l0 l1 : Option mw_V} {v0 v1 : mw_V} {st : List mw_V} {σ : mw_S} {Q : Option mw_V → mw_S → Prop} (h8 : (st.map mw_cat).sum ≤ 8) : mw_WP d 41 10 [l0, l1] (v1 :: v0 :: st) σ Q ↔ mw_Call d 169 [v0, v1] σ (fun r1 s1 => mw_WP d 41 13 [l0, l1] (r1.toList ++ st) s1 Q) := WP_invn (as := [v1, v0]) mq41 dd41_10 (by decide) (by decide) mq169 rfl rfl h8
theorem dd41_13 : decode cX6_remember 13 = .ok (.aload_n 0, 1) := by decide +kernel
theorem ww41_13 {d : Nat} {l1 : Option mw_V} {x : Nat} {st : List mw_V} {σ : mw_S} {Q : Option mw_V → mw_S → Prop} : mw_WP d 41 13 [some (jR x), l1] st σ Q ↔ mw_WP d 41 14 [some (jR x), l1] (jR x :: st) σ Q := WP_aload_n mq41 dd41_13 rfl
theorem dd41_14 : decode cX6_remember 14 = .ok (.aload_n 0, 1) := by decide +kernel
theorem ww41_14 {d : Nat} {l1 : Option mw_V} {x : Nat} {st : List mw_V} {σ : mw_S} {Q : Option mw_V → mw_S → Prop} : mw_WP d 41 14 [some (jR x), l1] st σ Q ↔ mw_WP d 41 15 [some (jR x), l1] (jR x :: st) σ Q := WP_aload_n mq41 dd41_14 rfl
theorem dd41_15 : decode cX6_remember 15 = .ok (.getfield 20, 3) := by decide +kernel
theorem ww41_15 {d : Nat} {l0 l1 : Option mw_V} {st : List mw_V} {σ : mw_S} {Q : Option mw_V → mw_S → Prop} : mw_WP d 41 15 [l0, l1] (jR 25 :: st) σ Q ↔ mw_WP d 41 18 [l0, l1] (jI (σ 25 1) :: st) σ Q := WP_getI (ci := 5) (k := 1) mq41 dd41_15 (by decide) (Or.inl rfl)
theorem dd41_18 : decode cX6_remember 18 = .ok (.iconst 1, 1) := by decide +kernel
theorem ww41_18 {d : Nat} {l0 l1 : Option mw_V} {st : List mw_V} {σ : mw_S} {Q : Option mw_V → mw_S → Prop} : mw_WP d 41 18 [l0, l1] st σ Q ↔ mw_WP d 41 19 [l0, l1] (jI (1) :: st) σ Q := WP_iconst mq41 dd41_18 (by decide)
theorem dd41_19 : decode cX6_remember 19 = .ok (.iadd, 1) := by decide +kernel
theorem ww41_19 {d : Nat} {l0 l1 : Option mw_V} {x y : Int} {st : List mw_V} {σ : mw_S} {Q : Option mw_V → mw_S → Prop} : mw_WP d 41 19 [l0, l1] (jI y :: jI x :: st) σ Q ↔ mw_WP d 41 20 [l0, l1] (jI (w32 (x + y)) :: st) σ Q := WP_iadd mq41 dd41_19
theorem dd41_20 : decode cX6_remember 20 = .ok (.bipush 10, 2) := by decide +kernel
theorem ww41_20 {d : Nat} {l0 l1 : Option mw_V} {st : List mw_V} {σ : mw_S} {Q : Option mw_V → mw_S → Prop} : mw_WP d 41 20 [l0, l1] st σ Q ↔ mw_WP d 41 22 [l0, l1] (jI (10) :: st) σ Q := WP_bipush mq41 dd41_20 (by decide)
theorem dd41_22 : decode cX6_remember 22 = .ok (.irem, 1) := by decide +kernel
theorem ww41_22 {d : Nat} {l0 l1 : Option mw_V} {x y : Int} {st : List mw_V} {σ : mw_S} {Q : Option mw_V → mw_S → Prop} : mw_WP d 41 22 [l0, l1] (jI y :: jI x :: st) σ Q ↔ (¬ i32 y = 0 ∧ mw_WP d 41 23 [l0, l1] (jI (zRem x y) :: st) σ Q) := WP_irem mq41 dd41_22
theorem dd41_23 : decode cX6_remember 23 = .ok (.putfield 20, 3) := by decide +kernel
theorem ww41_23 {d : Nat} {l0 l1 : Option mw_V} {v : Int} {st : List mw_V} {σ : mw_S} {Q : Option mw_V → mw_S → Prop} : mw_WP d 41 23 [l0, l1] (jI v :: jR 25 :: st) σ Q ↔ mw_WP d 41 26 [l0, l1] st (upS σ 25 1 v) Q := WP_putI (ci := 5) (k := 1) mq41 dd41_23 (by decide) rfl
theorem dd41_26 : decode cX6_remember 26 = .ok (.aload_n 0, 1) := by decide +kernel
theorem ww41_26 {d : Nat} {l1 : Option mw_V} {x : Nat} {st : List mw_V} {σ : mw_S} {Q : Option mw_V → mw_S → Prop} : mw_WP d 41 26 [some (jR x), l1] st σ Q ↔ mw_WP d 41 27 [some (jR x), l1] (jR x :: st) σ Q := WP_aload_n mq41 dd41_26 rfl
theorem dd41_27 : decode cX6_remember 27 = .ok (.bipush 10, 2) := by decide +kernel
theorem ww41_27 {d : Nat} {l0 l1 : Option mw_V} {st : List mw_V} {σ : mw_S} {Q : Option mw_V → mw_S → Prop} : mw_WP d 41 27 [l0, l1] st σ Q ↔ mw_WP d 41 29 [l0, l1] (jI (10) :: st) σ Q := WP_bipush mq41 dd41_27 (by decide)
theorem dd41_29 : decode cX6_remember 29 = .ok (.aload_n 0, 1) := by decide +kernel
theorem ww41_29 {d : Nat} {l1 : Option mw_V} {x : Nat} {st : List mw_V} {σ : mw_S} {Q : Option mw_V → mw_S → Prop} : mw_WP d 41 29 [some (jR x), l1] st σ Q ↔ mw_WP d 41 30 [some (jR x), l1] (jR x :: st) σ Q := WP_aload_n mq41 dd41_29 rfl
theorem dd41_30 : decode cX6_remember 30 = .ok (.getfield 16, 3) := by decide +kernel
theorem ww41_30 {d : Nat} {l0 l1 : Option mw_V} {st : List mw_V} {σ : mw_S} {Q : Option mw_V → mw_S → Prop} : mw_WP d 41 30 [l0, l1] (jR 25 :: st) σ Q ↔ mw_WP d 41 33 [l0, l1] (jI (σ 25 0) :: st) σ Q := WP_getI (ci := 5) (k := 0) mq41 dd41_30 (by decide) (Or.inl rfl)
theorem dd41_33 : decode cX6_remember 33 = .ok (.iconst 1, 1) := by decide +kernel
theorem ww41_33 {d : Nat} {l0 l1 : Option mw_V} {st : List mw_V} {σ : mw_S} {Q : Option mw_V → mw_S → Prop} : mw_WP d 41 33 [l0, l1] st σ Q ↔ mw_WP d 41 34 [l0, l1] (jI (1) :: st) σ Q := WP_iconst mq41 dd41_33 (by decide)
theorem dd41_34 : decode cX6_remember 34 = .ok (.iadd, 1) := by decide +kernel
theorem ww41_34 {d : Nat} {l0 l1 : Option mw_V} {x y : Int} {st : List mw_V} {σ : mw_S} {Q : Option mw_V → mw_S → Prop} : mw_WP d 41 34 [l0, l1] (jI y :: jI x :: st) σ Q ↔ mw_WP d 41 35 [l0, l1] (jI (w32 (x + y)) :: st) σ Q := WP_iadd mq41 dd41_34
theorem dd41_35 : decode cX6_remember 35 = .ok (.invokestatic 27, 3) := by decide +kernel
theorem ww41_35 {d : Nat} {l0 l1 : Option mw_V} {v0 v1 : mw_V} {st : List mw_V} {σ : mw_S} {Q : Option mw_V → mw_S → Prop} (h8 : (st.map mw_cat).sum ≤ 8) : mw_WP d 41 35 [l0, l1] (v1 :: v0 :: st) σ Q ↔ mw_Call d 283 [v0, v1] σ (fun r1 s1 => mw_WP d 41 38 [l0, l1] (r1.toList ++ st) s1 Q) := WP_invs (as := [v1, v0]) mq41 dd41_35 (by decide) mq283 rfl rfl h8
theorem dd41_38 : decode cX6_remember 38 = .ok (.putfield 16, 3) := by decide +kernel
theorem ww41_38 {d : Nat} {l0 l1 : Option mw_V} {v : Int} {st : List mw_V} {σ : mw_S} {Q : Option mw_V → mw_S → Prop} : mw_WP d 41 38 [l0, l1] (jI v :: jR 25 :: st) σ Q ↔ mw_WP d 41 41 [l0, l1] st (upS σ 25 0 v) Q := WP_putI (ci := 5) (k := 0) mq41 dd41_38 (by decide) rfl
theorem dd41_41 : decode cX6_remember 41 = .ok (.return_, 1) := by decide +kernel
theorem ww41_41 {d : Nat} {l0 l1 : Option mw_V} {σ : mw_S} {Q : Option mw_V → mw_S → Prop} : mw_WP d 41 41 [l0, l1] [] σ Q ↔ Q none σ := WP_return mq41 dd41_41 rfl
theorem ee42 {d : Nat} {a : Nat} {z0 : Int} {a1 : Nat} {σ : mw_S} {Q : Option mw_V → mw_S → Prop} : mw_Call (d + 1) 42 [jR a, jI z0, jR a1] σ Q ↔ mw_WP d 42 0 [some (jR a), some (jI z0), some (jR a1)] [] σ Q := CL_u mq42 (Nat.le_of_ble_eq_true rfl) rfl
theorem dd42_0 : decode cX6_goBack 0 = .ok (.aload_n 0, 1) := by decide +kernel
theorem ww42_0 {d : Nat} {l1 l2 : Option mw_V} {x : Nat} {st : List mw_V} {σ : mw_S} {Q : Option mw_V → mw_S → Prop} : mw_WP d 42 0 [some (jR x), l1, l2] st σ Q ↔ mw_WP d 42 1 [some (jR x), l1, l2] (jR x :: st) σ Q := WP_aload_n mq42 dd42_0 rfl
theorem dd42_1 : decode cX6_goBack 1 = .ok (.aload_n 0, 1) := by decide +kernel
theorem ww42_1 {d : Nat} {l1 l2 : Option mw_V} {x : Nat} {st : List mw_V} {σ : mw_S} {Q : Option mw_V → mw_S → Prop} : mw_WP d 42 1 [some (jR x), l1, l2] st σ Q ↔ mw_WP d 42 2 [some (jR x), l1, l2] (jR x :: st) σ Q := WP_aload_n mq42 dd42_1 rfl
theorem dd42_2 : decode cX6_goBack 2 = .ok (.getfield 20, 3) := by decide +kernel
theorem ww42_2 {d : Nat} {l0 l1 l2 : Option mw_V} {st : List mw_V} {σ : mw_S} {Q : Option mw_V → mw_S → Prop} : mw_WP d 42 2 [l0, l1, l2] (jR 25 :: st) σ Q ↔ mw_WP d 42 5 [l0, l1, l2] (jI (σ 25 1) :: st) σ Q := WP_getI (ci := 5) (k := 1) mq42 dd42_2 (by decide) (Or.inl rfl)
theorem dd42_5 : decode cX6_goBack 5 = .ok (.iload_n 1, 1) := by decide +kernel
theorem ww42_5 {d : Nat} {l0 l2 : Option mw_V} {x : Int} {st : List mw_V} {σ : mw_S} {Q : Option mw_V → mw_S → Prop} : mw_WP d 42 5 [l0, some (jI x), l2] st σ Q ↔ mw_WP d 42 6 [l0, some (jI x), l2] (jI x :: st) σ Q := WP_iload_n mq42 dd42_5 rfl
theorem dd42_6 : decode cX6_goBack 6 = .ok (.isub, 1) := by decide +kernel
theorem ww42_6 {d : Nat} {l0 l1 l2 : Option mw_V} {x y : Int} {st : List mw_V} {σ : mw_S} {Q : Option mw_V → mw_S → Prop} : mw_WP d 42 6 [l0, l1, l2] (jI y :: jI x :: st) σ Q ↔ mw_WP d 42 7 [l0, l1, l2] (jI (w32 (x - y)) :: st) σ Q := WP_isub mq42 dd42_6
theorem dd42_7 : decode cX6_goBack 7 = .ok (.bipush 10, 2) := by decide +kernel
theorem ww42_7 {d : Nat} {l0 l1 l2 : Option mw_V} {st : List mw_V} {σ : mw_S} {Q : Option mw_V → mw_S → Prop} : mw_WP d 42 7 [l0, l1, l2] st σ Q ↔ mw_WP d 42 9 [l0, l1, l2] (jI (10) :: st) σ Q := WP_bipush mq42 dd42_7 (by decide)
theorem dd42_9 : decode cX6_goBack 9 = .ok (.invokestatic 33, 3) := by decide +kernel
theorem ww42_9 {d : Nat} {l0 l1 l2 : Option mw_V} {v0 v1 : mw_V} {st : List mw_V} {σ : mw_S} {Q : Option mw_V → mw_S → Prop} (h8 : (st.map mw_cat).sum ≤ 8) : mw_WP d 42 9 [l0, l1, l2] (v1 :: v0 :: st) σ Q ↔ mw_Call d 281 [v0, v1] σ (fun r1 s1 => mw_WP d 42 12 [l0, l1, l2] (r1.toList ++ st) s1 Q) := WP_invs (as := [v1, v0]) mq42 dd42_9 (by decide) mq281 rfl rfl h8
theorem dd42_12 : decode cX6_goBack 12 = .ok (.putfield 20, 3) := by decide +kernel
theorem ww42_12 {d : Nat} {l0 l1 l2 : Option mw_V} {v : Int} {st : List mw_V} {σ : mw_S} {Q : Option mw_V → mw_S → Prop} : mw_WP d 42 12 [l0, l1, l2] (jI v :: jR 25 :: st) σ Q ↔ mw_WP d 42 15 [l0, l1, l2] st (upS σ 25 1 v) Q := WP_putI (ci := 5) (k := 1) mq42 dd42_12 (by decide) rfl
theorem dd42_15 : decode cX6_goBack 15 = .ok (.aload_n 0, 1) := by decide +kernel
theorem ww42_15 {d : Nat} {l1 l2 : Option mw_V} {x : Nat} {st : List mw_V} {σ : mw_S} {Q : Option mw_V → mw_S → Prop} : mw_WP d 42 15 [some (jR x), l1, l2] st σ Q ↔ mw_WP d 42 16 [some (jR x), l1, l2] (jR x :: st) σ Q := WP_aload_n mq42 dd42_15 rfl
theorem dd42_16 : decode cX6_goBack 16 = .ok (.iconst 0, 1) := by decide +kernel
theorem ww42_16 {d : Nat} {l0 l1 l2 : Option mw_V} {st : List mw_V} {σ : mw_S} {Q : Option mw_V → mw_S → Prop} : mw_WP d 42 16 [l0, l1, l2] st σ Q ↔ mw_WP d 42 17 [l0, l1, l2] (jI (0) :: st) σ Q := WP_iconst mq42 dd42_16 (by decide)
theorem dd42_17 : decode cX6_goBack 17 = .ok (.aload_n 0, 1) := by decide +kernel
theorem ww42_17 {d : Nat} {l1 l2 : Option mw_V} {x : Nat} {st : List mw_V} {σ : mw_S} {Q : Option mw_V → mw_S → Prop} : mw_WP d 42 17 [some (jR x), l1, l2] st σ Q ↔ mw_WP d 42 18 [some (jR x), l1, l2] (jR x :: st) σ Q := WP_aload_n mq42 dd42_17 rfl
theorem dd42_18 : decode cX6_goBack 18 = .ok (.getfield 16, 3) := by decide +kernel
theorem ww42_18 {d : Nat} {l0 l1 l2 : Option mw_V} {st : List mw_V} {σ : mw_S} {Q : Option mw_V → mw_S → Prop} : mw_WP d 42 18 [l0, l1, l2] (jR 25 :: st) σ Q ↔ mw_WP d 42 21 [l0, l1, l2] (jI (σ 25 0) :: st) σ Q := WP_getI (ci := 5) (k := 0) mq42 dd42_18 (by decide) (Or.inl rfl)
theorem dd42_21 : decode cX6_goBack 21 = .ok (.iload_n 1, 1) := by decide +kernel
theorem ww42_21 {d : Nat} {l0 l2 : Option mw_V} {x : Int} {st : List mw_V} {σ : mw_S} {Q : Option mw_V → mw_S → Prop} : mw_WP d 42 21 [l0, some (jI x), l2] st σ Q ↔ mw_WP d 42 22 [l0, some (jI x), l2] (jI x :: st) σ Q := WP_iload_n mq42 dd42_21 rfl
theorem dd42_22 : decode cX6_goBack 22 = .ok (.isub, 1) := by decide +kernel
theorem ww42_22 {d : Nat} {l0 l1 l2 : Option mw_V} {x y : Int} {st : List mw_V} {σ : mw_S} {Q : Option mw_V → mw_S → Prop} : mw_WP d 42 22 [l0, l1, l2] (jI y :: jI x :: st) σ Q ↔ mw_WP d 42 23 [l0, l1, l2] (jI (w32 (x - y)) :: st) σ Q := WP_isub mq42 dd42_22
theorem dd42_23 : decode cX6_goBack 23 = .ok (.invokestatic 36, 3) := by decide +kernel
theorem ww42_23 {d : Nat} {l0 l1 l2 : Option mw_V} {v0 v1 : mw_V} {st : List mw_V} {σ : mw_S} {Q : Option mw_V → mw_S → Prop} (h8 : (st.map mw_cat).sum ≤ 8) : mw_WP d 42 23 [l0, l1, l2] (v1 :: v0 :: st) σ Q ↔ mw_Call d 282 [v0, v1] σ (fun r1 s1 => mw_WP d 42 26 [l0, l1, l2] (r1.toList ++ st) s1 Q) := WP_invs (as := [v1, v0]) mq42 dd42_23 (by decide) mq282 rfl rfl h8
theorem dd42_26 : decode cX6_goBack 26 = .ok (.putfield 16, 3) := by decide +kernel
theorem ww42_26 {d : Nat} {l0 l1 l2 : Option mw_V} {v : Int} {st : List mw_V} {σ : mw_S} {Q : Option mw_V → mw_S → Prop} : mw_WP d 42 26 [l0, l1, l2] (jI v :: jR 25 :: st) σ Q ↔ mw_WP d 42 29 [l0, l1, l2] st (upS σ 25 0 v) Q := WP_putI (ci := 5) (k := 0) mq42 dd42_26 (by decide) rfl
theorem dd42_29 : decode cX6_goBack 29 = .ok (.aload_n 0, 1) := by decide +kernel
theorem ww42_29 {d : Nat} {l1 l2 : Option mw_V} {x : Nat} {st : List mw_V} {σ : mw_S} {Q : Option mw_V → mw_S → Prop} : mw_WP d 42 29 [some (jR x), l1, l2] st σ Q ↔ mw_WP d 42 30 [some (jR x), l1, l2] (jR x :: st) σ Q := WP_aload_n mq42 dd42_29 rfl
theorem dd42_30 : decode cX6_goBack 30 = .ok (.getfield 11, 3) := by decide +kernel
theorem ww42_30 {d : Nat} {l0 l1 l2 : Option mw_V} {st : List mw_V} {σ : mw_S} {Q : Option mw_V → mw_S → Prop} : mw_WP d 42 30 [l0, l1, l2] (jR 25 :: st) σ Q ↔ mw_WP d 42 33 [l0, l1, l2] (jR 26 :: st) σ Q := WP_getR (ci := 5) (k := 2) mq42 dd42_30 (by decide) rfl
theorem dd42_33 : decode cX6_goBack 33 = .ok (.aload_n 0, 1) := by decide +kernel
theorem ww42_33 {d : Nat} {l1 l2 : Option mw_V} {x : Nat} {st : List mw_V} {σ : mw_S} {Q : Option mw_V → mw_S → Prop} : mw_WP d 42 33 [some (jR x), l1, l2] st σ Q ↔ mw_WP d 42 34 [some (jR x), l1, l2] (jR x :: st) σ Q := WP_aload_n mq42 dd42_33 rfl
theorem dd42_34 : decode cX6_goBack 34 = .ok (.getfield 20, 3) := by decide +kernel
theorem ww42_34 {d : Nat} {l0 l1 l2 : Option mw_V} {st : List mw_V} {σ : mw_S} {Q : Option mw_V → mw_S → Prop} : mw_WP d 42 34 [l0, l1, l2] (jR 25 :: st) σ Q ↔ mw_WP d 42 37 [l0, l1, l2] (jI (σ 25 1) :: st) σ Q := WP_getI (ci := 5) (k := 1) mq42 dd42_34 (by decide) (Or.inl rfl)
theorem dd42_37 : decode cX6_goBack 37 = .ok (.aaload, 1) := by decide +kernel
theorem ww42_37 {d : Nat} {l0 l1 l2 : Option mw_V} {z : Int} {a : Nat} {st : List mw_V} {σ : mw_S} {Q : Option mw_V → mw_S → Prop} : mw_WP d 42 37 [l0, l1, l2] (jI z :: jR a :: st) σ Q ↔ ((0 ≤ z ∧ z < (mw_rows a).length) ∧ mw_WP d 42 38 [l0, l1, l2] (jR ((mw_rows a).getD z.toNat 0) :: st) σ Q) := WP_aaload mq42 dd42_37
theorem dd42_38 : decode cX6_goBack 38 = .ok (.aload_n 2, 1) := by decide +kernel
theorem ww42_38 {d : Nat} {l0 l1 : Option mw_V} {x : Nat} {st : List mw_V} {σ : mw_S} {Q : Option mw_V → mw_S → Prop} : mw_WP d 42 38 [l0, l1, some (jR x)] st σ Q ↔ mw_WP d 42 39 [l0, l1, some (jR x)] (jR x :: st) σ Q := WP_aload_n mq42 dd42_38 rfl
theorem dd42_39 : decode cX6_goBack 39 = .ok (.invokestatic 23, 3) := by decide +kernel
theorem ww42_39 {d : Nat} {l0 l1 l2 : Option mw_V} {v0 v1 : mw_V} {st : List mw_V} {σ : mw_S} {Q : Option mw_V → mw_S → Prop} (h8 : (st.map mw_cat).sum ≤ 8) : mw_WP d 42 39 [l0, l1, l2] (v1 :: v0 :: st) σ Q ↔ mw_Call d 169 [v0, v1] σ (fun r1 s1 => mw_WP d 42 42 [l0, l1, l2] (r1.toList ++ st) s1 Q) := WP_invn (as := [v1, v0]) mq42 dd42_39 (by decide) (by decide) mq169 rfl rfl h8
theorem dd42_42 : decode cX6_goBack 42 = .ok (.return_, 1) := by decide +kernel
theorem ww42_42 {d : Nat} {l0 l1 l2 : Option mw_V} {σ : mw_S} {Q : Option mw_V → mw_S → Prop} : mw_WP d 42 42 [l0, l1, l2] [] σ Q ↔ Q none σ := WP_return mq42 dd42_42 rfl
theorem ee112 {d : Nat} {a : Nat} {z0 : Int} {σ : mw_S} {Q : Option mw_V → mw_S → Prop} : mw_Call (d + 1) 112 [jR a, jI z0] σ Q ↔ mw_WP d 112 0 [some (jR a), some (jI z0)] [] σ Q := CL_u mq112 (Nat.le_of_ble_eq_true rfl) rfl
theorem dd112_0 : decode cX10_isTray 0 = .ok (.iload_n 1, 1) := by decide +kernel
theorem ww112_0 {d : Nat} {l0 : Option mw_V} {x : Int} {st : List mw_V} {σ : mw_S} {Q : Option mw_V → mw_S → Prop} : mw_WP d 112 0 [l0, some (jI x)] st σ Q ↔ mw_WP d 112 1 [l0, some (jI x)] (jI x :: st) σ Q := WP_iload_n mq112 dd112_0 rfl
theorem dd112_1 : decode cX10_isTray 1 = .ok (.ifCond .lt 12, 3) := by decide +kernel
theorem ww112_1 {d : Nat} {l0 l1 : Option mw_V} {x : Int} {st : List mw_V} {σ : mw_S} {Q : Option mw_V → mw_S → Prop} : mw_WP d 112 1 [l0, l1] (jI x :: st) σ Q ↔ (if x < 0 then mw_WP d 112 13 [l0, l1] st σ Q else mw_WP d 112 4 [l0, l1] st σ Q) := WP_if_lt mq112 dd112_1 (by decide)
theorem dd112_4 : decode cX10_isTray 4 = .ok (.iload_n 1, 1) := by decide +kernel
theorem ww112_4 {d : Nat} {l0 : Option mw_V} {x : Int} {st : List mw_V} {σ : mw_S} {Q : Option mw_V → mw_S → Prop} : mw_WP d 112 4 [l0, some (jI x)] st σ Q ↔ mw_WP d 112 5 [l0, some (jI x)] (jI x :: st) σ Q := WP_iload_n mq112 dd112_4 rfl
theorem dd112_5 : decode cX10_isTray 5 = .ok (.iconst 4, 1) := by decide +kernel
theorem ww112_5 {d : Nat} {l0 l1 : Option mw_V} {st : List mw_V} {σ : mw_S} {Q : Option mw_V → mw_S → Prop} : mw_WP d 112 5 [l0, l1] st σ Q ↔ mw_WP d 112 6 [l0, l1] (jI (4) :: st) σ Q := WP_iconst mq112 dd112_5 (by decide)
theorem dd112_6 : decode cX10_isTray 6 = .ok (.if_icmp .ge 7, 3) := by decide +kernel
theorem ww112_6 {d : Nat} {l0 l1 : Option mw_V} {x y : Int} {st : List mw_V} {σ : mw_S} {Q : Option mw_V → mw_S → Prop} : mw_WP d 112 6 [l0, l1] (jI y :: jI x :: st) σ Q ↔ (if y ≤ x then mw_WP d 112 13 [l0, l1] st σ Q else mw_WP d 112 9 [l0, l1] st σ Q) := WP_icmp_ge mq112 dd112_6 (by decide)
theorem dd112_9 : decode cX10_isTray 9 = .ok (.iconst 1, 1) := by decide +kernel
theorem ww112_9 {d : Nat} {l0 l1 : Option mw_V} {st : List mw_V} {σ : mw_S} {Q : Option mw_V → mw_S → Prop} : mw_WP d 112 9 [l0, l1] st σ Q ↔ mw_WP d 112 10 [l0, l1] (jI (1) :: st) σ Q := WP_iconst mq112 dd112_9 (by decide)
theorem dd112_10 : decode cX10_isTray 10 = .ok (.goto 4, 3) := by decide +kernel
theorem ww112_10 {d : Nat} {l0 l1 : Option mw_V} {st : List mw_V} {σ : mw_S} {Q : Option mw_V → mw_S → Prop} : mw_WP d 112 10 [l0, l1] st σ Q ↔ mw_WP d 112 14 [l0, l1] st σ Q := WP_goto mq112 dd112_10 (by decide)
theorem dd112_13 : decode cX10_isTray 13 = .ok (.iconst 0, 1) := by decide +kernel
theorem ww112_13 {d : Nat} {l0 l1 : Option mw_V} {st : List mw_V} {σ : mw_S} {Q : Option mw_V → mw_S → Prop} : mw_WP d 112 13 [l0, l1] st σ Q ↔ mw_WP d 112 14 [l0, l1] (jI (0) :: st) σ Q := WP_iconst mq112 dd112_13 (by decide)
theorem dd112_14 : decode cX10_isTray 14 = .ok (.ireturn, 1) := by decide +kernel
theorem ww112_14 {d : Nat} {l0 l1 : Option mw_V} {z : Int} {σ : mw_S} {Q : Option mw_V → mw_S → Prop} (h : z = 0 ∨ z = 1) : mw_WP d 112 14 [l0, l1] [jI z] σ Q ↔ Q (some (jI z)) σ := WP_ireturn (ty := .boolean) mq112 dd112_14 rfl (by rcases h with rfl | rfl <;> decide)
theorem ee113 {d : Nat} {a : Nat} {z0 : Int} {σ : mw_S} {Q : Option mw_V → mw_S → Prop} : mw_Call (d + 1) 113 [jR a, jI z0] σ Q ↔ mw_WP d 113 0 [some (jR a), some (jI z0)] [] σ Q := CL_u mq113 (Nat.le_of_ble_eq_true rfl) rfl
theorem dd113_0 : decode cX10_isMissing 0 = .ok (.aload_n 0, 1) := by decide +kernel
theorem ww113_0 {d : Nat} {l1 : Option mw_V} {x : Nat} {st : List mw_V} {σ : mw_S} {Q : Option mw_V → mw_S → Prop} : mw_WP d 113 0 [some (jR x), l1] st σ Q ↔ mw_WP d 113 1 [some (jR x), l1] (jR x :: st) σ Q := WP_aload_n mq113 dd113_0 rfl
theorem dd113_1 : decode cX10_isMissing 1 = .ok (.iload_n 1, 1) := by decide +kernel
theorem ww113_1 {d : Nat} {l0 : Option mw_V} {x : Int} {st : List mw_V} {σ : mw_S} {Q : Option mw_V → mw_S → Prop} : mw_WP d 113 1 [l0, some (jI x)] st σ Q ↔ mw_WP d 113 2 [l0, some (jI x)] (jI x :: st) σ Q := WP_iload_n mq113 dd113_1 rfl
theorem dd113_2 : decode cX10_isMissing 2 = .ok (.invokevirtual 23, 3) := by decide +kernel
theorem ww113_2 {d : Nat} {l0 l1 : Option mw_V} {v0 : mw_V} {a : Nat} {st : List mw_V} {σ : mw_S} {Q : Option mw_V → mw_S → Prop} (hr : mw_rc a = 10) (h8 : (st.map mw_cat).sum ≤ 8) : mw_WP d 113 2 [l0, l1] (v0 :: jR a :: st) σ Q ↔ mw_Call d 112 [jR a, v0] σ (fun r1 s1 => mw_WP d 113 5 [l0, l1] (r1.toList ++ st) s1 Q) := WP_inv (as := [v0]) mq113 dd113_2 (by decide) mq112 rfl hr h8
theorem dd113_5 : decode cX10_isMissing 5 = .ok (.ifCond .eq 13, 3) := by decide +kernel
theorem ww113_5 {d : Nat} {l0 l1 : Option mw_V} {x : Int} {st : List mw_V} {σ : mw_S} {Q : Option mw_V → mw_S → Prop} : mw_WP d 113 5 [l0, l1] (jI x :: st) σ Q ↔ (if x = 0 then mw_WP d 113 18 [l0, l1] st σ Q else mw_WP d 113 8 [l0, l1] st σ Q) := WP_if_eq mq113 dd113_5 (by decide)
theorem dd113_8 : decode cX10_isMissing 8 = .ok (.aload_n 0, 1) := by decide +kernel
theorem ww113_8 {d : Nat} {l1 : Option mw_V} {x : Nat} {st : List mw_V} {σ : mw_S} {Q : Option mw_V → mw_S → Prop} : mw_WP d 113 8 [some (jR x), l1] st σ Q ↔ mw_WP d 113 9 [some (jR x), l1] (jR x :: st) σ Q := WP_aload_n mq113 dd113_8 rfl
theorem dd113_9 : decode cX10_isMissing 9 = .ok (.getfield 9, 3) := by decide +kernel
theorem ww113_9 {d : Nat} {l0 l1 : Option mw_V} {st : List mw_V} {σ : mw_S} {Q : Option mw_V → mw_S → Prop} : mw_WP d 113 9 [l0, l1] (jR 37 :: st) σ Q ↔ mw_WP d 113 12 [l0, l1] (jR 38 :: st) σ Q := WP_getR (ci := 9) (k := 0) mq113 dd113_9 (by decide) rfl
theorem dd113_12 : decode cX10_isMissing 12 = .ok (.iload_n 1, 1) := by decide +kernel
theorem ww113_12 {d : Nat} {l0 : Option mw_V} {x : Int} {st : List mw_V} {σ : mw_S} {Q : Option mw_V → mw_S → Prop} : mw_WP d 113 12 [l0, some (jI x)] st σ Q ↔ mw_WP d 113 13 [l0, some (jI x)] (jI x :: st) σ Q := WP_iload_n mq113 dd113_12 rfl
theorem dd113_13 : decode cX10_isMissing 13 = .ok (.iaload, 1) := by decide +kernel
theorem ww113_13 {d : Nat} {l0 l1 : Option mw_V} {z : Int} {a : Nat} {st : List mw_V} {σ : mw_S} {Q : Option mw_V → mw_S → Prop} : mw_WP d 113 13 [l0, l1] (jI z :: jR a :: st) σ Q ↔ ((0 ≤ z ∧ z < mw_lenI a) ∧ mw_WP d 113 14 [l0, l1] (jI (mw_rdI σ a z.toNat) :: st) σ Q) := WP_iaload mq113 dd113_13
theorem dd113_14 : decode cX10_isMissing 14 = .ok (.iconst (-1), 1) := by decide +kernel
theorem ww113_14 {d : Nat} {l0 l1 : Option mw_V} {st : List mw_V} {σ : mw_S} {Q : Option mw_V → mw_S → Prop} : mw_WP d 113 14 [l0, l1] st σ Q ↔ mw_WP d 113 15 [l0, l1] (jI (-1) :: st) σ Q := WP_iconst mq113 dd113_14 (by decide)
theorem dd113_15 : decode cX10_isMissing 15 = .ok (.if_icmp .ne 7, 3) := by decide +kernel
theorem ww113_15 {d : Nat} {l0 l1 : Option mw_V} {x y : Int} {st : List mw_V} {σ : mw_S} {Q : Option mw_V → mw_S → Prop} : mw_WP d 113 15 [l0, l1] (jI y :: jI x :: st) σ Q ↔ (if ¬ x = y then mw_WP d 113 22 [l0, l1] st σ Q else mw_WP d 113 18 [l0, l1] st σ Q) := WP_icmp_ne mq113 dd113_15 (by decide)
theorem dd113_18 : decode cX10_isMissing 18 = .ok (.iconst 1, 1) := by decide +kernel
theorem ww113_18 {d : Nat} {l0 l1 : Option mw_V} {st : List mw_V} {σ : mw_S} {Q : Option mw_V → mw_S → Prop} : mw_WP d 113 18 [l0, l1] st σ Q ↔ mw_WP d 113 19 [l0, l1] (jI (1) :: st) σ Q := WP_iconst mq113 dd113_18 (by decide)
theorem dd113_19 : decode cX10_isMissing 19 = .ok (.goto 4, 3) := by decide +kernel
theorem ww113_19 {d : Nat} {l0 l1 : Option mw_V} {st : List mw_V} {σ : mw_S} {Q : Option mw_V → mw_S → Prop} : mw_WP d 113 19 [l0, l1] st σ Q ↔ mw_WP d 113 23 [l0, l1] st σ Q := WP_goto mq113 dd113_19 (by decide)
theorem dd113_22 : decode cX10_isMissing 22 = .ok (.iconst 0, 1) := by decide +kernel
theorem ww113_22 {d : Nat} {l0 l1 : Option mw_V} {st : List mw_V} {σ : mw_S} {Q : Option mw_V → mw_S → Prop} : mw_WP d 113 22 [l0, l1] st σ Q ↔ mw_WP d 113 23 [l0, l1] (jI (0) :: st) σ Q := WP_iconst mq113 dd113_22 (by decide)
theorem dd113_23 : decode cX10_isMissing 23 = .ok (.ireturn, 1) := by decide +kernel
theorem ww113_23 {d : Nat} {l0 l1 : Option mw_V} {z : Int} {σ : mw_S} {Q : Option mw_V → mw_S → Prop} (h : z = 0 ∨ z = 1) : mw_WP d 113 23 [l0, l1] [jI z] σ Q ↔ Q (some (jI z)) σ := WP_ireturn (ty := .boolean) mq113 dd113_23 rfl (by rcases h with rfl | rfl <;> decide)
theorem ee114 {d : Nat} {a : Nat} {z0 : Int} {σ : mw_S} {Q : Option mw_V → mw_S → Prop} : mw_Call (d + 1) 114 [jR a, jI z0] σ Q ↔ mw_WP d 114 0 [some (jR a), some (jI z0)] [] σ Q := CL_u mq114 (Nat.le_of_ble_eq_true rfl) rfl
theorem dd114_0 : decode cX10_size 0 = .ok (.aload_n 0, 1) := by decide +kernel
theorem ww114_0 {d : Nat} {l1 : Option mw_V} {x : Nat} {st : List mw_V} {σ : mw_S} {Q : Option mw_V → mw_S → Prop} : mw_WP d 114 0 [some (jR x), l1] st σ Q ↔ mw_WP d 114 1 [some (jR x), l1] (jR x :: st) σ Q := WP_aload_n mq114 dd114_0 rfl
theorem dd114_1 : decode cX10_size 1 = .ok (.iload_n 1, 1) := by decide +kernel
theorem ww114_1 {d : Nat} {l0 : Option mw_V} {x : Int} {st : List mw_V} {σ : mw_S} {Q : Option mw_V → mw_S → Prop} : mw_WP d 114 1 [l0, some (jI x)] st σ Q ↔ mw_WP d 114 2 [l0, some (jI x)] (jI x :: st) σ Q := WP_iload_n mq114 dd114_1 rfl
theorem dd114_2 : decode cX10_size 2 = .ok (.invokevirtual 27, 3) := by decide +kernel
theorem ww114_2 {d : Nat} {l0 l1 : Option mw_V} {v0 : mw_V} {a : Nat} {st : List mw_V} {σ : mw_S} {Q : Option mw_V → mw_S → Prop} (hr : mw_rc a = 10) (h8 : (st.map mw_cat).sum ≤ 8) : mw_WP d 114 2 [l0, l1] (v0 :: jR a :: st) σ Q ↔ mw_Call d 113 [jR a, v0] σ (fun r1 s1 => mw_WP d 114 5 [l0, l1] (r1.toList ++ st) s1 Q) := WP_inv (as := [v0]) mq114 dd114_2 (by decide) mq113 rfl hr h8
theorem dd114_5 : decode cX10_size 5 = .ok (.ifCond .eq 7, 3) := by decide +kernel
theorem ww114_5 {d : Nat} {l0 l1 : Option mw_V} {x : Int} {st : List mw_V} {σ : mw_S} {Q : Option mw_V → mw_S → Prop} : mw_WP d 114 5 [l0, l1] (jI x :: st) σ Q ↔ (if x = 0 then mw_WP d 114 12 [l0, l1] st σ Q else mw_WP d 114 8 [l0, l1] st σ Q) := WP_if_eq mq114 dd114_5 (by decide)
theorem dd114_8 : decode cX10_size 8 = .ok (.iconst 0, 1) := by decide +kernel
theorem ww114_8 {d : Nat} {l0 l1 : Option mw_V} {st : List mw_V} {σ : mw_S} {Q : Option mw_V → mw_S → Prop} : mw_WP d 114 8 [l0, l1] st σ Q ↔ mw_WP d 114 9 [l0, l1] (jI (0) :: st) σ Q := WP_iconst mq114 dd114_8 (by decide)
theorem dd114_9 : decode cX10_size 9 = .ok (.goto 9, 3) := by decide +kernel
theorem ww114_9 {d : Nat} {l0 l1 : Option mw_V} {st : List mw_V} {σ : mw_S} {Q : Option mw_V → mw_S → Prop} : mw_WP d 114 9 [l0, l1] st σ Q ↔ mw_WP d 114 18 [l0, l1] st σ Q := WP_goto mq114 dd114_9 (by decide)
theorem dd114_12 : decode cX10_size 12 = .ok (.aload_n 0, 1) := by decide +kernel
theorem ww114_12 {d : Nat} {l1 : Option mw_V} {x : Nat} {st : List mw_V} {σ : mw_S} {Q : Option mw_V → mw_S → Prop} : mw_WP d 114 12 [some (jR x), l1] st σ Q ↔ mw_WP d 114 13 [some (jR x), l1] (jR x :: st) σ Q := WP_aload_n mq114 dd114_12 rfl
theorem dd114_13 : decode cX10_size 13 = .ok (.getfield 9, 3) := by decide +kernel
theorem ww114_13 {d : Nat} {l0 l1 : Option mw_V} {st : List mw_V} {σ : mw_S} {Q : Option mw_V → mw_S → Prop} : mw_WP d 114 13 [l0, l1] (jR 37 :: st) σ Q ↔ mw_WP d 114 16 [l0, l1] (jR 38 :: st) σ Q := WP_getR (ci := 9) (k := 0) mq114 dd114_13 (by decide) rfl
theorem dd114_16 : decode cX10_size 16 = .ok (.iload_n 1, 1) := by decide +kernel
theorem ww114_16 {d : Nat} {l0 : Option mw_V} {x : Int} {st : List mw_V} {σ : mw_S} {Q : Option mw_V → mw_S → Prop} : mw_WP d 114 16 [l0, some (jI x)] st σ Q ↔ mw_WP d 114 17 [l0, some (jI x)] (jI x :: st) σ Q := WP_iload_n mq114 dd114_16 rfl
theorem dd114_17 : decode cX10_size 17 = .ok (.iaload, 1) := by decide +kernel
theorem ww114_17 {d : Nat} {l0 l1 : Option mw_V} {z : Int} {a : Nat} {st : List mw_V} {σ : mw_S} {Q : Option mw_V → mw_S → Prop} : mw_WP d 114 17 [l0, l1] (jI z :: jR a :: st) σ Q ↔ ((0 ≤ z ∧ z < mw_lenI a) ∧ mw_WP d 114 18 [l0, l1] (jI (mw_rdI σ a z.toNat) :: st) σ Q) := WP_iaload mq114 dd114_17
theorem dd114_18 : decode cX10_size 18 = .ok (.ireturn, 1) := by decide +kernel
theorem ww114_18 {d : Nat} {l0 l1 : Option mw_V} {z : Int} {σ : mw_S} {Q : Option mw_V → mw_S → Prop} : mw_WP d 114 18 [l0, l1] [jI z] σ Q ↔ Q (some (jI z)) σ := WP_ireturn (ty := .int) mq114 dd114_18 rfl rfl
theorem ee115 {d : Nat} {a : Nat} {z0 : Int} {z1 : Int} {σ : mw_S} {Q : Option mw_V → mw_S → Prop} : mw_Call (d + 1) 115 [jR a, jI z0, jI z1] σ Q ↔ mw_WP d 115 0 [some (jR a), some (jI z0), some (jI z1)] [] σ Q := CL_u mq115 (Nat.le_of_ble_eq_true rfl) rfl
theorem dd115_0 : decode cX10_at 0 = .ok (.iload_n 2, 1) := by decide +kernel
theorem ww115_0 {d : Nat} {l0 l1 : Option mw_V} {x : Int} {st : List mw_V} {σ : mw_S} {Q : Option mw_V → mw_S → Prop} : mw_WP d 115 0 [l0, l1, some (jI x)] st σ Q ↔ mw_WP d 115 1 [l0, l1, some (jI x)] (jI x :: st) σ Q := WP_iload_n mq115 dd115_0 rfl
theorem dd115_1 : decode cX10_at 1 = .ok (.ifCond .lt 23, 3) := by decide +kernel
theorem ww115_1 {d : Nat} {l0 l1 l2 : Option mw_V} {x : Int} {st : List mw_V} {σ : mw_S} {Q : Option mw_V → mw_S → Prop} : mw_WP d 115 1 [l0, l1, l2] (jI x :: st) σ Q ↔ (if x < 0 then mw_WP d 115 24 [l0, l1, l2] st σ Q else mw_WP d 115 4 [l0, l1, l2] st σ Q) := WP_if_lt mq115 dd115_1 (by decide)
theorem dd115_4 : decode cX10_at 4 = .ok (.iload_n 2, 1) := by decide +kernel
theorem ww115_4 {d : Nat} {l0 l1 : Option mw_V} {x : Int} {st : List mw_V} {σ : mw_S} {Q : Option mw_V → mw_S → Prop} : mw_WP d 115 4 [l0, l1, some (jI x)] st σ Q ↔ mw_WP d 115 5 [l0, l1, some (jI x)] (jI x :: st) σ Q := WP_iload_n mq115 dd115_4 rfl
theorem dd115_5 : decode cX10_at 5 = .ok (.aload_n 0, 1) := by decide +kernel
theorem ww115_5 {d : Nat} {l1 l2 : Option mw_V} {x : Nat} {st : List mw_V} {σ : mw_S} {Q : Option mw_V → mw_S → Prop} : mw_WP d 115 5 [some (jR x), l1, l2] st σ Q ↔ mw_WP d 115 6 [some (jR x), l1, l2] (jR x :: st) σ Q := WP_aload_n mq115 dd115_5 rfl
theorem dd115_6 : decode cX10_at 6 = .ok (.iload_n 1, 1) := by decide +kernel
theorem ww115_6 {d : Nat} {l0 l2 : Option mw_V} {x : Int} {st : List mw_V} {σ : mw_S} {Q : Option mw_V → mw_S → Prop} : mw_WP d 115 6 [l0, some (jI x), l2] st σ Q ↔ mw_WP d 115 7 [l0, some (jI x), l2] (jI x :: st) σ Q := WP_iload_n mq115 dd115_6 rfl
theorem dd115_7 : decode cX10_at 7 = .ok (.invokevirtual 30, 3) := by decide +kernel
theorem ww115_7 {d : Nat} {l0 l1 l2 : Option mw_V} {v0 : mw_V} {a : Nat} {st : List mw_V} {σ : mw_S} {Q : Option mw_V → mw_S → Prop} (hr : mw_rc a = 10) (h8 : (st.map mw_cat).sum ≤ 8) : mw_WP d 115 7 [l0, l1, l2] (v0 :: jR a :: st) σ Q ↔ mw_Call d 114 [jR a, v0] σ (fun r1 s1 => mw_WP d 115 10 [l0, l1, l2] (r1.toList ++ st) s1 Q) := WP_inv (as := [v0]) mq115 dd115_7 (by decide) mq114 rfl hr h8
theorem dd115_10 : decode cX10_at 10 = .ok (.if_icmp .ge 14, 3) := by decide +kernel
theorem ww115_10 {d : Nat} {l0 l1 l2 : Option mw_V} {x y : Int} {st : List mw_V} {σ : mw_S} {Q : Option mw_V → mw_S → Prop} : mw_WP d 115 10 [l0, l1, l2] (jI y :: jI x :: st) σ Q ↔ (if y ≤ x then mw_WP d 115 24 [l0, l1, l2] st σ Q else mw_WP d 115 13 [l0, l1, l2] st σ Q) := WP_icmp_ge mq115 dd115_10 (by decide)
theorem dd115_13 : decode cX10_at 13 = .ok (.aload_n 0, 1) := by decide +kernel
theorem ww115_13 {d : Nat} {l1 l2 : Option mw_V} {x : Nat} {st : List mw_V} {σ : mw_S} {Q : Option mw_V → mw_S → Prop} : mw_WP d 115 13 [some (jR x), l1, l2] st σ Q ↔ mw_WP d 115 14 [some (jR x), l1, l2] (jR x :: st) σ Q := WP_aload_n mq115 dd115_13 rfl
theorem dd115_14 : decode cX10_at 14 = .ok (.getfield 20, 3) := by decide +kernel
theorem ww115_14 {d : Nat} {l0 l1 l2 : Option mw_V} {st : List mw_V} {σ : mw_S} {Q : Option mw_V → mw_S → Prop} : mw_WP d 115 14 [l0, l1, l2] (jR 37 :: st) σ Q ↔ mw_WP d 115 17 [l0, l1, l2] (jR 40 :: st) σ Q := WP_getR (ci := 9) (k := 2) mq115 dd115_14 (by decide) rfl
theorem dd115_17 : decode cX10_at 17 = .ok (.iload_n 1, 1) := by decide +kernel
theorem ww115_17 {d : Nat} {l0 l2 : Option mw_V} {x : Int} {st : List mw_V} {σ : mw_S} {Q : Option mw_V → mw_S → Prop} : mw_WP d 115 17 [l0, some (jI x), l2] st σ Q ↔ mw_WP d 115 18 [l0, some (jI x), l2] (jI x :: st) σ Q := WP_iload_n mq115 dd115_17 rfl
theorem dd115_18 : decode cX10_at 18 = .ok (.aaload, 1) := by decide +kernel
theorem ww115_18 {d : Nat} {l0 l1 l2 : Option mw_V} {z : Int} {a : Nat} {st : List mw_V} {σ : mw_S} {Q : Option mw_V → mw_S → Prop} : mw_WP d 115 18 [l0, l1, l2] (jI z :: jR a :: st) σ Q ↔ ((0 ≤ z ∧ z < (mw_rows a).length) ∧ mw_WP d 115 19 [l0, l1, l2] (jR ((mw_rows a).getD z.toNat 0) :: st) σ Q) := WP_aaload mq115 dd115_18
theorem dd115_19 : decode cX10_at 19 = .ok (.iload_n 2, 1) := by decide +kernel
theorem ww115_19 {d : Nat} {l0 l1 : Option mw_V} {x : Int} {st : List mw_V} {σ : mw_S} {Q : Option mw_V → mw_S → Prop} : mw_WP d 115 19 [l0, l1, some (jI x)] st σ Q ↔ mw_WP d 115 20 [l0, l1, some (jI x)] (jI x :: st) σ Q := WP_iload_n mq115 dd115_19 rfl
theorem dd115_20 : decode cX10_at 20 = .ok (.laload, 1) := by decide +kernel
theorem ww115_20 {d : Nat} {l0 l1 l2 : Option mw_V} {z : Int} {a : Nat} {st : List mw_V} {σ : mw_S} {Q : Option mw_V → mw_S → Prop} : mw_WP d 115 20 [l0, l1, l2] (jI z :: jR a :: st) σ Q ↔ ((0 ≤ z ∧ z < mw_lenW 2 a) ∧ mw_WP d 115 21 [l0, l1, l2] (jL (σ a z.toNat) :: st) σ Q) := WP_laload mq115 dd115_20
theorem dd115_21 : decode cX10_at 21 = .ok (.goto 4, 3) := by decide +kernel
theorem ww115_21 {d : Nat} {l0 l1 l2 : Option mw_V} {st : List mw_V} {σ : mw_S} {Q : Option mw_V → mw_S → Prop} : mw_WP d 115 21 [l0, l1, l2] st σ Q ↔ mw_WP d 115 25 [l0, l1, l2] st σ Q := WP_goto mq115 dd115_21 (by decide)
theorem dd115_24 : decode cX10_at 24 = .ok (.lconst 0, 1) := by decide +kernel
theorem ww115_24 {d : Nat} {l0 l1 l2 : Option mw_V} {st : List mw_V} {σ : mw_S} {Q : Option mw_V → mw_S → Prop} : mw_WP d 115 24 [l0, l1, l2] st σ Q ↔ mw_WP d 115 25 [l0, l1, l2] (jL (0) :: st) σ Q := WP_lconst mq115 dd115_24 (by decide)
theorem dd115_25 : decode cX10_at 25 = .ok (.lreturn, 1) := by decide +kernel
theorem ww115_25 {d : Nat} {l0 l1 l2 : Option mw_V} {z : Int} {σ : mw_S} {Q : Option mw_V → mw_S → Prop} : mw_WP d 115 25 [l0, l1, l2] [jL z] σ Q ↔ Q (some (jL z)) σ := WP_lreturn mq115 dd115_25 rfl
theorem ee116 {d : Nat} {a : Nat} {z0 : Int} {z1 : Int} {z2 : Int} {σ : mw_S} {Q : Option mw_V → mw_S → Prop} : mw_Call (d + 1) 116 [jR a, jI z0, jI z1, jI z2] σ Q ↔ mw_WP d 116 0 [some (jR a), some (jI z0), some (jI z1), some (jI z2), none] [] σ Q := CL_u mq116 (Nat.le_of_ble_eq_true rfl) rfl
theorem dd116_0 : decode cX10_layOut 0 = .ok (.aload_n 0, 1) := by decide +kernel
theorem ww116_0 {d : Nat} {l1 l2 l3 l4 : Option mw_V} {x : Nat} {st : List mw_V} {σ : mw_S} {Q : Option mw_V → mw_S → Prop} : mw_WP d 116 0 [some (jR x), l1, l2, l3, l4] st σ Q ↔ mw_WP d 116 1 [some (jR x), l1, l2, l3, l4] (jR x :: st) σ Q := WP_aload_n mq116 dd116_0 rfl
theorem dd116_1 : decode cX10_layOut 1 = .ok (.iload_n 1, 1) := by decide +kernel
theorem ww116_1 {d : Nat} {l0 l2 l3 l4 : Option mw_V} {x : Int} {st : List mw_V} {σ : mw_S} {Q : Option mw_V → mw_S → Prop} : mw_WP d 116 1 [l0, some (jI x), l2, l3, l4] st σ Q ↔ mw_WP d 116 2 [l0, some (jI x), l2, l3, l4] (jI x :: st) σ Q := WP_iload_n mq116 dd116_1 rfl
theorem dd116_2 : decode cX10_layOut 2 = .ok (.invokevirtual 23, 3) := by decide +kernel
theorem ww116_2 {d : Nat} {l0 l1 l2 l3 l4 : Option mw_V} {v0 : mw_V} {a : Nat} {st : List mw_V} {σ : mw_S} {Q : Option mw_V → mw_S → Prop} (hr : mw_rc a = 10) (h8 : (st.map mw_cat).sum ≤ 8) : mw_WP d 116 2 [l0, l1, l2, l3, l4] (v0 :: jR a :: st) σ Q ↔ mw_Call d 112 [jR a, v0] σ (fun r1 s1 => mw_WP d 116 5 [l0, l1, l2, l3, l4] (r1.toList ++ st) s1 Q) := WP_inv (as := [v0]) mq116 dd116_2 (by decide) mq112 rfl hr h8
theorem dd116_5 : decode cX10_layOut 5 = .ok (.ifCond .ne 4, 3) := by decide +kernel
theorem ww116_5 {d : Nat} {l0 l1 l2 l3 l4 : Option mw_V} {x : Int} {st : List mw_V} {σ : mw_S} {Q : Option mw_V → mw_S → Prop} : mw_WP d 116 5 [l0, l1, l2, l3, l4] (jI x :: st) σ Q ↔ (if ¬ x = 0 then mw_WP d 116 9 [l0, l1, l2, l3, l4] st σ Q else mw_WP d 116 8 [l0, l1, l2, l3, l4] st σ Q) := WP_if_ne mq116 dd116_5 (by decide)
theorem dd116_8 : decode cX10_layOut 8 = .ok (.return_, 1) := by decide +kernel
theorem ww116_8 {d : Nat} {l0 l1 l2 l3 l4 : Option mw_V} {σ : mw_S} {Q : Option mw_V → mw_S → Prop} : mw_WP d 116 8 [l0, l1, l2, l3, l4] [] σ Q ↔ Q none σ := WP_return mq116 dd116_8 rfl
theorem dd116_9 : decode cX10_layOut 9 = .ok (.aload_n 0, 1) := by decide +kernel
theorem ww116_9 {d : Nat} {l1 l2 l3 l4 : Option mw_V} {x : Nat} {st : List mw_V} {σ : mw_S} {Q : Option mw_V → mw_S → Prop} : mw_WP d 116 9 [some (jR x), l1, l2, l3, l4] st σ Q ↔ mw_WP d 116 10 [some (jR x), l1, l2, l3, l4] (jR x :: st) σ Q := WP_aload_n mq116 dd116_9 rfl
theorem dd116_10 : decode cX10_layOut 10 = .ok (.getfield 9, 3) := by decide +kernel
theorem ww116_10 {d : Nat} {l0 l1 l2 l3 l4 : Option mw_V} {st : List mw_V} {σ : mw_S} {Q : Option mw_V → mw_S → Prop} : mw_WP d 116 10 [l0, l1, l2, l3, l4] (jR 37 :: st) σ Q ↔ mw_WP d 116 13 [l0, l1, l2, l3, l4] (jR 38 :: st) σ Q := WP_getR (ci := 9) (k := 0) mq116 dd116_10 (by decide) rfl
theorem dd116_13 : decode cX10_layOut 13 = .ok (.iload_n 1, 1) := by decide +kernel
theorem ww116_13 {d : Nat} {l0 l2 l3 l4 : Option mw_V} {x : Int} {st : List mw_V} {σ : mw_S} {Q : Option mw_V → mw_S → Prop} : mw_WP d 116 13 [l0, some (jI x), l2, l3, l4] st σ Q ↔ mw_WP d 116 14 [l0, some (jI x), l2, l3, l4] (jI x :: st) σ Q := WP_iload_n mq116 dd116_13 rfl
theorem dd116_14 : decode cX10_layOut 14 = .ok (.iload_n 3, 1) := by decide +kernel
theorem ww116_14 {d : Nat} {l0 l1 l2 l4 : Option mw_V} {x : Int} {st : List mw_V} {σ : mw_S} {Q : Option mw_V → mw_S → Prop} : mw_WP d 116 14 [l0, l1, l2, some (jI x), l4] st σ Q ↔ mw_WP d 116 15 [l0, l1, l2, some (jI x), l4] (jI x :: st) σ Q := WP_iload_n mq116 dd116_14 rfl
theorem dd116_15 : decode cX10_layOut 15 = .ok (.iastore, 1) := by decide +kernel
theorem ww116_15 {d : Nat} {l0 l1 l2 l3 l4 : Option mw_V} {x z : Int} {a : Nat} {st : List mw_V} {σ : mw_S} {Q : Option mw_V → mw_S → Prop} : mw_WP d 116 15 [l0, l1, l2, l3, l4] (jI x :: jI z :: jR a :: st) σ Q ↔ ((0 ≤ z ∧ z < mw_lenW 0 a) ∧ mw_WP d 116 16 [l0, l1, l2, l3, l4] st (upS σ a z.toNat x) Q) := WP_iastore mq116 dd116_15
theorem dd116_16 : decode cX10_layOut 16 = .ok (.aload_n 0, 1) := by decide +kernel
theorem ww116_16 {d : Nat} {l1 l2 l3 l4 : Option mw_V} {x : Nat} {st : List mw_V} {σ : mw_S} {Q : Option mw_V → mw_S → Prop} : mw_WP d 116 16 [some (jR x), l1, l2, l3, l4] st σ Q ↔ mw_WP d 116 17 [some (jR x), l1, l2, l3, l4] (jR x :: st) σ Q := WP_aload_n mq116 dd116_16 rfl
theorem dd116_17 : decode cX10_layOut 17 = .ok (.getfield 15, 3) := by decide +kernel
theorem ww116_17 {d : Nat} {l0 l1 l2 l3 l4 : Option mw_V} {st : List mw_V} {σ : mw_S} {Q : Option mw_V → mw_S → Prop} : mw_WP d 116 17 [l0, l1, l2, l3, l4] (jR 37 :: st) σ Q ↔ mw_WP d 116 20 [l0, l1, l2, l3, l4] (jR 39 :: st) σ Q := WP_getR (ci := 9) (k := 1) mq116 dd116_17 (by decide) rfl
theorem dd116_20 : decode cX10_layOut 20 = .ok (.iload_n 1, 1) := by decide +kernel
theorem ww116_20 {d : Nat} {l0 l2 l3 l4 : Option mw_V} {x : Int} {st : List mw_V} {σ : mw_S} {Q : Option mw_V → mw_S → Prop} : mw_WP d 116 20 [l0, some (jI x), l2, l3, l4] st σ Q ↔ mw_WP d 116 21 [l0, some (jI x), l2, l3, l4] (jI x :: st) σ Q := WP_iload_n mq116 dd116_20 rfl
theorem dd116_21 : decode cX10_layOut 21 = .ok (.iload_n 2, 1) := by decide +kernel
theorem ww116_21 {d : Nat} {l0 l1 l3 l4 : Option mw_V} {x : Int} {st : List mw_V} {σ : mw_S} {Q : Option mw_V → mw_S → Prop} : mw_WP d 116 21 [l0, l1, some (jI x), l3, l4] st σ Q ↔ mw_WP d 116 22 [l0, l1, some (jI x), l3, l4] (jI x :: st) σ Q := WP_iload_n mq116 dd116_21 rfl
theorem dd116_22 : decode cX10_layOut 22 = .ok (.iastore, 1) := by decide +kernel
theorem ww116_22 {d : Nat} {l0 l1 l2 l3 l4 : Option mw_V} {x z : Int} {a : Nat} {st : List mw_V} {σ : mw_S} {Q : Option mw_V → mw_S → Prop} : mw_WP d 116 22 [l0, l1, l2, l3, l4] (jI x :: jI z :: jR a :: st) σ Q ↔ ((0 ≤ z ∧ z < mw_lenW 0 a) ∧ mw_WP d 116 23 [l0, l1, l2, l3, l4] st (upS σ a z.toNat x) Q) := WP_iastore mq116 dd116_22
theorem dd116_23 : decode cX10_layOut 23 = .ok (.iconst 0, 1) := by decide +kernel
theorem ww116_23 {d : Nat} {l0 l1 l2 l3 l4 : Option mw_V} {st : List mw_V} {σ : mw_S} {Q : Option mw_V → mw_S → Prop} : mw_WP d 116 23 [l0, l1, l2, l3, l4] st σ Q ↔ mw_WP d 116 24 [l0, l1, l2, l3, l4] (jI (0) :: st) σ Q := WP_iconst mq116 dd116_23 (by decide)
theorem dd116_24 : decode cX10_layOut 24 = .ok (.istore 4, 2) := by decide +kernel
theorem ww116_24 {d : Nat} {l0 l1 l2 l3 l4 : Option mw_V} {x : Int} {st : List mw_V} {σ : mw_S} {Q : Option mw_V → mw_S → Prop} (h : mw_nlo l3 = true) : mw_WP d 116 24 [l0, l1, l2, l3, l4] (jI x :: st) σ Q ↔ mw_WP d 116 26 [l0, l1, l2, l3, some (jI x)] st σ Q := WP_istore mq116 dd116_24 (Nat.le_of_ble_eq_true rfl) (mw_nl_of (i := 3) rfl h) rfl
theorem dd116_26 : decode cX10_layOut 26 = .ok (.iload 4, 2) := by decide +kernel
theorem ww116_26 {d : Nat} {l0 l1 l2 l3 : Option mw_V} {x : Int} {st : List mw_V} {σ : mw_S} {Q : Option mw_V → mw_S → Prop} : mw_WP d 116 26 [l0, l1, l2, l3, some (jI x)] st σ Q ↔ mw_WP d 116 28 [l0, l1, l2, l3, some (jI x)] (jI x :: st) σ Q := WP_iload mq116 dd116_26 rfl
theorem dd116_28 : decode cX10_layOut 28 = .ok (.bipush 40, 2) := by decide +kernel
theorem ww116_28 {d : Nat} {l0 l1 l2 l3 l4 : Option mw_V} {st : List mw_V} {σ : mw_S} {Q : Option mw_V → mw_S → Prop} : mw_WP d 116 28 [l0, l1, l2, l3, l4] st σ Q ↔ mw_WP d 116 30 [l0, l1, l2, l3, l4] (jI (40) :: st) σ Q := WP_bipush mq116 dd116_28 (by decide)
theorem dd116_30 : decode cX10_layOut 30 = .ok (.if_icmp .ge 19, 3) := by decide +kernel
theorem ww116_30 {d : Nat} {l0 l1 l2 l3 l4 : Option mw_V} {x y : Int} {st : List mw_V} {σ : mw_S} {Q : Option mw_V → mw_S → Prop} : mw_WP d 116 30 [l0, l1, l2, l3, l4] (jI y :: jI x :: st) σ Q ↔ (if y ≤ x then mw_WP d 116 49 [l0, l1, l2, l3, l4] st σ Q else mw_WP d 116 33 [l0, l1, l2, l3, l4] st σ Q) := WP_icmp_ge mq116 dd116_30 (by decide)
theorem dd116_33 : decode cX10_layOut 33 = .ok (.aload_n 0, 1) := by decide +kernel
theorem ww116_33 {d : Nat} {l1 l2 l3 l4 : Option mw_V} {x : Nat} {st : List mw_V} {σ : mw_S} {Q : Option mw_V → mw_S → Prop} : mw_WP d 116 33 [some (jR x), l1, l2, l3, l4] st σ Q ↔ mw_WP d 116 34 [some (jR x), l1, l2, l3, l4] (jR x :: st) σ Q := WP_aload_n mq116 dd116_33 rfl
theorem dd116_34 : decode cX10_layOut 34 = .ok (.getfield 20, 3) := by decide +kernel
theorem ww116_34 {d : Nat} {l0 l1 l2 l3 l4 : Option mw_V} {st : List mw_V} {σ : mw_S} {Q : Option mw_V → mw_S → Prop} : mw_WP d 116 34 [l0, l1, l2, l3, l4] (jR 37 :: st) σ Q ↔ mw_WP d 116 37 [l0, l1, l2, l3, l4] (jR 40 :: st) σ Q := WP_getR (ci := 9) (k := 2) mq116 dd116_34 (by decide) rfl
theorem dd116_37 : decode cX10_layOut 37 = .ok (.iload_n 1, 1) := by decide +kernel
theorem ww116_37 {d : Nat} {l0 l2 l3 l4 : Option mw_V} {x : Int} {st : List mw_V} {σ : mw_S} {Q : Option mw_V → mw_S → Prop} : mw_WP d 116 37 [l0, some (jI x), l2, l3, l4] st σ Q ↔ mw_WP d 116 38 [l0, some (jI x), l2, l3, l4] (jI x :: st) σ Q := WP_iload_n mq116 dd116_37 rfl
theorem dd116_38 : decode cX10_layOut 38 = .ok (.aaload, 1) := by decide +kernel
theorem ww116_38 {d : Nat} {l0 l1 l2 l3 l4 : Option mw_V} {z : Int} {a : Nat} {st : List mw_V} {σ : mw_S} {Q : Option mw_V → mw_S → Prop} : mw_WP d 116 38 [l0, l1, l2, l3, l4] (jI z :: jR a :: st) σ Q ↔ ((0 ≤ z ∧ z < (mw_rows a).length) ∧ mw_WP d 116 39 [l0, l1, l2, l3, l4] (jR ((mw_rows a).getD z.toNat 0) :: st) σ Q) := WP_aaload mq116 dd116_38
theorem dd116_39 : decode cX10_layOut 39 = .ok (.iload 4, 2) := by decide +kernel
theorem ww116_39 {d : Nat} {l0 l1 l2 l3 : Option mw_V} {x : Int} {st : List mw_V} {σ : mw_S} {Q : Option mw_V → mw_S → Prop} : mw_WP d 116 39 [l0, l1, l2, l3, some (jI x)] st σ Q ↔ mw_WP d 116 41 [l0, l1, l2, l3, some (jI x)] (jI x :: st) σ Q := WP_iload mq116 dd116_39 rfl
theorem dd116_41 : decode cX10_layOut 41 = .ok (.lconst 0, 1) := by decide +kernel
theorem ww116_41 {d : Nat} {l0 l1 l2 l3 l4 : Option mw_V} {st : List mw_V} {σ : mw_S} {Q : Option mw_V → mw_S → Prop} : mw_WP d 116 41 [l0, l1, l2, l3, l4] st σ Q ↔ mw_WP d 116 42 [l0, l1, l2, l3, l4] (jL (0) :: st) σ Q := WP_lconst mq116 dd116_41 (by decide)
theorem dd116_42 : decode cX10_layOut 42 = .ok (.lastore, 1) := by decide +kernel
theorem ww116_42 {d : Nat} {l0 l1 l2 l3 l4 : Option mw_V} {x z : Int} {a : Nat} {st : List mw_V} {σ : mw_S} {Q : Option mw_V → mw_S → Prop} : mw_WP d 116 42 [l0, l1, l2, l3, l4] (jL x :: jI z :: jR a :: st) σ Q ↔ ((0 ≤ z ∧ z < mw_lenW 2 a) ∧ mw_WP d 116 43 [l0, l1, l2, l3, l4] st (upS σ a z.toNat x) Q) := WP_lastore mq116 dd116_42
theorem dd116_43 : decode cX10_layOut 43 = .ok (.iinc 4 1, 3) := by decide +kernel
theorem ww116_43 {d : Nat} {l0 l1 l2 l3 : Option mw_V} {x : Int} {st : List mw_V} {σ : mw_S} {Q : Option mw_V → mw_S → Prop} (h : mw_nlo l3 = true) : mw_WP d 116 43 [l0, l1, l2, l3, some (jI x)] st σ Q ↔ mw_WP d 116 46 [l0, l1, l2, l3, some (jI (w32 (x + (1))))] st σ Q := WP_iinc mq116 dd116_43 rfl (Nat.le_of_ble_eq_true rfl) (mw_nl_of (i := 3) rfl h) rfl
theorem dd116_46 : decode cX10_layOut 46 = .ok (.goto (-20), 3) := by decide +kernel
theorem ww116_46 {d : Nat} {l0 l1 l2 l3 l4 : Option mw_V} {st : List mw_V} {σ : mw_S} {Q : Option mw_V → mw_S → Prop} : mw_WP d 116 46 [l0, l1, l2, l3, l4] st σ Q ↔ mw_WP d 116 26 [l0, l1, l2, l3, l4] st σ Q := WP_goto mq116 dd116_46 (by decide)
theorem dd116_49 : decode cX10_layOut 49 = .ok (.return_, 1) := by decide +kernel
theorem ww116_49 {d : Nat} {l0 l1 l2 l3 l4 : Option mw_V} {σ : mw_S} {Q : Option mw_V → mw_S → Prop} : mw_WP d 116 49 [l0, l1, l2, l3, l4] [] σ Q ↔ Q none σ := WP_return mq116 dd116_49 rfl
theorem ee117 {d : Nat} {a : Nat} {z0 : Int} {z1 : Int} {z2 : Int} {σ : mw_S} {Q : Option mw_V → mw_S → Prop} : mw_Call (d + 1) 117 [jR a, jI z0, jI z1, jL z2] σ Q ↔ mw_WP d 117 0 [some (jR a), some (jI z0), some (jI z1), some (jL z2), none] [] σ Q := CL_u mq117 (Nat.le_of_ble_eq_true rfl) rfl
theorem dd117_0 : decode cX10_put 0 = .ok (.iload_n 2, 1) := by decide +kernel
theorem ww117_0 {d : Nat} {l0 l1 l3 l4 : Option mw_V} {x : Int} {st : List mw_V} {σ : mw_S} {Q : Option mw_V → mw_S → Prop} : mw_WP d 117 0 [l0, l1, some (jI x), l3, l4] st σ Q ↔ mw_WP d 117 1 [l0, l1, some (jI x), l3, l4] (jI x :: st) σ Q := WP_iload_n mq117 dd117_0 rfl
theorem dd117_1 : decode cX10_put 1 = .ok (.ifCond .lt 12, 3) := by decide +kernel
theorem ww117_1 {d : Nat} {l0 l1 l2 l3 l4 : Option mw_V} {x : Int} {st : List mw_V} {σ : mw_S} {Q : Option mw_V → mw_S → Prop} : mw_WP d 117 1 [l0, l1, l2, l3, l4] (jI x :: st) σ Q ↔ (if x < 0 then mw_WP d 117 13 [l0, l1, l2, l3, l4] st σ Q else mw_WP d 117 4 [l0, l1, l2, l3, l4] st σ Q) := WP_if_lt mq117 dd117_1 (by decide)
theorem dd117_4 : decode cX10_put 4 = .ok (.iload_n 2, 1) := by decide +kernel
theorem ww117_4 {d : Nat} {l0 l1 l3 l4 : Option mw_V} {x : Int} {st : List mw_V} {σ : mw_S} {Q : Option mw_V → mw_S → Prop} : mw_WP d 117 4 [l0, l1, some (jI x), l3, l4] st σ Q ↔ mw_WP d 117 5 [l0, l1, some (jI x), l3, l4] (jI x :: st) σ Q := WP_iload_n mq117 dd117_4 rfl
theorem dd117_5 : decode cX10_put 5 = .ok (.aload_n 0, 1) := by decide +kernel
theorem ww117_5 {d : Nat} {l1 l2 l3 l4 : Option mw_V} {x : Nat} {st : List mw_V} {σ : mw_S} {Q : Option mw_V → mw_S → Prop} : mw_WP d 117 5 [some (jR x), l1, l2, l3, l4] st σ Q ↔ mw_WP d 117 6 [some (jR x), l1, l2, l3, l4] (jR x :: st) σ Q := WP_aload_n mq117 dd117_5 rfl
theorem dd117_6 : decode cX10_put 6 = .ok (.iload_n 1, 1) := by decide +kernel
theorem ww117_6 {d : Nat} {l0 l2 l3 l4 : Option mw_V} {x : Int} {st : List mw_V} {σ : mw_S} {Q : Option mw_V → mw_S → Prop} : mw_WP d 117 6 [l0, some (jI x), l2, l3, l4] st σ Q ↔ mw_WP d 117 7 [l0, some (jI x), l2, l3, l4] (jI x :: st) σ Q := WP_iload_n mq117 dd117_6 rfl
theorem dd117_7 : decode cX10_put 7 = .ok (.invokevirtual 30, 3) := by decide +kernel
theorem ww117_7 {d : Nat} {l0 l1 l2 l3 l4 : Option mw_V} {v0 : mw_V} {a : Nat} {st : List mw_V} {σ : mw_S} {Q : Option mw_V → mw_S → Prop} (hr : mw_rc a = 10) (h8 : (st.map mw_cat).sum ≤ 8) : mw_WP d 117 7 [l0, l1, l2, l3, l4] (v0 :: jR a :: st) σ Q ↔ mw_Call d 114 [jR a, v0] σ (fun r1 s1 => mw_WP d 117 10 [l0, l1, l2, l3, l4] (r1.toList ++ st) s1 Q) := WP_inv (as := [v0]) mq117 dd117_7 (by decide) mq114 rfl hr h8
theorem dd117_10 : decode cX10_put 10 = .ok (.if_icmp .lt 5, 3) := by decide +kernel
theorem ww117_10 {d : Nat} {l0 l1 l2 l3 l4 : Option mw_V} {x y : Int} {st : List mw_V} {σ : mw_S} {Q : Option mw_V → mw_S → Prop} : mw_WP d 117 10 [l0, l1, l2, l3, l4] (jI y :: jI x :: st) σ Q ↔ (if x < y then mw_WP d 117 15 [l0, l1, l2, l3, l4] st σ Q else mw_WP d 117 13 [l0, l1, l2, l3, l4] st σ Q) := WP_icmp_lt mq117 dd117_10 (by decide)
theorem dd117_13 : decode cX10_put 13 = .ok (.lconst 0, 1) := by decide +kernel
theorem ww117_13 {d : Nat} {l0 l1 l2 l3 l4 : Option mw_V} {st : List mw_V} {σ : mw_S} {Q : Option mw_V → mw_S → Prop} : mw_WP d 117 13 [l0, l1, l2, l3, l4] st σ Q ↔ mw_WP d 117 14 [l0, l1, l2, l3, l4] (jL (0) :: st) σ Q := WP_lconst mq117 dd117_13 (by decide)
theorem dd117_14 : decode cX10_put 14 = .ok (.lreturn, 1) := by decide +kernel
theorem ww117_14 {d : Nat} {l0 l1 l2 l3 l4 : Option mw_V} {z : Int} {σ : mw_S} {Q : Option mw_V → mw_S → Prop} : mw_WP d 117 14 [l0, l1, l2, l3, l4] [jL z] σ Q ↔ Q (some (jL z)) σ := WP_lreturn mq117 dd117_14 rfl
theorem dd117_15 : decode cX10_put 15 = .ok (.aload_n 0, 1) := by decide +kernel
theorem ww117_15 {d : Nat} {l1 l2 l3 l4 : Option mw_V} {x : Nat} {st : List mw_V} {σ : mw_S} {Q : Option mw_V → mw_S → Prop} : mw_WP d 117 15 [some (jR x), l1, l2, l3, l4] st σ Q ↔ mw_WP d 117 16 [some (jR x), l1, l2, l3, l4] (jR x :: st) σ Q := WP_aload_n mq117 dd117_15 rfl
theorem dd117_16 : decode cX10_put 16 = .ok (.getfield 20, 3) := by decide +kernel
theorem ww117_16 {d : Nat} {l0 l1 l2 l3 l4 : Option mw_V} {st : List mw_V} {σ : mw_S} {Q : Option mw_V → mw_S → Prop} : mw_WP d 117 16 [l0, l1, l2, l3, l4] (jR 37 :: st) σ Q ↔ mw_WP d 117 19 [l0, l1, l2, l3, l4] (jR 40 :: st) σ Q := WP_getR (ci := 9) (k := 2) mq117 dd117_16 (by decide) rfl
theorem dd117_19 : decode cX10_put 19 = .ok (.iload_n 1, 1) := by decide +kernel
theorem ww117_19 {d : Nat} {l0 l2 l3 l4 : Option mw_V} {x : Int} {st : List mw_V} {σ : mw_S} {Q : Option mw_V → mw_S → Prop} : mw_WP d 117 19 [l0, some (jI x), l2, l3, l4] st σ Q ↔ mw_WP d 117 20 [l0, some (jI x), l2, l3, l4] (jI x :: st) σ Q := WP_iload_n mq117 dd117_19 rfl
theorem dd117_20 : decode cX10_put 20 = .ok (.aaload, 1) := by decide +kernel
theorem ww117_20 {d : Nat} {l0 l1 l2 l3 l4 : Option mw_V} {z : Int} {a : Nat} {st : List mw_V} {σ : mw_S} {Q : Option mw_V → mw_S → Prop} : mw_WP d 117 20 [l0, l1, l2, l3, l4] (jI z :: jR a :: st) σ Q ↔ ((0 ≤ z ∧ z < (mw_rows a).length) ∧ mw_WP d 117 21 [l0, l1, l2, l3, l4] (jR ((mw_rows a).getD z.toNat 0) :: st) σ Q) := WP_aaload mq117 dd117_20
theorem dd117_21 : decode cX10_put 21 = .ok (.iload_n 2, 1) := by decide +kernel
theorem ww117_21 {d : Nat} {l0 l1 l3 l4 : Option mw_V} {x : Int} {st : List mw_V} {σ : mw_S} {Q : Option mw_V → mw_S → Prop} : mw_WP d 117 21 [l0, l1, some (jI x), l3, l4] st σ Q ↔ mw_WP d 117 22 [l0, l1, some (jI x), l3, l4] (jI x :: st) σ Q := WP_iload_n mq117 dd117_21 rfl
theorem dd117_22 : decode cX10_put 22 = .ok (.aload_n 0, 1) := by decide +kernel
theorem ww117_22 {d : Nat} {l1 l2 l3 l4 : Option mw_V} {x : Nat} {st : List mw_V} {σ : mw_S} {Q : Option mw_V → mw_S → Prop} : mw_WP d 117 22 [some (jR x), l1, l2, l3, l4] st σ Q ↔ mw_WP d 117 23 [some (jR x), l1, l2, l3, l4] (jR x :: st) σ Q := WP_aload_n mq117 dd117_22 rfl
theorem dd117_23 : decode cX10_put 23 = .ok (.getfield 15, 3) := by decide +kernel
theorem ww117_23 {d : Nat} {l0 l1 l2 l3 l4 : Option mw_V} {st : List mw_V} {σ : mw_S} {Q : Option mw_V → mw_S → Prop} : mw_WP d 117 23 [l0, l1, l2, l3, l4] (jR 37 :: st) σ Q ↔ mw_WP d 117 26 [l0, l1, l2, l3, l4] (jR 39 :: st) σ Q := WP_getR (ci := 9) (k := 1) mq117 dd117_23 (by decide) rfl
theorem dd117_26 : decode cX10_put 26 = .ok (.iload_n 1, 1) := by decide +kernel
theorem ww117_26 {d : Nat} {l0 l2 l3 l4 : Option mw_V} {x : Int} {st : List mw_V} {σ : mw_S} {Q : Option mw_V → mw_S → Prop} : mw_WP d 117 26 [l0, some (jI x), l2, l3, l4] st σ Q ↔ mw_WP d 117 27 [l0, some (jI x), l2, l3, l4] (jI x :: st) σ Q := WP_iload_n mq117 dd117_26 rfl
theorem dd117_27 : decode cX10_put 27 = .ok (.iaload, 1) := by decide +kernel
theorem ww117_27 {d : Nat} {l0 l1 l2 l3 l4 : Option mw_V} {z : Int} {a : Nat} {st : List mw_V} {σ : mw_S} {Q : Option mw_V → mw_S → Prop} : mw_WP d 117 27 [l0, l1, l2, l3, l4] (jI z :: jR a :: st) σ Q ↔ ((0 ≤ z ∧ z < mw_lenI a) ∧ mw_WP d 117 28 [l0, l1, l2, l3, l4] (jI (mw_rdI σ a z.toNat) :: st) σ Q) := WP_iaload mq117 dd117_27
theorem dd117_28 : decode cX10_put 28 = .ok (.lload_n 3, 1) := by decide +kernel
theorem ww117_28 {d : Nat} {l0 l1 l2 l4 : Option mw_V} {x : Int} {st : List mw_V} {σ : mw_S} {Q : Option mw_V → mw_S → Prop} : mw_WP d 117 28 [l0, l1, l2, some (jL x), l4] st σ Q ↔ mw_WP d 117 29 [l0, l1, l2, some (jL x), l4] (jL x :: st) σ Q := WP_lload_n mq117 dd117_28 rfl
theorem dd117_29 : decode cX10_put 29 = .ok (.invokestatic 34, 3) := by decide +kernel
theorem ww117_29 {d : Nat} {l0 l1 l2 l3 l4 : Option mw_V} {v0 v1 : mw_V} {st : List mw_V} {σ : mw_S} {Q : Option mw_V → mw_S → Prop} (h8 : (st.map mw_cat).sum ≤ 8) : mw_WP d 117 29 [l0, l1, l2, l3, l4] (v1 :: v0 :: st) σ Q ↔ mw_Call d 118 [v0, v1] σ (fun r1 s1 => mw_WP d 117 32 [l0, l1, l2, l3, l4] (r1.toList ++ st) s1 Q) := WP_invs (as := [v1, v0]) mq117 dd117_29 (by decide) mq118 rfl rfl h8
theorem dd117_32 : decode cX10_put 32 = .ok (.lastore, 1) := by decide +kernel
theorem ww117_32 {d : Nat} {l0 l1 l2 l3 l4 : Option mw_V} {x z : Int} {a : Nat} {st : List mw_V} {σ : mw_S} {Q : Option mw_V → mw_S → Prop} : mw_WP d 117 32 [l0, l1, l2, l3, l4] (jL x :: jI z :: jR a :: st) σ Q ↔ ((0 ≤ z ∧ z < mw_lenW 2 a) ∧ mw_WP d 117 33 [l0, l1, l2, l3, l4] st (upS σ a z.toNat x) Q) := WP_lastore mq117 dd117_32
theorem dd117_33 : decode cX10_put 33 = .ok (.aload_n 0, 1) := by decide +kernel
theorem ww117_33 {d : Nat} {l1 l2 l3 l4 : Option mw_V} {x : Nat} {st : List mw_V} {σ : mw_S} {Q : Option mw_V → mw_S → Prop} : mw_WP d 117 33 [some (jR x), l1, l2, l3, l4] st σ Q ↔ mw_WP d 117 34 [some (jR x), l1, l2, l3, l4] (jR x :: st) σ Q := WP_aload_n mq117 dd117_33 rfl
theorem dd117_34 : decode cX10_put 34 = .ok (.getfield 20, 3) := by decide +kernel
theorem ww117_34 {d : Nat} {l0 l1 l2 l3 l4 : Option mw_V} {st : List mw_V} {σ : mw_S} {Q : Option mw_V → mw_S → Prop} : mw_WP d 117 34 [l0, l1, l2, l3, l4] (jR 37 :: st) σ Q ↔ mw_WP d 117 37 [l0, l1, l2, l3, l4] (jR 40 :: st) σ Q := WP_getR (ci := 9) (k := 2) mq117 dd117_34 (by decide) rfl
theorem dd117_37 : decode cX10_put 37 = .ok (.iload_n 1, 1) := by decide +kernel
theorem ww117_37 {d : Nat} {l0 l2 l3 l4 : Option mw_V} {x : Int} {st : List mw_V} {σ : mw_S} {Q : Option mw_V → mw_S → Prop} : mw_WP d 117 37 [l0, some (jI x), l2, l3, l4] st σ Q ↔ mw_WP d 117 38 [l0, some (jI x), l2, l3, l4] (jI x :: st) σ Q := WP_iload_n mq117 dd117_37 rfl
theorem dd117_38 : decode cX10_put 38 = .ok (.aaload, 1) := by decide +kernel
theorem ww117_38 {d : Nat} {l0 l1 l2 l3 l4 : Option mw_V} {z : Int} {a : Nat} {st : List mw_V} {σ : mw_S} {Q : Option mw_V → mw_S → Prop} : mw_WP d 117 38 [l0, l1, l2, l3, l4] (jI z :: jR a :: st) σ Q ↔ ((0 ≤ z ∧ z < (mw_rows a).length) ∧ mw_WP d 117 39 [l0, l1, l2, l3, l4] (jR ((mw_rows a).getD z.toNat 0) :: st) σ Q) := WP_aaload mq117 dd117_38
theorem dd117_39 : decode cX10_put 39 = .ok (.iload_n 2, 1) := by decide +kernel
theorem ww117_39 {d : Nat} {l0 l1 l3 l4 : Option mw_V} {x : Int} {st : List mw_V} {σ : mw_S} {Q : Option mw_V → mw_S → Prop} : mw_WP d 117 39 [l0, l1, some (jI x), l3, l4] st σ Q ↔ mw_WP d 117 40 [l0, l1, some (jI x), l3, l4] (jI x :: st) σ Q := WP_iload_n mq117 dd117_39 rfl
theorem dd117_40 : decode cX10_put 40 = .ok (.laload, 1) := by decide +kernel
theorem ww117_40 {d : Nat} {l0 l1 l2 l3 l4 : Option mw_V} {z : Int} {a : Nat} {st : List mw_V} {σ : mw_S} {Q : Option mw_V → mw_S → Prop} : mw_WP d 117 40 [l0, l1, l2, l3, l4] (jI z :: jR a :: st) σ Q ↔ ((0 ≤ z ∧ z < mw_lenW 2 a) ∧ mw_WP d 117 41 [l0, l1, l2, l3, l4] (jL (σ a z.toNat) :: st) σ Q) := WP_laload mq117 dd117_40
theorem dd117_41 : decode cX10_put 41 = .ok (.lreturn, 1) := by decide +kernel
theorem ww117_41 {d : Nat} {l0 l1 l2 l3 l4 : Option mw_V} {z : Int} {σ : mw_S} {Q : Option mw_V → mw_S → Prop} : mw_WP d 117 41 [l0, l1, l2, l3, l4] [jL z] σ Q ↔ Q (some (jL z)) σ := WP_lreturn mq117 dd117_41 rfl
theorem ee118 {d : Nat} {z0 : Int} {z1 : Int} {σ : mw_S} {Q : Option mw_V → mw_S → Prop} : mw_Call (d + 1) 118 [jI z0, jL z1] σ Q ↔ mw_WP d 118 0 [some (jI z0), some (jL z1), none] [] σ Q := CL_u mq118 (Nat.le_of_ble_eq_true rfl) rfl
theorem dd118_0 : decode cX10_cut 0 = .ok (.iload_n 0, 1) := by decide +kernel
theorem ww118_0 {d : Nat} {l1 l2 : Option mw_V} {x : Int} {st : List mw_V} {σ : mw_S} {Q : Option mw_V → mw_S → Prop} : mw_WP d 118 0 [some (jI x), l1, l2] st σ Q ↔ mw_WP d 118 1 [some (jI x), l1, l2] (jI x :: st) σ Q := WP_iload_n mq118 dd118_0 rfl
theorem dd118_1 : decode cX10_cut 1 = .ok (.tableswitch 41 0 2 #[27, 32, 37], 27) := by decide +kernel
theorem ww118_1k0 {d : Nat} {l0 l1 l2 : Option mw_V} {st : List mw_V} {σ : mw_S} {Q : Option mw_V → mw_S → Prop} : mw_WP d 118 1 [l0, l1, l2] (jI (0) :: st) σ Q ↔ mw_WP d 118 28 [l0, l1, l2] st σ Q := WP_k mq118 dd118_1 rfl (fun _ _ => by simp [mw_stp, mw_b1, mw_go])
theorem ww118_1k1 {d : Nat} {l0 l1 l2 : Option mw_V} {st : List mw_V} {σ : mw_S} {Q : Option mw_V → mw_S → Prop} : mw_WP d 118 1 [l0, l1, l2] (jI (1) :: st) σ Q ↔ mw_WP d 118 33 [l0, l1, l2] st σ Q := WP_k mq118 dd118_1 rfl (fun _ _ => by simp [mw_stp, mw_b1, mw_go])
theorem ww118_1k2 {d : Nat} {l0 l1 l2 : Option mw_V} {st : List mw_V} {σ : mw_S} {Q : Option mw_V → mw_S → Prop} : mw_WP d 118 1 [l0, l1, l2] (jI (2) :: st) σ Q ↔ mw_WP d 118 38 [l0, l1, l2] st σ Q := WP_k mq118 dd118_1 rfl (fun _ _ => by simp [mw_stp, mw_b1, mw_go])
theorem ww118_1kd {d : Nat} {l0 l1 l2 : Option mw_V} {x : Int} {st : List mw_V} {σ : mw_S} {Q : Option mw_V → mw_S → Prop} (h : x < 0 ∨ 2 < x) : mw_WP d 118 1 [l0, l1, l2] (jI x :: st) σ Q ↔ mw_WP d 118 42 [l0, l1, l2] st σ Q := WP_k mq118 dd118_1 rfl (fun _ _ => by simp [mw_stp, mw_b1, mw_go, h])
theorem dd118_28 : decode cX10_cut 28 = .ok (.lload_n 1, 1) := by decide +kernel
theorem ww118_28 {d : Nat} {l0 l2 : Option mw_V} {x : Int} {st : List mw_V} {σ : mw_S} {Q : Option mw_V → mw_S → Prop} : mw_WP d 118 28 [l0, some (jL x), l2] st σ Q ↔ mw_WP d 118 29 [l0, some (jL x), l2] (jL x :: st) σ Q := WP_lload_n mq118 dd118_28 rfl
theorem dd118_29 : decode cX10_cut 29 = .ok (.l2i, 1) := by decide +kernel
theorem ww118_29 {d : Nat} {l0 l1 l2 : Option mw_V} {x : Int} {st : List mw_V} {σ : mw_S} {Q : Option mw_V → mw_S → Prop} : mw_WP d 118 29 [l0, l1, l2] (jL x :: st) σ Q ↔ mw_WP d 118 30 [l0, l1, l2] (jI (zI x) :: st) σ Q := WP_l2i mq118 dd118_29
theorem dd118_30 : decode cX10_cut 30 = .ok (.i2b, 1) := by decide +kernel
theorem ww118_30 {d : Nat} {l0 l1 l2 : Option mw_V} {x : Int} {st : List mw_V} {σ : mw_S} {Q : Option mw_V → mw_S → Prop} : mw_WP d 118 30 [l0, l1, l2] (jI x :: st) σ Q ↔ mw_WP d 118 31 [l0, l1, l2] (jI (zB x) :: st) σ Q := WP_i2b mq118 dd118_30
theorem dd118_31 : decode cX10_cut 31 = .ok (.i2l, 1) := by decide +kernel
theorem ww118_31 {d : Nat} {l0 l1 l2 : Option mw_V} {x : Int} {st : List mw_V} {σ : mw_S} {Q : Option mw_V → mw_S → Prop} : mw_WP d 118 31 [l0, l1, l2] (jI x :: st) σ Q ↔ mw_WP d 118 32 [l0, l1, l2] (jL (yL x) :: st) σ Q := WP_i2l mq118 dd118_31
theorem dd118_32 : decode cX10_cut 32 = .ok (.lreturn, 1) := by decide +kernel
theorem ww118_32 {d : Nat} {l0 l1 l2 : Option mw_V} {z : Int} {σ : mw_S} {Q : Option mw_V → mw_S → Prop} : mw_WP d 118 32 [l0, l1, l2] [jL z] σ Q ↔ Q (some (jL z)) σ := WP_lreturn mq118 dd118_32 rfl
theorem dd118_33 : decode cX10_cut 33 = .ok (.lload_n 1, 1) := by decide +kernel
theorem ww118_33 {d : Nat} {l0 l2 : Option mw_V} {x : Int} {st : List mw_V} {σ : mw_S} {Q : Option mw_V → mw_S → Prop} : mw_WP d 118 33 [l0, some (jL x), l2] st σ Q ↔ mw_WP d 118 34 [l0, some (jL x), l2] (jL x :: st) σ Q := WP_lload_n mq118 dd118_33 rfl
theorem dd118_34 : decode cX10_cut 34 = .ok (.l2i, 1) := by decide +kernel
theorem ww118_34 {d : Nat} {l0 l1 l2 : Option mw_V} {x : Int} {st : List mw_V} {σ : mw_S} {Q : Option mw_V → mw_S → Prop} : mw_WP d 118 34 [l0, l1, l2] (jL x :: st) σ Q ↔ mw_WP d 118 35 [l0, l1, l2] (jI (zI x) :: st) σ Q := WP_l2i mq118 dd118_34
theorem dd118_35 : decode cX10_cut 35 = .ok (.i2s, 1) := by decide +kernel
theorem ww118_35 {d : Nat} {l0 l1 l2 : Option mw_V} {x : Int} {st : List mw_V} {σ : mw_S} {Q : Option mw_V → mw_S → Prop} : mw_WP d 118 35 [l0, l1, l2] (jI x :: st) σ Q ↔ mw_WP d 118 36 [l0, l1, l2] (jI (zSh x) :: st) σ Q := WP_i2s mq118 dd118_35
theorem dd118_36 : decode cX10_cut 36 = .ok (.i2l, 1) := by decide +kernel
theorem ww118_36 {d : Nat} {l0 l1 l2 : Option mw_V} {x : Int} {st : List mw_V} {σ : mw_S} {Q : Option mw_V → mw_S → Prop} : mw_WP d 118 36 [l0, l1, l2] (jI x :: st) σ Q ↔ mw_WP d 118 37 [l0, l1, l2] (jL (yL x) :: st) σ Q := WP_i2l mq118 dd118_36
theorem dd118_37 : decode cX10_cut 37 = .ok (.lreturn, 1) := by decide +kernel
theorem ww118_37 {d : Nat} {l0 l1 l2 : Option mw_V} {z : Int} {σ : mw_S} {Q : Option mw_V → mw_S → Prop} : mw_WP d 118 37 [l0, l1, l2] [jL z] σ Q ↔ Q (some (jL z)) σ := WP_lreturn mq118 dd118_37 rfl
theorem dd118_38 : decode cX10_cut 38 = .ok (.lload_n 1, 1) := by decide +kernel
theorem ww118_38 {d : Nat} {l0 l2 : Option mw_V} {x : Int} {st : List mw_V} {σ : mw_S} {Q : Option mw_V → mw_S → Prop} : mw_WP d 118 38 [l0, some (jL x), l2] st σ Q ↔ mw_WP d 118 39 [l0, some (jL x), l2] (jL x :: st) σ Q := WP_lload_n mq118 dd118_38 rfl
theorem dd118_39 : decode cX10_cut 39 = .ok (.l2i, 1) := by decide +kernel
theorem ww118_39 {d : Nat} {l0 l1 l2 : Option mw_V} {x : Int} {st : List mw_V} {σ : mw_S} {Q : Option mw_V → mw_S → Prop} : mw_WP d 118 39 [l0, l1, l2] (jL x :: st) σ Q ↔ mw_WP d 118 40 [l0, l1, l2] (jI (zI x) :: st) σ Q := WP_l2i mq118 dd118_39
theorem dd118_40 : decode cX10_cut 40 = .ok (.i2l, 1) := by decide +kernel
theorem ww118_40 {d : Nat} {l0 l1 l2 : Option mw_V} {x : Int} {st : List mw_V} {σ : mw_S} {Q : Option mw_V → mw_S → Prop} : mw_WP d 118 40 [l0, l1, l2] (jI x :: st) σ Q ↔ mw_WP d 118 41 [l0, l1, l2] (jL (yL x) :: st) σ Q := WP_i2l mq118 dd118_40
theorem dd118_41 : decode cX10_cut 41 = .ok (.lreturn, 1) := by decide +kernel
theorem ww118_41 {d : Nat} {l0 l1 l2 : Option mw_V} {z : Int} {σ : mw_S} {Q : Option mw_V → mw_S → Prop} : mw_WP d 118 41 [l0, l1, l2] [jL z] σ Q ↔ Q (some (jL z)) σ := WP_lreturn mq118 dd118_41 rfl
theorem dd118_42 : decode cX10_cut 42 = .ok (.lload_n 1, 1) := by decide +kernel
theorem ww118_42 {d : Nat} {l0 l2 : Option mw_V} {x : Int} {st : List mw_V} {σ : mw_S} {Q : Option mw_V → mw_S → Prop} : mw_WP d 118 42 [l0, some (jL x), l2] st σ Q ↔ mw_WP d 118 43 [l0, some (jL x), l2] (jL x :: st) σ Q := WP_lload_n mq118 dd118_42 rfl
theorem dd118_43 : decode cX10_cut 43 = .ok (.lreturn, 1) := by decide +kernel
theorem ww118_43 {d : Nat} {l0 l1 l2 : Option mw_V} {z : Int} {σ : mw_S} {Q : Option mw_V → mw_S → Prop} : mw_WP d 118 43 [l0, l1, l2] [jL z] σ Q ↔ Q (some (jL z)) σ := WP_lreturn mq118 dd118_43 rfl
