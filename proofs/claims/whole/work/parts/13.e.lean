/-! 13.e: rows that decode each instruction, and its rule -/
theorem ee119 {d : Nat} {a : Nat} {z0 : Int} {z1 : Int} {z2 : Int} {z3 : Int} {z4 : Int} {σ : mw_S} {Q : Option mw_V → mw_S → Prop} : mw_Call (d + 1) 119 [jR a, jI z0, jI z1, jI z2, jI z3, jI z4] σ Q ↔ mw_WP d 119 0 [some (jR a), some (jI z0), some (jI z1), some (jI z2), some (jI z3), some (jI z4)] [] σ Q := CL_u mq119 (Nat.le_of_ble_eq_true rfl) rfl
theorem dd119_0 : decode cX11_feed 0 = .ok (.aload_n 0, 1) := by decide +kernel
theorem ww119_0 {d : Nat} {l1 l2 l3 l4 l5 : Option mw_V} {x : Nat} {st : List mw_V} {σ : mw_S} {Q : Option mw_V → mw_S → Prop} : mw_WP d 119 0 [some (jR x), l1, l2, l3, l4, l5] st σ Q ↔ mw_WP d 119 1 [some (jR x), l1, l2, l3, l4, l5] (jR x :: st) σ Q := WP_aload_n mq119 dd119_0 rfl
theorem dd119_1 : decode cX11_feed 1 = .ok (.getfield 12, 3) := by decide +kernel
theorem ww119_1 {d : Nat} {l0 l1 l2 l3 l4 l5 : Option mw_V} {st : List mw_V} {σ : mw_S} {Q : Option mw_V → mw_S → Prop} : mw_WP d 119 1 [l0, l1, l2, l3, l4, l5] (jR 0 :: st) σ Q ↔ mw_WP d 119 4 [l0, l1, l2, l3, l4, l5] (jR 1 :: st) σ Q := WP_getR (ci := 10) (k := 0) mq119 dd119_1 (by decide) rfl
theorem dd119_4 : decode cX11_feed 4 = .ok (.invokevirtual 93, 3) := by decide +kernel
theorem ww119_4 {d : Nat} {l0 l1 l2 l3 l4 l5 : Option mw_V} {a : Nat} {st : List mw_V} {σ : mw_S} {Q : Option mw_V → mw_S → Prop} (hr : mw_rc a = 7) (h8 : (st.map mw_cat).sum ≤ 8) : mw_WP d 119 4 [l0, l1, l2, l3, l4, l5] (jR a :: st) σ Q ↔ mw_Call d 43 [jR a] σ (fun r1 s1 => mw_WP d 119 7 [l0, l1, l2, l3, l4, l5] (r1.toList ++ st) s1 Q) := WP_inv (as := []) mq119 dd119_4 (by decide) mq43 rfl hr h8
theorem dd119_7 : decode cX11_feed 7 = .ok (.ifCond .ne 6, 3) := by decide +kernel
theorem ww119_7 {d : Nat} {l0 l1 l2 l3 l4 l5 : Option mw_V} {x : Int} {st : List mw_V} {σ : mw_S} {Q : Option mw_V → mw_S → Prop} : mw_WP d 119 7 [l0, l1, l2, l3, l4, l5] (jI x :: st) σ Q ↔ (if ¬ x = 0 then mw_WP d 119 13 [l0, l1, l2, l3, l4, l5] st σ Q else mw_WP d 119 10 [l0, l1, l2, l3, l4, l5] st σ Q) := WP_if_ne mq119 dd119_7 (by decide)
theorem dd119_10 : decode cX11_feed 10 = .ok (.bipush (-5), 2) := by decide +kernel
theorem ww119_10 {d : Nat} {l0 l1 l2 l3 l4 l5 : Option mw_V} {st : List mw_V} {σ : mw_S} {Q : Option mw_V → mw_S → Prop} : mw_WP d 119 10 [l0, l1, l2, l3, l4, l5] st σ Q ↔ mw_WP d 119 12 [l0, l1, l2, l3, l4, l5] (jI (-5) :: st) σ Q := WP_bipush mq119 dd119_10 (by decide)
theorem dd119_12 : decode cX11_feed 12 = .ok (.ireturn, 1) := by decide +kernel
theorem ww119_12 {d : Nat} {l0 l1 l2 l3 l4 l5 : Option mw_V} {z : Int} {σ : mw_S} {Q : Option mw_V → mw_S → Prop} : mw_WP d 119 12 [l0, l1, l2, l3, l4, l5] [jI z] σ Q ↔ Q (some (jI z)) σ := WP_ireturn (ty := .int) mq119 dd119_12 rfl rfl
theorem dd119_13 : decode cX11_feed 13 = .ok (.aload_n 0, 1) := by decide +kernel
theorem ww119_13 {d : Nat} {l1 l2 l3 l4 l5 : Option mw_V} {x : Nat} {st : List mw_V} {σ : mw_S} {Q : Option mw_V → mw_S → Prop} : mw_WP d 119 13 [some (jR x), l1, l2, l3, l4, l5] st σ Q ↔ mw_WP d 119 14 [some (jR x), l1, l2, l3, l4, l5] (jR x :: st) σ Q := WP_aload_n mq119 dd119_13 rfl
theorem dd119_14 : decode cX11_feed 14 = .ok (.getfield 12, 3) := by decide +kernel
theorem ww119_14 {d : Nat} {l0 l1 l2 l3 l4 l5 : Option mw_V} {st : List mw_V} {σ : mw_S} {Q : Option mw_V → mw_S → Prop} : mw_WP d 119 14 [l0, l1, l2, l3, l4, l5] (jR 0 :: st) σ Q ↔ mw_WP d 119 17 [l0, l1, l2, l3, l4, l5] (jR 1 :: st) σ Q := WP_getR (ci := 10) (k := 0) mq119 dd119_14 (by decide) rfl
theorem dd119_17 : decode cX11_feed 17 = .ok (.iload_n 1, 1) := by decide +kernel
theorem ww119_17 {d : Nat} {l0 l2 l3 l4 l5 : Option mw_V} {x : Int} {st : List mw_V} {σ : mw_S} {Q : Option mw_V → mw_S → Prop} : mw_WP d 119 17 [l0, some (jI x), l2, l3, l4, l5] st σ Q ↔ mw_WP d 119 18 [l0, some (jI x), l2, l3, l4, l5] (jI x :: st) σ Q := WP_iload_n mq119 dd119_17 rfl
theorem dd119_18 : decode cX11_feed 18 = .ok (.invokevirtual 97, 3) := by decide +kernel
theorem ww119_18 {d : Nat} {l0 l1 l2 l3 l4 l5 : Option mw_V} {v0 : mw_V} {a : Nat} {st : List mw_V} {σ : mw_S} {Q : Option mw_V → mw_S → Prop} (hr : mw_rc a = 7) (h8 : (st.map mw_cat).sum ≤ 8) : mw_WP d 119 18 [l0, l1, l2, l3, l4, l5] (v0 :: jR a :: st) σ Q ↔ mw_Call d 44 [jR a, v0] σ (fun r1 s1 => mw_WP d 119 21 [l0, l1, l2, l3, l4, l5] (r1.toList ++ st) s1 Q) := WP_inv (as := [v0]) mq119 dd119_18 (by decide) mq44 rfl hr h8
theorem dd119_21 : decode cX11_feed 21 = .ok (.aload_n 0, 1) := by decide +kernel
theorem ww119_21 {d : Nat} {l1 l2 l3 l4 l5 : Option mw_V} {x : Nat} {st : List mw_V} {σ : mw_S} {Q : Option mw_V → mw_S → Prop} : mw_WP d 119 21 [some (jR x), l1, l2, l3, l4, l5] st σ Q ↔ mw_WP d 119 22 [some (jR x), l1, l2, l3, l4, l5] (jR x :: st) σ Q := WP_aload_n mq119 dd119_21 rfl
theorem dd119_22 : decode cX11_feed 22 = .ok (.getfield 12, 3) := by decide +kernel
theorem ww119_22 {d : Nat} {l0 l1 l2 l3 l4 l5 : Option mw_V} {st : List mw_V} {σ : mw_S} {Q : Option mw_V → mw_S → Prop} : mw_WP d 119 22 [l0, l1, l2, l3, l4, l5] (jR 0 :: st) σ Q ↔ mw_WP d 119 25 [l0, l1, l2, l3, l4, l5] (jR 1 :: st) σ Q := WP_getR (ci := 10) (k := 0) mq119 dd119_22 (by decide) rfl
theorem dd119_25 : decode cX11_feed 25 = .ok (.iload_n 2, 1) := by decide +kernel
theorem ww119_25 {d : Nat} {l0 l1 l3 l4 l5 : Option mw_V} {x : Int} {st : List mw_V} {σ : mw_S} {Q : Option mw_V → mw_S → Prop} : mw_WP d 119 25 [l0, l1, some (jI x), l3, l4, l5] st σ Q ↔ mw_WP d 119 26 [l0, l1, some (jI x), l3, l4, l5] (jI x :: st) σ Q := WP_iload_n mq119 dd119_25 rfl
theorem dd119_26 : decode cX11_feed 26 = .ok (.invokevirtual 97, 3) := by decide +kernel
theorem ww119_26 {d : Nat} {l0 l1 l2 l3 l4 l5 : Option mw_V} {v0 : mw_V} {a : Nat} {st : List mw_V} {σ : mw_S} {Q : Option mw_V → mw_S → Prop} (hr : mw_rc a = 7) (h8 : (st.map mw_cat).sum ≤ 8) : mw_WP d 119 26 [l0, l1, l2, l3, l4, l5] (v0 :: jR a :: st) σ Q ↔ mw_Call d 44 [jR a, v0] σ (fun r1 s1 => mw_WP d 119 29 [l0, l1, l2, l3, l4, l5] (r1.toList ++ st) s1 Q) := WP_inv (as := [v0]) mq119 dd119_26 (by decide) mq44 rfl hr h8
theorem dd119_29 : decode cX11_feed 29 = .ok (.aload_n 0, 1) := by decide +kernel
theorem ww119_29 {d : Nat} {l1 l2 l3 l4 l5 : Option mw_V} {x : Nat} {st : List mw_V} {σ : mw_S} {Q : Option mw_V → mw_S → Prop} : mw_WP d 119 29 [some (jR x), l1, l2, l3, l4, l5] st σ Q ↔ mw_WP d 119 30 [some (jR x), l1, l2, l3, l4, l5] (jR x :: st) σ Q := WP_aload_n mq119 dd119_29 rfl
theorem dd119_30 : decode cX11_feed 30 = .ok (.getfield 12, 3) := by decide +kernel
theorem ww119_30 {d : Nat} {l0 l1 l2 l3 l4 l5 : Option mw_V} {st : List mw_V} {σ : mw_S} {Q : Option mw_V → mw_S → Prop} : mw_WP d 119 30 [l0, l1, l2, l3, l4, l5] (jR 0 :: st) σ Q ↔ mw_WP d 119 33 [l0, l1, l2, l3, l4, l5] (jR 1 :: st) σ Q := WP_getR (ci := 10) (k := 0) mq119 dd119_30 (by decide) rfl
theorem dd119_33 : decode cX11_feed 33 = .ok (.iload_n 3, 1) := by decide +kernel
theorem ww119_33 {d : Nat} {l0 l1 l2 l4 l5 : Option mw_V} {x : Int} {st : List mw_V} {σ : mw_S} {Q : Option mw_V → mw_S → Prop} : mw_WP d 119 33 [l0, l1, l2, some (jI x), l4, l5] st σ Q ↔ mw_WP d 119 34 [l0, l1, l2, some (jI x), l4, l5] (jI x :: st) σ Q := WP_iload_n mq119 dd119_33 rfl
theorem dd119_34 : decode cX11_feed 34 = .ok (.invokevirtual 97, 3) := by decide +kernel
theorem ww119_34 {d : Nat} {l0 l1 l2 l3 l4 l5 : Option mw_V} {v0 : mw_V} {a : Nat} {st : List mw_V} {σ : mw_S} {Q : Option mw_V → mw_S → Prop} (hr : mw_rc a = 7) (h8 : (st.map mw_cat).sum ≤ 8) : mw_WP d 119 34 [l0, l1, l2, l3, l4, l5] (v0 :: jR a :: st) σ Q ↔ mw_Call d 44 [jR a, v0] σ (fun r1 s1 => mw_WP d 119 37 [l0, l1, l2, l3, l4, l5] (r1.toList ++ st) s1 Q) := WP_inv (as := [v0]) mq119 dd119_34 (by decide) mq44 rfl hr h8
theorem dd119_37 : decode cX11_feed 37 = .ok (.aload_n 0, 1) := by decide +kernel
theorem ww119_37 {d : Nat} {l1 l2 l3 l4 l5 : Option mw_V} {x : Nat} {st : List mw_V} {σ : mw_S} {Q : Option mw_V → mw_S → Prop} : mw_WP d 119 37 [some (jR x), l1, l2, l3, l4, l5] st σ Q ↔ mw_WP d 119 38 [some (jR x), l1, l2, l3, l4, l5] (jR x :: st) σ Q := WP_aload_n mq119 dd119_37 rfl
theorem dd119_38 : decode cX11_feed 38 = .ok (.getfield 12, 3) := by decide +kernel
theorem ww119_38 {d : Nat} {l0 l1 l2 l3 l4 l5 : Option mw_V} {st : List mw_V} {σ : mw_S} {Q : Option mw_V → mw_S → Prop} : mw_WP d 119 38 [l0, l1, l2, l3, l4, l5] (jR 0 :: st) σ Q ↔ mw_WP d 119 41 [l0, l1, l2, l3, l4, l5] (jR 1 :: st) σ Q := WP_getR (ci := 10) (k := 0) mq119 dd119_38 (by decide) rfl
theorem dd119_41 : decode cX11_feed 41 = .ok (.iload 4, 2) := by decide +kernel
theorem ww119_41 {d : Nat} {l0 l1 l2 l3 l5 : Option mw_V} {x : Int} {st : List mw_V} {σ : mw_S} {Q : Option mw_V → mw_S → Prop} : mw_WP d 119 41 [l0, l1, l2, l3, some (jI x), l5] st σ Q ↔ mw_WP d 119 43 [l0, l1, l2, l3, some (jI x), l5] (jI x :: st) σ Q := WP_iload mq119 dd119_41 rfl
theorem dd119_43 : decode cX11_feed 43 = .ok (.invokevirtual 97, 3) := by decide +kernel
theorem ww119_43 {d : Nat} {l0 l1 l2 l3 l4 l5 : Option mw_V} {v0 : mw_V} {a : Nat} {st : List mw_V} {σ : mw_S} {Q : Option mw_V → mw_S → Prop} (hr : mw_rc a = 7) (h8 : (st.map mw_cat).sum ≤ 8) : mw_WP d 119 43 [l0, l1, l2, l3, l4, l5] (v0 :: jR a :: st) σ Q ↔ mw_Call d 44 [jR a, v0] σ (fun r1 s1 => mw_WP d 119 46 [l0, l1, l2, l3, l4, l5] (r1.toList ++ st) s1 Q) := WP_inv (as := [v0]) mq119 dd119_43 (by decide) mq44 rfl hr h8
theorem dd119_46 : decode cX11_feed 46 = .ok (.aload_n 0, 1) := by decide +kernel
theorem ww119_46 {d : Nat} {l1 l2 l3 l4 l5 : Option mw_V} {x : Nat} {st : List mw_V} {σ : mw_S} {Q : Option mw_V → mw_S → Prop} : mw_WP d 119 46 [some (jR x), l1, l2, l3, l4, l5] st σ Q ↔ mw_WP d 119 47 [some (jR x), l1, l2, l3, l4, l5] (jR x :: st) σ Q := WP_aload_n mq119 dd119_46 rfl
theorem dd119_47 : decode cX11_feed 47 = .ok (.getfield 12, 3) := by decide +kernel
theorem ww119_47 {d : Nat} {l0 l1 l2 l3 l4 l5 : Option mw_V} {st : List mw_V} {σ : mw_S} {Q : Option mw_V → mw_S → Prop} : mw_WP d 119 47 [l0, l1, l2, l3, l4, l5] (jR 0 :: st) σ Q ↔ mw_WP d 119 50 [l0, l1, l2, l3, l4, l5] (jR 1 :: st) σ Q := WP_getR (ci := 10) (k := 0) mq119 dd119_47 (by decide) rfl
theorem dd119_50 : decode cX11_feed 50 = .ok (.iload 5, 2) := by decide +kernel
theorem ww119_50 {d : Nat} {l0 l1 l2 l3 l4 : Option mw_V} {x : Int} {st : List mw_V} {σ : mw_S} {Q : Option mw_V → mw_S → Prop} : mw_WP d 119 50 [l0, l1, l2, l3, l4, some (jI x)] st σ Q ↔ mw_WP d 119 52 [l0, l1, l2, l3, l4, some (jI x)] (jI x :: st) σ Q := WP_iload mq119 dd119_50 rfl
theorem dd119_52 : decode cX11_feed 52 = .ok (.invokevirtual 97, 3) := by decide +kernel
theorem ww119_52 {d : Nat} {l0 l1 l2 l3 l4 l5 : Option mw_V} {v0 : mw_V} {a : Nat} {st : List mw_V} {σ : mw_S} {Q : Option mw_V → mw_S → Prop} (hr : mw_rc a = 7) (h8 : (st.map mw_cat).sum ≤ 8) : mw_WP d 119 52 [l0, l1, l2, l3, l4, l5] (v0 :: jR a :: st) σ Q ↔ mw_Call d 44 [jR a, v0] σ (fun r1 s1 => mw_WP d 119 55 [l0, l1, l2, l3, l4, l5] (r1.toList ++ st) s1 Q) := WP_inv (as := [v0]) mq119 dd119_52 (by decide) mq44 rfl hr h8
theorem dd119_55 : decode cX11_feed 55 = .ok (.aload_n 0, 1) := by decide +kernel
theorem ww119_55 {d : Nat} {l1 l2 l3 l4 l5 : Option mw_V} {x : Nat} {st : List mw_V} {σ : mw_S} {Q : Option mw_V → mw_S → Prop} : mw_WP d 119 55 [some (jR x), l1, l2, l3, l4, l5] st σ Q ↔ mw_WP d 119 56 [some (jR x), l1, l2, l3, l4, l5] (jR x :: st) σ Q := WP_aload_n mq119 dd119_55 rfl
theorem dd119_56 : decode cX11_feed 56 = .ok (.getfield 12, 3) := by decide +kernel
theorem ww119_56 {d : Nat} {l0 l1 l2 l3 l4 l5 : Option mw_V} {st : List mw_V} {σ : mw_S} {Q : Option mw_V → mw_S → Prop} : mw_WP d 119 56 [l0, l1, l2, l3, l4, l5] (jR 0 :: st) σ Q ↔ mw_WP d 119 59 [l0, l1, l2, l3, l4, l5] (jR 1 :: st) σ Q := WP_getR (ci := 10) (k := 0) mq119 dd119_56 (by decide) rfl
theorem dd119_59 : decode cX11_feed 59 = .ok (.getfield 101, 3) := by decide +kernel
theorem ww119_59 {d : Nat} {l0 l1 l2 l3 l4 l5 : Option mw_V} {st : List mw_V} {σ : mw_S} {Q : Option mw_V → mw_S → Prop} : mw_WP d 119 59 [l0, l1, l2, l3, l4, l5] (jR 1 :: st) σ Q ↔ mw_WP d 119 62 [l0, l1, l2, l3, l4, l5] (jI (σ 1 2) :: st) σ Q := WP_getI (ci := 6) (k := 2) mq119 dd119_59 (by decide) (Or.inl rfl)
theorem dd119_62 : decode cX11_feed 62 = .ok (.ireturn, 1) := by decide +kernel
theorem ww119_62 {d : Nat} {l0 l1 l2 l3 l4 l5 : Option mw_V} {z : Int} {σ : mw_S} {Q : Option mw_V → mw_S → Prop} : mw_WP d 119 62 [l0, l1, l2, l3, l4, l5] [jI z] σ Q ↔ Q (some (jI z)) σ := WP_ireturn (ty := .int) mq119 dd119_62 rfl rfl
theorem ee120 {d : Nat} {a : Nat} {z0 : Int} {σ : mw_S} {Q : Option mw_V → mw_S → Prop} : mw_Call (d + 1) 120 [jR a, jI z0] σ Q ↔ mw_WP d 120 0 [some (jR a), some (jI z0)] [] σ Q := CL_u mq120 (Nat.le_of_ble_eq_true rfl) rfl
theorem dd120_0 : decode cX11_arcade 0 = .ok (.iload_n 1, 1) := by decide +kernel
theorem ww120_0 {d : Nat} {l0 : Option mw_V} {x : Int} {st : List mw_V} {σ : mw_S} {Q : Option mw_V → mw_S → Prop} : mw_WP d 120 0 [l0, some (jI x)] st σ Q ↔ mw_WP d 120 1 [l0, some (jI x)] (jI x :: st) σ Q := WP_iload_n mq120 dd120_0 rfl
theorem dd120_1 : decode cX11_arcade 1 = .ok (.ifCond .lt 14, 3) := by decide +kernel
theorem ww120_1 {d : Nat} {l0 l1 : Option mw_V} {x : Int} {st : List mw_V} {σ : mw_S} {Q : Option mw_V → mw_S → Prop} : mw_WP d 120 1 [l0, l1] (jI x :: st) σ Q ↔ (if x < 0 then mw_WP d 120 15 [l0, l1] st σ Q else mw_WP d 120 4 [l0, l1] st σ Q) := WP_if_lt mq120 dd120_1 (by decide)
theorem dd120_4 : decode cX11_arcade 4 = .ok (.iload_n 1, 1) := by decide +kernel
theorem ww120_4 {d : Nat} {l0 : Option mw_V} {x : Int} {st : List mw_V} {σ : mw_S} {Q : Option mw_V → mw_S → Prop} : mw_WP d 120 4 [l0, some (jI x)] st σ Q ↔ mw_WP d 120 5 [l0, some (jI x)] (jI x :: st) σ Q := WP_iload_n mq120 dd120_4 rfl
theorem dd120_5 : decode cX11_arcade 5 = .ok (.aload_n 0, 1) := by decide +kernel
theorem ww120_5 {d : Nat} {l1 : Option mw_V} {x : Nat} {st : List mw_V} {σ : mw_S} {Q : Option mw_V → mw_S → Prop} : mw_WP d 120 5 [some (jR x), l1] st σ Q ↔ mw_WP d 120 6 [some (jR x), l1] (jR x :: st) σ Q := WP_aload_n mq120 dd120_5 rfl
theorem dd120_6 : decode cX11_arcade 6 = .ok (.getfield 12, 3) := by decide +kernel
theorem ww120_6 {d : Nat} {l0 l1 : Option mw_V} {st : List mw_V} {σ : mw_S} {Q : Option mw_V → mw_S → Prop} : mw_WP d 120 6 [l0, l1] (jR 0 :: st) σ Q ↔ mw_WP d 120 9 [l0, l1] (jR 1 :: st) σ Q := WP_getR (ci := 10) (k := 0) mq120 dd120_6 (by decide) rfl
theorem dd120_9 : decode cX11_arcade 9 = .ok (.getfield 101, 3) := by decide +kernel
theorem ww120_9 {d : Nat} {l0 l1 : Option mw_V} {st : List mw_V} {σ : mw_S} {Q : Option mw_V → mw_S → Prop} : mw_WP d 120 9 [l0, l1] (jR 1 :: st) σ Q ↔ mw_WP d 120 12 [l0, l1] (jI (σ 1 2) :: st) σ Q := WP_getI (ci := 6) (k := 2) mq120 dd120_9 (by decide) (Or.inl rfl)
theorem dd120_12 : decode cX11_arcade 12 = .ok (.if_icmp .le 6, 3) := by decide +kernel
theorem ww120_12 {d : Nat} {l0 l1 : Option mw_V} {x y : Int} {st : List mw_V} {σ : mw_S} {Q : Option mw_V → mw_S → Prop} : mw_WP d 120 12 [l0, l1] (jI y :: jI x :: st) σ Q ↔ (if x ≤ y then mw_WP d 120 18 [l0, l1] st σ Q else mw_WP d 120 15 [l0, l1] st σ Q) := WP_icmp_le mq120 dd120_12 (by decide)
theorem dd120_15 : decode cX11_arcade 15 = .ok (.bipush (-3), 2) := by decide +kernel
theorem ww120_15 {d : Nat} {l0 l1 : Option mw_V} {st : List mw_V} {σ : mw_S} {Q : Option mw_V → mw_S → Prop} : mw_WP d 120 15 [l0, l1] st σ Q ↔ mw_WP d 120 17 [l0, l1] (jI (-3) :: st) σ Q := WP_bipush mq120 dd120_15 (by decide)
theorem dd120_17 : decode cX11_arcade 17 = .ok (.ireturn, 1) := by decide +kernel
theorem ww120_17 {d : Nat} {l0 l1 : Option mw_V} {z : Int} {σ : mw_S} {Q : Option mw_V → mw_S → Prop} : mw_WP d 120 17 [l0, l1] [jI z] σ Q ↔ Q (some (jI z)) σ := WP_ireturn (ty := .int) mq120 dd120_17 rfl rfl
theorem dd120_18 : decode cX11_arcade 18 = .ok (.aload_n 0, 1) := by decide +kernel
theorem ww120_18 {d : Nat} {l1 : Option mw_V} {x : Nat} {st : List mw_V} {σ : mw_S} {Q : Option mw_V → mw_S → Prop} : mw_WP d 120 18 [some (jR x), l1] st σ Q ↔ mw_WP d 120 19 [some (jR x), l1] (jR x :: st) σ Q := WP_aload_n mq120 dd120_18 rfl
theorem dd120_19 : decode cX11_arcade 19 = .ok (.getfield 12, 3) := by decide +kernel
theorem ww120_19 {d : Nat} {l0 l1 : Option mw_V} {st : List mw_V} {σ : mw_S} {Q : Option mw_V → mw_S → Prop} : mw_WP d 120 19 [l0, l1] (jR 0 :: st) σ Q ↔ mw_WP d 120 22 [l0, l1] (jR 1 :: st) σ Q := WP_getR (ci := 10) (k := 0) mq120 dd120_19 (by decide) rfl
theorem dd120_22 : decode cX11_arcade 22 = .ok (.iload_n 1, 1) := by decide +kernel
theorem ww120_22 {d : Nat} {l0 : Option mw_V} {x : Int} {st : List mw_V} {σ : mw_S} {Q : Option mw_V → mw_S → Prop} : mw_WP d 120 22 [l0, some (jI x)] st σ Q ↔ mw_WP d 120 23 [l0, some (jI x)] (jI x :: st) σ Q := WP_iload_n mq120 dd120_22 rfl
theorem dd120_23 : decode cX11_arcade 23 = .ok (.invokevirtual 105, 3) := by decide +kernel
theorem ww120_23 {d : Nat} {l0 l1 : Option mw_V} {v0 : mw_V} {a : Nat} {st : List mw_V} {σ : mw_S} {Q : Option mw_V → mw_S → Prop} (hr : mw_rc a = 7) (h8 : (st.map mw_cat).sum ≤ 8) : mw_WP d 120 23 [l0, l1] (v0 :: jR a :: st) σ Q ↔ mw_Call d 45 [jR a, v0] σ (fun r1 s1 => mw_WP d 120 26 [l0, l1] (r1.toList ++ st) s1 Q) := WP_inv (as := [v0]) mq120 dd120_23 (by decide) mq45 rfl hr h8
theorem dd120_26 : decode cX11_arcade 26 = .ok (.ifCond .ne 14, 3) := by decide +kernel
theorem ww120_26 {d : Nat} {l0 l1 : Option mw_V} {x : Int} {st : List mw_V} {σ : mw_S} {Q : Option mw_V → mw_S → Prop} : mw_WP d 120 26 [l0, l1] (jI x :: st) σ Q ↔ (if ¬ x = 0 then mw_WP d 120 40 [l0, l1] st σ Q else mw_WP d 120 29 [l0, l1] st σ Q) := WP_if_ne mq120 dd120_26 (by decide)
theorem dd120_29 : decode cX11_arcade 29 = .ok (.bipush (-30), 2) := by decide +kernel
theorem ww120_29 {d : Nat} {l0 l1 : Option mw_V} {st : List mw_V} {σ : mw_S} {Q : Option mw_V → mw_S → Prop} : mw_WP d 120 29 [l0, l1] st σ Q ↔ mw_WP d 120 31 [l0, l1] (jI (-30) :: st) σ Q := WP_bipush mq120 dd120_29 (by decide)
theorem dd120_31 : decode cX11_arcade 31 = .ok (.aload_n 0, 1) := by decide +kernel
theorem ww120_31 {d : Nat} {l1 : Option mw_V} {x : Nat} {st : List mw_V} {σ : mw_S} {Q : Option mw_V → mw_S → Prop} : mw_WP d 120 31 [some (jR x), l1] st σ Q ↔ mw_WP d 120 32 [some (jR x), l1] (jR x :: st) σ Q := WP_aload_n mq120 dd120_31 rfl
theorem dd120_32 : decode cX11_arcade 32 = .ok (.getfield 12, 3) := by decide +kernel
theorem ww120_32 {d : Nat} {l0 l1 : Option mw_V} {st : List mw_V} {σ : mw_S} {Q : Option mw_V → mw_S → Prop} : mw_WP d 120 32 [l0, l1] (jR 0 :: st) σ Q ↔ mw_WP d 120 35 [l0, l1] (jR 1 :: st) σ Q := WP_getR (ci := 10) (k := 0) mq120 dd120_32 (by decide) rfl
theorem dd120_35 : decode cX11_arcade 35 = .ok (.getfield 109, 3) := by decide +kernel
theorem ww120_35 {d : Nat} {l0 l1 : Option mw_V} {st : List mw_V} {σ : mw_S} {Q : Option mw_V → mw_S → Prop} : mw_WP d 120 35 [l0, l1] (jR 1 :: st) σ Q ↔ mw_WP d 120 38 [l0, l1] (jI (σ 1 3) :: st) σ Q := WP_getI (ci := 6) (k := 3) mq120 dd120_35 (by decide) (Or.inl rfl)
theorem dd120_38 : decode cX11_arcade 38 = .ok (.isub, 1) := by decide +kernel
theorem ww120_38 {d : Nat} {l0 l1 : Option mw_V} {x y : Int} {st : List mw_V} {σ : mw_S} {Q : Option mw_V → mw_S → Prop} : mw_WP d 120 38 [l0, l1] (jI y :: jI x :: st) σ Q ↔ mw_WP d 120 39 [l0, l1] (jI (w32 (x - y)) :: st) σ Q := WP_isub mq120 dd120_38
theorem dd120_39 : decode cX11_arcade 39 = .ok (.ireturn, 1) := by decide +kernel
theorem ww120_39 {d : Nat} {l0 l1 : Option mw_V} {z : Int} {σ : mw_S} {Q : Option mw_V → mw_S → Prop} : mw_WP d 120 39 [l0, l1] [jI z] σ Q ↔ Q (some (jI z)) σ := WP_ireturn (ty := .int) mq120 dd120_39 rfl rfl
theorem dd120_40 : decode cX11_arcade 40 = .ok (.aload_n 0, 1) := by decide +kernel
theorem ww120_40 {d : Nat} {l1 : Option mw_V} {x : Nat} {st : List mw_V} {σ : mw_S} {Q : Option mw_V → mw_S → Prop} : mw_WP d 120 40 [some (jR x), l1] st σ Q ↔ mw_WP d 120 41 [some (jR x), l1] (jR x :: st) σ Q := WP_aload_n mq120 dd120_40 rfl
theorem dd120_41 : decode cX11_arcade 41 = .ok (.getfield 19, 3) := by decide +kernel
theorem ww120_41 {d : Nat} {l0 l1 : Option mw_V} {st : List mw_V} {σ : mw_S} {Q : Option mw_V → mw_S → Prop} : mw_WP d 120 41 [l0, l1] (jR 0 :: st) σ Q ↔ mw_WP d 120 44 [l0, l1] (jR 13 :: st) σ Q := WP_getR (ci := 10) (k := 1) mq120 dd120_41 (by decide) rfl
theorem dd120_44 : decode cX11_arcade 44 = .ok (.aload_n 0, 1) := by decide +kernel
theorem ww120_44 {d : Nat} {l1 : Option mw_V} {x : Nat} {st : List mw_V} {σ : mw_S} {Q : Option mw_V → mw_S → Prop} : mw_WP d 120 44 [some (jR x), l1] st σ Q ↔ mw_WP d 120 45 [some (jR x), l1] (jR x :: st) σ Q := WP_aload_n mq120 dd120_44 rfl
theorem dd120_45 : decode cX11_arcade 45 = .ok (.getfield 12, 3) := by decide +kernel
theorem ww120_45 {d : Nat} {l0 l1 : Option mw_V} {st : List mw_V} {σ : mw_S} {Q : Option mw_V → mw_S → Prop} : mw_WP d 120 45 [l0, l1] (jR 0 :: st) σ Q ↔ mw_WP d 120 48 [l0, l1] (jR 1 :: st) σ Q := WP_getR (ci := 10) (k := 0) mq120 dd120_45 (by decide) rfl
theorem dd120_48 : decode cX11_arcade 48 = .ok (.getfield 112, 3) := by decide +kernel
theorem ww120_48 {d : Nat} {l0 l1 : Option mw_V} {st : List mw_V} {σ : mw_S} {Q : Option mw_V → mw_S → Prop} : mw_WP d 120 48 [l0, l1] (jR 1 :: st) σ Q ↔ mw_WP d 120 51 [l0, l1] (jR 3 :: st) σ Q := WP_getR (ci := 6) (k := 1) mq120 dd120_48 (by decide) rfl
theorem dd120_51 : decode cX11_arcade 51 = .ok (.invokevirtual 115, 3) := by decide +kernel
theorem ww120_51 {d : Nat} {l0 l1 : Option mw_V} {v0 : mw_V} {a : Nat} {st : List mw_V} {σ : mw_S} {Q : Option mw_V → mw_S → Prop} (hr : mw_rc a = 1) (h8 : (st.map mw_cat).sum ≤ 8) : mw_WP d 120 51 [l0, l1] (v0 :: jR a :: st) σ Q ↔ mw_Call d 1 [jR a, v0] σ (fun r1 s1 => mw_WP d 120 54 [l0, l1] (r1.toList ++ st) s1 Q) := WP_inv (as := [v0]) mq120 dd120_51 (by decide) mq1 rfl hr h8
theorem dd120_54 : decode cX11_arcade 54 = .ok (.aload_n 0, 1) := by decide +kernel
theorem ww120_54 {d : Nat} {l1 : Option mw_V} {x : Nat} {st : List mw_V} {σ : mw_S} {Q : Option mw_V → mw_S → Prop} : mw_WP d 120 54 [some (jR x), l1] st σ Q ↔ mw_WP d 120 55 [some (jR x), l1] (jR x :: st) σ Q := WP_aload_n mq120 dd120_54 rfl
theorem dd120_55 : decode cX11_arcade 55 = .ok (.getfield 19, 3) := by decide +kernel
theorem ww120_55 {d : Nat} {l0 l1 : Option mw_V} {st : List mw_V} {σ : mw_S} {Q : Option mw_V → mw_S → Prop} : mw_WP d 120 55 [l0, l1] (jR 0 :: st) σ Q ↔ mw_WP d 120 58 [l0, l1] (jR 13 :: st) σ Q := WP_getR (ci := 10) (k := 1) mq120 dd120_55 (by decide) rfl
theorem dd120_58 : decode cX11_arcade 58 = .ok (.aload_n 0, 1) := by decide +kernel
theorem ww120_58 {d : Nat} {l1 : Option mw_V} {x : Nat} {st : List mw_V} {σ : mw_S} {Q : Option mw_V → mw_S → Prop} : mw_WP d 120 58 [some (jR x), l1] st σ Q ↔ mw_WP d 120 59 [some (jR x), l1] (jR x :: st) σ Q := WP_aload_n mq120 dd120_58 rfl
theorem dd120_59 : decode cX11_arcade 59 = .ok (.getfield 86, 3) := by decide +kernel
theorem ww120_59 {d : Nat} {l0 l1 : Option mw_V} {st : List mw_V} {σ : mw_S} {Q : Option mw_V → mw_S → Prop} : mw_WP d 120 59 [l0, l1] (jR 0 :: st) σ Q ↔ mw_WP d 120 62 [l0, l1] (jR 98 :: st) σ Q := WP_getR (ci := 10) (k := 11) mq120 dd120_59 (by decide) rfl
theorem dd120_62 : decode cX11_arcade 62 = .ok (.invokevirtual 118, 3) := by decide +kernel
theorem ww120_62 {d : Nat} {l0 l1 : Option mw_V} {v0 : mw_V} {a : Nat} {st : List mw_V} {σ : mw_S} {Q : Option mw_V → mw_S → Prop} (hr : mw_rc a = 1) (h8 : (st.map mw_cat).sum ≤ 8) : mw_WP d 120 62 [l0, l1] (v0 :: jR a :: st) σ Q ↔ mw_Call d 2 [jR a, v0] σ (fun r1 s1 => mw_WP d 120 65 [l0, l1] (r1.toList ++ st) s1 Q) := WP_inv (as := [v0]) mq120 dd120_62 (by decide) mq2 rfl hr h8
theorem dd120_65 : decode cX11_arcade 65 = .ok (.aload_n 0, 1) := by decide +kernel
theorem ww120_65 {d : Nat} {l1 : Option mw_V} {x : Nat} {st : List mw_V} {σ : mw_S} {Q : Option mw_V → mw_S → Prop} : mw_WP d 120 65 [some (jR x), l1] st σ Q ↔ mw_WP d 120 66 [some (jR x), l1] (jR x :: st) σ Q := WP_aload_n mq120 dd120_65 rfl
theorem dd120_66 : decode cX11_arcade 66 = .ok (.getfield 35, 3) := by decide +kernel
theorem ww120_66 {d : Nat} {l0 l1 : Option mw_V} {st : List mw_V} {σ : mw_S} {Q : Option mw_V → mw_S → Prop} : mw_WP d 120 66 [l0, l1] (jR 0 :: st) σ Q ↔ mw_WP d 120 69 [l0, l1] (jR 25 :: st) σ Q := WP_getR (ci := 10) (k := 3) mq120 dd120_66 (by decide) rfl
theorem dd120_69 : decode cX11_arcade 69 = .ok (.invokevirtual 122, 3) := by decide +kernel
theorem ww120_69 {d : Nat} {l0 l1 : Option mw_V} {a : Nat} {st : List mw_V} {σ : mw_S} {Q : Option mw_V → mw_S → Prop} (hr : mw_rc a = 6) (h8 : (st.map mw_cat).sum ≤ 8) : mw_WP d 120 69 [l0, l1] (jR a :: st) σ Q ↔ mw_Call d 40 [jR a] σ (fun r1 s1 => mw_WP d 120 72 [l0, l1] (r1.toList ++ st) s1 Q) := WP_inv (as := []) mq120 dd120_69 (by decide) mq40 rfl hr h8
theorem dd120_72 : decode cX11_arcade 72 = .ok (.aload_n 0, 1) := by decide +kernel
theorem ww120_72 {d : Nat} {l1 : Option mw_V} {x : Nat} {st : List mw_V} {σ : mw_S} {Q : Option mw_V → mw_S → Prop} : mw_WP d 120 72 [some (jR x), l1] st σ Q ↔ mw_WP d 120 73 [some (jR x), l1] (jR x :: st) σ Q := WP_aload_n mq120 dd120_72 rfl
theorem dd120_73 : decode cX11_arcade 73 = .ok (.getfield 19, 3) := by decide +kernel
theorem ww120_73 {d : Nat} {l0 l1 : Option mw_V} {st : List mw_V} {σ : mw_S} {Q : Option mw_V → mw_S → Prop} : mw_WP d 120 73 [l0, l1] (jR 0 :: st) σ Q ↔ mw_WP d 120 76 [l0, l1] (jR 13 :: st) σ Q := WP_getR (ci := 10) (k := 1) mq120 dd120_73 (by decide) rfl
theorem dd120_76 : decode cX11_arcade 76 = .ok (.getfield 125, 3) := by decide +kernel
theorem ww120_76i3 {d : Nat} {l0 l1 : Option mw_V} {st : List mw_V} {σ : mw_S} {Q : Option mw_V → mw_S → Prop} : mw_WP d 120 76 [l0, l1] (jR 3 :: st) σ Q ↔ mw_WP d 120 79 [l0, l1] (jI (σ 3 5) :: st) σ Q := WP_getI (ci := 0) (k := 5) mq120 dd120_76 (by decide) (Or.inl rfl)
theorem ww120_76i13 {d : Nat} {l0 l1 : Option mw_V} {st : List mw_V} {σ : mw_S} {Q : Option mw_V → mw_S → Prop} : mw_WP d 120 76 [l0, l1] (jR 13 :: st) σ Q ↔ mw_WP d 120 79 [l0, l1] (jI (σ 13 5) :: st) σ Q := WP_getI (ci := 0) (k := 5) mq120 dd120_76 (by decide) (Or.inl rfl)
theorem ww120_76i77 {d : Nat} {l0 l1 : Option mw_V} {st : List mw_V} {σ : mw_S} {Q : Option mw_V → mw_S → Prop} : mw_WP d 120 76 [l0, l1] (jR 77 :: st) σ Q ↔ mw_WP d 120 79 [l0, l1] (jI (σ 77 5) :: st) σ Q := WP_getI (ci := 0) (k := 5) mq120 dd120_76 (by decide) (Or.inl rfl)
theorem ww120_76i88 {d : Nat} {l0 l1 : Option mw_V} {st : List mw_V} {σ : mw_S} {Q : Option mw_V → mw_S → Prop} : mw_WP d 120 76 [l0, l1] (jR 88 :: st) σ Q ↔ mw_WP d 120 79 [l0, l1] (jI (σ 88 5) :: st) σ Q := WP_getI (ci := 0) (k := 5) mq120 dd120_76 (by decide) (Or.inl rfl)
theorem dd120_79 : decode cX11_arcade 79 = .ok (.ireturn, 1) := by decide +kernel
theorem ww120_79 {d : Nat} {l0 l1 : Option mw_V} {z : Int} {σ : mw_S} {Q : Option mw_V → mw_S → Prop} : mw_WP d 120 79 [l0, l1] [jI z] σ Q ↔ Q (some (jI z)) σ := WP_ireturn (ty := .int) mq120 dd120_79 rfl rfl
theorem ee121 {d : Nat} {a : Nat} {z0 : Int} {σ : mw_S} {Q : Option mw_V → mw_S → Prop} : mw_Call (d + 1) 121 [jR a, jI z0] σ Q ↔ mw_WP d 121 0 [some (jR a), some (jI z0)] [] σ Q := CL_u mq121 (Nat.le_of_ble_eq_true rfl) rfl
theorem dd121_0 : decode cX11_fault 0 = .ok (.iload_n 1, 1) := by decide +kernel
theorem ww121_0 {d : Nat} {l0 : Option mw_V} {x : Int} {st : List mw_V} {σ : mw_S} {Q : Option mw_V → mw_S → Prop} : mw_WP d 121 0 [l0, some (jI x)] st σ Q ↔ mw_WP d 121 1 [l0, some (jI x)] (jI x :: st) σ Q := WP_iload_n mq121 dd121_0 rfl
theorem dd121_1 : decode cX11_fault 1 = .ok (.lookupswitch 43 #[(0, 27), (1, 35)], 27) := by decide +kernel
theorem ww121_1k0 {d : Nat} {l0 l1 : Option mw_V} {st : List mw_V} {σ : mw_S} {Q : Option mw_V → mw_S → Prop} : mw_WP d 121 1 [l0, l1] (jI (0) :: st) σ Q ↔ mw_WP d 121 28 [l0, l1] st σ Q := WP_k mq121 dd121_1 rfl (fun _ _ => by simp [mw_stp, mw_b1, mw_go, Op.lookupswitch.offset])
theorem ww121_1k1 {d : Nat} {l0 l1 : Option mw_V} {st : List mw_V} {σ : mw_S} {Q : Option mw_V → mw_S → Prop} : mw_WP d 121 1 [l0, l1] (jI (1) :: st) σ Q ↔ mw_WP d 121 36 [l0, l1] st σ Q := WP_k mq121 dd121_1 rfl (fun _ _ => by simp [mw_stp, mw_b1, mw_go, Op.lookupswitch.offset])
theorem ww121_1kd {d : Nat} {l0 l1 : Option mw_V} {x : Int} {st : List mw_V} {σ : mw_S} {Q : Option mw_V → mw_S → Prop} (h : ¬ (0 : Int) = x ∧ ¬ (1 : Int) = x) : mw_WP d 121 1 [l0, l1] (jI x :: st) σ Q ↔ mw_WP d 121 44 [l0, l1] st σ Q := WP_k mq121 dd121_1 rfl (fun _ _ => by simp [mw_stp, mw_b1, mw_go, Op.lookupswitch.offset, h])
theorem dd121_28 : decode cX11_fault 28 = .ok (.aload_n 0, 1) := by decide +kernel
theorem ww121_28 {d : Nat} {l1 : Option mw_V} {x : Nat} {st : List mw_V} {σ : mw_S} {Q : Option mw_V → mw_S → Prop} : mw_WP d 121 28 [some (jR x), l1] st σ Q ↔ mw_WP d 121 29 [some (jR x), l1] (jR x :: st) σ Q := WP_aload_n mq121 dd121_28 rfl
theorem dd121_29 : decode cX11_fault 29 = .ok (.getfield 12, 3) := by decide +kernel
theorem ww121_29 {d : Nat} {l0 l1 : Option mw_V} {st : List mw_V} {σ : mw_S} {Q : Option mw_V → mw_S → Prop} : mw_WP d 121 29 [l0, l1] (jR 0 :: st) σ Q ↔ mw_WP d 121 32 [l0, l1] (jR 1 :: st) σ Q := WP_getR (ci := 10) (k := 0) mq121 dd121_29 (by decide) rfl
theorem dd121_32 : decode cX11_fault 32 = .ok (.getfield 109, 3) := by decide +kernel
theorem ww121_32 {d : Nat} {l0 l1 : Option mw_V} {st : List mw_V} {σ : mw_S} {Q : Option mw_V → mw_S → Prop} : mw_WP d 121 32 [l0, l1] (jR 1 :: st) σ Q ↔ mw_WP d 121 35 [l0, l1] (jI (σ 1 3) :: st) σ Q := WP_getI (ci := 6) (k := 3) mq121 dd121_32 (by decide) (Or.inl rfl)
theorem dd121_35 : decode cX11_fault 35 = .ok (.ireturn, 1) := by decide +kernel
theorem ww121_35 {d : Nat} {l0 l1 : Option mw_V} {z : Int} {σ : mw_S} {Q : Option mw_V → mw_S → Prop} : mw_WP d 121 35 [l0, l1] [jI z] σ Q ↔ Q (some (jI z)) σ := WP_ireturn (ty := .int) mq121 dd121_35 rfl rfl
theorem dd121_36 : decode cX11_fault 36 = .ok (.aload_n 0, 1) := by decide +kernel
theorem ww121_36 {d : Nat} {l1 : Option mw_V} {x : Nat} {st : List mw_V} {σ : mw_S} {Q : Option mw_V → mw_S → Prop} : mw_WP d 121 36 [some (jR x), l1] st σ Q ↔ mw_WP d 121 37 [some (jR x), l1] (jR x :: st) σ Q := WP_aload_n mq121 dd121_36 rfl
theorem dd121_37 : decode cX11_fault 37 = .ok (.getfield 12, 3) := by decide +kernel
theorem ww121_37 {d : Nat} {l0 l1 : Option mw_V} {st : List mw_V} {σ : mw_S} {Q : Option mw_V → mw_S → Prop} : mw_WP d 121 37 [l0, l1] (jR 0 :: st) σ Q ↔ mw_WP d 121 40 [l0, l1] (jR 1 :: st) σ Q := WP_getR (ci := 10) (k := 0) mq121 dd121_37 (by decide) rfl
theorem dd121_40 : decode cX11_fault 40 = .ok (.getfield 128, 3) := by decide +kernel
theorem ww121_40 {d : Nat} {l0 l1 : Option mw_V} {st : List mw_V} {σ : mw_S} {Q : Option mw_V → mw_S → Prop} : mw_WP d 121 40 [l0, l1] (jR 1 :: st) σ Q ↔ mw_WP d 121 43 [l0, l1] (jI (σ 1 4) :: st) σ Q := WP_getI (ci := 6) (k := 4) mq121 dd121_40 (by decide) (Or.inl rfl)
theorem dd121_43 : decode cX11_fault 43 = .ok (.ireturn, 1) := by decide +kernel
theorem ww121_43 {d : Nat} {l0 l1 : Option mw_V} {z : Int} {σ : mw_S} {Q : Option mw_V → mw_S → Prop} : mw_WP d 121 43 [l0, l1] [jI z] σ Q ↔ Q (some (jI z)) σ := WP_ireturn (ty := .int) mq121 dd121_43 rfl rfl
theorem dd121_44 : decode cX11_fault 44 = .ok (.iconst (-1), 1) := by decide +kernel
theorem ww121_44 {d : Nat} {l0 l1 : Option mw_V} {st : List mw_V} {σ : mw_S} {Q : Option mw_V → mw_S → Prop} : mw_WP d 121 44 [l0, l1] st σ Q ↔ mw_WP d 121 45 [l0, l1] (jI (-1) :: st) σ Q := WP_iconst mq121 dd121_44 (by decide)
theorem dd121_45 : decode cX11_fault 45 = .ok (.ireturn, 1) := by decide +kernel
theorem ww121_45 {d : Nat} {l0 l1 : Option mw_V} {z : Int} {σ : mw_S} {Q : Option mw_V → mw_S → Prop} : mw_WP d 121 45 [l0, l1] [jI z] σ Q ↔ Q (some (jI z)) σ := WP_ireturn (ty := .int) mq121 dd121_45 rfl rfl
theorem ee122 {d : Nat} {a : Nat} {z0 : Int} {z1 : Int} {σ : mw_S} {Q : Option mw_V → mw_S → Prop} : mw_Call (d + 1) 122 [jR a, jI z0, jI z1] σ Q ↔ mw_WP d 122 0 [some (jR a), some (jI z0), some (jI z1)] [] σ Q := CL_u mq122 (Nat.le_of_ble_eq_true rfl) rfl
theorem dd122_0 : decode cX11_person 0 = .ok (.aload_n 0, 1) := by decide +kernel
theorem ww122_0 {d : Nat} {l1 l2 : Option mw_V} {x : Nat} {st : List mw_V} {σ : mw_S} {Q : Option mw_V → mw_S → Prop} : mw_WP d 122 0 [some (jR x), l1, l2] st σ Q ↔ mw_WP d 122 1 [some (jR x), l1, l2] (jR x :: st) σ Q := WP_aload_n mq122 dd122_0 rfl
theorem dd122_1 : decode cX11_person 1 = .ok (.iload_n 1, 1) := by decide +kernel
theorem ww122_1 {d : Nat} {l0 l2 : Option mw_V} {x : Int} {st : List mw_V} {σ : mw_S} {Q : Option mw_V → mw_S → Prop} : mw_WP d 122 1 [l0, some (jI x), l2] st σ Q ↔ mw_WP d 122 2 [l0, some (jI x), l2] (jI x :: st) σ Q := WP_iload_n mq122 dd122_1 rfl
theorem dd122_2 : decode cX11_person 2 = .ok (.invokevirtual 131, 3) := by decide +kernel
theorem ww122_2 {d : Nat} {l0 l1 l2 : Option mw_V} {v0 : mw_V} {a : Nat} {st : List mw_V} {σ : mw_S} {Q : Option mw_V → mw_S → Prop} (hr : mw_rc a = 11) (h8 : (st.map mw_cat).sum ≤ 8) : mw_WP d 122 2 [l0, l1, l2] (v0 :: jR a :: st) σ Q ↔ mw_Call d 157 [jR a, v0] σ (fun r1 s1 => mw_WP d 122 5 [l0, l1, l2] (r1.toList ++ st) s1 Q) := WP_inv (as := [v0]) mq122 dd122_2 (by decide) mq157 rfl hr h8
theorem dd122_5 : decode cX11_person 5 = .ok (.ifCond .ne 6, 3) := by decide +kernel
theorem ww122_5 {d : Nat} {l0 l1 l2 : Option mw_V} {x : Int} {st : List mw_V} {σ : mw_S} {Q : Option mw_V → mw_S → Prop} : mw_WP d 122 5 [l0, l1, l2] (jI x :: st) σ Q ↔ (if ¬ x = 0 then mw_WP d 122 11 [l0, l1, l2] st σ Q else mw_WP d 122 8 [l0, l1, l2] st σ Q) := WP_if_ne mq122 dd122_5 (by decide)
theorem dd122_8 : decode cX11_person 8 = .ok (.bipush (-2), 2) := by decide +kernel
theorem ww122_8 {d : Nat} {l0 l1 l2 : Option mw_V} {st : List mw_V} {σ : mw_S} {Q : Option mw_V → mw_S → Prop} : mw_WP d 122 8 [l0, l1, l2] st σ Q ↔ mw_WP d 122 10 [l0, l1, l2] (jI (-2) :: st) σ Q := WP_bipush mq122 dd122_8 (by decide)
theorem dd122_10 : decode cX11_person 10 = .ok (.ireturn, 1) := by decide +kernel
theorem ww122_10 {d : Nat} {l0 l1 l2 : Option mw_V} {z : Int} {σ : mw_S} {Q : Option mw_V → mw_S → Prop} : mw_WP d 122 10 [l0, l1, l2] [jI z] σ Q ↔ Q (some (jI z)) σ := WP_ireturn (ty := .int) mq122 dd122_10 rfl rfl
theorem dd122_11 : decode cX11_person 11 = .ok (.iload_n 2, 1) := by decide +kernel
theorem ww122_11 {d : Nat} {l0 l1 : Option mw_V} {x : Int} {st : List mw_V} {σ : mw_S} {Q : Option mw_V → mw_S → Prop} : mw_WP d 122 11 [l0, l1, some (jI x)] st σ Q ↔ mw_WP d 122 12 [l0, l1, some (jI x)] (jI x :: st) σ Q := WP_iload_n mq122 dd122_11 rfl
theorem dd122_12 : decode cX11_person 12 = .ok (.tableswitch 138 0 5 #[40, 49, 59, 80, 101, 128], 40) := by decide +kernel
theorem ww122_12k0 {d : Nat} {l0 l1 l2 : Option mw_V} {st : List mw_V} {σ : mw_S} {Q : Option mw_V → mw_S → Prop} : mw_WP d 122 12 [l0, l1, l2] (jI (0) :: st) σ Q ↔ mw_WP d 122 52 [l0, l1, l2] st σ Q := WP_k mq122 dd122_12 rfl (fun _ _ => by simp [mw_stp, mw_b1, mw_go])
theorem ww122_12k1 {d : Nat} {l0 l1 l2 : Option mw_V} {st : List mw_V} {σ : mw_S} {Q : Option mw_V → mw_S → Prop} : mw_WP d 122 12 [l0, l1, l2] (jI (1) :: st) σ Q ↔ mw_WP d 122 61 [l0, l1, l2] st σ Q := WP_k mq122 dd122_12 rfl (fun _ _ => by simp [mw_stp, mw_b1, mw_go])
theorem ww122_12k2 {d : Nat} {l0 l1 l2 : Option mw_V} {st : List mw_V} {σ : mw_S} {Q : Option mw_V → mw_S → Prop} : mw_WP d 122 12 [l0, l1, l2] (jI (2) :: st) σ Q ↔ mw_WP d 122 71 [l0, l1, l2] st σ Q := WP_k mq122 dd122_12 rfl (fun _ _ => by simp [mw_stp, mw_b1, mw_go])
theorem ww122_12k3 {d : Nat} {l0 l1 l2 : Option mw_V} {st : List mw_V} {σ : mw_S} {Q : Option mw_V → mw_S → Prop} : mw_WP d 122 12 [l0, l1, l2] (jI (3) :: st) σ Q ↔ mw_WP d 122 92 [l0, l1, l2] st σ Q := WP_k mq122 dd122_12 rfl (fun _ _ => by simp [mw_stp, mw_b1, mw_go])
theorem ww122_12k4 {d : Nat} {l0 l1 l2 : Option mw_V} {st : List mw_V} {σ : mw_S} {Q : Option mw_V → mw_S → Prop} : mw_WP d 122 12 [l0, l1, l2] (jI (4) :: st) σ Q ↔ mw_WP d 122 113 [l0, l1, l2] st σ Q := WP_k mq122 dd122_12 rfl (fun _ _ => by simp [mw_stp, mw_b1, mw_go])
theorem ww122_12k5 {d : Nat} {l0 l1 l2 : Option mw_V} {st : List mw_V} {σ : mw_S} {Q : Option mw_V → mw_S → Prop} : mw_WP d 122 12 [l0, l1, l2] (jI (5) :: st) σ Q ↔ mw_WP d 122 140 [l0, l1, l2] st σ Q := WP_k mq122 dd122_12 rfl (fun _ _ => by simp [mw_stp, mw_b1, mw_go])
theorem ww122_12kd {d : Nat} {l0 l1 l2 : Option mw_V} {x : Int} {st : List mw_V} {σ : mw_S} {Q : Option mw_V → mw_S → Prop} (h : x < 0 ∨ 5 < x) : mw_WP d 122 12 [l0, l1, l2] (jI x :: st) σ Q ↔ mw_WP d 122 150 [l0, l1, l2] st σ Q := WP_k mq122 dd122_12 rfl (fun _ _ => by simp [mw_stp, mw_b1, mw_go, h])
theorem dd122_52 : decode cX11_person 52 = .ok (.aload_n 0, 1) := by decide +kernel
theorem ww122_52 {d : Nat} {l1 l2 : Option mw_V} {x : Nat} {st : List mw_V} {σ : mw_S} {Q : Option mw_V → mw_S → Prop} : mw_WP d 122 52 [some (jR x), l1, l2] st σ Q ↔ mw_WP d 122 53 [some (jR x), l1, l2] (jR x :: st) σ Q := WP_aload_n mq122 dd122_52 rfl
theorem dd122_53 : decode cX11_person 53 = .ok (.getfield 86, 3) := by decide +kernel
theorem ww122_53 {d : Nat} {l0 l1 l2 : Option mw_V} {st : List mw_V} {σ : mw_S} {Q : Option mw_V → mw_S → Prop} : mw_WP d 122 53 [l0, l1, l2] (jR 0 :: st) σ Q ↔ mw_WP d 122 56 [l0, l1, l2] (jR 98 :: st) σ Q := WP_getR (ci := 10) (k := 11) mq122 dd122_53 (by decide) rfl
theorem dd122_56 : decode cX11_person 56 = .ok (.iconst 0, 1) := by decide +kernel
theorem ww122_56 {d : Nat} {l0 l1 l2 : Option mw_V} {st : List mw_V} {σ : mw_S} {Q : Option mw_V → mw_S → Prop} : mw_WP d 122 56 [l0, l1, l2] st σ Q ↔ mw_WP d 122 57 [l0, l1, l2] (jI (0) :: st) σ Q := WP_iconst mq122 dd122_56 (by decide)
theorem dd122_57 : decode cX11_person 57 = .ok (.iload_n 1, 1) := by decide +kernel
theorem ww122_57 {d : Nat} {l0 l2 : Option mw_V} {x : Int} {st : List mw_V} {σ : mw_S} {Q : Option mw_V → mw_S → Prop} : mw_WP d 122 57 [l0, some (jI x), l2] st σ Q ↔ mw_WP d 122 58 [l0, some (jI x), l2] (jI x :: st) σ Q := WP_iload_n mq122 dd122_57 rfl
theorem dd122_58 : decode cX11_person 58 = .ok (.iadd, 1) := by decide +kernel
theorem ww122_58 {d : Nat} {l0 l1 l2 : Option mw_V} {x y : Int} {st : List mw_V} {σ : mw_S} {Q : Option mw_V → mw_S → Prop} : mw_WP d 122 58 [l0, l1, l2] (jI y :: jI x :: st) σ Q ↔ mw_WP d 122 59 [l0, l1, l2] (jI (w32 (x + y)) :: st) σ Q := WP_iadd mq122 dd122_58
theorem dd122_59 : decode cX11_person 59 = .ok (.iaload, 1) := by decide +kernel
theorem ww122_59 {d : Nat} {l0 l1 l2 : Option mw_V} {z : Int} {a : Nat} {st : List mw_V} {σ : mw_S} {Q : Option mw_V → mw_S → Prop} : mw_WP d 122 59 [l0, l1, l2] (jI z :: jR a :: st) σ Q ↔ ((0 ≤ z ∧ z < mw_lenI a) ∧ mw_WP d 122 60 [l0, l1, l2] (jI (mw_rdI σ a z.toNat) :: st) σ Q) := WP_iaload mq122 dd122_59
theorem dd122_60 : decode cX11_person 60 = .ok (.ireturn, 1) := by decide +kernel
theorem ww122_60 {d : Nat} {l0 l1 l2 : Option mw_V} {z : Int} {σ : mw_S} {Q : Option mw_V → mw_S → Prop} : mw_WP d 122 60 [l0, l1, l2] [jI z] σ Q ↔ Q (some (jI z)) σ := WP_ireturn (ty := .int) mq122 dd122_60 rfl rfl
theorem dd122_61 : decode cX11_person 61 = .ok (.aload_n 0, 1) := by decide +kernel
theorem ww122_61 {d : Nat} {l1 l2 : Option mw_V} {x : Nat} {st : List mw_V} {σ : mw_S} {Q : Option mw_V → mw_S → Prop} : mw_WP d 122 61 [some (jR x), l1, l2] st σ Q ↔ mw_WP d 122 62 [some (jR x), l1, l2] (jR x :: st) σ Q := WP_aload_n mq122 dd122_61 rfl
theorem dd122_62 : decode cX11_person 62 = .ok (.getfield 19, 3) := by decide +kernel
theorem ww122_62 {d : Nat} {l0 l1 l2 : Option mw_V} {st : List mw_V} {σ : mw_S} {Q : Option mw_V → mw_S → Prop} : mw_WP d 122 62 [l0, l1, l2] (jR 0 :: st) σ Q ↔ mw_WP d 122 65 [l0, l1, l2] (jR 13 :: st) σ Q := WP_getR (ci := 10) (k := 1) mq122 dd122_62 (by decide) rfl
theorem dd122_65 : decode cX11_person 65 = .ok (.getfield 134, 3) := by decide +kernel
theorem ww122_65i3 {d : Nat} {l0 l1 l2 : Option mw_V} {st : List mw_V} {σ : mw_S} {Q : Option mw_V → mw_S → Prop} : mw_WP d 122 65 [l0, l1, l2] (jR 3 :: st) σ Q ↔ mw_WP d 122 68 [l0, l1, l2] (jR 5 :: st) σ Q := WP_getR (ci := 0) (k := 8) mq122 dd122_65 (by decide) rfl
theorem ww122_65i13 {d : Nat} {l0 l1 l2 : Option mw_V} {st : List mw_V} {σ : mw_S} {Q : Option mw_V → mw_S → Prop} : mw_WP d 122 65 [l0, l1, l2] (jR 13 :: st) σ Q ↔ mw_WP d 122 68 [l0, l1, l2] (jR 15 :: st) σ Q := WP_getR (ci := 0) (k := 8) mq122 dd122_65 (by decide) rfl
theorem ww122_65i77 {d : Nat} {l0 l1 l2 : Option mw_V} {st : List mw_V} {σ : mw_S} {Q : Option mw_V → mw_S → Prop} : mw_WP d 122 65 [l0, l1, l2] (jR 77 :: st) σ Q ↔ mw_WP d 122 68 [l0, l1, l2] (jR 79 :: st) σ Q := WP_getR (ci := 0) (k := 8) mq122 dd122_65 (by decide) rfl
theorem ww122_65i88 {d : Nat} {l0 l1 l2 : Option mw_V} {st : List mw_V} {σ : mw_S} {Q : Option mw_V → mw_S → Prop} : mw_WP d 122 65 [l0, l1, l2] (jR 88 :: st) σ Q ↔ mw_WP d 122 68 [l0, l1, l2] (jR 90 :: st) σ Q := WP_getR (ci := 0) (k := 8) mq122 dd122_65 (by decide) rfl
theorem dd122_68 : decode cX11_person 68 = .ok (.iload_n 1, 1) := by decide +kernel
theorem ww122_68 {d : Nat} {l0 l2 : Option mw_V} {x : Int} {st : List mw_V} {σ : mw_S} {Q : Option mw_V → mw_S → Prop} : mw_WP d 122 68 [l0, some (jI x), l2] st σ Q ↔ mw_WP d 122 69 [l0, some (jI x), l2] (jI x :: st) σ Q := WP_iload_n mq122 dd122_68 rfl
theorem dd122_69 : decode cX11_person 69 = .ok (.iaload, 1) := by decide +kernel
theorem ww122_69 {d : Nat} {l0 l1 l2 : Option mw_V} {z : Int} {a : Nat} {st : List mw_V} {σ : mw_S} {Q : Option mw_V → mw_S → Prop} : mw_WP d 122 69 [l0, l1, l2] (jI z :: jR a :: st) σ Q ↔ ((0 ≤ z ∧ z < mw_lenI a) ∧ mw_WP d 122 70 [l0, l1, l2] (jI (mw_rdI σ a z.toNat) :: st) σ Q) := WP_iaload mq122 dd122_69
theorem dd122_70 : decode cX11_person 70 = .ok (.ireturn, 1) := by decide +kernel
theorem ww122_70 {d : Nat} {l0 l1 l2 : Option mw_V} {z : Int} {σ : mw_S} {Q : Option mw_V → mw_S → Prop} : mw_WP d 122 70 [l0, l1, l2] [jI z] σ Q ↔ Q (some (jI z)) σ := WP_ireturn (ty := .int) mq122 dd122_70 rfl rfl
theorem dd122_71 : decode cX11_person 71 = .ok (.aload_n 0, 1) := by decide +kernel
theorem ww122_71 {d : Nat} {l1 l2 : Option mw_V} {x : Nat} {st : List mw_V} {σ : mw_S} {Q : Option mw_V → mw_S → Prop} : mw_WP d 122 71 [some (jR x), l1, l2] st σ Q ↔ mw_WP d 122 72 [some (jR x), l1, l2] (jR x :: st) σ Q := WP_aload_n mq122 dd122_71 rfl
theorem dd122_72 : decode cX11_person 72 = .ok (.getfield 28, 3) := by decide +kernel
theorem ww122_72 {d : Nat} {l0 l1 l2 : Option mw_V} {st : List mw_V} {σ : mw_S} {Q : Option mw_V → mw_S → Prop} : mw_WP d 122 72 [l0, l1, l2] (jR 0 :: st) σ Q ↔ mw_WP d 122 75 [l0, l1, l2] (jR 22 :: st) σ Q := WP_getR (ci := 10) (k := 2) mq122 dd122_72 (by decide) rfl
theorem dd122_75 : decode cX11_person 75 = .ok (.aload_n 0, 1) := by decide +kernel
theorem ww122_75 {d : Nat} {l1 l2 : Option mw_V} {x : Nat} {st : List mw_V} {σ : mw_S} {Q : Option mw_V → mw_S → Prop} : mw_WP d 122 75 [some (jR x), l1, l2] st σ Q ↔ mw_WP d 122 76 [some (jR x), l1, l2] (jR x :: st) σ Q := WP_aload_n mq122 dd122_75 rfl
theorem dd122_76 : decode cX11_person 76 = .ok (.getfield 86, 3) := by decide +kernel
theorem ww122_76 {d : Nat} {l0 l1 l2 : Option mw_V} {st : List mw_V} {σ : mw_S} {Q : Option mw_V → mw_S → Prop} : mw_WP d 122 76 [l0, l1, l2] (jR 0 :: st) σ Q ↔ mw_WP d 122 79 [l0, l1, l2] (jR 98 :: st) σ Q := WP_getR (ci := 10) (k := 11) mq122 dd122_76 (by decide) rfl
theorem dd122_79 : decode cX11_person 79 = .ok (.aload_n 0, 1) := by decide +kernel
theorem ww122_79 {d : Nat} {l1 l2 : Option mw_V} {x : Nat} {st : List mw_V} {σ : mw_S} {Q : Option mw_V → mw_S → Prop} : mw_WP d 122 79 [some (jR x), l1, l2] st σ Q ↔ mw_WP d 122 80 [some (jR x), l1, l2] (jR x :: st) σ Q := WP_aload_n mq122 dd122_79 rfl
theorem dd122_80 : decode cX11_person 80 = .ok (.getfield 28, 3) := by decide +kernel
theorem ww122_80 {d : Nat} {l0 l1 l2 : Option mw_V} {st : List mw_V} {σ : mw_S} {Q : Option mw_V → mw_S → Prop} : mw_WP d 122 80 [l0, l1, l2] (jR 0 :: st) σ Q ↔ mw_WP d 122 83 [l0, l1, l2] (jR 22 :: st) σ Q := WP_getR (ci := 10) (k := 2) mq122 dd122_80 (by decide) rfl
theorem dd122_83 : decode cX11_person 83 = .ok (.iload_n 1, 1) := by decide +kernel
theorem ww122_83 {d : Nat} {l0 l2 : Option mw_V} {x : Int} {st : List mw_V} {σ : mw_S} {Q : Option mw_V → mw_S → Prop} : mw_WP d 122 83 [l0, some (jI x), l2] st σ Q ↔ mw_WP d 122 84 [l0, some (jI x), l2] (jI x :: st) σ Q := WP_iload_n mq122 dd122_83 rfl
theorem dd122_84 : decode cX11_person 84 = .ok (.iconst 0, 1) := by decide +kernel
theorem ww122_84 {d : Nat} {l0 l1 l2 : Option mw_V} {st : List mw_V} {σ : mw_S} {Q : Option mw_V → mw_S → Prop} : mw_WP d 122 84 [l0, l1, l2] st σ Q ↔ mw_WP d 122 85 [l0, l1, l2] (jI (0) :: st) σ Q := WP_iconst mq122 dd122_84 (by decide)
theorem dd122_85 : decode cX11_person 85 = .ok (.invokevirtual 137, 3) := by decide +kernel
theorem ww122_85 {d : Nat} {l0 l1 l2 : Option mw_V} {v0 v1 : mw_V} {a : Nat} {st : List mw_V} {σ : mw_S} {Q : Option mw_V → mw_S → Prop} (hr : mw_rc a = 9) (h8 : (st.map mw_cat).sum ≤ 8) : mw_WP d 122 85 [l0, l1, l2] (v1 :: v0 :: jR a :: st) σ Q ↔ mw_Call d 96 [jR a, v0, v1] σ (fun r1 s1 => mw_WP d 122 88 [l0, l1, l2] (r1.toList ++ st) s1 Q) := WP_inv (as := [v1, v0]) mq122 dd122_85 (by decide) mq96 rfl hr h8
theorem dd122_88 : decode cX11_person 88 = .ok (.invokevirtual 141, 3) := by decide +kernel
theorem ww122_88 {d : Nat} {l0 l1 l2 : Option mw_V} {v0 v1 : mw_V} {a : Nat} {st : List mw_V} {σ : mw_S} {Q : Option mw_V → mw_S → Prop} (hr : mw_rc a = 9) (h8 : (st.map mw_cat).sum ≤ 8) : mw_WP d 122 88 [l0, l1, l2] (v1 :: v0 :: jR a :: st) σ Q ↔ mw_Call d 97 [jR a, v0, v1] σ (fun r1 s1 => mw_WP d 122 91 [l0, l1, l2] (r1.toList ++ st) s1 Q) := WP_inv (as := [v1, v0]) mq122 dd122_88 (by decide) mq97 rfl hr h8
theorem dd122_91 : decode cX11_person 91 = .ok (.ireturn, 1) := by decide +kernel
theorem ww122_91 {d : Nat} {l0 l1 l2 : Option mw_V} {z : Int} {σ : mw_S} {Q : Option mw_V → mw_S → Prop} : mw_WP d 122 91 [l0, l1, l2] [jI z] σ Q ↔ Q (some (jI z)) σ := WP_ireturn (ty := .int) mq122 dd122_91 rfl rfl
theorem dd122_92 : decode cX11_person 92 = .ok (.aload_n 0, 1) := by decide +kernel
theorem ww122_92 {d : Nat} {l1 l2 : Option mw_V} {x : Nat} {st : List mw_V} {σ : mw_S} {Q : Option mw_V → mw_S → Prop} : mw_WP d 122 92 [some (jR x), l1, l2] st σ Q ↔ mw_WP d 122 93 [some (jR x), l1, l2] (jR x :: st) σ Q := WP_aload_n mq122 dd122_92 rfl
theorem dd122_93 : decode cX11_person 93 = .ok (.getfield 28, 3) := by decide +kernel
theorem ww122_93 {d : Nat} {l0 l1 l2 : Option mw_V} {st : List mw_V} {σ : mw_S} {Q : Option mw_V → mw_S → Prop} : mw_WP d 122 93 [l0, l1, l2] (jR 0 :: st) σ Q ↔ mw_WP d 122 96 [l0, l1, l2] (jR 22 :: st) σ Q := WP_getR (ci := 10) (k := 2) mq122 dd122_93 (by decide) rfl
theorem dd122_96 : decode cX11_person 96 = .ok (.aload_n 0, 1) := by decide +kernel
theorem ww122_96 {d : Nat} {l1 l2 : Option mw_V} {x : Nat} {st : List mw_V} {σ : mw_S} {Q : Option mw_V → mw_S → Prop} : mw_WP d 122 96 [some (jR x), l1, l2] st σ Q ↔ mw_WP d 122 97 [some (jR x), l1, l2] (jR x :: st) σ Q := WP_aload_n mq122 dd122_96 rfl
theorem dd122_97 : decode cX11_person 97 = .ok (.getfield 86, 3) := by decide +kernel
theorem ww122_97 {d : Nat} {l0 l1 l2 : Option mw_V} {st : List mw_V} {σ : mw_S} {Q : Option mw_V → mw_S → Prop} : mw_WP d 122 97 [l0, l1, l2] (jR 0 :: st) σ Q ↔ mw_WP d 122 100 [l0, l1, l2] (jR 98 :: st) σ Q := WP_getR (ci := 10) (k := 11) mq122 dd122_97 (by decide) rfl
theorem dd122_100 : decode cX11_person 100 = .ok (.aload_n 0, 1) := by decide +kernel
theorem ww122_100 {d : Nat} {l1 l2 : Option mw_V} {x : Nat} {st : List mw_V} {σ : mw_S} {Q : Option mw_V → mw_S → Prop} : mw_WP d 122 100 [some (jR x), l1, l2] st σ Q ↔ mw_WP d 122 101 [some (jR x), l1, l2] (jR x :: st) σ Q := WP_aload_n mq122 dd122_100 rfl
theorem dd122_101 : decode cX11_person 101 = .ok (.getfield 28, 3) := by decide +kernel
theorem ww122_101 {d : Nat} {l0 l1 l2 : Option mw_V} {st : List mw_V} {σ : mw_S} {Q : Option mw_V → mw_S → Prop} : mw_WP d 122 101 [l0, l1, l2] (jR 0 :: st) σ Q ↔ mw_WP d 122 104 [l0, l1, l2] (jR 22 :: st) σ Q := WP_getR (ci := 10) (k := 2) mq122 dd122_101 (by decide) rfl
theorem dd122_104 : decode cX11_person 104 = .ok (.iload_n 1, 1) := by decide +kernel
theorem ww122_104 {d : Nat} {l0 l2 : Option mw_V} {x : Int} {st : List mw_V} {σ : mw_S} {Q : Option mw_V → mw_S → Prop} : mw_WP d 122 104 [l0, some (jI x), l2] st σ Q ↔ mw_WP d 122 105 [l0, some (jI x), l2] (jI x :: st) σ Q := WP_iload_n mq122 dd122_104 rfl
theorem dd122_105 : decode cX11_person 105 = .ok (.iconst 1, 1) := by decide +kernel
theorem ww122_105 {d : Nat} {l0 l1 l2 : Option mw_V} {st : List mw_V} {σ : mw_S} {Q : Option mw_V → mw_S → Prop} : mw_WP d 122 105 [l0, l1, l2] st σ Q ↔ mw_WP d 122 106 [l0, l1, l2] (jI (1) :: st) σ Q := WP_iconst mq122 dd122_105 (by decide)
theorem dd122_106 : decode cX11_person 106 = .ok (.invokevirtual 137, 3) := by decide +kernel
theorem ww122_106 {d : Nat} {l0 l1 l2 : Option mw_V} {v0 v1 : mw_V} {a : Nat} {st : List mw_V} {σ : mw_S} {Q : Option mw_V → mw_S → Prop} (hr : mw_rc a = 9) (h8 : (st.map mw_cat).sum ≤ 8) : mw_WP d 122 106 [l0, l1, l2] (v1 :: v0 :: jR a :: st) σ Q ↔ mw_Call d 96 [jR a, v0, v1] σ (fun r1 s1 => mw_WP d 122 109 [l0, l1, l2] (r1.toList ++ st) s1 Q) := WP_inv (as := [v1, v0]) mq122 dd122_106 (by decide) mq96 rfl hr h8
theorem dd122_109 : decode cX11_person 109 = .ok (.invokevirtual 141, 3) := by decide +kernel
theorem ww122_109 {d : Nat} {l0 l1 l2 : Option mw_V} {v0 v1 : mw_V} {a : Nat} {st : List mw_V} {σ : mw_S} {Q : Option mw_V → mw_S → Prop} (hr : mw_rc a = 9) (h8 : (st.map mw_cat).sum ≤ 8) : mw_WP d 122 109 [l0, l1, l2] (v1 :: v0 :: jR a :: st) σ Q ↔ mw_Call d 97 [jR a, v0, v1] σ (fun r1 s1 => mw_WP d 122 112 [l0, l1, l2] (r1.toList ++ st) s1 Q) := WP_inv (as := [v1, v0]) mq122 dd122_109 (by decide) mq97 rfl hr h8
theorem dd122_112 : decode cX11_person 112 = .ok (.ireturn, 1) := by decide +kernel
theorem ww122_112 {d : Nat} {l0 l1 l2 : Option mw_V} {z : Int} {σ : mw_S} {Q : Option mw_V → mw_S → Prop} : mw_WP d 122 112 [l0, l1, l2] [jI z] σ Q ↔ Q (some (jI z)) σ := WP_ireturn (ty := .int) mq122 dd122_112 rfl rfl
theorem dd122_113 : decode cX11_person 113 = .ok (.aload_n 0, 1) := by decide +kernel
theorem ww122_113 {d : Nat} {l1 l2 : Option mw_V} {x : Nat} {st : List mw_V} {σ : mw_S} {Q : Option mw_V → mw_S → Prop} : mw_WP d 122 113 [some (jR x), l1, l2] st σ Q ↔ mw_WP d 122 114 [some (jR x), l1, l2] (jR x :: st) σ Q := WP_aload_n mq122 dd122_113 rfl
theorem dd122_114 : decode cX11_person 114 = .ok (.getfield 86, 3) := by decide +kernel
theorem ww122_114 {d : Nat} {l0 l1 l2 : Option mw_V} {st : List mw_V} {σ : mw_S} {Q : Option mw_V → mw_S → Prop} : mw_WP d 122 114 [l0, l1, l2] (jR 0 :: st) σ Q ↔ mw_WP d 122 117 [l0, l1, l2] (jR 98 :: st) σ Q := WP_getR (ci := 10) (k := 11) mq122 dd122_114 (by decide) rfl
theorem dd122_117 : decode cX11_person 117 = .ok (.bipush 34, 2) := by decide +kernel
theorem ww122_117 {d : Nat} {l0 l1 l2 : Option mw_V} {st : List mw_V} {σ : mw_S} {Q : Option mw_V → mw_S → Prop} : mw_WP d 122 117 [l0, l1, l2] st σ Q ↔ mw_WP d 122 119 [l0, l1, l2] (jI (34) :: st) σ Q := WP_bipush mq122 dd122_117 (by decide)
theorem dd122_119 : decode cX11_person 119 = .ok (.iaload, 1) := by decide +kernel
theorem ww122_119 {d : Nat} {l0 l1 l2 : Option mw_V} {z : Int} {a : Nat} {st : List mw_V} {σ : mw_S} {Q : Option mw_V → mw_S → Prop} : mw_WP d 122 119 [l0, l1, l2] (jI z :: jR a :: st) σ Q ↔ ((0 ≤ z ∧ z < mw_lenI a) ∧ mw_WP d 122 120 [l0, l1, l2] (jI (mw_rdI σ a z.toNat) :: st) σ Q) := WP_iaload mq122 dd122_119
theorem dd122_120 : decode cX11_person 120 = .ok (.ifCond .ne 7, 3) := by decide +kernel
theorem ww122_120 {d : Nat} {l0 l1 l2 : Option mw_V} {x : Int} {st : List mw_V} {σ : mw_S} {Q : Option mw_V → mw_S → Prop} : mw_WP d 122 120 [l0, l1, l2] (jI x :: st) σ Q ↔ (if ¬ x = 0 then mw_WP d 122 127 [l0, l1, l2] st σ Q else mw_WP d 122 123 [l0, l1, l2] st σ Q) := WP_if_ne mq122 dd122_120 (by decide)
theorem dd122_123 : decode cX11_person 123 = .ok (.iconst (-1), 1) := by decide +kernel
theorem ww122_123 {d : Nat} {l0 l1 l2 : Option mw_V} {st : List mw_V} {σ : mw_S} {Q : Option mw_V → mw_S → Prop} : mw_WP d 122 123 [l0, l1, l2] st σ Q ↔ mw_WP d 122 124 [l0, l1, l2] (jI (-1) :: st) σ Q := WP_iconst mq122 dd122_123 (by decide)
theorem dd122_124 : decode cX11_person 124 = .ok (.goto 15, 3) := by decide +kernel
theorem ww122_124 {d : Nat} {l0 l1 l2 : Option mw_V} {st : List mw_V} {σ : mw_S} {Q : Option mw_V → mw_S → Prop} : mw_WP d 122 124 [l0, l1, l2] st σ Q ↔ mw_WP d 122 139 [l0, l1, l2] st σ Q := WP_goto mq122 dd122_124 (by decide)
theorem dd122_127 : decode cX11_person 127 = .ok (.aload_n 0, 1) := by decide +kernel
theorem ww122_127 {d : Nat} {l1 l2 : Option mw_V} {x : Nat} {st : List mw_V} {σ : mw_S} {Q : Option mw_V → mw_S → Prop} : mw_WP d 122 127 [some (jR x), l1, l2] st σ Q ↔ mw_WP d 122 128 [some (jR x), l1, l2] (jR x :: st) σ Q := WP_aload_n mq122 dd122_127 rfl
theorem dd122_128 : decode cX11_person 128 = .ok (.getfield 86, 3) := by decide +kernel
theorem ww122_128 {d : Nat} {l0 l1 l2 : Option mw_V} {st : List mw_V} {σ : mw_S} {Q : Option mw_V → mw_S → Prop} : mw_WP d 122 128 [l0, l1, l2] (jR 0 :: st) σ Q ↔ mw_WP d 122 131 [l0, l1, l2] (jR 98 :: st) σ Q := WP_getR (ci := 10) (k := 11) mq122 dd122_128 (by decide) rfl
theorem dd122_131 : decode cX11_person 131 = .ok (.bipush 13, 2) := by decide +kernel
theorem ww122_131 {d : Nat} {l0 l1 l2 : Option mw_V} {st : List mw_V} {σ : mw_S} {Q : Option mw_V → mw_S → Prop} : mw_WP d 122 131 [l0, l1, l2] st σ Q ↔ mw_WP d 122 133 [l0, l1, l2] (jI (13) :: st) σ Q := WP_bipush mq122 dd122_131 (by decide)
theorem dd122_133 : decode cX11_person 133 = .ok (.iload_n 1, 1) := by decide +kernel
theorem ww122_133 {d : Nat} {l0 l2 : Option mw_V} {x : Int} {st : List mw_V} {σ : mw_S} {Q : Option mw_V → mw_S → Prop} : mw_WP d 122 133 [l0, some (jI x), l2] st σ Q ↔ mw_WP d 122 134 [l0, some (jI x), l2] (jI x :: st) σ Q := WP_iload_n mq122 dd122_133 rfl
theorem dd122_134 : decode cX11_person 134 = .ok (.iadd, 1) := by decide +kernel
theorem ww122_134 {d : Nat} {l0 l1 l2 : Option mw_V} {x y : Int} {st : List mw_V} {σ : mw_S} {Q : Option mw_V → mw_S → Prop} : mw_WP d 122 134 [l0, l1, l2] (jI y :: jI x :: st) σ Q ↔ mw_WP d 122 135 [l0, l1, l2] (jI (w32 (x + y)) :: st) σ Q := WP_iadd mq122 dd122_134
theorem dd122_135 : decode cX11_person 135 = .ok (.iaload, 1) := by decide +kernel
theorem ww122_135 {d : Nat} {l0 l1 l2 : Option mw_V} {z : Int} {a : Nat} {st : List mw_V} {σ : mw_S} {Q : Option mw_V → mw_S → Prop} : mw_WP d 122 135 [l0, l1, l2] (jI z :: jR a :: st) σ Q ↔ ((0 ≤ z ∧ z < mw_lenI a) ∧ mw_WP d 122 136 [l0, l1, l2] (jI (mw_rdI σ a z.toNat) :: st) σ Q) := WP_iaload mq122 dd122_135
theorem dd122_136 : decode cX11_person 136 = .ok (.bipush 15, 2) := by decide +kernel
theorem ww122_136 {d : Nat} {l0 l1 l2 : Option mw_V} {st : List mw_V} {σ : mw_S} {Q : Option mw_V → mw_S → Prop} : mw_WP d 122 136 [l0, l1, l2] st σ Q ↔ mw_WP d 122 138 [l0, l1, l2] (jI (15) :: st) σ Q := WP_bipush mq122 dd122_136 (by decide)
theorem dd122_138 : decode cX11_person 138 = .ok (.iand, 1) := by decide +kernel
theorem ww122_138 {d : Nat} {l0 l1 l2 : Option mw_V} {x y : Int} {st : List mw_V} {σ : mw_S} {Q : Option mw_V → mw_S → Prop} : mw_WP d 122 138 [l0, l1, l2] (jI y :: jI x :: st) σ Q ↔ mw_WP d 122 139 [l0, l1, l2] (jI (zAnd x y) :: st) σ Q := WP_iand mq122 dd122_138
theorem dd122_139 : decode cX11_person 139 = .ok (.ireturn, 1) := by decide +kernel
theorem ww122_139 {d : Nat} {l0 l1 l2 : Option mw_V} {z : Int} {σ : mw_S} {Q : Option mw_V → mw_S → Prop} : mw_WP d 122 139 [l0, l1, l2] [jI z] σ Q ↔ Q (some (jI z)) σ := WP_ireturn (ty := .int) mq122 dd122_139 rfl rfl
theorem dd122_140 : decode cX11_person 140 = .ok (.aload_n 0, 1) := by decide +kernel
theorem ww122_140 {d : Nat} {l1 l2 : Option mw_V} {x : Nat} {st : List mw_V} {σ : mw_S} {Q : Option mw_V → mw_S → Prop} : mw_WP d 122 140 [some (jR x), l1, l2] st σ Q ↔ mw_WP d 122 141 [some (jR x), l1, l2] (jR x :: st) σ Q := WP_aload_n mq122 dd122_140 rfl
theorem dd122_141 : decode cX11_person 141 = .ok (.getfield 86, 3) := by decide +kernel
theorem ww122_141 {d : Nat} {l0 l1 l2 : Option mw_V} {st : List mw_V} {σ : mw_S} {Q : Option mw_V → mw_S → Prop} : mw_WP d 122 141 [l0, l1, l2] (jR 0 :: st) σ Q ↔ mw_WP d 122 144 [l0, l1, l2] (jR 98 :: st) σ Q := WP_getR (ci := 10) (k := 11) mq122 dd122_141 (by decide) rfl
theorem dd122_144 : decode cX11_person 144 = .ok (.bipush 19, 2) := by decide +kernel
theorem ww122_144 {d : Nat} {l0 l1 l2 : Option mw_V} {st : List mw_V} {σ : mw_S} {Q : Option mw_V → mw_S → Prop} : mw_WP d 122 144 [l0, l1, l2] st σ Q ↔ mw_WP d 122 146 [l0, l1, l2] (jI (19) :: st) σ Q := WP_bipush mq122 dd122_144 (by decide)
theorem dd122_146 : decode cX11_person 146 = .ok (.iload_n 1, 1) := by decide +kernel
theorem ww122_146 {d : Nat} {l0 l2 : Option mw_V} {x : Int} {st : List mw_V} {σ : mw_S} {Q : Option mw_V → mw_S → Prop} : mw_WP d 122 146 [l0, some (jI x), l2] st σ Q ↔ mw_WP d 122 147 [l0, some (jI x), l2] (jI x :: st) σ Q := WP_iload_n mq122 dd122_146 rfl
theorem dd122_147 : decode cX11_person 147 = .ok (.iadd, 1) := by decide +kernel
theorem ww122_147 {d : Nat} {l0 l1 l2 : Option mw_V} {x y : Int} {st : List mw_V} {σ : mw_S} {Q : Option mw_V → mw_S → Prop} : mw_WP d 122 147 [l0, l1, l2] (jI y :: jI x :: st) σ Q ↔ mw_WP d 122 148 [l0, l1, l2] (jI (w32 (x + y)) :: st) σ Q := WP_iadd mq122 dd122_147
theorem dd122_148 : decode cX11_person 148 = .ok (.iaload, 1) := by decide +kernel
theorem ww122_148 {d : Nat} {l0 l1 l2 : Option mw_V} {z : Int} {a : Nat} {st : List mw_V} {σ : mw_S} {Q : Option mw_V → mw_S → Prop} : mw_WP d 122 148 [l0, l1, l2] (jI z :: jR a :: st) σ Q ↔ ((0 ≤ z ∧ z < mw_lenI a) ∧ mw_WP d 122 149 [l0, l1, l2] (jI (mw_rdI σ a z.toNat) :: st) σ Q) := WP_iaload mq122 dd122_148
theorem dd122_149 : decode cX11_person 149 = .ok (.ireturn, 1) := by decide +kernel
theorem ww122_149 {d : Nat} {l0 l1 l2 : Option mw_V} {z : Int} {σ : mw_S} {Q : Option mw_V → mw_S → Prop} : mw_WP d 122 149 [l0, l1, l2] [jI z] σ Q ↔ Q (some (jI z)) σ := WP_ireturn (ty := .int) mq122 dd122_149 rfl rfl
theorem dd122_150 : decode cX11_person 150 = .ok (.bipush (-2), 2) := by decide +kernel
theorem ww122_150 {d : Nat} {l0 l1 l2 : Option mw_V} {st : List mw_V} {σ : mw_S} {Q : Option mw_V → mw_S → Prop} : mw_WP d 122 150 [l0, l1, l2] st σ Q ↔ mw_WP d 122 152 [l0, l1, l2] (jI (-2) :: st) σ Q := WP_bipush mq122 dd122_150 (by decide)
theorem dd122_152 : decode cX11_person 152 = .ok (.ireturn, 1) := by decide +kernel
theorem ww122_152 {d : Nat} {l0 l1 l2 : Option mw_V} {z : Int} {σ : mw_S} {Q : Option mw_V → mw_S → Prop} : mw_WP d 122 152 [l0, l1, l2] [jI z] σ Q ↔ Q (some (jI z)) σ := WP_ireturn (ty := .int) mq122 dd122_152 rfl rfl
theorem ee123 {d : Nat} {a : Nat} {z0 : Int} {z1 : Int} {σ : mw_S} {Q : Option mw_V → mw_S → Prop} : mw_Call (d + 1) 123 [jR a, jI z0, jI z1] σ Q ↔ mw_WP d 123 0 [some (jR a), some (jI z0), some (jI z1), none] [] σ Q := CL_u mq123 (Nat.le_of_ble_eq_true rfl) rfl
theorem dd123_0 : decode cX11_copy 0 = .ok (.aload_n 0, 1) := by decide +kernel
theorem ww123_0 {d : Nat} {l1 l2 l3 : Option mw_V} {x : Nat} {st : List mw_V} {σ : mw_S} {Q : Option mw_V → mw_S → Prop} : mw_WP d 123 0 [some (jR x), l1, l2, l3] st σ Q ↔ mw_WP d 123 1 [some (jR x), l1, l2, l3] (jR x :: st) σ Q := WP_aload_n mq123 dd123_0 rfl
theorem dd123_1 : decode cX11_copy 1 = .ok (.iload_n 1, 1) := by decide +kernel
theorem ww123_1 {d : Nat} {l0 l2 l3 : Option mw_V} {x : Int} {st : List mw_V} {σ : mw_S} {Q : Option mw_V → mw_S → Prop} : mw_WP d 123 1 [l0, some (jI x), l2, l3] st σ Q ↔ mw_WP d 123 2 [l0, some (jI x), l2, l3] (jI x :: st) σ Q := WP_iload_n mq123 dd123_1 rfl
theorem dd123_2 : decode cX11_copy 2 = .ok (.invokevirtual 131, 3) := by decide +kernel
theorem ww123_2 {d : Nat} {l0 l1 l2 l3 : Option mw_V} {v0 : mw_V} {a : Nat} {st : List mw_V} {σ : mw_S} {Q : Option mw_V → mw_S → Prop} (hr : mw_rc a = 11) (h8 : (st.map mw_cat).sum ≤ 8) : mw_WP d 123 2 [l0, l1, l2, l3] (v0 :: jR a :: st) σ Q ↔ mw_Call d 157 [jR a, v0] σ (fun r1 s1 => mw_WP d 123 5 [l0, l1, l2, l3] (r1.toList ++ st) s1 Q) := WP_inv (as := [v0]) mq123 dd123_2 (by decide) mq157 rfl hr h8
theorem dd123_5 : decode cX11_copy 5 = .ok (.ifCond .ne 6, 3) := by decide +kernel
theorem ww123_5 {d : Nat} {l0 l1 l2 l3 : Option mw_V} {x : Int} {st : List mw_V} {σ : mw_S} {Q : Option mw_V → mw_S → Prop} : mw_WP d 123 5 [l0, l1, l2, l3] (jI x :: st) σ Q ↔ (if ¬ x = 0 then mw_WP d 123 11 [l0, l1, l2, l3] st σ Q else mw_WP d 123 8 [l0, l1, l2, l3] st σ Q) := WP_if_ne mq123 dd123_5 (by decide)
theorem dd123_8 : decode cX11_copy 8 = .ok (.bipush (-2), 2) := by decide +kernel
theorem ww123_8 {d : Nat} {l0 l1 l2 l3 : Option mw_V} {st : List mw_V} {σ : mw_S} {Q : Option mw_V → mw_S → Prop} : mw_WP d 123 8 [l0, l1, l2, l3] st σ Q ↔ mw_WP d 123 10 [l0, l1, l2, l3] (jI (-2) :: st) σ Q := WP_bipush mq123 dd123_8 (by decide)
theorem dd123_10 : decode cX11_copy 10 = .ok (.ireturn, 1) := by decide +kernel
theorem ww123_10 {d : Nat} {l0 l1 l2 l3 : Option mw_V} {z : Int} {σ : mw_S} {Q : Option mw_V → mw_S → Prop} : mw_WP d 123 10 [l0, l1, l2, l3] [jI z] σ Q ↔ Q (some (jI z)) σ := WP_ireturn (ty := .int) mq123 dd123_10 rfl rfl
theorem dd123_11 : decode cX11_copy 11 = .ok (.iconst 3, 1) := by decide +kernel
theorem ww123_11 {d : Nat} {l0 l1 l2 l3 : Option mw_V} {st : List mw_V} {σ : mw_S} {Q : Option mw_V → mw_S → Prop} : mw_WP d 123 11 [l0, l1, l2, l3] st σ Q ↔ mw_WP d 123 12 [l0, l1, l2, l3] (jI (3) :: st) σ Q := WP_iconst mq123 dd123_11 (by decide)
theorem dd123_12 : decode cX11_copy 12 = .ok (.iload_n 1, 1) := by decide +kernel
theorem ww123_12 {d : Nat} {l0 l2 l3 : Option mw_V} {x : Int} {st : List mw_V} {σ : mw_S} {Q : Option mw_V → mw_S → Prop} : mw_WP d 123 12 [l0, some (jI x), l2, l3] st σ Q ↔ mw_WP d 123 13 [l0, some (jI x), l2, l3] (jI x :: st) σ Q := WP_iload_n mq123 dd123_12 rfl
theorem dd123_13 : decode cX11_copy 13 = .ok (.iadd, 1) := by decide +kernel
theorem ww123_13 {d : Nat} {l0 l1 l2 l3 : Option mw_V} {x y : Int} {st : List mw_V} {σ : mw_S} {Q : Option mw_V → mw_S → Prop} : mw_WP d 123 13 [l0, l1, l2, l3] (jI y :: jI x :: st) σ Q ↔ mw_WP d 123 14 [l0, l1, l2, l3] (jI (w32 (x + y)) :: st) σ Q := WP_iadd mq123 dd123_13
theorem dd123_14 : decode cX11_copy 14 = .ok (.istore_n 3, 1) := by decide +kernel
theorem ww123_14 {d : Nat} {l0 l1 l2 l3 : Option mw_V} {x : Int} {st : List mw_V} {σ : mw_S} {Q : Option mw_V → mw_S → Prop} (h : mw_nlo l2 = true) : mw_WP d 123 14 [l0, l1, l2, l3] (jI x :: st) σ Q ↔ mw_WP d 123 15 [l0, l1, l2, some (jI x)] st σ Q := WP_istore_n mq123 dd123_14 (Nat.le_of_ble_eq_true rfl) (mw_nl_of (i := 2) rfl h) rfl
theorem dd123_15 : decode cX11_copy 15 = .ok (.iload_n 2, 1) := by decide +kernel
theorem ww123_15 {d : Nat} {l0 l1 l3 : Option mw_V} {x : Int} {st : List mw_V} {σ : mw_S} {Q : Option mw_V → mw_S → Prop} : mw_WP d 123 15 [l0, l1, some (jI x), l3] st σ Q ↔ mw_WP d 123 16 [l0, l1, some (jI x), l3] (jI x :: st) σ Q := WP_iload_n mq123 dd123_15 rfl
theorem dd123_16 : decode cX11_copy 16 = .ok (.tableswitch 135 0 5 #[40, 49, 59, 80, 101, 125], 40) := by decide +kernel
theorem ww123_16k0 {d : Nat} {l0 l1 l2 l3 : Option mw_V} {st : List mw_V} {σ : mw_S} {Q : Option mw_V → mw_S → Prop} : mw_WP d 123 16 [l0, l1, l2, l3] (jI (0) :: st) σ Q ↔ mw_WP d 123 56 [l0, l1, l2, l3] st σ Q := WP_k mq123 dd123_16 rfl (fun _ _ => by simp [mw_stp, mw_b1, mw_go])
theorem ww123_16k1 {d : Nat} {l0 l1 l2 l3 : Option mw_V} {st : List mw_V} {σ : mw_S} {Q : Option mw_V → mw_S → Prop} : mw_WP d 123 16 [l0, l1, l2, l3] (jI (1) :: st) σ Q ↔ mw_WP d 123 65 [l0, l1, l2, l3] st σ Q := WP_k mq123 dd123_16 rfl (fun _ _ => by simp [mw_stp, mw_b1, mw_go])
theorem ww123_16k2 {d : Nat} {l0 l1 l2 l3 : Option mw_V} {st : List mw_V} {σ : mw_S} {Q : Option mw_V → mw_S → Prop} : mw_WP d 123 16 [l0, l1, l2, l3] (jI (2) :: st) σ Q ↔ mw_WP d 123 75 [l0, l1, l2, l3] st σ Q := WP_k mq123 dd123_16 rfl (fun _ _ => by simp [mw_stp, mw_b1, mw_go])
theorem ww123_16k3 {d : Nat} {l0 l1 l2 l3 : Option mw_V} {st : List mw_V} {σ : mw_S} {Q : Option mw_V → mw_S → Prop} : mw_WP d 123 16 [l0, l1, l2, l3] (jI (3) :: st) σ Q ↔ mw_WP d 123 96 [l0, l1, l2, l3] st σ Q := WP_k mq123 dd123_16 rfl (fun _ _ => by simp [mw_stp, mw_b1, mw_go])
theorem ww123_16k4 {d : Nat} {l0 l1 l2 l3 : Option mw_V} {st : List mw_V} {σ : mw_S} {Q : Option mw_V → mw_S → Prop} : mw_WP d 123 16 [l0, l1, l2, l3] (jI (4) :: st) σ Q ↔ mw_WP d 123 117 [l0, l1, l2, l3] st σ Q := WP_k mq123 dd123_16 rfl (fun _ _ => by simp [mw_stp, mw_b1, mw_go])
theorem ww123_16k5 {d : Nat} {l0 l1 l2 l3 : Option mw_V} {st : List mw_V} {σ : mw_S} {Q : Option mw_V → mw_S → Prop} : mw_WP d 123 16 [l0, l1, l2, l3] (jI (5) :: st) σ Q ↔ mw_WP d 123 141 [l0, l1, l2, l3] st σ Q := WP_k mq123 dd123_16 rfl (fun _ _ => by simp [mw_stp, mw_b1, mw_go])
theorem ww123_16kd {d : Nat} {l0 l1 l2 l3 : Option mw_V} {x : Int} {st : List mw_V} {σ : mw_S} {Q : Option mw_V → mw_S → Prop} (h : x < 0 ∨ 5 < x) : mw_WP d 123 16 [l0, l1, l2, l3] (jI x :: st) σ Q ↔ mw_WP d 123 151 [l0, l1, l2, l3] st σ Q := WP_k mq123 dd123_16 rfl (fun _ _ => by simp [mw_stp, mw_b1, mw_go, h])
theorem dd123_56 : decode cX11_copy 56 = .ok (.aload_n 0, 1) := by decide +kernel
theorem ww123_56 {d : Nat} {l1 l2 l3 : Option mw_V} {x : Nat} {st : List mw_V} {σ : mw_S} {Q : Option mw_V → mw_S → Prop} : mw_WP d 123 56 [some (jR x), l1, l2, l3] st σ Q ↔ mw_WP d 123 57 [some (jR x), l1, l2, l3] (jR x :: st) σ Q := WP_aload_n mq123 dd123_56 rfl
theorem dd123_57 : decode cX11_copy 57 = .ok (.getfield 86, 3) := by decide +kernel
theorem ww123_57 {d : Nat} {l0 l1 l2 l3 : Option mw_V} {st : List mw_V} {σ : mw_S} {Q : Option mw_V → mw_S → Prop} : mw_WP d 123 57 [l0, l1, l2, l3] (jR 0 :: st) σ Q ↔ mw_WP d 123 60 [l0, l1, l2, l3] (jR 98 :: st) σ Q := WP_getR (ci := 10) (k := 11) mq123 dd123_57 (by decide) rfl
theorem dd123_60 : decode cX11_copy 60 = .ok (.iconst 0, 1) := by decide +kernel
theorem ww123_60 {d : Nat} {l0 l1 l2 l3 : Option mw_V} {st : List mw_V} {σ : mw_S} {Q : Option mw_V → mw_S → Prop} : mw_WP d 123 60 [l0, l1, l2, l3] st σ Q ↔ mw_WP d 123 61 [l0, l1, l2, l3] (jI (0) :: st) σ Q := WP_iconst mq123 dd123_60 (by decide)
theorem dd123_61 : decode cX11_copy 61 = .ok (.iload_n 3, 1) := by decide +kernel
theorem ww123_61 {d : Nat} {l0 l1 l2 : Option mw_V} {x : Int} {st : List mw_V} {σ : mw_S} {Q : Option mw_V → mw_S → Prop} : mw_WP d 123 61 [l0, l1, l2, some (jI x)] st σ Q ↔ mw_WP d 123 62 [l0, l1, l2, some (jI x)] (jI x :: st) σ Q := WP_iload_n mq123 dd123_61 rfl
theorem dd123_62 : decode cX11_copy 62 = .ok (.iadd, 1) := by decide +kernel
theorem ww123_62 {d : Nat} {l0 l1 l2 l3 : Option mw_V} {x y : Int} {st : List mw_V} {σ : mw_S} {Q : Option mw_V → mw_S → Prop} : mw_WP d 123 62 [l0, l1, l2, l3] (jI y :: jI x :: st) σ Q ↔ mw_WP d 123 63 [l0, l1, l2, l3] (jI (w32 (x + y)) :: st) σ Q := WP_iadd mq123 dd123_62
theorem dd123_63 : decode cX11_copy 63 = .ok (.iaload, 1) := by decide +kernel
theorem ww123_63 {d : Nat} {l0 l1 l2 l3 : Option mw_V} {z : Int} {a : Nat} {st : List mw_V} {σ : mw_S} {Q : Option mw_V → mw_S → Prop} : mw_WP d 123 63 [l0, l1, l2, l3] (jI z :: jR a :: st) σ Q ↔ ((0 ≤ z ∧ z < mw_lenI a) ∧ mw_WP d 123 64 [l0, l1, l2, l3] (jI (mw_rdI σ a z.toNat) :: st) σ Q) := WP_iaload mq123 dd123_63
theorem dd123_64 : decode cX11_copy 64 = .ok (.ireturn, 1) := by decide +kernel
theorem ww123_64 {d : Nat} {l0 l1 l2 l3 : Option mw_V} {z : Int} {σ : mw_S} {Q : Option mw_V → mw_S → Prop} : mw_WP d 123 64 [l0, l1, l2, l3] [jI z] σ Q ↔ Q (some (jI z)) σ := WP_ireturn (ty := .int) mq123 dd123_64 rfl rfl
theorem dd123_65 : decode cX11_copy 65 = .ok (.aload_n 0, 1) := by decide +kernel
theorem ww123_65 {d : Nat} {l1 l2 l3 : Option mw_V} {x : Nat} {st : List mw_V} {σ : mw_S} {Q : Option mw_V → mw_S → Prop} : mw_WP d 123 65 [some (jR x), l1, l2, l3] st σ Q ↔ mw_WP d 123 66 [some (jR x), l1, l2, l3] (jR x :: st) σ Q := WP_aload_n mq123 dd123_65 rfl
theorem dd123_66 : decode cX11_copy 66 = .ok (.getfield 86, 3) := by decide +kernel
theorem ww123_66 {d : Nat} {l0 l1 l2 l3 : Option mw_V} {st : List mw_V} {σ : mw_S} {Q : Option mw_V → mw_S → Prop} : mw_WP d 123 66 [l0, l1, l2, l3] (jR 0 :: st) σ Q ↔ mw_WP d 123 69 [l0, l1, l2, l3] (jR 98 :: st) σ Q := WP_getR (ci := 10) (k := 11) mq123 dd123_66 (by decide) rfl
theorem dd123_69 : decode cX11_copy 69 = .ok (.bipush 10, 2) := by decide +kernel
theorem ww123_69 {d : Nat} {l0 l1 l2 l3 : Option mw_V} {st : List mw_V} {σ : mw_S} {Q : Option mw_V → mw_S → Prop} : mw_WP d 123 69 [l0, l1, l2, l3] st σ Q ↔ mw_WP d 123 71 [l0, l1, l2, l3] (jI (10) :: st) σ Q := WP_bipush mq123 dd123_69 (by decide)
theorem dd123_71 : decode cX11_copy 71 = .ok (.iload_n 1, 1) := by decide +kernel
theorem ww123_71 {d : Nat} {l0 l2 l3 : Option mw_V} {x : Int} {st : List mw_V} {σ : mw_S} {Q : Option mw_V → mw_S → Prop} : mw_WP d 123 71 [l0, some (jI x), l2, l3] st σ Q ↔ mw_WP d 123 72 [l0, some (jI x), l2, l3] (jI x :: st) σ Q := WP_iload_n mq123 dd123_71 rfl
theorem dd123_72 : decode cX11_copy 72 = .ok (.iadd, 1) := by decide +kernel
theorem ww123_72 {d : Nat} {l0 l1 l2 l3 : Option mw_V} {x y : Int} {st : List mw_V} {σ : mw_S} {Q : Option mw_V → mw_S → Prop} : mw_WP d 123 72 [l0, l1, l2, l3] (jI y :: jI x :: st) σ Q ↔ mw_WP d 123 73 [l0, l1, l2, l3] (jI (w32 (x + y)) :: st) σ Q := WP_iadd mq123 dd123_72
theorem dd123_73 : decode cX11_copy 73 = .ok (.iaload, 1) := by decide +kernel
theorem ww123_73 {d : Nat} {l0 l1 l2 l3 : Option mw_V} {z : Int} {a : Nat} {st : List mw_V} {σ : mw_S} {Q : Option mw_V → mw_S → Prop} : mw_WP d 123 73 [l0, l1, l2, l3] (jI z :: jR a :: st) σ Q ↔ ((0 ≤ z ∧ z < mw_lenI a) ∧ mw_WP d 123 74 [l0, l1, l2, l3] (jI (mw_rdI σ a z.toNat) :: st) σ Q) := WP_iaload mq123 dd123_73
theorem dd123_74 : decode cX11_copy 74 = .ok (.ireturn, 1) := by decide +kernel
theorem ww123_74 {d : Nat} {l0 l1 l2 l3 : Option mw_V} {z : Int} {σ : mw_S} {Q : Option mw_V → mw_S → Prop} : mw_WP d 123 74 [l0, l1, l2, l3] [jI z] σ Q ↔ Q (some (jI z)) σ := WP_ireturn (ty := .int) mq123 dd123_74 rfl rfl
theorem dd123_75 : decode cX11_copy 75 = .ok (.aload_n 0, 1) := by decide +kernel
theorem ww123_75 {d : Nat} {l1 l2 l3 : Option mw_V} {x : Nat} {st : List mw_V} {σ : mw_S} {Q : Option mw_V → mw_S → Prop} : mw_WP d 123 75 [some (jR x), l1, l2, l3] st σ Q ↔ mw_WP d 123 76 [some (jR x), l1, l2, l3] (jR x :: st) σ Q := WP_aload_n mq123 dd123_75 rfl
theorem dd123_76 : decode cX11_copy 76 = .ok (.getfield 28, 3) := by decide +kernel
theorem ww123_76 {d : Nat} {l0 l1 l2 l3 : Option mw_V} {st : List mw_V} {σ : mw_S} {Q : Option mw_V → mw_S → Prop} : mw_WP d 123 76 [l0, l1, l2, l3] (jR 0 :: st) σ Q ↔ mw_WP d 123 79 [l0, l1, l2, l3] (jR 22 :: st) σ Q := WP_getR (ci := 10) (k := 2) mq123 dd123_76 (by decide) rfl
theorem dd123_79 : decode cX11_copy 79 = .ok (.aload_n 0, 1) := by decide +kernel
theorem ww123_79 {d : Nat} {l1 l2 l3 : Option mw_V} {x : Nat} {st : List mw_V} {σ : mw_S} {Q : Option mw_V → mw_S → Prop} : mw_WP d 123 79 [some (jR x), l1, l2, l3] st σ Q ↔ mw_WP d 123 80 [some (jR x), l1, l2, l3] (jR x :: st) σ Q := WP_aload_n mq123 dd123_79 rfl
theorem dd123_80 : decode cX11_copy 80 = .ok (.getfield 86, 3) := by decide +kernel
theorem ww123_80 {d : Nat} {l0 l1 l2 l3 : Option mw_V} {st : List mw_V} {σ : mw_S} {Q : Option mw_V → mw_S → Prop} : mw_WP d 123 80 [l0, l1, l2, l3] (jR 0 :: st) σ Q ↔ mw_WP d 123 83 [l0, l1, l2, l3] (jR 98 :: st) σ Q := WP_getR (ci := 10) (k := 11) mq123 dd123_80 (by decide) rfl
theorem dd123_83 : decode cX11_copy 83 = .ok (.aload_n 0, 1) := by decide +kernel
theorem ww123_83 {d : Nat} {l1 l2 l3 : Option mw_V} {x : Nat} {st : List mw_V} {σ : mw_S} {Q : Option mw_V → mw_S → Prop} : mw_WP d 123 83 [some (jR x), l1, l2, l3] st σ Q ↔ mw_WP d 123 84 [some (jR x), l1, l2, l3] (jR x :: st) σ Q := WP_aload_n mq123 dd123_83 rfl
theorem dd123_84 : decode cX11_copy 84 = .ok (.getfield 28, 3) := by decide +kernel
theorem ww123_84 {d : Nat} {l0 l1 l2 l3 : Option mw_V} {st : List mw_V} {σ : mw_S} {Q : Option mw_V → mw_S → Prop} : mw_WP d 123 84 [l0, l1, l2, l3] (jR 0 :: st) σ Q ↔ mw_WP d 123 87 [l0, l1, l2, l3] (jR 22 :: st) σ Q := WP_getR (ci := 10) (k := 2) mq123 dd123_84 (by decide) rfl
theorem dd123_87 : decode cX11_copy 87 = .ok (.iload_n 3, 1) := by decide +kernel
theorem ww123_87 {d : Nat} {l0 l1 l2 : Option mw_V} {x : Int} {st : List mw_V} {σ : mw_S} {Q : Option mw_V → mw_S → Prop} : mw_WP d 123 87 [l0, l1, l2, some (jI x)] st σ Q ↔ mw_WP d 123 88 [l0, l1, l2, some (jI x)] (jI x :: st) σ Q := WP_iload_n mq123 dd123_87 rfl
theorem dd123_88 : decode cX11_copy 88 = .ok (.iconst 0, 1) := by decide +kernel
theorem ww123_88 {d : Nat} {l0 l1 l2 l3 : Option mw_V} {st : List mw_V} {σ : mw_S} {Q : Option mw_V → mw_S → Prop} : mw_WP d 123 88 [l0, l1, l2, l3] st σ Q ↔ mw_WP d 123 89 [l0, l1, l2, l3] (jI (0) :: st) σ Q := WP_iconst mq123 dd123_88 (by decide)
theorem dd123_89 : decode cX11_copy 89 = .ok (.invokevirtual 137, 3) := by decide +kernel
theorem ww123_89 {d : Nat} {l0 l1 l2 l3 : Option mw_V} {v0 v1 : mw_V} {a : Nat} {st : List mw_V} {σ : mw_S} {Q : Option mw_V → mw_S → Prop} (hr : mw_rc a = 9) (h8 : (st.map mw_cat).sum ≤ 8) : mw_WP d 123 89 [l0, l1, l2, l3] (v1 :: v0 :: jR a :: st) σ Q ↔ mw_Call d 96 [jR a, v0, v1] σ (fun r1 s1 => mw_WP d 123 92 [l0, l1, l2, l3] (r1.toList ++ st) s1 Q) := WP_inv (as := [v1, v0]) mq123 dd123_89 (by decide) mq96 rfl hr h8
theorem dd123_92 : decode cX11_copy 92 = .ok (.invokevirtual 141, 3) := by decide +kernel
theorem ww123_92 {d : Nat} {l0 l1 l2 l3 : Option mw_V} {v0 v1 : mw_V} {a : Nat} {st : List mw_V} {σ : mw_S} {Q : Option mw_V → mw_S → Prop} (hr : mw_rc a = 9) (h8 : (st.map mw_cat).sum ≤ 8) : mw_WP d 123 92 [l0, l1, l2, l3] (v1 :: v0 :: jR a :: st) σ Q ↔ mw_Call d 97 [jR a, v0, v1] σ (fun r1 s1 => mw_WP d 123 95 [l0, l1, l2, l3] (r1.toList ++ st) s1 Q) := WP_inv (as := [v1, v0]) mq123 dd123_92 (by decide) mq97 rfl hr h8
theorem dd123_95 : decode cX11_copy 95 = .ok (.ireturn, 1) := by decide +kernel
theorem ww123_95 {d : Nat} {l0 l1 l2 l3 : Option mw_V} {z : Int} {σ : mw_S} {Q : Option mw_V → mw_S → Prop} : mw_WP d 123 95 [l0, l1, l2, l3] [jI z] σ Q ↔ Q (some (jI z)) σ := WP_ireturn (ty := .int) mq123 dd123_95 rfl rfl
theorem dd123_96 : decode cX11_copy 96 = .ok (.aload_n 0, 1) := by decide +kernel
theorem ww123_96 {d : Nat} {l1 l2 l3 : Option mw_V} {x : Nat} {st : List mw_V} {σ : mw_S} {Q : Option mw_V → mw_S → Prop} : mw_WP d 123 96 [some (jR x), l1, l2, l3] st σ Q ↔ mw_WP d 123 97 [some (jR x), l1, l2, l3] (jR x :: st) σ Q := WP_aload_n mq123 dd123_96 rfl
theorem dd123_97 : decode cX11_copy 97 = .ok (.getfield 28, 3) := by decide +kernel
theorem ww123_97 {d : Nat} {l0 l1 l2 l3 : Option mw_V} {st : List mw_V} {σ : mw_S} {Q : Option mw_V → mw_S → Prop} : mw_WP d 123 97 [l0, l1, l2, l3] (jR 0 :: st) σ Q ↔ mw_WP d 123 100 [l0, l1, l2, l3] (jR 22 :: st) σ Q := WP_getR (ci := 10) (k := 2) mq123 dd123_97 (by decide) rfl
theorem dd123_100 : decode cX11_copy 100 = .ok (.aload_n 0, 1) := by decide +kernel
theorem ww123_100 {d : Nat} {l1 l2 l3 : Option mw_V} {x : Nat} {st : List mw_V} {σ : mw_S} {Q : Option mw_V → mw_S → Prop} : mw_WP d 123 100 [some (jR x), l1, l2, l3] st σ Q ↔ mw_WP d 123 101 [some (jR x), l1, l2, l3] (jR x :: st) σ Q := WP_aload_n mq123 dd123_100 rfl
theorem dd123_101 : decode cX11_copy 101 = .ok (.getfield 86, 3) := by decide +kernel
theorem ww123_101 {d : Nat} {l0 l1 l2 l3 : Option mw_V} {st : List mw_V} {σ : mw_S} {Q : Option mw_V → mw_S → Prop} : mw_WP d 123 101 [l0, l1, l2, l3] (jR 0 :: st) σ Q ↔ mw_WP d 123 104 [l0, l1, l2, l3] (jR 98 :: st) σ Q := WP_getR (ci := 10) (k := 11) mq123 dd123_101 (by decide) rfl
theorem dd123_104 : decode cX11_copy 104 = .ok (.aload_n 0, 1) := by decide +kernel
theorem ww123_104 {d : Nat} {l1 l2 l3 : Option mw_V} {x : Nat} {st : List mw_V} {σ : mw_S} {Q : Option mw_V → mw_S → Prop} : mw_WP d 123 104 [some (jR x), l1, l2, l3] st σ Q ↔ mw_WP d 123 105 [some (jR x), l1, l2, l3] (jR x :: st) σ Q := WP_aload_n mq123 dd123_104 rfl
theorem dd123_105 : decode cX11_copy 105 = .ok (.getfield 28, 3) := by decide +kernel
theorem ww123_105 {d : Nat} {l0 l1 l2 l3 : Option mw_V} {st : List mw_V} {σ : mw_S} {Q : Option mw_V → mw_S → Prop} : mw_WP d 123 105 [l0, l1, l2, l3] (jR 0 :: st) σ Q ↔ mw_WP d 123 108 [l0, l1, l2, l3] (jR 22 :: st) σ Q := WP_getR (ci := 10) (k := 2) mq123 dd123_105 (by decide) rfl
theorem dd123_108 : decode cX11_copy 108 = .ok (.iload_n 3, 1) := by decide +kernel
theorem ww123_108 {d : Nat} {l0 l1 l2 : Option mw_V} {x : Int} {st : List mw_V} {σ : mw_S} {Q : Option mw_V → mw_S → Prop} : mw_WP d 123 108 [l0, l1, l2, some (jI x)] st σ Q ↔ mw_WP d 123 109 [l0, l1, l2, some (jI x)] (jI x :: st) σ Q := WP_iload_n mq123 dd123_108 rfl
theorem dd123_109 : decode cX11_copy 109 = .ok (.iconst 1, 1) := by decide +kernel
theorem ww123_109 {d : Nat} {l0 l1 l2 l3 : Option mw_V} {st : List mw_V} {σ : mw_S} {Q : Option mw_V → mw_S → Prop} : mw_WP d 123 109 [l0, l1, l2, l3] st σ Q ↔ mw_WP d 123 110 [l0, l1, l2, l3] (jI (1) :: st) σ Q := WP_iconst mq123 dd123_109 (by decide)
theorem dd123_110 : decode cX11_copy 110 = .ok (.invokevirtual 137, 3) := by decide +kernel
theorem ww123_110 {d : Nat} {l0 l1 l2 l3 : Option mw_V} {v0 v1 : mw_V} {a : Nat} {st : List mw_V} {σ : mw_S} {Q : Option mw_V → mw_S → Prop} (hr : mw_rc a = 9) (h8 : (st.map mw_cat).sum ≤ 8) : mw_WP d 123 110 [l0, l1, l2, l3] (v1 :: v0 :: jR a :: st) σ Q ↔ mw_Call d 96 [jR a, v0, v1] σ (fun r1 s1 => mw_WP d 123 113 [l0, l1, l2, l3] (r1.toList ++ st) s1 Q) := WP_inv (as := [v1, v0]) mq123 dd123_110 (by decide) mq96 rfl hr h8
theorem dd123_113 : decode cX11_copy 113 = .ok (.invokevirtual 141, 3) := by decide +kernel
theorem ww123_113 {d : Nat} {l0 l1 l2 l3 : Option mw_V} {v0 v1 : mw_V} {a : Nat} {st : List mw_V} {σ : mw_S} {Q : Option mw_V → mw_S → Prop} (hr : mw_rc a = 9) (h8 : (st.map mw_cat).sum ≤ 8) : mw_WP d 123 113 [l0, l1, l2, l3] (v1 :: v0 :: jR a :: st) σ Q ↔ mw_Call d 97 [jR a, v0, v1] σ (fun r1 s1 => mw_WP d 123 116 [l0, l1, l2, l3] (r1.toList ++ st) s1 Q) := WP_inv (as := [v1, v0]) mq123 dd123_113 (by decide) mq97 rfl hr h8
theorem dd123_116 : decode cX11_copy 116 = .ok (.ireturn, 1) := by decide +kernel
theorem ww123_116 {d : Nat} {l0 l1 l2 l3 : Option mw_V} {z : Int} {σ : mw_S} {Q : Option mw_V → mw_S → Prop} : mw_WP d 123 116 [l0, l1, l2, l3] [jI z] σ Q ↔ Q (some (jI z)) σ := WP_ireturn (ty := .int) mq123 dd123_116 rfl rfl
theorem dd123_117 : decode cX11_copy 117 = .ok (.aload_n 0, 1) := by decide +kernel
theorem ww123_117 {d : Nat} {l1 l2 l3 : Option mw_V} {x : Nat} {st : List mw_V} {σ : mw_S} {Q : Option mw_V → mw_S → Prop} : mw_WP d 123 117 [some (jR x), l1, l2, l3] st σ Q ↔ mw_WP d 123 118 [some (jR x), l1, l2, l3] (jR x :: st) σ Q := WP_aload_n mq123 dd123_117 rfl
theorem dd123_118 : decode cX11_copy 118 = .ok (.getfield 86, 3) := by decide +kernel
theorem ww123_118 {d : Nat} {l0 l1 l2 l3 : Option mw_V} {st : List mw_V} {σ : mw_S} {Q : Option mw_V → mw_S → Prop} : mw_WP d 123 118 [l0, l1, l2, l3] (jR 0 :: st) σ Q ↔ mw_WP d 123 121 [l0, l1, l2, l3] (jR 98 :: st) σ Q := WP_getR (ci := 10) (k := 11) mq123 dd123_118 (by decide) rfl
theorem dd123_121 : decode cX11_copy 121 = .ok (.bipush 34, 2) := by decide +kernel
theorem ww123_121 {d : Nat} {l0 l1 l2 l3 : Option mw_V} {st : List mw_V} {σ : mw_S} {Q : Option mw_V → mw_S → Prop} : mw_WP d 123 121 [l0, l1, l2, l3] st σ Q ↔ mw_WP d 123 123 [l0, l1, l2, l3] (jI (34) :: st) σ Q := WP_bipush mq123 dd123_121 (by decide)
theorem dd123_123 : decode cX11_copy 123 = .ok (.iaload, 1) := by decide +kernel
theorem ww123_123 {d : Nat} {l0 l1 l2 l3 : Option mw_V} {z : Int} {a : Nat} {st : List mw_V} {σ : mw_S} {Q : Option mw_V → mw_S → Prop} : mw_WP d 123 123 [l0, l1, l2, l3] (jI z :: jR a :: st) σ Q ↔ ((0 ≤ z ∧ z < mw_lenI a) ∧ mw_WP d 123 124 [l0, l1, l2, l3] (jI (mw_rdI σ a z.toNat) :: st) σ Q) := WP_iaload mq123 dd123_123
theorem dd123_124 : decode cX11_copy 124 = .ok (.ifCond .ne 7, 3) := by decide +kernel
theorem ww123_124 {d : Nat} {l0 l1 l2 l3 : Option mw_V} {x : Int} {st : List mw_V} {σ : mw_S} {Q : Option mw_V → mw_S → Prop} : mw_WP d 123 124 [l0, l1, l2, l3] (jI x :: st) σ Q ↔ (if ¬ x = 0 then mw_WP d 123 131 [l0, l1, l2, l3] st σ Q else mw_WP d 123 127 [l0, l1, l2, l3] st σ Q) := WP_if_ne mq123 dd123_124 (by decide)
theorem dd123_127 : decode cX11_copy 127 = .ok (.iconst (-1), 1) := by decide +kernel
theorem ww123_127 {d : Nat} {l0 l1 l2 l3 : Option mw_V} {st : List mw_V} {σ : mw_S} {Q : Option mw_V → mw_S → Prop} : mw_WP d 123 127 [l0, l1, l2, l3] st σ Q ↔ mw_WP d 123 128 [l0, l1, l2, l3] (jI (-1) :: st) σ Q := WP_iconst mq123 dd123_127 (by decide)
theorem dd123_128 : decode cX11_copy 128 = .ok (.goto 12, 3) := by decide +kernel
theorem ww123_128 {d : Nat} {l0 l1 l2 l3 : Option mw_V} {st : List mw_V} {σ : mw_S} {Q : Option mw_V → mw_S → Prop} : mw_WP d 123 128 [l0, l1, l2, l3] st σ Q ↔ mw_WP d 123 140 [l0, l1, l2, l3] st σ Q := WP_goto mq123 dd123_128 (by decide)
theorem dd123_131 : decode cX11_copy 131 = .ok (.aload_n 0, 1) := by decide +kernel
theorem ww123_131 {d : Nat} {l1 l2 l3 : Option mw_V} {x : Nat} {st : List mw_V} {σ : mw_S} {Q : Option mw_V → mw_S → Prop} : mw_WP d 123 131 [some (jR x), l1, l2, l3] st σ Q ↔ mw_WP d 123 132 [some (jR x), l1, l2, l3] (jR x :: st) σ Q := WP_aload_n mq123 dd123_131 rfl
theorem dd123_132 : decode cX11_copy 132 = .ok (.getfield 86, 3) := by decide +kernel
theorem ww123_132 {d : Nat} {l0 l1 l2 l3 : Option mw_V} {st : List mw_V} {σ : mw_S} {Q : Option mw_V → mw_S → Prop} : mw_WP d 123 132 [l0, l1, l2, l3] (jR 0 :: st) σ Q ↔ mw_WP d 123 135 [l0, l1, l2, l3] (jR 98 :: st) σ Q := WP_getR (ci := 10) (k := 11) mq123 dd123_132 (by decide) rfl
theorem dd123_135 : decode cX11_copy 135 = .ok (.bipush 16, 2) := by decide +kernel
theorem ww123_135 {d : Nat} {l0 l1 l2 l3 : Option mw_V} {st : List mw_V} {σ : mw_S} {Q : Option mw_V → mw_S → Prop} : mw_WP d 123 135 [l0, l1, l2, l3] st σ Q ↔ mw_WP d 123 137 [l0, l1, l2, l3] (jI (16) :: st) σ Q := WP_bipush mq123 dd123_135 (by decide)
theorem dd123_137 : decode cX11_copy 137 = .ok (.iload_n 1, 1) := by decide +kernel
theorem ww123_137 {d : Nat} {l0 l2 l3 : Option mw_V} {x : Int} {st : List mw_V} {σ : mw_S} {Q : Option mw_V → mw_S → Prop} : mw_WP d 123 137 [l0, some (jI x), l2, l3] st σ Q ↔ mw_WP d 123 138 [l0, some (jI x), l2, l3] (jI x :: st) σ Q := WP_iload_n mq123 dd123_137 rfl
theorem dd123_138 : decode cX11_copy 138 = .ok (.iadd, 1) := by decide +kernel
theorem ww123_138 {d : Nat} {l0 l1 l2 l3 : Option mw_V} {x y : Int} {st : List mw_V} {σ : mw_S} {Q : Option mw_V → mw_S → Prop} : mw_WP d 123 138 [l0, l1, l2, l3] (jI y :: jI x :: st) σ Q ↔ mw_WP d 123 139 [l0, l1, l2, l3] (jI (w32 (x + y)) :: st) σ Q := WP_iadd mq123 dd123_138
theorem dd123_139 : decode cX11_copy 139 = .ok (.iaload, 1) := by decide +kernel
theorem ww123_139 {d : Nat} {l0 l1 l2 l3 : Option mw_V} {z : Int} {a : Nat} {st : List mw_V} {σ : mw_S} {Q : Option mw_V → mw_S → Prop} : mw_WP d 123 139 [l0, l1, l2, l3] (jI z :: jR a :: st) σ Q ↔ ((0 ≤ z ∧ z < mw_lenI a) ∧ mw_WP d 123 140 [l0, l1, l2, l3] (jI (mw_rdI σ a z.toNat) :: st) σ Q) := WP_iaload mq123 dd123_139
theorem dd123_140 : decode cX11_copy 140 = .ok (.ireturn, 1) := by decide +kernel
theorem ww123_140 {d : Nat} {l0 l1 l2 l3 : Option mw_V} {z : Int} {σ : mw_S} {Q : Option mw_V → mw_S → Prop} : mw_WP d 123 140 [l0, l1, l2, l3] [jI z] σ Q ↔ Q (some (jI z)) σ := WP_ireturn (ty := .int) mq123 dd123_140 rfl rfl
theorem dd123_141 : decode cX11_copy 141 = .ok (.aload_n 0, 1) := by decide +kernel
theorem ww123_141 {d : Nat} {l1 l2 l3 : Option mw_V} {x : Nat} {st : List mw_V} {σ : mw_S} {Q : Option mw_V → mw_S → Prop} : mw_WP d 123 141 [some (jR x), l1, l2, l3] st σ Q ↔ mw_WP d 123 142 [some (jR x), l1, l2, l3] (jR x :: st) σ Q := WP_aload_n mq123 dd123_141 rfl
theorem dd123_142 : decode cX11_copy 142 = .ok (.getfield 86, 3) := by decide +kernel
theorem ww123_142 {d : Nat} {l0 l1 l2 l3 : Option mw_V} {st : List mw_V} {σ : mw_S} {Q : Option mw_V → mw_S → Prop} : mw_WP d 123 142 [l0, l1, l2, l3] (jR 0 :: st) σ Q ↔ mw_WP d 123 145 [l0, l1, l2, l3] (jR 98 :: st) σ Q := WP_getR (ci := 10) (k := 11) mq123 dd123_142 (by decide) rfl
theorem dd123_145 : decode cX11_copy 145 = .ok (.bipush 19, 2) := by decide +kernel
theorem ww123_145 {d : Nat} {l0 l1 l2 l3 : Option mw_V} {st : List mw_V} {σ : mw_S} {Q : Option mw_V → mw_S → Prop} : mw_WP d 123 145 [l0, l1, l2, l3] st σ Q ↔ mw_WP d 123 147 [l0, l1, l2, l3] (jI (19) :: st) σ Q := WP_bipush mq123 dd123_145 (by decide)
theorem dd123_147 : decode cX11_copy 147 = .ok (.iload_n 3, 1) := by decide +kernel
theorem ww123_147 {d : Nat} {l0 l1 l2 : Option mw_V} {x : Int} {st : List mw_V} {σ : mw_S} {Q : Option mw_V → mw_S → Prop} : mw_WP d 123 147 [l0, l1, l2, some (jI x)] st σ Q ↔ mw_WP d 123 148 [l0, l1, l2, some (jI x)] (jI x :: st) σ Q := WP_iload_n mq123 dd123_147 rfl
theorem dd123_148 : decode cX11_copy 148 = .ok (.iadd, 1) := by decide +kernel
theorem ww123_148 {d : Nat} {l0 l1 l2 l3 : Option mw_V} {x y : Int} {st : List mw_V} {σ : mw_S} {Q : Option mw_V → mw_S → Prop} : mw_WP d 123 148 [l0, l1, l2, l3] (jI y :: jI x :: st) σ Q ↔ mw_WP d 123 149 [l0, l1, l2, l3] (jI (w32 (x + y)) :: st) σ Q := WP_iadd mq123 dd123_148
theorem dd123_149 : decode cX11_copy 149 = .ok (.iaload, 1) := by decide +kernel
theorem ww123_149 {d : Nat} {l0 l1 l2 l3 : Option mw_V} {z : Int} {a : Nat} {st : List mw_V} {σ : mw_S} {Q : Option mw_V → mw_S → Prop} : mw_WP d 123 149 [l0, l1, l2, l3] (jI z :: jR a :: st) σ Q ↔ ((0 ≤ z ∧ z < mw_lenI a) ∧ mw_WP d 123 150 [l0, l1, l2, l3] (jI (mw_rdI σ a z.toNat) :: st) σ Q) := WP_iaload mq123 dd123_149
theorem dd123_150 : decode cX11_copy 150 = .ok (.ireturn, 1) := by decide +kernel
theorem ww123_150 {d : Nat} {l0 l1 l2 l3 : Option mw_V} {z : Int} {σ : mw_S} {Q : Option mw_V → mw_S → Prop} : mw_WP d 123 150 [l0, l1, l2, l3] [jI z] σ Q ↔ Q (some (jI z)) σ := WP_ireturn (ty := .int) mq123 dd123_150 rfl rfl
theorem dd123_151 : decode cX11_copy 151 = .ok (.bipush (-2), 2) := by decide +kernel
theorem ww123_151 {d : Nat} {l0 l1 l2 l3 : Option mw_V} {st : List mw_V} {σ : mw_S} {Q : Option mw_V → mw_S → Prop} : mw_WP d 123 151 [l0, l1, l2, l3] st σ Q ↔ mw_WP d 123 153 [l0, l1, l2, l3] (jI (-2) :: st) σ Q := WP_bipush mq123 dd123_151 (by decide)
theorem dd123_153 : decode cX11_copy 153 = .ok (.ireturn, 1) := by decide +kernel
theorem ww123_153 {d : Nat} {l0 l1 l2 l3 : Option mw_V} {z : Int} {σ : mw_S} {Q : Option mw_V → mw_S → Prop} : mw_WP d 123 153 [l0, l1, l2, l3] [jI z] σ Q ↔ Q (some (jI z)) σ := WP_ireturn (ty := .int) mq123 dd123_153 rfl rfl
theorem ee124 {d : Nat} {a : Nat} {z0 : Int} {σ : mw_S} {Q : Option mw_V → mw_S → Prop} : mw_Call (d + 1) 124 [jR a, jI z0] σ Q ↔ mw_WP d 124 0 [some (jR a), some (jI z0)] [] σ Q := CL_u mq124 (Nat.le_of_ble_eq_true rfl) rfl
theorem dd124_0 : decode cX11_thing 0 = .ok (.aload_n 0, 1) := by decide +kernel
theorem ww124_0 {d : Nat} {l1 : Option mw_V} {x : Nat} {st : List mw_V} {σ : mw_S} {Q : Option mw_V → mw_S → Prop} : mw_WP d 124 0 [some (jR x), l1] st σ Q ↔ mw_WP d 124 1 [some (jR x), l1] (jR x :: st) σ Q := WP_aload_n mq124 dd124_0 rfl
theorem dd124_1 : decode cX11_thing 1 = .ok (.iload_n 1, 1) := by decide +kernel
theorem ww124_1 {d : Nat} {l0 : Option mw_V} {x : Int} {st : List mw_V} {σ : mw_S} {Q : Option mw_V → mw_S → Prop} : mw_WP d 124 1 [l0, some (jI x)] st σ Q ↔ mw_WP d 124 2 [l0, some (jI x)] (jI x :: st) σ Q := WP_iload_n mq124 dd124_1 rfl
theorem dd124_2 : decode cX11_thing 2 = .ok (.invokevirtual 145, 3) := by decide +kernel
theorem ww124_2 {d : Nat} {l0 l1 : Option mw_V} {v0 : mw_V} {a : Nat} {st : List mw_V} {σ : mw_S} {Q : Option mw_V → mw_S → Prop} (hr : mw_rc a = 11) (h8 : (st.map mw_cat).sum ≤ 8) : mw_WP d 124 2 [l0, l1] (v0 :: jR a :: st) σ Q ↔ mw_Call d 159 [jR a, v0] σ (fun r1 s1 => mw_WP d 124 5 [l0, l1] (r1.toList ++ st) s1 Q) := WP_inv (as := [v0]) mq124 dd124_2 (by decide) mq159 rfl hr h8
theorem dd124_5 : decode cX11_thing 5 = .ok (.ifCond .eq 15, 3) := by decide +kernel
theorem ww124_5 {d : Nat} {l0 l1 : Option mw_V} {x : Int} {st : List mw_V} {σ : mw_S} {Q : Option mw_V → mw_S → Prop} : mw_WP d 124 5 [l0, l1] (jI x :: st) σ Q ↔ (if x = 0 then mw_WP d 124 20 [l0, l1] st σ Q else mw_WP d 124 8 [l0, l1] st σ Q) := WP_if_eq mq124 dd124_5 (by decide)
theorem dd124_8 : decode cX11_thing 8 = .ok (.aload_n 0, 1) := by decide +kernel
theorem ww124_8 {d : Nat} {l1 : Option mw_V} {x : Nat} {st : List mw_V} {σ : mw_S} {Q : Option mw_V → mw_S → Prop} : mw_WP d 124 8 [some (jR x), l1] st σ Q ↔ mw_WP d 124 9 [some (jR x), l1] (jR x :: st) σ Q := WP_aload_n mq124 dd124_8 rfl
theorem dd124_9 : decode cX11_thing 9 = .ok (.getfield 86, 3) := by decide +kernel
theorem ww124_9 {d : Nat} {l0 l1 : Option mw_V} {st : List mw_V} {σ : mw_S} {Q : Option mw_V → mw_S → Prop} : mw_WP d 124 9 [l0, l1] (jR 0 :: st) σ Q ↔ mw_WP d 124 12 [l0, l1] (jR 98 :: st) σ Q := WP_getR (ci := 10) (k := 11) mq124 dd124_9 (by decide) rfl
theorem dd124_12 : decode cX11_thing 12 = .ok (.bipush 6, 2) := by decide +kernel
theorem ww124_12 {d : Nat} {l0 l1 : Option mw_V} {st : List mw_V} {σ : mw_S} {Q : Option mw_V → mw_S → Prop} : mw_WP d 124 12 [l0, l1] st σ Q ↔ mw_WP d 124 14 [l0, l1] (jI (6) :: st) σ Q := WP_bipush mq124 dd124_12 (by decide)
theorem dd124_14 : decode cX11_thing 14 = .ok (.iload_n 1, 1) := by decide +kernel
theorem ww124_14 {d : Nat} {l0 : Option mw_V} {x : Int} {st : List mw_V} {σ : mw_S} {Q : Option mw_V → mw_S → Prop} : mw_WP d 124 14 [l0, some (jI x)] st σ Q ↔ mw_WP d 124 15 [l0, some (jI x)] (jI x :: st) σ Q := WP_iload_n mq124 dd124_14 rfl
theorem dd124_15 : decode cX11_thing 15 = .ok (.iadd, 1) := by decide +kernel
theorem ww124_15 {d : Nat} {l0 l1 : Option mw_V} {x y : Int} {st : List mw_V} {σ : mw_S} {Q : Option mw_V → mw_S → Prop} : mw_WP d 124 15 [l0, l1] (jI y :: jI x :: st) σ Q ↔ mw_WP d 124 16 [l0, l1] (jI (w32 (x + y)) :: st) σ Q := WP_iadd mq124 dd124_15
theorem dd124_16 : decode cX11_thing 16 = .ok (.iaload, 1) := by decide +kernel
theorem ww124_16 {d : Nat} {l0 l1 : Option mw_V} {z : Int} {a : Nat} {st : List mw_V} {σ : mw_S} {Q : Option mw_V → mw_S → Prop} : mw_WP d 124 16 [l0, l1] (jI z :: jR a :: st) σ Q ↔ ((0 ≤ z ∧ z < mw_lenI a) ∧ mw_WP d 124 17 [l0, l1] (jI (mw_rdI σ a z.toNat) :: st) σ Q) := WP_iaload mq124 dd124_16
theorem dd124_17 : decode cX11_thing 17 = .ok (.goto 5, 3) := by decide +kernel
theorem ww124_17 {d : Nat} {l0 l1 : Option mw_V} {st : List mw_V} {σ : mw_S} {Q : Option mw_V → mw_S → Prop} : mw_WP d 124 17 [l0, l1] st σ Q ↔ mw_WP d 124 22 [l0, l1] st σ Q := WP_goto mq124 dd124_17 (by decide)
theorem dd124_20 : decode cX11_thing 20 = .ok (.bipush (-2), 2) := by decide +kernel
theorem ww124_20 {d : Nat} {l0 l1 : Option mw_V} {st : List mw_V} {σ : mw_S} {Q : Option mw_V → mw_S → Prop} : mw_WP d 124 20 [l0, l1] st σ Q ↔ mw_WP d 124 22 [l0, l1] (jI (-2) :: st) σ Q := WP_bipush mq124 dd124_20 (by decide)
theorem dd124_22 : decode cX11_thing 22 = .ok (.ireturn, 1) := by decide +kernel
theorem ww124_22 {d : Nat} {l0 l1 : Option mw_V} {z : Int} {σ : mw_S} {Q : Option mw_V → mw_S → Prop} : mw_WP d 124 22 [l0, l1] [jI z] σ Q ↔ Q (some (jI z)) σ := WP_ireturn (ty := .int) mq124 dd124_22 rfl rfl
theorem ee125 {d : Nat} {a : Nat} {z0 : Int} {z1 : Int} {σ : mw_S} {Q : Option mw_V → mw_S → Prop} : mw_Call (d + 1) 125 [jR a, jI z0, jI z1] σ Q ↔ mw_WP d 125 0 [some (jR a), some (jI z0), some (jI z1)] [] σ Q := CL_u mq125 (Nat.le_of_ble_eq_true rfl) rfl
theorem dd125_0 : decode cX11_can 0 = .ok (.aload_n 0, 1) := by decide +kernel
theorem ww125_0 {d : Nat} {l1 l2 : Option mw_V} {x : Nat} {st : List mw_V} {σ : mw_S} {Q : Option mw_V → mw_S → Prop} : mw_WP d 125 0 [some (jR x), l1, l2] st σ Q ↔ mw_WP d 125 1 [some (jR x), l1, l2] (jR x :: st) σ Q := WP_aload_n mq125 dd125_0 rfl
theorem dd125_1 : decode cX11_can 1 = .ok (.iload_n 1, 1) := by decide +kernel
theorem ww125_1 {d : Nat} {l0 l2 : Option mw_V} {x : Int} {st : List mw_V} {σ : mw_S} {Q : Option mw_V → mw_S → Prop} : mw_WP d 125 1 [l0, some (jI x), l2] st σ Q ↔ mw_WP d 125 2 [l0, some (jI x), l2] (jI x :: st) σ Q := WP_iload_n mq125 dd125_1 rfl
theorem dd125_2 : decode cX11_can 2 = .ok (.invokevirtual 131, 3) := by decide +kernel
theorem ww125_2 {d : Nat} {l0 l1 l2 : Option mw_V} {v0 : mw_V} {a : Nat} {st : List mw_V} {σ : mw_S} {Q : Option mw_V → mw_S → Prop} (hr : mw_rc a = 11) (h8 : (st.map mw_cat).sum ≤ 8) : mw_WP d 125 2 [l0, l1, l2] (v0 :: jR a :: st) σ Q ↔ mw_Call d 157 [jR a, v0] σ (fun r1 s1 => mw_WP d 125 5 [l0, l1, l2] (r1.toList ++ st) s1 Q) := WP_inv (as := [v0]) mq125 dd125_2 (by decide) mq157 rfl hr h8
theorem dd125_5 : decode cX11_can 5 = .ok (.ifCond .eq 10, 3) := by decide +kernel
theorem ww125_5 {d : Nat} {l0 l1 l2 : Option mw_V} {x : Int} {st : List mw_V} {σ : mw_S} {Q : Option mw_V → mw_S → Prop} : mw_WP d 125 5 [l0, l1, l2] (jI x :: st) σ Q ↔ (if x = 0 then mw_WP d 125 15 [l0, l1, l2] st σ Q else mw_WP d 125 8 [l0, l1, l2] st σ Q) := WP_if_eq mq125 dd125_5 (by decide)
theorem dd125_8 : decode cX11_can 8 = .ok (.iload_n 2, 1) := by decide +kernel
theorem ww125_8 {d : Nat} {l0 l1 : Option mw_V} {x : Int} {st : List mw_V} {σ : mw_S} {Q : Option mw_V → mw_S → Prop} : mw_WP d 125 8 [l0, l1, some (jI x)] st σ Q ↔ mw_WP d 125 9 [l0, l1, some (jI x)] (jI x :: st) σ Q := WP_iload_n mq125 dd125_8 rfl
theorem dd125_9 : decode cX11_can 9 = .ok (.invokestatic 148, 3) := by decide +kernel
theorem ww125_9 {d : Nat} {l0 l1 l2 : Option mw_V} {v0 : mw_V} {st : List mw_V} {σ : mw_S} {Q : Option mw_V → mw_S → Prop} (h8 : (st.map mw_cat).sum ≤ 8) : mw_WP d 125 9 [l0, l1, l2] (v0 :: st) σ Q ↔ mw_Call d 162 [v0] σ (fun r1 s1 => mw_WP d 125 12 [l0, l1, l2] (r1.toList ++ st) s1 Q) := WP_invs (as := [v0]) mq125 dd125_9 (by decide) mq162 rfl rfl h8
theorem dd125_12 : decode cX11_can 12 = .ok (.ifCond .ne 6, 3) := by decide +kernel
theorem ww125_12 {d : Nat} {l0 l1 l2 : Option mw_V} {x : Int} {st : List mw_V} {σ : mw_S} {Q : Option mw_V → mw_S → Prop} : mw_WP d 125 12 [l0, l1, l2] (jI x :: st) σ Q ↔ (if ¬ x = 0 then mw_WP d 125 18 [l0, l1, l2] st σ Q else mw_WP d 125 15 [l0, l1, l2] st σ Q) := WP_if_ne mq125 dd125_12 (by decide)
theorem dd125_15 : decode cX11_can 15 = .ok (.bipush (-2), 2) := by decide +kernel
theorem ww125_15 {d : Nat} {l0 l1 l2 : Option mw_V} {st : List mw_V} {σ : mw_S} {Q : Option mw_V → mw_S → Prop} : mw_WP d 125 15 [l0, l1, l2] st σ Q ↔ mw_WP d 125 17 [l0, l1, l2] (jI (-2) :: st) σ Q := WP_bipush mq125 dd125_15 (by decide)
theorem dd125_17 : decode cX11_can 17 = .ok (.ireturn, 1) := by decide +kernel
theorem ww125_17 {d : Nat} {l0 l1 l2 : Option mw_V} {z : Int} {σ : mw_S} {Q : Option mw_V → mw_S → Prop} : mw_WP d 125 17 [l0, l1, l2] [jI z] σ Q ↔ Q (some (jI z)) σ := WP_ireturn (ty := .int) mq125 dd125_17 rfl rfl
theorem dd125_18 : decode cX11_can 18 = .ok (.aload_n 0, 1) := by decide +kernel
theorem ww125_18 {d : Nat} {l1 l2 : Option mw_V} {x : Nat} {st : List mw_V} {σ : mw_S} {Q : Option mw_V → mw_S → Prop} : mw_WP d 125 18 [some (jR x), l1, l2] st σ Q ↔ mw_WP d 125 19 [some (jR x), l1, l2] (jR x :: st) σ Q := WP_aload_n mq125 dd125_18 rfl
theorem dd125_19 : decode cX11_can 19 = .ok (.getfield 28, 3) := by decide +kernel
theorem ww125_19 {d : Nat} {l0 l1 l2 : Option mw_V} {st : List mw_V} {σ : mw_S} {Q : Option mw_V → mw_S → Prop} : mw_WP d 125 19 [l0, l1, l2] (jR 0 :: st) σ Q ↔ mw_WP d 125 22 [l0, l1, l2] (jR 22 :: st) σ Q := WP_getR (ci := 10) (k := 2) mq125 dd125_19 (by decide) rfl
theorem dd125_22 : decode cX11_can 22 = .ok (.aload_n 0, 1) := by decide +kernel
theorem ww125_22 {d : Nat} {l1 l2 : Option mw_V} {x : Nat} {st : List mw_V} {σ : mw_S} {Q : Option mw_V → mw_S → Prop} : mw_WP d 125 22 [some (jR x), l1, l2] st σ Q ↔ mw_WP d 125 23 [some (jR x), l1, l2] (jR x :: st) σ Q := WP_aload_n mq125 dd125_22 rfl
theorem dd125_23 : decode cX11_can 23 = .ok (.getfield 86, 3) := by decide +kernel
theorem ww125_23 {d : Nat} {l0 l1 l2 : Option mw_V} {st : List mw_V} {σ : mw_S} {Q : Option mw_V → mw_S → Prop} : mw_WP d 125 23 [l0, l1, l2] (jR 0 :: st) σ Q ↔ mw_WP d 125 26 [l0, l1, l2] (jR 98 :: st) σ Q := WP_getR (ci := 10) (k := 11) mq125 dd125_23 (by decide) rfl
theorem dd125_26 : decode cX11_can 26 = .ok (.iload_n 1, 1) := by decide +kernel
theorem ww125_26 {d : Nat} {l0 l2 : Option mw_V} {x : Int} {st : List mw_V} {σ : mw_S} {Q : Option mw_V → mw_S → Prop} : mw_WP d 125 26 [l0, some (jI x), l2] st σ Q ↔ mw_WP d 125 27 [l0, some (jI x), l2] (jI x :: st) σ Q := WP_iload_n mq125 dd125_26 rfl
theorem dd125_27 : decode cX11_can 27 = .ok (.iload_n 2, 1) := by decide +kernel
theorem ww125_27 {d : Nat} {l0 l1 : Option mw_V} {x : Int} {st : List mw_V} {σ : mw_S} {Q : Option mw_V → mw_S → Prop} : mw_WP d 125 27 [l0, l1, some (jI x)] st σ Q ↔ mw_WP d 125 28 [l0, l1, some (jI x)] (jI x :: st) σ Q := WP_iload_n mq125 dd125_27 rfl
theorem dd125_28 : decode cX11_can 28 = .ok (.invokevirtual 151, 3) := by decide +kernel
theorem ww125_28 {d : Nat} {l0 l1 l2 : Option mw_V} {v0 v1 v2 : mw_V} {a : Nat} {st : List mw_V} {σ : mw_S} {Q : Option mw_V → mw_S → Prop} (hr : mw_rc a = 9) (h8 : (st.map mw_cat).sum ≤ 8) : mw_WP d 125 28 [l0, l1, l2] (v2 :: v1 :: v0 :: jR a :: st) σ Q ↔ mw_Call d 99 [jR a, v0, v1, v2] σ (fun r1 s1 => mw_WP d 125 31 [l0, l1, l2] (r1.toList ++ st) s1 Q) := WP_inv (as := [v2, v1, v0]) mq125 dd125_28 (by decide) mq99 rfl hr h8
theorem dd125_31 : decode cX11_can 31 = .ok (.ifCond .eq 7, 3) := by decide +kernel
theorem ww125_31 {d : Nat} {l0 l1 l2 : Option mw_V} {x : Int} {st : List mw_V} {σ : mw_S} {Q : Option mw_V → mw_S → Prop} : mw_WP d 125 31 [l0, l1, l2] (jI x :: st) σ Q ↔ (if x = 0 then mw_WP d 125 38 [l0, l1, l2] st σ Q else mw_WP d 125 34 [l0, l1, l2] st σ Q) := WP_if_eq mq125 dd125_31 (by decide)
theorem dd125_34 : decode cX11_can 34 = .ok (.iconst 1, 1) := by decide +kernel
theorem ww125_34 {d : Nat} {l0 l1 l2 : Option mw_V} {st : List mw_V} {σ : mw_S} {Q : Option mw_V → mw_S → Prop} : mw_WP d 125 34 [l0, l1, l2] st σ Q ↔ mw_WP d 125 35 [l0, l1, l2] (jI (1) :: st) σ Q := WP_iconst mq125 dd125_34 (by decide)
theorem dd125_35 : decode cX11_can 35 = .ok (.goto 4, 3) := by decide +kernel
theorem ww125_35 {d : Nat} {l0 l1 l2 : Option mw_V} {st : List mw_V} {σ : mw_S} {Q : Option mw_V → mw_S → Prop} : mw_WP d 125 35 [l0, l1, l2] st σ Q ↔ mw_WP d 125 39 [l0, l1, l2] st σ Q := WP_goto mq125 dd125_35 (by decide)
theorem dd125_38 : decode cX11_can 38 = .ok (.iconst 0, 1) := by decide +kernel
theorem ww125_38 {d : Nat} {l0 l1 l2 : Option mw_V} {st : List mw_V} {σ : mw_S} {Q : Option mw_V → mw_S → Prop} : mw_WP d 125 38 [l0, l1, l2] st σ Q ↔ mw_WP d 125 39 [l0, l1, l2] (jI (0) :: st) σ Q := WP_iconst mq125 dd125_38 (by decide)
theorem dd125_39 : decode cX11_can 39 = .ok (.ireturn, 1) := by decide +kernel
theorem ww125_39 {d : Nat} {l0 l1 l2 : Option mw_V} {z : Int} {σ : mw_S} {Q : Option mw_V → mw_S → Prop} : mw_WP d 125 39 [l0, l1, l2] [jI z] σ Q ↔ Q (some (jI z)) σ := WP_ireturn (ty := .int) mq125 dd125_39 rfl rfl
theorem ee126 {d : Nat} {a : Nat} {z0 : Int} {z1 : Int} {σ : mw_S} {Q : Option mw_V → mw_S → Prop} : mw_Call (d + 1) 126 [jR a, jI z0, jI z1] σ Q ↔ mw_WP d 126 0 [some (jR a), some (jI z0), some (jI z1)] [] σ Q := CL_u mq126 (Nat.le_of_ble_eq_true rfl) rfl
theorem dd126_0 : decode cX11_would 0 = .ok (.aload_n 0, 1) := by decide +kernel
theorem ww126_0 {d : Nat} {l1 l2 : Option mw_V} {x : Nat} {st : List mw_V} {σ : mw_S} {Q : Option mw_V → mw_S → Prop} : mw_WP d 126 0 [some (jR x), l1, l2] st σ Q ↔ mw_WP d 126 1 [some (jR x), l1, l2] (jR x :: st) σ Q := WP_aload_n mq126 dd126_0 rfl
theorem dd126_1 : decode cX11_would 1 = .ok (.iload_n 1, 1) := by decide +kernel
theorem ww126_1 {d : Nat} {l0 l2 : Option mw_V} {x : Int} {st : List mw_V} {σ : mw_S} {Q : Option mw_V → mw_S → Prop} : mw_WP d 126 1 [l0, some (jI x), l2] st σ Q ↔ mw_WP d 126 2 [l0, some (jI x), l2] (jI x :: st) σ Q := WP_iload_n mq126 dd126_1 rfl
theorem dd126_2 : decode cX11_would 2 = .ok (.invokevirtual 131, 3) := by decide +kernel
theorem ww126_2 {d : Nat} {l0 l1 l2 : Option mw_V} {v0 : mw_V} {a : Nat} {st : List mw_V} {σ : mw_S} {Q : Option mw_V → mw_S → Prop} (hr : mw_rc a = 11) (h8 : (st.map mw_cat).sum ≤ 8) : mw_WP d 126 2 [l0, l1, l2] (v0 :: jR a :: st) σ Q ↔ mw_Call d 157 [jR a, v0] σ (fun r1 s1 => mw_WP d 126 5 [l0, l1, l2] (r1.toList ++ st) s1 Q) := WP_inv (as := [v0]) mq126 dd126_2 (by decide) mq157 rfl hr h8
theorem dd126_5 : decode cX11_would 5 = .ok (.ifCond .eq 10, 3) := by decide +kernel
theorem ww126_5 {d : Nat} {l0 l1 l2 : Option mw_V} {x : Int} {st : List mw_V} {σ : mw_S} {Q : Option mw_V → mw_S → Prop} : mw_WP d 126 5 [l0, l1, l2] (jI x :: st) σ Q ↔ (if x = 0 then mw_WP d 126 15 [l0, l1, l2] st σ Q else mw_WP d 126 8 [l0, l1, l2] st σ Q) := WP_if_eq mq126 dd126_5 (by decide)
theorem dd126_8 : decode cX11_would 8 = .ok (.iload_n 2, 1) := by decide +kernel
theorem ww126_8 {d : Nat} {l0 l1 : Option mw_V} {x : Int} {st : List mw_V} {σ : mw_S} {Q : Option mw_V → mw_S → Prop} : mw_WP d 126 8 [l0, l1, some (jI x)] st σ Q ↔ mw_WP d 126 9 [l0, l1, some (jI x)] (jI x :: st) σ Q := WP_iload_n mq126 dd126_8 rfl
theorem dd126_9 : decode cX11_would 9 = .ok (.invokestatic 148, 3) := by decide +kernel
theorem ww126_9 {d : Nat} {l0 l1 l2 : Option mw_V} {v0 : mw_V} {st : List mw_V} {σ : mw_S} {Q : Option mw_V → mw_S → Prop} (h8 : (st.map mw_cat).sum ≤ 8) : mw_WP d 126 9 [l0, l1, l2] (v0 :: st) σ Q ↔ mw_Call d 162 [v0] σ (fun r1 s1 => mw_WP d 126 12 [l0, l1, l2] (r1.toList ++ st) s1 Q) := WP_invs (as := [v0]) mq126 dd126_9 (by decide) mq162 rfl rfl h8
theorem dd126_12 : decode cX11_would 12 = .ok (.ifCond .ne 6, 3) := by decide +kernel
theorem ww126_12 {d : Nat} {l0 l1 l2 : Option mw_V} {x : Int} {st : List mw_V} {σ : mw_S} {Q : Option mw_V → mw_S → Prop} : mw_WP d 126 12 [l0, l1, l2] (jI x :: st) σ Q ↔ (if ¬ x = 0 then mw_WP d 126 18 [l0, l1, l2] st σ Q else mw_WP d 126 15 [l0, l1, l2] st σ Q) := WP_if_ne mq126 dd126_12 (by decide)
theorem dd126_15 : decode cX11_would 15 = .ok (.bipush (-2), 2) := by decide +kernel
theorem ww126_15 {d : Nat} {l0 l1 l2 : Option mw_V} {st : List mw_V} {σ : mw_S} {Q : Option mw_V → mw_S → Prop} : mw_WP d 126 15 [l0, l1, l2] st σ Q ↔ mw_WP d 126 17 [l0, l1, l2] (jI (-2) :: st) σ Q := WP_bipush mq126 dd126_15 (by decide)
theorem dd126_17 : decode cX11_would 17 = .ok (.ireturn, 1) := by decide +kernel
theorem ww126_17 {d : Nat} {l0 l1 l2 : Option mw_V} {z : Int} {σ : mw_S} {Q : Option mw_V → mw_S → Prop} : mw_WP d 126 17 [l0, l1, l2] [jI z] σ Q ↔ Q (some (jI z)) σ := WP_ireturn (ty := .int) mq126 dd126_17 rfl rfl
theorem dd126_18 : decode cX11_would 18 = .ok (.aload_n 0, 1) := by decide +kernel
theorem ww126_18 {d : Nat} {l1 l2 : Option mw_V} {x : Nat} {st : List mw_V} {σ : mw_S} {Q : Option mw_V → mw_S → Prop} : mw_WP d 126 18 [some (jR x), l1, l2] st σ Q ↔ mw_WP d 126 19 [some (jR x), l1, l2] (jR x :: st) σ Q := WP_aload_n mq126 dd126_18 rfl
theorem dd126_19 : decode cX11_would 19 = .ok (.getfield 28, 3) := by decide +kernel
theorem ww126_19 {d : Nat} {l0 l1 l2 : Option mw_V} {st : List mw_V} {σ : mw_S} {Q : Option mw_V → mw_S → Prop} : mw_WP d 126 19 [l0, l1, l2] (jR 0 :: st) σ Q ↔ mw_WP d 126 22 [l0, l1, l2] (jR 22 :: st) σ Q := WP_getR (ci := 10) (k := 2) mq126 dd126_19 (by decide) rfl
theorem dd126_22 : decode cX11_would 22 = .ok (.aload_n 0, 1) := by decide +kernel
theorem ww126_22 {d : Nat} {l1 l2 : Option mw_V} {x : Nat} {st : List mw_V} {σ : mw_S} {Q : Option mw_V → mw_S → Prop} : mw_WP d 126 22 [some (jR x), l1, l2] st σ Q ↔ mw_WP d 126 23 [some (jR x), l1, l2] (jR x :: st) σ Q := WP_aload_n mq126 dd126_22 rfl
theorem dd126_23 : decode cX11_would 23 = .ok (.getfield 86, 3) := by decide +kernel
theorem ww126_23 {d : Nat} {l0 l1 l2 : Option mw_V} {st : List mw_V} {σ : mw_S} {Q : Option mw_V → mw_S → Prop} : mw_WP d 126 23 [l0, l1, l2] (jR 0 :: st) σ Q ↔ mw_WP d 126 26 [l0, l1, l2] (jR 98 :: st) σ Q := WP_getR (ci := 10) (k := 11) mq126 dd126_23 (by decide) rfl
theorem dd126_26 : decode cX11_would 26 = .ok (.iload_n 1, 1) := by decide +kernel
theorem ww126_26 {d : Nat} {l0 l2 : Option mw_V} {x : Int} {st : List mw_V} {σ : mw_S} {Q : Option mw_V → mw_S → Prop} : mw_WP d 126 26 [l0, some (jI x), l2] st σ Q ↔ mw_WP d 126 27 [l0, some (jI x), l2] (jI x :: st) σ Q := WP_iload_n mq126 dd126_26 rfl
theorem dd126_27 : decode cX11_would 27 = .ok (.iload_n 2, 1) := by decide +kernel
theorem ww126_27 {d : Nat} {l0 l1 : Option mw_V} {x : Int} {st : List mw_V} {σ : mw_S} {Q : Option mw_V → mw_S → Prop} : mw_WP d 126 27 [l0, l1, some (jI x)] st σ Q ↔ mw_WP d 126 28 [l0, l1, some (jI x)] (jI x :: st) σ Q := WP_iload_n mq126 dd126_27 rfl
theorem dd126_28 : decode cX11_would 28 = .ok (.invokevirtual 155, 3) := by decide +kernel
theorem ww126_28 {d : Nat} {l0 l1 l2 : Option mw_V} {v0 v1 v2 : mw_V} {a : Nat} {st : List mw_V} {σ : mw_S} {Q : Option mw_V → mw_S → Prop} (hr : mw_rc a = 9) (h8 : (st.map mw_cat).sum ≤ 8) : mw_WP d 126 28 [l0, l1, l2] (v2 :: v1 :: v0 :: jR a :: st) σ Q ↔ mw_Call d 89 [jR a, v0, v1, v2] σ (fun r1 s1 => mw_WP d 126 31 [l0, l1, l2] (r1.toList ++ st) s1 Q) := WP_inv (as := [v2, v1, v0]) mq126 dd126_28 (by decide) mq89 rfl hr h8
theorem dd126_31 : decode cX11_would 31 = .ok (.ireturn, 1) := by decide +kernel
theorem ww126_31 {d : Nat} {l0 l1 l2 : Option mw_V} {z : Int} {σ : mw_S} {Q : Option mw_V → mw_S → Prop} : mw_WP d 126 31 [l0, l1, l2] [jI z] σ Q ↔ Q (some (jI z)) σ := WP_ireturn (ty := .int) mq126 dd126_31 rfl rfl
theorem ee127 {d : Nat} {a : Nat} {z0 : Int} {σ : mw_S} {Q : Option mw_V → mw_S → Prop} : mw_Call (d + 1) 127 [jR a, jI z0] σ Q ↔ mw_WP d 127 0 [some (jR a), some (jI z0)] [] σ Q := CL_u mq127 (Nat.le_of_ble_eq_true rfl) rfl
theorem dd127_0 : decode cX11_step 0 = .ok (.aload_n 0, 1) := by decide +kernel
theorem ww127_0 {d : Nat} {l1 : Option mw_V} {x : Nat} {st : List mw_V} {σ : mw_S} {Q : Option mw_V → mw_S → Prop} : mw_WP d 127 0 [some (jR x), l1] st σ Q ↔ mw_WP d 127 1 [some (jR x), l1] (jR x :: st) σ Q := WP_aload_n mq127 dd127_0 rfl
theorem dd127_1 : decode cX11_step 1 = .ok (.getfield 28, 3) := by decide +kernel
theorem ww127_1 {d : Nat} {l0 l1 : Option mw_V} {st : List mw_V} {σ : mw_S} {Q : Option mw_V → mw_S → Prop} : mw_WP d 127 1 [l0, l1] (jR 0 :: st) σ Q ↔ mw_WP d 127 4 [l0, l1] (jR 22 :: st) σ Q := WP_getR (ci := 10) (k := 2) mq127 dd127_1 (by decide) rfl
theorem dd127_4 : decode cX11_step 4 = .ok (.iload_n 1, 1) := by decide +kernel
theorem ww127_4 {d : Nat} {l0 : Option mw_V} {x : Int} {st : List mw_V} {σ : mw_S} {Q : Option mw_V → mw_S → Prop} : mw_WP d 127 4 [l0, some (jI x)] st σ Q ↔ mw_WP d 127 5 [l0, some (jI x)] (jI x :: st) σ Q := WP_iload_n mq127 dd127_4 rfl
theorem dd127_5 : decode cX11_step 5 = .ok (.i2l, 1) := by decide +kernel
theorem ww127_5 {d : Nat} {l0 l1 : Option mw_V} {x : Int} {st : List mw_V} {σ : mw_S} {Q : Option mw_V → mw_S → Prop} : mw_WP d 127 5 [l0, l1] (jI x :: st) σ Q ↔ mw_WP d 127 6 [l0, l1] (jL (yL x) :: st) σ Q := WP_i2l mq127 dd127_5
theorem dd127_6 : decode cX11_step 6 = .ok (.invokevirtual 159, 3) := by decide +kernel
theorem ww127_6 {d : Nat} {l0 l1 : Option mw_V} {v0 : mw_V} {a : Nat} {st : List mw_V} {σ : mw_S} {Q : Option mw_V → mw_S → Prop} (hr : mw_rc a = 9) (h8 : (st.map mw_cat).sum ≤ 8) : mw_WP d 127 6 [l0, l1] (v0 :: jR a :: st) σ Q ↔ mw_Call d 87 [jR a, v0] σ (fun r1 s1 => mw_WP d 127 9 [l0, l1] (r1.toList ++ st) s1 Q) := WP_inv (as := [v0]) mq127 dd127_6 (by decide) mq87 rfl hr h8
theorem dd127_9 : decode cX11_step 9 = .ok (.ifCond .ne 6, 3) := by decide +kernel
theorem ww127_9 {d : Nat} {l0 l1 : Option mw_V} {x : Int} {st : List mw_V} {σ : mw_S} {Q : Option mw_V → mw_S → Prop} : mw_WP d 127 9 [l0, l1] (jI x :: st) σ Q ↔ (if ¬ x = 0 then mw_WP d 127 15 [l0, l1] st σ Q else mw_WP d 127 12 [l0, l1] st σ Q) := WP_if_ne mq127 dd127_9 (by decide)
theorem dd127_12 : decode cX11_step 12 = .ok (.bipush (-3), 2) := by decide +kernel
theorem ww127_12 {d : Nat} {l0 l1 : Option mw_V} {st : List mw_V} {σ : mw_S} {Q : Option mw_V → mw_S → Prop} : mw_WP d 127 12 [l0, l1] st σ Q ↔ mw_WP d 127 14 [l0, l1] (jI (-3) :: st) σ Q := WP_bipush mq127 dd127_12 (by decide)
theorem dd127_14 : decode cX11_step 14 = .ok (.ireturn, 1) := by decide +kernel
theorem ww127_14 {d : Nat} {l0 l1 : Option mw_V} {z : Int} {σ : mw_S} {Q : Option mw_V → mw_S → Prop} : mw_WP d 127 14 [l0, l1] [jI z] σ Q ↔ Q (some (jI z)) σ := WP_ireturn (ty := .int) mq127 dd127_14 rfl rfl
theorem dd127_15 : decode cX11_step 15 = .ok (.aload_n 0, 1) := by decide +kernel
theorem ww127_15 {d : Nat} {l1 : Option mw_V} {x : Nat} {st : List mw_V} {σ : mw_S} {Q : Option mw_V → mw_S → Prop} : mw_WP d 127 15 [some (jR x), l1] st σ Q ↔ mw_WP d 127 16 [some (jR x), l1] (jR x :: st) σ Q := WP_aload_n mq127 dd127_15 rfl
theorem dd127_16 : decode cX11_step 16 = .ok (.getfield 35, 3) := by decide +kernel
theorem ww127_16 {d : Nat} {l0 l1 : Option mw_V} {st : List mw_V} {σ : mw_S} {Q : Option mw_V → mw_S → Prop} : mw_WP d 127 16 [l0, l1] (jR 0 :: st) σ Q ↔ mw_WP d 127 19 [l0, l1] (jR 25 :: st) σ Q := WP_getR (ci := 10) (k := 3) mq127 dd127_16 (by decide) rfl
theorem dd127_19 : decode cX11_step 19 = .ok (.aload_n 0, 1) := by decide +kernel
theorem ww127_19 {d : Nat} {l1 : Option mw_V} {x : Nat} {st : List mw_V} {σ : mw_S} {Q : Option mw_V → mw_S → Prop} : mw_WP d 127 19 [some (jR x), l1] st σ Q ↔ mw_WP d 127 20 [some (jR x), l1] (jR x :: st) σ Q := WP_aload_n mq127 dd127_19 rfl
theorem dd127_20 : decode cX11_step 20 = .ok (.getfield 86, 3) := by decide +kernel
theorem ww127_20 {d : Nat} {l0 l1 : Option mw_V} {st : List mw_V} {σ : mw_S} {Q : Option mw_V → mw_S → Prop} : mw_WP d 127 20 [l0, l1] (jR 0 :: st) σ Q ↔ mw_WP d 127 23 [l0, l1] (jR 98 :: st) σ Q := WP_getR (ci := 10) (k := 11) mq127 dd127_20 (by decide) rfl
theorem dd127_23 : decode cX11_step 23 = .ok (.invokevirtual 163, 3) := by decide +kernel
theorem ww127_23 {d : Nat} {l0 l1 : Option mw_V} {v0 : mw_V} {a : Nat} {st : List mw_V} {σ : mw_S} {Q : Option mw_V → mw_S → Prop} (hr : mw_rc a = 6) (h8 : (st.map mw_cat).sum ≤ 8) : mw_WP d 127 23 [l0, l1] (v0 :: jR a :: st) σ Q ↔ mw_Call d 41 [jR a, v0] σ (fun r1 s1 => mw_WP d 127 26 [l0, l1] (r1.toList ++ st) s1 Q) := WP_inv (as := [v0]) mq127 dd127_23 (by decide) mq41 rfl hr h8
theorem dd127_26 : decode cX11_step 26 = .ok (.aload_n 0, 1) := by decide +kernel
theorem ww127_26 {d : Nat} {l1 : Option mw_V} {x : Nat} {st : List mw_V} {σ : mw_S} {Q : Option mw_V → mw_S → Prop} : mw_WP d 127 26 [some (jR x), l1] st σ Q ↔ mw_WP d 127 27 [some (jR x), l1] (jR x :: st) σ Q := WP_aload_n mq127 dd127_26 rfl
theorem dd127_27 : decode cX11_step 27 = .ok (.getfield 28, 3) := by decide +kernel
theorem ww127_27 {d : Nat} {l0 l1 : Option mw_V} {st : List mw_V} {σ : mw_S} {Q : Option mw_V → mw_S → Prop} : mw_WP d 127 27 [l0, l1] (jR 0 :: st) σ Q ↔ mw_WP d 127 30 [l0, l1] (jR 22 :: st) σ Q := WP_getR (ci := 10) (k := 2) mq127 dd127_27 (by decide) rfl
theorem dd127_30 : decode cX11_step 30 = .ok (.aload_n 0, 1) := by decide +kernel
theorem ww127_30 {d : Nat} {l1 : Option mw_V} {x : Nat} {st : List mw_V} {σ : mw_S} {Q : Option mw_V → mw_S → Prop} : mw_WP d 127 30 [some (jR x), l1] st σ Q ↔ mw_WP d 127 31 [some (jR x), l1] (jR x :: st) σ Q := WP_aload_n mq127 dd127_30 rfl
theorem dd127_31 : decode cX11_step 31 = .ok (.getfield 86, 3) := by decide +kernel
theorem ww127_31 {d : Nat} {l0 l1 : Option mw_V} {st : List mw_V} {σ : mw_S} {Q : Option mw_V → mw_S → Prop} : mw_WP d 127 31 [l0, l1] (jR 0 :: st) σ Q ↔ mw_WP d 127 34 [l0, l1] (jR 98 :: st) σ Q := WP_getR (ci := 10) (k := 11) mq127 dd127_31 (by decide) rfl
theorem dd127_34 : decode cX11_step 34 = .ok (.iload_n 1, 1) := by decide +kernel
theorem ww127_34 {d : Nat} {l0 : Option mw_V} {x : Int} {st : List mw_V} {σ : mw_S} {Q : Option mw_V → mw_S → Prop} : mw_WP d 127 34 [l0, some (jI x)] st σ Q ↔ mw_WP d 127 35 [l0, some (jI x)] (jI x :: st) σ Q := WP_iload_n mq127 dd127_34 rfl
theorem dd127_35 : decode cX11_step 35 = .ok (.invokevirtual 166, 3) := by decide +kernel
theorem ww127_35 {d : Nat} {l0 l1 : Option mw_V} {v0 v1 : mw_V} {a : Nat} {st : List mw_V} {σ : mw_S} {Q : Option mw_V → mw_S → Prop} (hr : mw_rc a = 9) (h8 : (st.map mw_cat).sum ≤ 8) : mw_WP d 127 35 [l0, l1] (v1 :: v0 :: jR a :: st) σ Q ↔ mw_Call d 88 [jR a, v0, v1] σ (fun r1 s1 => mw_WP d 127 38 [l0, l1] (r1.toList ++ st) s1 Q) := WP_inv (as := [v1, v0]) mq127 dd127_35 (by decide) mq88 rfl hr h8
theorem dd127_38 : decode cX11_step 38 = .ok (.ireturn, 1) := by decide +kernel
theorem ww127_38 {d : Nat} {l0 l1 : Option mw_V} {z : Int} {σ : mw_S} {Q : Option mw_V → mw_S → Prop} : mw_WP d 127 38 [l0, l1] [jI z] σ Q ↔ Q (some (jI z)) σ := WP_ireturn (ty := .int) mq127 dd127_38 rfl rfl
theorem ee128 {d : Nat} {a : Nat} {z0 : Int} {σ : mw_S} {Q : Option mw_V → mw_S → Prop} : mw_Call (d + 1) 128 [jR a, jI z0] σ Q ↔ mw_WP d 128 0 [some (jR a), some (jI z0)] [] σ Q := CL_u mq128 (Nat.le_of_ble_eq_true rfl) rfl
theorem dd128_0 : decode cX11_undo 0 = .ok (.iload_n 1, 1) := by decide +kernel
theorem ww128_0 {d : Nat} {l0 : Option mw_V} {x : Int} {st : List mw_V} {σ : mw_S} {Q : Option mw_V → mw_S → Prop} : mw_WP d 128 0 [l0, some (jI x)] st σ Q ↔ mw_WP d 128 1 [l0, some (jI x)] (jI x :: st) σ Q := WP_iload_n mq128 dd128_0 rfl
theorem dd128_1 : decode cX11_undo 1 = .ok (.iconst 1, 1) := by decide +kernel
theorem ww128_1 {d : Nat} {l0 l1 : Option mw_V} {st : List mw_V} {σ : mw_S} {Q : Option mw_V → mw_S → Prop} : mw_WP d 128 1 [l0, l1] st σ Q ↔ mw_WP d 128 2 [l0, l1] (jI (1) :: st) σ Q := WP_iconst mq128 dd128_1 (by decide)
theorem dd128_2 : decode cX11_undo 2 = .ok (.if_icmp .lt 20, 3) := by decide +kernel
theorem ww128_2 {d : Nat} {l0 l1 : Option mw_V} {x y : Int} {st : List mw_V} {σ : mw_S} {Q : Option mw_V → mw_S → Prop} : mw_WP d 128 2 [l0, l1] (jI y :: jI x :: st) σ Q ↔ (if x < y then mw_WP d 128 22 [l0, l1] st σ Q else mw_WP d 128 5 [l0, l1] st σ Q) := WP_icmp_lt mq128 dd128_2 (by decide)
theorem dd128_5 : decode cX11_undo 5 = .ok (.iload_n 1, 1) := by decide +kernel
theorem ww128_5 {d : Nat} {l0 : Option mw_V} {x : Int} {st : List mw_V} {σ : mw_S} {Q : Option mw_V → mw_S → Prop} : mw_WP d 128 5 [l0, some (jI x)] st σ Q ↔ mw_WP d 128 6 [l0, some (jI x)] (jI x :: st) σ Q := WP_iload_n mq128 dd128_5 rfl
theorem dd128_6 : decode cX11_undo 6 = .ok (.bipush 10, 2) := by decide +kernel
theorem ww128_6 {d : Nat} {l0 l1 : Option mw_V} {st : List mw_V} {σ : mw_S} {Q : Option mw_V → mw_S → Prop} : mw_WP d 128 6 [l0, l1] st σ Q ↔ mw_WP d 128 8 [l0, l1] (jI (10) :: st) σ Q := WP_bipush mq128 dd128_6 (by decide)
theorem dd128_8 : decode cX11_undo 8 = .ok (.if_icmp .gt 14, 3) := by decide +kernel
theorem ww128_8 {d : Nat} {l0 l1 : Option mw_V} {x y : Int} {st : List mw_V} {σ : mw_S} {Q : Option mw_V → mw_S → Prop} : mw_WP d 128 8 [l0, l1] (jI y :: jI x :: st) σ Q ↔ (if y < x then mw_WP d 128 22 [l0, l1] st σ Q else mw_WP d 128 11 [l0, l1] st σ Q) := WP_icmp_gt mq128 dd128_8 (by decide)
theorem dd128_11 : decode cX11_undo 11 = .ok (.iload_n 1, 1) := by decide +kernel
theorem ww128_11 {d : Nat} {l0 : Option mw_V} {x : Int} {st : List mw_V} {σ : mw_S} {Q : Option mw_V → mw_S → Prop} : mw_WP d 128 11 [l0, some (jI x)] st σ Q ↔ mw_WP d 128 12 [l0, some (jI x)] (jI x :: st) σ Q := WP_iload_n mq128 dd128_11 rfl
theorem dd128_12 : decode cX11_undo 12 = .ok (.aload_n 0, 1) := by decide +kernel
theorem ww128_12 {d : Nat} {l1 : Option mw_V} {x : Nat} {st : List mw_V} {σ : mw_S} {Q : Option mw_V → mw_S → Prop} : mw_WP d 128 12 [some (jR x), l1] st σ Q ↔ mw_WP d 128 13 [some (jR x), l1] (jR x :: st) σ Q := WP_aload_n mq128 dd128_12 rfl
theorem dd128_13 : decode cX11_undo 13 = .ok (.getfield 35, 3) := by decide +kernel
theorem ww128_13 {d : Nat} {l0 l1 : Option mw_V} {st : List mw_V} {σ : mw_S} {Q : Option mw_V → mw_S → Prop} : mw_WP d 128 13 [l0, l1] (jR 0 :: st) σ Q ↔ mw_WP d 128 16 [l0, l1] (jR 25 :: st) σ Q := WP_getR (ci := 10) (k := 3) mq128 dd128_13 (by decide) rfl
theorem dd128_16 : decode cX11_undo 16 = .ok (.getfield 169, 3) := by decide +kernel
theorem ww128_16 {d : Nat} {l0 l1 : Option mw_V} {st : List mw_V} {σ : mw_S} {Q : Option mw_V → mw_S → Prop} : mw_WP d 128 16 [l0, l1] (jR 25 :: st) σ Q ↔ mw_WP d 128 19 [l0, l1] (jI (σ 25 0) :: st) σ Q := WP_getI (ci := 5) (k := 0) mq128 dd128_16 (by decide) (Or.inl rfl)
theorem dd128_19 : decode cX11_undo 19 = .ok (.if_icmp .le 6, 3) := by decide +kernel
theorem ww128_19 {d : Nat} {l0 l1 : Option mw_V} {x y : Int} {st : List mw_V} {σ : mw_S} {Q : Option mw_V → mw_S → Prop} : mw_WP d 128 19 [l0, l1] (jI y :: jI x :: st) σ Q ↔ (if x ≤ y then mw_WP d 128 25 [l0, l1] st σ Q else mw_WP d 128 22 [l0, l1] st σ Q) := WP_icmp_le mq128 dd128_19 (by decide)
theorem dd128_22 : decode cX11_undo 22 = .ok (.bipush (-3), 2) := by decide +kernel
theorem ww128_22 {d : Nat} {l0 l1 : Option mw_V} {st : List mw_V} {σ : mw_S} {Q : Option mw_V → mw_S → Prop} : mw_WP d 128 22 [l0, l1] st σ Q ↔ mw_WP d 128 24 [l0, l1] (jI (-3) :: st) σ Q := WP_bipush mq128 dd128_22 (by decide)
theorem dd128_24 : decode cX11_undo 24 = .ok (.ireturn, 1) := by decide +kernel
theorem ww128_24 {d : Nat} {l0 l1 : Option mw_V} {z : Int} {σ : mw_S} {Q : Option mw_V → mw_S → Prop} : mw_WP d 128 24 [l0, l1] [jI z] σ Q ↔ Q (some (jI z)) σ := WP_ireturn (ty := .int) mq128 dd128_24 rfl rfl
theorem dd128_25 : decode cX11_undo 25 = .ok (.aload_n 0, 1) := by decide +kernel
theorem ww128_25 {d : Nat} {l1 : Option mw_V} {x : Nat} {st : List mw_V} {σ : mw_S} {Q : Option mw_V → mw_S → Prop} : mw_WP d 128 25 [some (jR x), l1] st σ Q ↔ mw_WP d 128 26 [some (jR x), l1] (jR x :: st) σ Q := WP_aload_n mq128 dd128_25 rfl
theorem dd128_26 : decode cX11_undo 26 = .ok (.getfield 35, 3) := by decide +kernel
theorem ww128_26 {d : Nat} {l0 l1 : Option mw_V} {st : List mw_V} {σ : mw_S} {Q : Option mw_V → mw_S → Prop} : mw_WP d 128 26 [l0, l1] (jR 0 :: st) σ Q ↔ mw_WP d 128 29 [l0, l1] (jR 25 :: st) σ Q := WP_getR (ci := 10) (k := 3) mq128 dd128_26 (by decide) rfl
theorem dd128_29 : decode cX11_undo 29 = .ok (.iload_n 1, 1) := by decide +kernel
theorem ww128_29 {d : Nat} {l0 : Option mw_V} {x : Int} {st : List mw_V} {σ : mw_S} {Q : Option mw_V → mw_S → Prop} : mw_WP d 128 29 [l0, some (jI x)] st σ Q ↔ mw_WP d 128 30 [l0, some (jI x)] (jI x :: st) σ Q := WP_iload_n mq128 dd128_29 rfl
theorem dd128_30 : decode cX11_undo 30 = .ok (.aload_n 0, 1) := by decide +kernel
theorem ww128_30 {d : Nat} {l1 : Option mw_V} {x : Nat} {st : List mw_V} {σ : mw_S} {Q : Option mw_V → mw_S → Prop} : mw_WP d 128 30 [some (jR x), l1] st σ Q ↔ mw_WP d 128 31 [some (jR x), l1] (jR x :: st) σ Q := WP_aload_n mq128 dd128_30 rfl
theorem dd128_31 : decode cX11_undo 31 = .ok (.getfield 86, 3) := by decide +kernel
theorem ww128_31 {d : Nat} {l0 l1 : Option mw_V} {st : List mw_V} {σ : mw_S} {Q : Option mw_V → mw_S → Prop} : mw_WP d 128 31 [l0, l1] (jR 0 :: st) σ Q ↔ mw_WP d 128 34 [l0, l1] (jR 98 :: st) σ Q := WP_getR (ci := 10) (k := 11) mq128 dd128_31 (by decide) rfl
theorem dd128_34 : decode cX11_undo 34 = .ok (.invokevirtual 172, 3) := by decide +kernel
theorem ww128_34 {d : Nat} {l0 l1 : Option mw_V} {v0 v1 : mw_V} {a : Nat} {st : List mw_V} {σ : mw_S} {Q : Option mw_V → mw_S → Prop} (hr : mw_rc a = 6) (h8 : (st.map mw_cat).sum ≤ 8) : mw_WP d 128 34 [l0, l1] (v1 :: v0 :: jR a :: st) σ Q ↔ mw_Call d 42 [jR a, v0, v1] σ (fun r1 s1 => mw_WP d 128 37 [l0, l1] (r1.toList ++ st) s1 Q) := WP_inv (as := [v1, v0]) mq128 dd128_34 (by decide) mq42 rfl hr h8
theorem dd128_37 : decode cX11_undo 37 = .ok (.aload_n 0, 1) := by decide +kernel
theorem ww128_37 {d : Nat} {l1 : Option mw_V} {x : Nat} {st : List mw_V} {σ : mw_S} {Q : Option mw_V → mw_S → Prop} : mw_WP d 128 37 [some (jR x), l1] st σ Q ↔ mw_WP d 128 38 [some (jR x), l1] (jR x :: st) σ Q := WP_aload_n mq128 dd128_37 rfl
theorem dd128_38 : decode cX11_undo 38 = .ok (.getfield 35, 3) := by decide +kernel
theorem ww128_38 {d : Nat} {l0 l1 : Option mw_V} {st : List mw_V} {σ : mw_S} {Q : Option mw_V → mw_S → Prop} : mw_WP d 128 38 [l0, l1] (jR 0 :: st) σ Q ↔ mw_WP d 128 41 [l0, l1] (jR 25 :: st) σ Q := WP_getR (ci := 10) (k := 3) mq128 dd128_38 (by decide) rfl
theorem dd128_41 : decode cX11_undo 41 = .ok (.getfield 169, 3) := by decide +kernel
theorem ww128_41 {d : Nat} {l0 l1 : Option mw_V} {st : List mw_V} {σ : mw_S} {Q : Option mw_V → mw_S → Prop} : mw_WP d 128 41 [l0, l1] (jR 25 :: st) σ Q ↔ mw_WP d 128 44 [l0, l1] (jI (σ 25 0) :: st) σ Q := WP_getI (ci := 5) (k := 0) mq128 dd128_41 (by decide) (Or.inl rfl)
theorem dd128_44 : decode cX11_undo 44 = .ok (.ireturn, 1) := by decide +kernel
theorem ww128_44 {d : Nat} {l0 l1 : Option mw_V} {z : Int} {σ : mw_S} {Q : Option mw_V → mw_S → Prop} : mw_WP d 128 44 [l0, l1] [jI z] σ Q ↔ Q (some (jI z)) σ := WP_ireturn (ty := .int) mq128 dd128_44 rfl rfl
theorem ee129 {d : Nat} {a : Nat} {z0 : Int} {z1 : Int} {σ : mw_S} {Q : Option mw_V → mw_S → Prop} : mw_Call (d + 1) 129 [jR a, jI z0, jI z1] σ Q ↔ mw_WP d 129 0 [some (jR a), some (jI z0), some (jI z1)] [] σ Q := CL_u mq129 (Nat.le_of_ble_eq_true rfl) rfl
theorem dd129_0 : decode cX11_judge 0 = .ok (.aload_n 0, 1) := by decide +kernel
theorem ww129_0 {d : Nat} {l1 l2 : Option mw_V} {x : Nat} {st : List mw_V} {σ : mw_S} {Q : Option mw_V → mw_S → Prop} : mw_WP d 129 0 [some (jR x), l1, l2] st σ Q ↔ mw_WP d 129 1 [some (jR x), l1, l2] (jR x :: st) σ Q := WP_aload_n mq129 dd129_0 rfl
theorem dd129_1 : decode cX11_judge 1 = .ok (.getfield 42, 3) := by decide +kernel
theorem ww129_1 {d : Nat} {l0 l1 l2 : Option mw_V} {st : List mw_V} {σ : mw_S} {Q : Option mw_V → mw_S → Prop} : mw_WP d 129 1 [l0, l1, l2] (jR 0 :: st) σ Q ↔ mw_WP d 129 4 [l0, l1, l2] (jR 37 :: st) σ Q := WP_getR (ci := 10) (k := 4) mq129 dd129_1 (by decide) rfl
theorem dd129_4 : decode cX11_judge 4 = .ok (.iload_n 1, 1) := by decide +kernel
theorem ww129_4 {d : Nat} {l0 l2 : Option mw_V} {x : Int} {st : List mw_V} {σ : mw_S} {Q : Option mw_V → mw_S → Prop} : mw_WP d 129 4 [l0, some (jI x), l2] st σ Q ↔ mw_WP d 129 5 [l0, some (jI x), l2] (jI x :: st) σ Q := WP_iload_n mq129 dd129_4 rfl
theorem dd129_5 : decode cX11_judge 5 = .ok (.invokevirtual 176, 3) := by decide +kernel
theorem ww129_5 {d : Nat} {l0 l1 l2 : Option mw_V} {v0 : mw_V} {a : Nat} {st : List mw_V} {σ : mw_S} {Q : Option mw_V → mw_S → Prop} (hr : mw_rc a = 10) (h8 : (st.map mw_cat).sum ≤ 8) : mw_WP d 129 5 [l0, l1, l2] (v0 :: jR a :: st) σ Q ↔ mw_Call d 112 [jR a, v0] σ (fun r1 s1 => mw_WP d 129 8 [l0, l1, l2] (r1.toList ++ st) s1 Q) := WP_inv (as := [v0]) mq129 dd129_5 (by decide) mq112 rfl hr h8
theorem dd129_8 : decode cX11_judge 8 = .ok (.ifCond .eq 12, 3) := by decide +kernel
theorem ww129_8 {d : Nat} {l0 l1 l2 : Option mw_V} {x : Int} {st : List mw_V} {σ : mw_S} {Q : Option mw_V → mw_S → Prop} : mw_WP d 129 8 [l0, l1, l2] (jI x :: st) σ Q ↔ (if x = 0 then mw_WP d 129 20 [l0, l1, l2] st σ Q else mw_WP d 129 11 [l0, l1, l2] st σ Q) := WP_if_eq mq129 dd129_8 (by decide)
theorem dd129_11 : decode cX11_judge 11 = .ok (.iload_n 2, 1) := by decide +kernel
theorem ww129_11 {d : Nat} {l0 l1 : Option mw_V} {x : Int} {st : List mw_V} {σ : mw_S} {Q : Option mw_V → mw_S → Prop} : mw_WP d 129 11 [l0, l1, some (jI x)] st σ Q ↔ mw_WP d 129 12 [l0, l1, some (jI x)] (jI x :: st) σ Q := WP_iload_n mq129 dd129_11 rfl
theorem dd129_12 : decode cX11_judge 12 = .ok (.ifCond .lt 8, 3) := by decide +kernel
theorem ww129_12 {d : Nat} {l0 l1 l2 : Option mw_V} {x : Int} {st : List mw_V} {σ : mw_S} {Q : Option mw_V → mw_S → Prop} : mw_WP d 129 12 [l0, l1, l2] (jI x :: st) σ Q ↔ (if x < 0 then mw_WP d 129 20 [l0, l1, l2] st σ Q else mw_WP d 129 15 [l0, l1, l2] st σ Q) := WP_if_lt mq129 dd129_12 (by decide)
theorem dd129_15 : decode cX11_judge 15 = .ok (.iload_n 2, 1) := by decide +kernel
theorem ww129_15 {d : Nat} {l0 l1 : Option mw_V} {x : Int} {st : List mw_V} {σ : mw_S} {Q : Option mw_V → mw_S → Prop} : mw_WP d 129 15 [l0, l1, some (jI x)] st σ Q ↔ mw_WP d 129 16 [l0, l1, some (jI x)] (jI x :: st) σ Q := WP_iload_n mq129 dd129_15 rfl
theorem dd129_16 : decode cX11_judge 16 = .ok (.iconst 3, 1) := by decide +kernel
theorem ww129_16 {d : Nat} {l0 l1 l2 : Option mw_V} {st : List mw_V} {σ : mw_S} {Q : Option mw_V → mw_S → Prop} : mw_WP d 129 16 [l0, l1, l2] st σ Q ↔ mw_WP d 129 17 [l0, l1, l2] (jI (3) :: st) σ Q := WP_iconst mq129 dd129_16 (by decide)
theorem dd129_17 : decode cX11_judge 17 = .ok (.if_icmp .le 6, 3) := by decide +kernel
theorem ww129_17 {d : Nat} {l0 l1 l2 : Option mw_V} {x y : Int} {st : List mw_V} {σ : mw_S} {Q : Option mw_V → mw_S → Prop} : mw_WP d 129 17 [l0, l1, l2] (jI y :: jI x :: st) σ Q ↔ (if x ≤ y then mw_WP d 129 23 [l0, l1, l2] st σ Q else mw_WP d 129 20 [l0, l1, l2] st σ Q) := WP_icmp_le mq129 dd129_17 (by decide)
theorem dd129_20 : decode cX11_judge 20 = .ok (.bipush (-2), 2) := by decide +kernel
theorem ww129_20 {d : Nat} {l0 l1 l2 : Option mw_V} {st : List mw_V} {σ : mw_S} {Q : Option mw_V → mw_S → Prop} : mw_WP d 129 20 [l0, l1, l2] st σ Q ↔ mw_WP d 129 22 [l0, l1, l2] (jI (-2) :: st) σ Q := WP_bipush mq129 dd129_20 (by decide)
theorem dd129_22 : decode cX11_judge 22 = .ok (.ireturn, 1) := by decide +kernel
theorem ww129_22 {d : Nat} {l0 l1 l2 : Option mw_V} {z : Int} {σ : mw_S} {Q : Option mw_V → mw_S → Prop} : mw_WP d 129 22 [l0, l1, l2] [jI z] σ Q ↔ Q (some (jI z)) σ := WP_ireturn (ty := .int) mq129 dd129_22 rfl rfl
theorem dd129_23 : decode cX11_judge 23 = .ok (.aload_n 0, 1) := by decide +kernel
theorem ww129_23 {d : Nat} {l1 l2 : Option mw_V} {x : Nat} {st : List mw_V} {σ : mw_S} {Q : Option mw_V → mw_S → Prop} : mw_WP d 129 23 [some (jR x), l1, l2] st σ Q ↔ mw_WP d 129 24 [some (jR x), l1, l2] (jR x :: st) σ Q := WP_aload_n mq129 dd129_23 rfl
theorem dd129_24 : decode cX11_judge 24 = .ok (.getfield 42, 3) := by decide +kernel
theorem ww129_24 {d : Nat} {l0 l1 l2 : Option mw_V} {st : List mw_V} {σ : mw_S} {Q : Option mw_V → mw_S → Prop} : mw_WP d 129 24 [l0, l1, l2] (jR 0 :: st) σ Q ↔ mw_WP d 129 27 [l0, l1, l2] (jR 37 :: st) σ Q := WP_getR (ci := 10) (k := 4) mq129 dd129_24 (by decide) rfl
theorem dd129_27 : decode cX11_judge 27 = .ok (.iload_n 1, 1) := by decide +kernel
theorem ww129_27 {d : Nat} {l0 l2 : Option mw_V} {x : Int} {st : List mw_V} {σ : mw_S} {Q : Option mw_V → mw_S → Prop} : mw_WP d 129 27 [l0, some (jI x), l2] st σ Q ↔ mw_WP d 129 28 [l0, some (jI x), l2] (jI x :: st) σ Q := WP_iload_n mq129 dd129_27 rfl
theorem dd129_28 : decode cX11_judge 28 = .ok (.invokevirtual 179, 3) := by decide +kernel
theorem ww129_28 {d : Nat} {l0 l1 l2 : Option mw_V} {v0 : mw_V} {a : Nat} {st : List mw_V} {σ : mw_S} {Q : Option mw_V → mw_S → Prop} (hr : mw_rc a = 10) (h8 : (st.map mw_cat).sum ≤ 8) : mw_WP d 129 28 [l0, l1, l2] (v0 :: jR a :: st) σ Q ↔ mw_Call d 113 [jR a, v0] σ (fun r1 s1 => mw_WP d 129 31 [l0, l1, l2] (r1.toList ++ st) s1 Q) := WP_inv (as := [v0]) mq129 dd129_28 (by decide) mq113 rfl hr h8
theorem dd129_31 : decode cX11_judge 31 = .ok (.ifCond .eq 6, 3) := by decide +kernel
theorem ww129_31 {d : Nat} {l0 l1 l2 : Option mw_V} {x : Int} {st : List mw_V} {σ : mw_S} {Q : Option mw_V → mw_S → Prop} : mw_WP d 129 31 [l0, l1, l2] (jI x :: st) σ Q ↔ (if x = 0 then mw_WP d 129 37 [l0, l1, l2] st σ Q else mw_WP d 129 34 [l0, l1, l2] st σ Q) := WP_if_eq mq129 dd129_31 (by decide)
theorem dd129_34 : decode cX11_judge 34 = .ok (.bipush (-6), 2) := by decide +kernel
theorem ww129_34 {d : Nat} {l0 l1 l2 : Option mw_V} {st : List mw_V} {σ : mw_S} {Q : Option mw_V → mw_S → Prop} : mw_WP d 129 34 [l0, l1, l2] st σ Q ↔ mw_WP d 129 36 [l0, l1, l2] (jI (-6) :: st) σ Q := WP_bipush mq129 dd129_34 (by decide)
theorem dd129_36 : decode cX11_judge 36 = .ok (.ireturn, 1) := by decide +kernel
theorem ww129_36 {d : Nat} {l0 l1 l2 : Option mw_V} {z : Int} {σ : mw_S} {Q : Option mw_V → mw_S → Prop} : mw_WP d 129 36 [l0, l1, l2] [jI z] σ Q ↔ Q (some (jI z)) σ := WP_ireturn (ty := .int) mq129 dd129_36 rfl rfl
theorem dd129_37 : decode cX11_judge 37 = .ok (.aload_n 0, 1) := by decide +kernel
theorem ww129_37 {d : Nat} {l1 l2 : Option mw_V} {x : Nat} {st : List mw_V} {σ : mw_S} {Q : Option mw_V → mw_S → Prop} : mw_WP d 129 37 [some (jR x), l1, l2] st σ Q ↔ mw_WP d 129 38 [some (jR x), l1, l2] (jR x :: st) σ Q := WP_aload_n mq129 dd129_37 rfl
theorem dd129_38 : decode cX11_judge 38 = .ok (.iload_n 1, 1) := by decide +kernel
theorem ww129_38 {d : Nat} {l0 l2 : Option mw_V} {x : Int} {st : List mw_V} {σ : mw_S} {Q : Option mw_V → mw_S → Prop} : mw_WP d 129 38 [l0, some (jI x), l2] st σ Q ↔ mw_WP d 129 39 [l0, some (jI x), l2] (jI x :: st) σ Q := WP_iload_n mq129 dd129_38 rfl
theorem dd129_39 : decode cX11_judge 39 = .ok (.invokevirtual 182, 3) := by decide +kernel
theorem ww129_39 {d : Nat} {l0 l1 l2 : Option mw_V} {v0 : mw_V} {a : Nat} {st : List mw_V} {σ : mw_S} {Q : Option mw_V → mw_S → Prop} (hr : mw_rc a = 11) (h8 : (st.map mw_cat).sum ≤ 8) : mw_WP d 129 39 [l0, l1, l2] (v0 :: jR a :: st) σ Q ↔ mw_Call d 168 [jR a, v0] σ (fun r1 s1 => mw_WP d 129 42 [l0, l1, l2] (r1.toList ++ st) s1 Q) := WP_inv (as := [v0]) mq129 dd129_39 (by decide) mq168 rfl hr h8
theorem dd129_42 : decode cX11_judge 42 = .ok (.iload_n 2, 1) := by decide +kernel
theorem ww129_42 {d : Nat} {l0 l1 : Option mw_V} {x : Int} {st : List mw_V} {σ : mw_S} {Q : Option mw_V → mw_S → Prop} : mw_WP d 129 42 [l0, l1, some (jI x)] st σ Q ↔ mw_WP d 129 43 [l0, l1, some (jI x)] (jI x :: st) σ Q := WP_iload_n mq129 dd129_42 rfl
theorem dd129_43 : decode cX11_judge 43 = .ok (.tableswitch 71 0 2 #[25, 55, 63], 25) := by decide +kernel
theorem ww129_43k0 {d : Nat} {l0 l1 l2 : Option mw_V} {st : List mw_V} {σ : mw_S} {Q : Option mw_V → mw_S → Prop} : mw_WP d 129 43 [l0, l1, l2] (jI (0) :: st) σ Q ↔ mw_WP d 129 68 [l0, l1, l2] st σ Q := WP_k mq129 dd129_43 rfl (fun _ _ => by simp [mw_stp, mw_b1, mw_go])
theorem ww129_43k1 {d : Nat} {l0 l1 l2 : Option mw_V} {st : List mw_V} {σ : mw_S} {Q : Option mw_V → mw_S → Prop} : mw_WP d 129 43 [l0, l1, l2] (jI (1) :: st) σ Q ↔ mw_WP d 129 98 [l0, l1, l2] st σ Q := WP_k mq129 dd129_43 rfl (fun _ _ => by simp [mw_stp, mw_b1, mw_go])
theorem ww129_43k2 {d : Nat} {l0 l1 l2 : Option mw_V} {st : List mw_V} {σ : mw_S} {Q : Option mw_V → mw_S → Prop} : mw_WP d 129 43 [l0, l1, l2] (jI (2) :: st) σ Q ↔ mw_WP d 129 106 [l0, l1, l2] st σ Q := WP_k mq129 dd129_43 rfl (fun _ _ => by simp [mw_stp, mw_b1, mw_go])
theorem ww129_43kd {d : Nat} {l0 l1 l2 : Option mw_V} {x : Int} {st : List mw_V} {σ : mw_S} {Q : Option mw_V → mw_S → Prop} (h : x < 0 ∨ 2 < x) : mw_WP d 129 43 [l0, l1, l2] (jI x :: st) σ Q ↔ mw_WP d 129 114 [l0, l1, l2] st σ Q := WP_k mq129 dd129_43 rfl (fun _ _ => by simp [mw_stp, mw_b1, mw_go, h])
theorem dd129_68 : decode cX11_judge 68 = .ok (.aload_n 0, 1) := by decide +kernel
theorem ww129_68 {d : Nat} {l1 l2 : Option mw_V} {x : Nat} {st : List mw_V} {σ : mw_S} {Q : Option mw_V → mw_S → Prop} : mw_WP d 129 68 [some (jR x), l1, l2] st σ Q ↔ mw_WP d 129 69 [some (jR x), l1, l2] (jR x :: st) σ Q := WP_aload_n mq129 dd129_68 rfl
theorem dd129_69 : decode cX11_judge 69 = .ok (.getfield 28, 3) := by decide +kernel
theorem ww129_69 {d : Nat} {l0 l1 l2 : Option mw_V} {st : List mw_V} {σ : mw_S} {Q : Option mw_V → mw_S → Prop} : mw_WP d 129 69 [l0, l1, l2] (jR 0 :: st) σ Q ↔ mw_WP d 129 72 [l0, l1, l2] (jR 22 :: st) σ Q := WP_getR (ci := 10) (k := 2) mq129 dd129_69 (by decide) rfl
theorem dd129_72 : decode cX11_judge 72 = .ok (.getfield 185, 3) := by decide +kernel
theorem ww129_72 {d : Nat} {l0 l1 l2 : Option mw_V} {st : List mw_V} {σ : mw_S} {Q : Option mw_V → mw_S → Prop} : mw_WP d 129 72 [l0, l1, l2] (jR 22 :: st) σ Q ↔ mw_WP d 129 75 [l0, l1, l2] (jI (σ 22 1) :: st) σ Q := WP_getI (ci := 8) (k := 1) mq129 dd129_72 (by decide) (Or.inl rfl)
theorem dd129_75 : decode cX11_judge 75 = .ok (.aload_n 0, 1) := by decide +kernel
theorem ww129_75 {d : Nat} {l1 l2 : Option mw_V} {x : Nat} {st : List mw_V} {σ : mw_S} {Q : Option mw_V → mw_S → Prop} : mw_WP d 129 75 [some (jR x), l1, l2] st σ Q ↔ mw_WP d 129 76 [some (jR x), l1, l2] (jR x :: st) σ Q := WP_aload_n mq129 dd129_75 rfl
theorem dd129_76 : decode cX11_judge 76 = .ok (.getfield 42, 3) := by decide +kernel
theorem ww129_76 {d : Nat} {l0 l1 l2 : Option mw_V} {st : List mw_V} {σ : mw_S} {Q : Option mw_V → mw_S → Prop} : mw_WP d 129 76 [l0, l1, l2] (jR 0 :: st) σ Q ↔ mw_WP d 129 79 [l0, l1, l2] (jR 37 :: st) σ Q := WP_getR (ci := 10) (k := 4) mq129 dd129_76 (by decide) rfl
theorem dd129_79 : decode cX11_judge 79 = .ok (.iload_n 1, 1) := by decide +kernel
theorem ww129_79 {d : Nat} {l0 l2 : Option mw_V} {x : Int} {st : List mw_V} {σ : mw_S} {Q : Option mw_V → mw_S → Prop} : mw_WP d 129 79 [l0, some (jI x), l2] st σ Q ↔ mw_WP d 129 80 [l0, some (jI x), l2] (jI x :: st) σ Q := WP_iload_n mq129 dd129_79 rfl
theorem dd129_80 : decode cX11_judge 80 = .ok (.invokevirtual 188, 3) := by decide +kernel
theorem ww129_80 {d : Nat} {l0 l1 l2 : Option mw_V} {v0 : mw_V} {a : Nat} {st : List mw_V} {σ : mw_S} {Q : Option mw_V → mw_S → Prop} (hr : mw_rc a = 10) (h8 : (st.map mw_cat).sum ≤ 8) : mw_WP d 129 80 [l0, l1, l2] (v0 :: jR a :: st) σ Q ↔ mw_Call d 114 [jR a, v0] σ (fun r1 s1 => mw_WP d 129 83 [l0, l1, l2] (r1.toList ++ st) s1 Q) := WP_inv (as := [v0]) mq129 dd129_80 (by decide) mq114 rfl hr h8
theorem dd129_83 : decode cX11_judge 83 = .ok (.if_icmp .ge 13, 3) := by decide +kernel
theorem ww129_83 {d : Nat} {l0 l1 l2 : Option mw_V} {x y : Int} {st : List mw_V} {σ : mw_S} {Q : Option mw_V → mw_S → Prop} : mw_WP d 129 83 [l0, l1, l2] (jI y :: jI x :: st) σ Q ↔ (if y ≤ x then mw_WP d 129 96 [l0, l1, l2] st σ Q else mw_WP d 129 86 [l0, l1, l2] st σ Q) := WP_icmp_ge mq129 dd129_83 (by decide)
theorem dd129_86 : decode cX11_judge 86 = .ok (.aload_n 0, 1) := by decide +kernel
theorem ww129_86 {d : Nat} {l1 l2 : Option mw_V} {x : Nat} {st : List mw_V} {σ : mw_S} {Q : Option mw_V → mw_S → Prop} : mw_WP d 129 86 [some (jR x), l1, l2] st σ Q ↔ mw_WP d 129 87 [some (jR x), l1, l2] (jR x :: st) σ Q := WP_aload_n mq129 dd129_86 rfl
theorem dd129_87 : decode cX11_judge 87 = .ok (.getfield 28, 3) := by decide +kernel
theorem ww129_87 {d : Nat} {l0 l1 l2 : Option mw_V} {st : List mw_V} {σ : mw_S} {Q : Option mw_V → mw_S → Prop} : mw_WP d 129 87 [l0, l1, l2] (jR 0 :: st) σ Q ↔ mw_WP d 129 90 [l0, l1, l2] (jR 22 :: st) σ Q := WP_getR (ci := 10) (k := 2) mq129 dd129_87 (by decide) rfl
theorem dd129_90 : decode cX11_judge 90 = .ok (.getfield 185, 3) := by decide +kernel
theorem ww129_90 {d : Nat} {l0 l1 l2 : Option mw_V} {st : List mw_V} {σ : mw_S} {Q : Option mw_V → mw_S → Prop} : mw_WP d 129 90 [l0, l1, l2] (jR 22 :: st) σ Q ↔ mw_WP d 129 93 [l0, l1, l2] (jI (σ 22 1) :: st) σ Q := WP_getI (ci := 8) (k := 1) mq129 dd129_90 (by decide) (Or.inl rfl)
theorem dd129_93 : decode cX11_judge 93 = .ok (.goto 4, 3) := by decide +kernel
theorem ww129_93 {d : Nat} {l0 l1 l2 : Option mw_V} {st : List mw_V} {σ : mw_S} {Q : Option mw_V → mw_S → Prop} : mw_WP d 129 93 [l0, l1, l2] st σ Q ↔ mw_WP d 129 97 [l0, l1, l2] st σ Q := WP_goto mq129 dd129_93 (by decide)
theorem dd129_96 : decode cX11_judge 96 = .ok (.iconst (-1), 1) := by decide +kernel
theorem ww129_96 {d : Nat} {l0 l1 l2 : Option mw_V} {st : List mw_V} {σ : mw_S} {Q : Option mw_V → mw_S → Prop} : mw_WP d 129 96 [l0, l1, l2] st σ Q ↔ mw_WP d 129 97 [l0, l1, l2] (jI (-1) :: st) σ Q := WP_iconst mq129 dd129_96 (by decide)
theorem dd129_97 : decode cX11_judge 97 = .ok (.ireturn, 1) := by decide +kernel
theorem ww129_97 {d : Nat} {l0 l1 l2 : Option mw_V} {z : Int} {σ : mw_S} {Q : Option mw_V → mw_S → Prop} : mw_WP d 129 97 [l0, l1, l2] [jI z] σ Q ↔ Q (some (jI z)) σ := WP_ireturn (ty := .int) mq129 dd129_97 rfl rfl
theorem dd129_98 : decode cX11_judge 98 = .ok (.aload_n 0, 1) := by decide +kernel
theorem ww129_98 {d : Nat} {l1 l2 : Option mw_V} {x : Nat} {st : List mw_V} {σ : mw_S} {Q : Option mw_V → mw_S → Prop} : mw_WP d 129 98 [some (jR x), l1, l2] st σ Q ↔ mw_WP d 129 99 [some (jR x), l1, l2] (jR x :: st) σ Q := WP_aload_n mq129 dd129_98 rfl
theorem dd129_99 : decode cX11_judge 99 = .ok (.getfield 28, 3) := by decide +kernel
theorem ww129_99 {d : Nat} {l0 l1 l2 : Option mw_V} {st : List mw_V} {σ : mw_S} {Q : Option mw_V → mw_S → Prop} : mw_WP d 129 99 [l0, l1, l2] (jR 0 :: st) σ Q ↔ mw_WP d 129 102 [l0, l1, l2] (jR 22 :: st) σ Q := WP_getR (ci := 10) (k := 2) mq129 dd129_99 (by decide) rfl
theorem dd129_102 : decode cX11_judge 102 = .ok (.getfield 185, 3) := by decide +kernel
theorem ww129_102 {d : Nat} {l0 l1 l2 : Option mw_V} {st : List mw_V} {σ : mw_S} {Q : Option mw_V → mw_S → Prop} : mw_WP d 129 102 [l0, l1, l2] (jR 22 :: st) σ Q ↔ mw_WP d 129 105 [l0, l1, l2] (jI (σ 22 1) :: st) σ Q := WP_getI (ci := 8) (k := 1) mq129 dd129_102 (by decide) (Or.inl rfl)
theorem dd129_105 : decode cX11_judge 105 = .ok (.ireturn, 1) := by decide +kernel
theorem ww129_105 {d : Nat} {l0 l1 l2 : Option mw_V} {z : Int} {σ : mw_S} {Q : Option mw_V → mw_S → Prop} : mw_WP d 129 105 [l0, l1, l2] [jI z] σ Q ↔ Q (some (jI z)) σ := WP_ireturn (ty := .int) mq129 dd129_105 rfl rfl
theorem dd129_106 : decode cX11_judge 106 = .ok (.aload_n 0, 1) := by decide +kernel
theorem ww129_106 {d : Nat} {l1 l2 : Option mw_V} {x : Nat} {st : List mw_V} {σ : mw_S} {Q : Option mw_V → mw_S → Prop} : mw_WP d 129 106 [some (jR x), l1, l2] st σ Q ↔ mw_WP d 129 107 [some (jR x), l1, l2] (jR x :: st) σ Q := WP_aload_n mq129 dd129_106 rfl
theorem dd129_107 : decode cX11_judge 107 = .ok (.getfield 28, 3) := by decide +kernel
theorem ww129_107 {d : Nat} {l0 l1 l2 : Option mw_V} {st : List mw_V} {σ : mw_S} {Q : Option mw_V → mw_S → Prop} : mw_WP d 129 107 [l0, l1, l2] (jR 0 :: st) σ Q ↔ mw_WP d 129 110 [l0, l1, l2] (jR 22 :: st) σ Q := WP_getR (ci := 10) (k := 2) mq129 dd129_107 (by decide) rfl
theorem dd129_110 : decode cX11_judge 110 = .ok (.getfield 192, 3) := by decide +kernel
theorem ww129_110 {d : Nat} {l0 l1 l2 : Option mw_V} {st : List mw_V} {σ : mw_S} {Q : Option mw_V → mw_S → Prop} : mw_WP d 129 110 [l0, l1, l2] (jR 22 :: st) σ Q ↔ mw_WP d 129 113 [l0, l1, l2] (jI (σ 22 2) :: st) σ Q := WP_getI (ci := 8) (k := 2) mq129 dd129_110 (by decide) (Or.inl rfl)
theorem dd129_113 : decode cX11_judge 113 = .ok (.ireturn, 1) := by decide +kernel
theorem ww129_113 {d : Nat} {l0 l1 l2 : Option mw_V} {z : Int} {σ : mw_S} {Q : Option mw_V → mw_S → Prop} : mw_WP d 129 113 [l0, l1, l2] [jI z] σ Q ↔ Q (some (jI z)) σ := WP_ireturn (ty := .int) mq129 dd129_113 rfl rfl
theorem dd129_114 : decode cX11_judge 114 = .ok (.aload_n 0, 1) := by decide +kernel
theorem ww129_114 {d : Nat} {l1 l2 : Option mw_V} {x : Nat} {st : List mw_V} {σ : mw_S} {Q : Option mw_V → mw_S → Prop} : mw_WP d 129 114 [some (jR x), l1, l2] st σ Q ↔ mw_WP d 129 115 [some (jR x), l1, l2] (jR x :: st) σ Q := WP_aload_n mq129 dd129_114 rfl
theorem dd129_115 : decode cX11_judge 115 = .ok (.getfield 28, 3) := by decide +kernel
theorem ww129_115 {d : Nat} {l0 l1 l2 : Option mw_V} {st : List mw_V} {σ : mw_S} {Q : Option mw_V → mw_S → Prop} : mw_WP d 129 115 [l0, l1, l2] (jR 0 :: st) σ Q ↔ mw_WP d 129 118 [l0, l1, l2] (jR 22 :: st) σ Q := WP_getR (ci := 10) (k := 2) mq129 dd129_115 (by decide) rfl
theorem dd129_118 : decode cX11_judge 118 = .ok (.getfield 195, 3) := by decide +kernel
theorem ww129_118 {d : Nat} {l0 l1 l2 : Option mw_V} {st : List mw_V} {σ : mw_S} {Q : Option mw_V → mw_S → Prop} : mw_WP d 129 118 [l0, l1, l2] (jR 22 :: st) σ Q ↔ mw_WP d 129 121 [l0, l1, l2] (jI (σ 22 3) :: st) σ Q := WP_getI (ci := 8) (k := 3) mq129 dd129_118 (by decide) (Or.inl rfl)
theorem dd129_121 : decode cX11_judge 121 = .ok (.ireturn, 1) := by decide +kernel
theorem ww129_121 {d : Nat} {l0 l1 l2 : Option mw_V} {z : Int} {σ : mw_S} {Q : Option mw_V → mw_S → Prop} : mw_WP d 129 121 [l0, l1, l2] [jI z] σ Q ↔ Q (some (jI z)) σ := WP_ireturn (ty := .int) mq129 dd129_121 rfl rfl
theorem ee130 {d : Nat} {a : Nat} {z0 : Int} {σ : mw_S} {Q : Option mw_V → mw_S → Prop} : mw_Call (d + 1) 130 [jR a, jI z0] σ Q ↔ mw_WP d 130 0 [some (jR a), some (jI z0)] [] σ Q := CL_u mq130 (Nat.le_of_ble_eq_true rfl) rfl
theorem dd130_0 : decode cX11_perform 0 = .ok (.aload_n 0, 1) := by decide +kernel
theorem ww130_0 {d : Nat} {l1 : Option mw_V} {x : Nat} {st : List mw_V} {σ : mw_S} {Q : Option mw_V → mw_S → Prop} : mw_WP d 130 0 [some (jR x), l1] st σ Q ↔ mw_WP d 130 1 [some (jR x), l1] (jR x :: st) σ Q := WP_aload_n mq130 dd130_0 rfl
theorem dd130_1 : decode cX11_perform 1 = .ok (.getfield 42, 3) := by decide +kernel
theorem ww130_1 {d : Nat} {l0 l1 : Option mw_V} {st : List mw_V} {σ : mw_S} {Q : Option mw_V → mw_S → Prop} : mw_WP d 130 1 [l0, l1] (jR 0 :: st) σ Q ↔ mw_WP d 130 4 [l0, l1] (jR 37 :: st) σ Q := WP_getR (ci := 10) (k := 4) mq130 dd130_1 (by decide) rfl
theorem dd130_4 : decode cX11_perform 4 = .ok (.iload_n 1, 1) := by decide +kernel
theorem ww130_4 {d : Nat} {l0 : Option mw_V} {x : Int} {st : List mw_V} {σ : mw_S} {Q : Option mw_V → mw_S → Prop} : mw_WP d 130 4 [l0, some (jI x)] st σ Q ↔ mw_WP d 130 5 [l0, some (jI x)] (jI x :: st) σ Q := WP_iload_n mq130 dd130_4 rfl
theorem dd130_5 : decode cX11_perform 5 = .ok (.invokevirtual 176, 3) := by decide +kernel
theorem ww130_5 {d : Nat} {l0 l1 : Option mw_V} {v0 : mw_V} {a : Nat} {st : List mw_V} {σ : mw_S} {Q : Option mw_V → mw_S → Prop} (hr : mw_rc a = 10) (h8 : (st.map mw_cat).sum ≤ 8) : mw_WP d 130 5 [l0, l1] (v0 :: jR a :: st) σ Q ↔ mw_Call d 112 [jR a, v0] σ (fun r1 s1 => mw_WP d 130 8 [l0, l1] (r1.toList ++ st) s1 Q) := WP_inv (as := [v0]) mq130 dd130_5 (by decide) mq112 rfl hr h8
theorem dd130_8 : decode cX11_perform 8 = .ok (.ifCond .ne 6, 3) := by decide +kernel
theorem ww130_8 {d : Nat} {l0 l1 : Option mw_V} {x : Int} {st : List mw_V} {σ : mw_S} {Q : Option mw_V → mw_S → Prop} : mw_WP d 130 8 [l0, l1] (jI x :: st) σ Q ↔ (if ¬ x = 0 then mw_WP d 130 14 [l0, l1] st σ Q else mw_WP d 130 11 [l0, l1] st σ Q) := WP_if_ne mq130 dd130_8 (by decide)
theorem dd130_11 : decode cX11_perform 11 = .ok (.bipush (-2), 2) := by decide +kernel
theorem ww130_11 {d : Nat} {l0 l1 : Option mw_V} {st : List mw_V} {σ : mw_S} {Q : Option mw_V → mw_S → Prop} : mw_WP d 130 11 [l0, l1] st σ Q ↔ mw_WP d 130 13 [l0, l1] (jI (-2) :: st) σ Q := WP_bipush mq130 dd130_11 (by decide)
theorem dd130_13 : decode cX11_perform 13 = .ok (.ireturn, 1) := by decide +kernel
theorem ww130_13 {d : Nat} {l0 l1 : Option mw_V} {z : Int} {σ : mw_S} {Q : Option mw_V → mw_S → Prop} : mw_WP d 130 13 [l0, l1] [jI z] σ Q ↔ Q (some (jI z)) σ := WP_ireturn (ty := .int) mq130 dd130_13 rfl rfl
theorem dd130_14 : decode cX11_perform 14 = .ok (.aload_n 0, 1) := by decide +kernel
theorem ww130_14 {d : Nat} {l1 : Option mw_V} {x : Nat} {st : List mw_V} {σ : mw_S} {Q : Option mw_V → mw_S → Prop} : mw_WP d 130 14 [some (jR x), l1] st σ Q ↔ mw_WP d 130 15 [some (jR x), l1] (jR x :: st) σ Q := WP_aload_n mq130 dd130_14 rfl
theorem dd130_15 : decode cX11_perform 15 = .ok (.getfield 42, 3) := by decide +kernel
theorem ww130_15 {d : Nat} {l0 l1 : Option mw_V} {st : List mw_V} {σ : mw_S} {Q : Option mw_V → mw_S → Prop} : mw_WP d 130 15 [l0, l1] (jR 0 :: st) σ Q ↔ mw_WP d 130 18 [l0, l1] (jR 37 :: st) σ Q := WP_getR (ci := 10) (k := 4) mq130 dd130_15 (by decide) rfl
theorem dd130_18 : decode cX11_perform 18 = .ok (.iload_n 1, 1) := by decide +kernel
theorem ww130_18 {d : Nat} {l0 : Option mw_V} {x : Int} {st : List mw_V} {σ : mw_S} {Q : Option mw_V → mw_S → Prop} : mw_WP d 130 18 [l0, some (jI x)] st σ Q ↔ mw_WP d 130 19 [l0, some (jI x)] (jI x :: st) σ Q := WP_iload_n mq130 dd130_18 rfl
theorem dd130_19 : decode cX11_perform 19 = .ok (.invokevirtual 179, 3) := by decide +kernel
theorem ww130_19 {d : Nat} {l0 l1 : Option mw_V} {v0 : mw_V} {a : Nat} {st : List mw_V} {σ : mw_S} {Q : Option mw_V → mw_S → Prop} (hr : mw_rc a = 10) (h8 : (st.map mw_cat).sum ≤ 8) : mw_WP d 130 19 [l0, l1] (v0 :: jR a :: st) σ Q ↔ mw_Call d 113 [jR a, v0] σ (fun r1 s1 => mw_WP d 130 22 [l0, l1] (r1.toList ++ st) s1 Q) := WP_inv (as := [v0]) mq130 dd130_19 (by decide) mq113 rfl hr h8
theorem dd130_22 : decode cX11_perform 22 = .ok (.ifCond .eq 6, 3) := by decide +kernel
theorem ww130_22 {d : Nat} {l0 l1 : Option mw_V} {x : Int} {st : List mw_V} {σ : mw_S} {Q : Option mw_V → mw_S → Prop} : mw_WP d 130 22 [l0, l1] (jI x :: st) σ Q ↔ (if x = 0 then mw_WP d 130 28 [l0, l1] st σ Q else mw_WP d 130 25 [l0, l1] st σ Q) := WP_if_eq mq130 dd130_22 (by decide)
theorem dd130_25 : decode cX11_perform 25 = .ok (.bipush (-6), 2) := by decide +kernel
theorem ww130_25 {d : Nat} {l0 l1 : Option mw_V} {st : List mw_V} {σ : mw_S} {Q : Option mw_V → mw_S → Prop} : mw_WP d 130 25 [l0, l1] st σ Q ↔ mw_WP d 130 27 [l0, l1] (jI (-6) :: st) σ Q := WP_bipush mq130 dd130_25 (by decide)
theorem dd130_27 : decode cX11_perform 27 = .ok (.ireturn, 1) := by decide +kernel
theorem ww130_27 {d : Nat} {l0 l1 : Option mw_V} {z : Int} {σ : mw_S} {Q : Option mw_V → mw_S → Prop} : mw_WP d 130 27 [l0, l1] [jI z] σ Q ↔ Q (some (jI z)) σ := WP_ireturn (ty := .int) mq130 dd130_27 rfl rfl
theorem dd130_28 : decode cX11_perform 28 = .ok (.aload_n 0, 1) := by decide +kernel
theorem ww130_28 {d : Nat} {l1 : Option mw_V} {x : Nat} {st : List mw_V} {σ : mw_S} {Q : Option mw_V → mw_S → Prop} : mw_WP d 130 28 [some (jR x), l1] st σ Q ↔ mw_WP d 130 29 [some (jR x), l1] (jR x :: st) σ Q := WP_aload_n mq130 dd130_28 rfl
theorem dd130_29 : decode cX11_perform 29 = .ok (.iload_n 1, 1) := by decide +kernel
theorem ww130_29 {d : Nat} {l0 : Option mw_V} {x : Int} {st : List mw_V} {σ : mw_S} {Q : Option mw_V → mw_S → Prop} : mw_WP d 130 29 [l0, some (jI x)] st σ Q ↔ mw_WP d 130 30 [l0, some (jI x)] (jI x :: st) σ Q := WP_iload_n mq130 dd130_29 rfl
theorem dd130_30 : decode cX11_perform 30 = .ok (.invokevirtual 182, 3) := by decide +kernel
theorem ww130_30 {d : Nat} {l0 l1 : Option mw_V} {v0 : mw_V} {a : Nat} {st : List mw_V} {σ : mw_S} {Q : Option mw_V → mw_S → Prop} (hr : mw_rc a = 11) (h8 : (st.map mw_cat).sum ≤ 8) : mw_WP d 130 30 [l0, l1] (v0 :: jR a :: st) σ Q ↔ mw_Call d 168 [jR a, v0] σ (fun r1 s1 => mw_WP d 130 33 [l0, l1] (r1.toList ++ st) s1 Q) := WP_inv (as := [v0]) mq130 dd130_30 (by decide) mq168 rfl hr h8
theorem dd130_33 : decode cX11_perform 33 = .ok (.aload_n 0, 1) := by decide +kernel
theorem ww130_33 {d : Nat} {l1 : Option mw_V} {x : Nat} {st : List mw_V} {σ : mw_S} {Q : Option mw_V → mw_S → Prop} : mw_WP d 130 33 [some (jR x), l1] st σ Q ↔ mw_WP d 130 34 [some (jR x), l1] (jR x :: st) σ Q := WP_aload_n mq130 dd130_33 rfl
theorem dd130_34 : decode cX11_perform 34 = .ok (.getfield 28, 3) := by decide +kernel
theorem ww130_34 {d : Nat} {l0 l1 : Option mw_V} {st : List mw_V} {σ : mw_S} {Q : Option mw_V → mw_S → Prop} : mw_WP d 130 34 [l0, l1] (jR 0 :: st) σ Q ↔ mw_WP d 130 37 [l0, l1] (jR 22 :: st) σ Q := WP_getR (ci := 10) (k := 2) mq130 dd130_34 (by decide) rfl
theorem dd130_37 : decode cX11_perform 37 = .ok (.getfield 185, 3) := by decide +kernel
theorem ww130_37 {d : Nat} {l0 l1 : Option mw_V} {st : List mw_V} {σ : mw_S} {Q : Option mw_V → mw_S → Prop} : mw_WP d 130 37 [l0, l1] (jR 22 :: st) σ Q ↔ mw_WP d 130 40 [l0, l1] (jI (σ 22 1) :: st) σ Q := WP_getI (ci := 8) (k := 1) mq130 dd130_37 (by decide) (Or.inl rfl)
theorem dd130_40 : decode cX11_perform 40 = .ok (.ifCond .le 25, 3) := by decide +kernel
theorem ww130_40 {d : Nat} {l0 l1 : Option mw_V} {x : Int} {st : List mw_V} {σ : mw_S} {Q : Option mw_V → mw_S → Prop} : mw_WP d 130 40 [l0, l1] (jI x :: st) σ Q ↔ (if x ≤ 0 then mw_WP d 130 65 [l0, l1] st σ Q else mw_WP d 130 43 [l0, l1] st σ Q) := WP_if_le mq130 dd130_40 (by decide)
theorem dd130_43 : decode cX11_perform 43 = .ok (.aload_n 0, 1) := by decide +kernel
theorem ww130_43 {d : Nat} {l1 : Option mw_V} {x : Nat} {st : List mw_V} {σ : mw_S} {Q : Option mw_V → mw_S → Prop} : mw_WP d 130 43 [some (jR x), l1] st σ Q ↔ mw_WP d 130 44 [some (jR x), l1] (jR x :: st) σ Q := WP_aload_n mq130 dd130_43 rfl
theorem dd130_44 : decode cX11_perform 44 = .ok (.getfield 35, 3) := by decide +kernel
theorem ww130_44 {d : Nat} {l0 l1 : Option mw_V} {st : List mw_V} {σ : mw_S} {Q : Option mw_V → mw_S → Prop} : mw_WP d 130 44 [l0, l1] (jR 0 :: st) σ Q ↔ mw_WP d 130 47 [l0, l1] (jR 25 :: st) σ Q := WP_getR (ci := 10) (k := 3) mq130 dd130_44 (by decide) rfl
theorem dd130_47 : decode cX11_perform 47 = .ok (.aload_n 0, 1) := by decide +kernel
theorem ww130_47 {d : Nat} {l1 : Option mw_V} {x : Nat} {st : List mw_V} {σ : mw_S} {Q : Option mw_V → mw_S → Prop} : mw_WP d 130 47 [some (jR x), l1] st σ Q ↔ mw_WP d 130 48 [some (jR x), l1] (jR x :: st) σ Q := WP_aload_n mq130 dd130_47 rfl
theorem dd130_48 : decode cX11_perform 48 = .ok (.getfield 86, 3) := by decide +kernel
theorem ww130_48 {d : Nat} {l0 l1 : Option mw_V} {st : List mw_V} {σ : mw_S} {Q : Option mw_V → mw_S → Prop} : mw_WP d 130 48 [l0, l1] (jR 0 :: st) σ Q ↔ mw_WP d 130 51 [l0, l1] (jR 98 :: st) σ Q := WP_getR (ci := 10) (k := 11) mq130 dd130_48 (by decide) rfl
theorem dd130_51 : decode cX11_perform 51 = .ok (.invokevirtual 163, 3) := by decide +kernel
theorem ww130_51 {d : Nat} {l0 l1 : Option mw_V} {v0 : mw_V} {a : Nat} {st : List mw_V} {σ : mw_S} {Q : Option mw_V → mw_S → Prop} (hr : mw_rc a = 6) (h8 : (st.map mw_cat).sum ≤ 8) : mw_WP d 130 51 [l0, l1] (v0 :: jR a :: st) σ Q ↔ mw_Call d 41 [jR a, v0] σ (fun r1 s1 => mw_WP d 130 54 [l0, l1] (r1.toList ++ st) s1 Q) := WP_inv (as := [v0]) mq130 dd130_51 (by decide) mq41 rfl hr h8
theorem dd130_54 : decode cX11_perform 54 = .ok (.aload_n 0, 1) := by decide +kernel
theorem ww130_54 {d : Nat} {l1 : Option mw_V} {x : Nat} {st : List mw_V} {σ : mw_S} {Q : Option mw_V → mw_S → Prop} : mw_WP d 130 54 [some (jR x), l1] st σ Q ↔ mw_WP d 130 55 [some (jR x), l1] (jR x :: st) σ Q := WP_aload_n mq130 dd130_54 rfl
theorem dd130_55 : decode cX11_perform 55 = .ok (.getfield 90, 3) := by decide +kernel
theorem ww130_55 {d : Nat} {l0 l1 : Option mw_V} {st : List mw_V} {σ : mw_S} {Q : Option mw_V → mw_S → Prop} : mw_WP d 130 55 [l0, l1] (jR 0 :: st) σ Q ↔ mw_WP d 130 58 [l0, l1] (jR 99 :: st) σ Q := WP_getR (ci := 10) (k := 12) mq130 dd130_55 (by decide) rfl
theorem dd130_58 : decode cX11_perform 58 = .ok (.aload_n 0, 1) := by decide +kernel
theorem ww130_58 {d : Nat} {l1 : Option mw_V} {x : Nat} {st : List mw_V} {σ : mw_S} {Q : Option mw_V → mw_S → Prop} : mw_WP d 130 58 [some (jR x), l1] st σ Q ↔ mw_WP d 130 59 [some (jR x), l1] (jR x :: st) σ Q := WP_aload_n mq130 dd130_58 rfl
theorem dd130_59 : decode cX11_perform 59 = .ok (.getfield 86, 3) := by decide +kernel
theorem ww130_59 {d : Nat} {l0 l1 : Option mw_V} {st : List mw_V} {σ : mw_S} {Q : Option mw_V → mw_S → Prop} : mw_WP d 130 59 [l0, l1] (jR 0 :: st) σ Q ↔ mw_WP d 130 62 [l0, l1] (jR 98 :: st) σ Q := WP_getR (ci := 10) (k := 11) mq130 dd130_59 (by decide) rfl
theorem dd130_62 : decode cX11_perform 62 = .ok (.invokestatic 198, 3) := by decide +kernel
theorem ww130_62 {d : Nat} {l0 l1 : Option mw_V} {v0 v1 : mw_V} {st : List mw_V} {σ : mw_S} {Q : Option mw_V → mw_S → Prop} (h8 : (st.map mw_cat).sum ≤ 8) : mw_WP d 130 62 [l0, l1] (v1 :: v0 :: st) σ Q ↔ mw_Call d 169 [v0, v1] σ (fun r1 s1 => mw_WP d 130 65 [l0, l1] (r1.toList ++ st) s1 Q) := WP_invs (as := [v1, v0]) mq130 dd130_62 (by decide) mq169 rfl rfl h8
theorem dd130_65 : decode cX11_perform 65 = .ok (.aload_n 0, 1) := by decide +kernel
theorem ww130_65 {d : Nat} {l1 : Option mw_V} {x : Nat} {st : List mw_V} {σ : mw_S} {Q : Option mw_V → mw_S → Prop} : mw_WP d 130 65 [some (jR x), l1] st σ Q ↔ mw_WP d 130 66 [some (jR x), l1] (jR x :: st) σ Q := WP_aload_n mq130 dd130_65 rfl
theorem dd130_66 : decode cX11_perform 66 = .ok (.getfield 28, 3) := by decide +kernel
theorem ww130_66 {d : Nat} {l0 l1 : Option mw_V} {st : List mw_V} {σ : mw_S} {Q : Option mw_V → mw_S → Prop} : mw_WP d 130 66 [l0, l1] (jR 0 :: st) σ Q ↔ mw_WP d 130 69 [l0, l1] (jR 22 :: st) σ Q := WP_getR (ci := 10) (k := 2) mq130 dd130_66 (by decide) rfl
theorem dd130_69 : decode cX11_perform 69 = .ok (.getfield 185, 3) := by decide +kernel
theorem ww130_69 {d : Nat} {l0 l1 : Option mw_V} {st : List mw_V} {σ : mw_S} {Q : Option mw_V → mw_S → Prop} : mw_WP d 130 69 [l0, l1] (jR 22 :: st) σ Q ↔ mw_WP d 130 72 [l0, l1] (jI (σ 22 1) :: st) σ Q := WP_getI (ci := 8) (k := 1) mq130 dd130_69 (by decide) (Or.inl rfl)
theorem dd130_72 : decode cX11_perform 72 = .ok (.ireturn, 1) := by decide +kernel
theorem ww130_72 {d : Nat} {l0 l1 : Option mw_V} {z : Int} {σ : mw_S} {Q : Option mw_V → mw_S → Prop} : mw_WP d 130 72 [l0, l1] [jI z] σ Q ↔ Q (some (jI z)) σ := WP_ireturn (ty := .int) mq130 dd130_72 rfl rfl
theorem ee131 {d : Nat} {a : Nat} {z0 : Int} {z1 : Int} {σ : mw_S} {Q : Option mw_V → mw_S → Prop} : mw_Call (d + 1) 131 [jR a, jI z0, jI z1] σ Q ↔ mw_WP d 131 0 [some (jR a), some (jI z0), some (jI z1)] [] σ Q := CL_u mq131 (Nat.le_of_ble_eq_true rfl) rfl
theorem dd131_0 : decode cX11_day 0 = .ok (.iload_n 2, 1) := by decide +kernel
theorem ww131_0 {d : Nat} {l0 l1 : Option mw_V} {x : Int} {st : List mw_V} {σ : mw_S} {Q : Option mw_V → mw_S → Prop} : mw_WP d 131 0 [l0, l1, some (jI x)] st σ Q ↔ mw_WP d 131 1 [l0, l1, some (jI x)] (jI x :: st) σ Q := WP_iload_n mq131 dd131_0 rfl
theorem dd131_1 : decode cX11_day 1 = .ok (.iconst 1, 1) := by decide +kernel
theorem ww131_1 {d : Nat} {l0 l1 l2 : Option mw_V} {st : List mw_V} {σ : mw_S} {Q : Option mw_V → mw_S → Prop} : mw_WP d 131 1 [l0, l1, l2] st σ Q ↔ mw_WP d 131 2 [l0, l1, l2] (jI (1) :: st) σ Q := WP_iconst mq131 dd131_1 (by decide)
theorem dd131_2 : decode cX11_day 2 = .ok (.if_icmp .lt 9, 3) := by decide +kernel
theorem ww131_2 {d : Nat} {l0 l1 l2 : Option mw_V} {x y : Int} {st : List mw_V} {σ : mw_S} {Q : Option mw_V → mw_S → Prop} : mw_WP d 131 2 [l0, l1, l2] (jI y :: jI x :: st) σ Q ↔ (if x < y then mw_WP d 131 11 [l0, l1, l2] st σ Q else mw_WP d 131 5 [l0, l1, l2] st σ Q) := WP_icmp_lt mq131 dd131_2 (by decide)
theorem dd131_5 : decode cX11_day 5 = .ok (.iload_n 2, 1) := by decide +kernel
theorem ww131_5 {d : Nat} {l0 l1 : Option mw_V} {x : Int} {st : List mw_V} {σ : mw_S} {Q : Option mw_V → mw_S → Prop} : mw_WP d 131 5 [l0, l1, some (jI x)] st σ Q ↔ mw_WP d 131 6 [l0, l1, some (jI x)] (jI x :: st) σ Q := WP_iload_n mq131 dd131_5 rfl
theorem dd131_6 : decode cX11_day 6 = .ok (.bipush 60, 2) := by decide +kernel
theorem ww131_6 {d : Nat} {l0 l1 l2 : Option mw_V} {st : List mw_V} {σ : mw_S} {Q : Option mw_V → mw_S → Prop} : mw_WP d 131 6 [l0, l1, l2] st σ Q ↔ mw_WP d 131 8 [l0, l1, l2] (jI (60) :: st) σ Q := WP_bipush mq131 dd131_6 (by decide)
theorem dd131_8 : decode cX11_day 8 = .ok (.if_icmp .le 6, 3) := by decide +kernel
theorem ww131_8 {d : Nat} {l0 l1 l2 : Option mw_V} {x y : Int} {st : List mw_V} {σ : mw_S} {Q : Option mw_V → mw_S → Prop} : mw_WP d 131 8 [l0, l1, l2] (jI y :: jI x :: st) σ Q ↔ (if x ≤ y then mw_WP d 131 14 [l0, l1, l2] st σ Q else mw_WP d 131 11 [l0, l1, l2] st σ Q) := WP_icmp_le mq131 dd131_8 (by decide)
theorem dd131_11 : decode cX11_day 11 = .ok (.bipush (-3), 2) := by decide +kernel
theorem ww131_11 {d : Nat} {l0 l1 l2 : Option mw_V} {st : List mw_V} {σ : mw_S} {Q : Option mw_V → mw_S → Prop} : mw_WP d 131 11 [l0, l1, l2] st σ Q ↔ mw_WP d 131 13 [l0, l1, l2] (jI (-3) :: st) σ Q := WP_bipush mq131 dd131_11 (by decide)
theorem dd131_13 : decode cX11_day 13 = .ok (.ireturn, 1) := by decide +kernel
theorem ww131_13 {d : Nat} {l0 l1 l2 : Option mw_V} {z : Int} {σ : mw_S} {Q : Option mw_V → mw_S → Prop} : mw_WP d 131 13 [l0, l1, l2] [jI z] σ Q ↔ Q (some (jI z)) σ := WP_ireturn (ty := .int) mq131 dd131_13 rfl rfl
theorem dd131_14 : decode cX11_day 14 = .ok (.aload_n 0, 1) := by decide +kernel
theorem ww131_14 {d : Nat} {l1 l2 : Option mw_V} {x : Nat} {st : List mw_V} {σ : mw_S} {Q : Option mw_V → mw_S → Prop} : mw_WP d 131 14 [some (jR x), l1, l2] st σ Q ↔ mw_WP d 131 15 [some (jR x), l1, l2] (jR x :: st) σ Q := WP_aload_n mq131 dd131_14 rfl
theorem dd131_15 : decode cX11_day 15 = .ok (.getfield 19, 3) := by decide +kernel
theorem ww131_15 {d : Nat} {l0 l1 l2 : Option mw_V} {st : List mw_V} {σ : mw_S} {Q : Option mw_V → mw_S → Prop} : mw_WP d 131 15 [l0, l1, l2] (jR 0 :: st) σ Q ↔ mw_WP d 131 18 [l0, l1, l2] (jR 13 :: st) σ Q := WP_getR (ci := 10) (k := 1) mq131 dd131_15 (by decide) rfl
theorem dd131_18 : decode cX11_day 18 = .ok (.getfield 202, 3) := by decide +kernel
theorem ww131_18i3 {d : Nat} {l0 l1 l2 : Option mw_V} {st : List mw_V} {σ : mw_S} {Q : Option mw_V → mw_S → Prop} : mw_WP d 131 18 [l0, l1, l2] (jR 3 :: st) σ Q ↔ mw_WP d 131 21 [l0, l1, l2] (jI (σ 3 1) :: st) σ Q := WP_getI (ci := 0) (k := 1) mq131 dd131_18 (by decide) (Or.inl rfl)
theorem ww131_18i13 {d : Nat} {l0 l1 l2 : Option mw_V} {st : List mw_V} {σ : mw_S} {Q : Option mw_V → mw_S → Prop} : mw_WP d 131 18 [l0, l1, l2] (jR 13 :: st) σ Q ↔ mw_WP d 131 21 [l0, l1, l2] (jI (σ 13 1) :: st) σ Q := WP_getI (ci := 0) (k := 1) mq131 dd131_18 (by decide) (Or.inl rfl)
theorem ww131_18i77 {d : Nat} {l0 l1 l2 : Option mw_V} {st : List mw_V} {σ : mw_S} {Q : Option mw_V → mw_S → Prop} : mw_WP d 131 18 [l0, l1, l2] (jR 77 :: st) σ Q ↔ mw_WP d 131 21 [l0, l1, l2] (jI (σ 77 1) :: st) σ Q := WP_getI (ci := 0) (k := 1) mq131 dd131_18 (by decide) (Or.inl rfl)
theorem ww131_18i88 {d : Nat} {l0 l1 l2 : Option mw_V} {st : List mw_V} {σ : mw_S} {Q : Option mw_V → mw_S → Prop} : mw_WP d 131 18 [l0, l1, l2] (jR 88 :: st) σ Q ↔ mw_WP d 131 21 [l0, l1, l2] (jI (σ 88 1) :: st) σ Q := WP_getI (ci := 0) (k := 1) mq131 dd131_18 (by decide) (Or.inl rfl)
theorem dd131_21 : decode cX11_day 21 = .ok (.ifCond .ne 6, 3) := by decide +kernel
theorem ww131_21 {d : Nat} {l0 l1 l2 : Option mw_V} {x : Int} {st : List mw_V} {σ : mw_S} {Q : Option mw_V → mw_S → Prop} : mw_WP d 131 21 [l0, l1, l2] (jI x :: st) σ Q ↔ (if ¬ x = 0 then mw_WP d 131 27 [l0, l1, l2] st σ Q else mw_WP d 131 24 [l0, l1, l2] st σ Q) := WP_if_ne mq131 dd131_21 (by decide)
theorem dd131_24 : decode cX11_day 24 = .ok (.bipush (-5), 2) := by decide +kernel
theorem ww131_24 {d : Nat} {l0 l1 l2 : Option mw_V} {st : List mw_V} {σ : mw_S} {Q : Option mw_V → mw_S → Prop} : mw_WP d 131 24 [l0, l1, l2] st σ Q ↔ mw_WP d 131 26 [l0, l1, l2] (jI (-5) :: st) σ Q := WP_bipush mq131 dd131_24 (by decide)
theorem dd131_26 : decode cX11_day 26 = .ok (.ireturn, 1) := by decide +kernel
theorem ww131_26 {d : Nat} {l0 l1 l2 : Option mw_V} {z : Int} {σ : mw_S} {Q : Option mw_V → mw_S → Prop} : mw_WP d 131 26 [l0, l1, l2] [jI z] σ Q ↔ Q (some (jI z)) σ := WP_ireturn (ty := .int) mq131 dd131_26 rfl rfl
theorem dd131_27 : decode cX11_day 27 = .ok (.aload_n 0, 1) := by decide +kernel
theorem ww131_27 {d : Nat} {l1 l2 : Option mw_V} {x : Nat} {st : List mw_V} {σ : mw_S} {Q : Option mw_V → mw_S → Prop} : mw_WP d 131 27 [some (jR x), l1, l2] st σ Q ↔ mw_WP d 131 28 [some (jR x), l1, l2] (jR x :: st) σ Q := WP_aload_n mq131 dd131_27 rfl
theorem dd131_28 : decode cX11_day 28 = .ok (.getfield 35, 3) := by decide +kernel
theorem ww131_28 {d : Nat} {l0 l1 l2 : Option mw_V} {st : List mw_V} {σ : mw_S} {Q : Option mw_V → mw_S → Prop} : mw_WP d 131 28 [l0, l1, l2] (jR 0 :: st) σ Q ↔ mw_WP d 131 31 [l0, l1, l2] (jR 25 :: st) σ Q := WP_getR (ci := 10) (k := 3) mq131 dd131_28 (by decide) rfl
theorem dd131_31 : decode cX11_day 31 = .ok (.aload_n 0, 1) := by decide +kernel
theorem ww131_31 {d : Nat} {l1 l2 : Option mw_V} {x : Nat} {st : List mw_V} {σ : mw_S} {Q : Option mw_V → mw_S → Prop} : mw_WP d 131 31 [some (jR x), l1, l2] st σ Q ↔ mw_WP d 131 32 [some (jR x), l1, l2] (jR x :: st) σ Q := WP_aload_n mq131 dd131_31 rfl
theorem dd131_32 : decode cX11_day 32 = .ok (.getfield 86, 3) := by decide +kernel
theorem ww131_32 {d : Nat} {l0 l1 l2 : Option mw_V} {st : List mw_V} {σ : mw_S} {Q : Option mw_V → mw_S → Prop} : mw_WP d 131 32 [l0, l1, l2] (jR 0 :: st) σ Q ↔ mw_WP d 131 35 [l0, l1, l2] (jR 98 :: st) σ Q := WP_getR (ci := 10) (k := 11) mq131 dd131_32 (by decide) rfl
theorem dd131_35 : decode cX11_day 35 = .ok (.invokevirtual 163, 3) := by decide +kernel
theorem ww131_35 {d : Nat} {l0 l1 l2 : Option mw_V} {v0 : mw_V} {a : Nat} {st : List mw_V} {σ : mw_S} {Q : Option mw_V → mw_S → Prop} (hr : mw_rc a = 6) (h8 : (st.map mw_cat).sum ≤ 8) : mw_WP d 131 35 [l0, l1, l2] (v0 :: jR a :: st) σ Q ↔ mw_Call d 41 [jR a, v0] σ (fun r1 s1 => mw_WP d 131 38 [l0, l1, l2] (r1.toList ++ st) s1 Q) := WP_inv (as := [v0]) mq131 dd131_35 (by decide) mq41 rfl hr h8
theorem dd131_38 : decode cX11_day 38 = .ok (.aload_n 0, 1) := by decide +kernel
theorem ww131_38 {d : Nat} {l1 l2 : Option mw_V} {x : Nat} {st : List mw_V} {σ : mw_S} {Q : Option mw_V → mw_S → Prop} : mw_WP d 131 38 [some (jR x), l1, l2] st σ Q ↔ mw_WP d 131 39 [some (jR x), l1, l2] (jR x :: st) σ Q := WP_aload_n mq131 dd131_38 rfl
theorem dd131_39 : decode cX11_day 39 = .ok (.getfield 28, 3) := by decide +kernel
theorem ww131_39 {d : Nat} {l0 l1 l2 : Option mw_V} {st : List mw_V} {σ : mw_S} {Q : Option mw_V → mw_S → Prop} : mw_WP d 131 39 [l0, l1, l2] (jR 0 :: st) σ Q ↔ mw_WP d 131 42 [l0, l1, l2] (jR 22 :: st) σ Q := WP_getR (ci := 10) (k := 2) mq131 dd131_39 (by decide) rfl
theorem dd131_42 : decode cX11_day 42 = .ok (.aload_n 0, 1) := by decide +kernel
theorem ww131_42 {d : Nat} {l1 l2 : Option mw_V} {x : Nat} {st : List mw_V} {σ : mw_S} {Q : Option mw_V → mw_S → Prop} : mw_WP d 131 42 [some (jR x), l1, l2] st σ Q ↔ mw_WP d 131 43 [some (jR x), l1, l2] (jR x :: st) σ Q := WP_aload_n mq131 dd131_42 rfl
theorem dd131_43 : decode cX11_day 43 = .ok (.getfield 86, 3) := by decide +kernel
theorem ww131_43 {d : Nat} {l0 l1 l2 : Option mw_V} {st : List mw_V} {σ : mw_S} {Q : Option mw_V → mw_S → Prop} : mw_WP d 131 43 [l0, l1, l2] (jR 0 :: st) σ Q ↔ mw_WP d 131 46 [l0, l1, l2] (jR 98 :: st) σ Q := WP_getR (ci := 10) (k := 11) mq131 dd131_43 (by decide) rfl
theorem dd131_46 : decode cX11_day 46 = .ok (.iload_n 1, 1) := by decide +kernel
theorem ww131_46 {d : Nat} {l0 l2 : Option mw_V} {x : Int} {st : List mw_V} {σ : mw_S} {Q : Option mw_V → mw_S → Prop} : mw_WP d 131 46 [l0, some (jI x), l2] st σ Q ↔ mw_WP d 131 47 [l0, some (jI x), l2] (jI x :: st) σ Q := WP_iload_n mq131 dd131_46 rfl
theorem dd131_47 : decode cX11_day 47 = .ok (.iload_n 2, 1) := by decide +kernel
theorem ww131_47 {d : Nat} {l0 l1 : Option mw_V} {x : Int} {st : List mw_V} {σ : mw_S} {Q : Option mw_V → mw_S → Prop} : mw_WP d 131 47 [l0, l1, some (jI x)] st σ Q ↔ mw_WP d 131 48 [l0, l1, some (jI x)] (jI x :: st) σ Q := WP_iload_n mq131 dd131_47 rfl
theorem dd131_48 : decode cX11_day 48 = .ok (.invokevirtual 205, 3) := by decide +kernel
theorem ww131_48 {d : Nat} {l0 l1 l2 : Option mw_V} {v0 v1 v2 : mw_V} {a : Nat} {st : List mw_V} {σ : mw_S} {Q : Option mw_V → mw_S → Prop} (hr : mw_rc a = 9) (h8 : (st.map mw_cat).sum ≤ 8) : mw_WP d 131 48 [l0, l1, l2] (v2 :: v1 :: v0 :: jR a :: st) σ Q ↔ mw_Call d 111 [jR a, v0, v1, v2] σ (fun r1 s1 => mw_WP d 131 51 [l0, l1, l2] (r1.toList ++ st) s1 Q) := WP_inv (as := [v2, v1, v0]) mq131 dd131_48 (by decide) mq111 rfl hr h8
theorem dd131_51 : decode cX11_day 51 = .ok (.ireturn, 1) := by decide +kernel
theorem ww131_51 {d : Nat} {l0 l1 l2 : Option mw_V} {z : Int} {σ : mw_S} {Q : Option mw_V → mw_S → Prop} : mw_WP d 131 51 [l0, l1, l2] [jI z] σ Q ↔ Q (some (jI z)) σ := WP_ireturn (ty := .int) mq131 dd131_51 rfl rfl
theorem ee132 {d : Nat} {a : Nat} {z0 : Int} {z1 : Int} {σ : mw_S} {Q : Option mw_V → mw_S → Prop} : mw_Call (d + 1) 132 [jR a, jI z0, jI z1] σ Q ↔ mw_WP d 132 0 [some (jR a), some (jI z0), some (jI z1)] [] σ Q := CL_u mq132 (Nat.le_of_ble_eq_true rfl) rfl
theorem dd132_0 : decode cX11_fails 0 = .ok (.aload_n 0, 1) := by decide +kernel
theorem ww132_0 {d : Nat} {l1 l2 : Option mw_V} {x : Nat} {st : List mw_V} {σ : mw_S} {Q : Option mw_V → mw_S → Prop} : mw_WP d 132 0 [some (jR x), l1, l2] st σ Q ↔ mw_WP d 132 1 [some (jR x), l1, l2] (jR x :: st) σ Q := WP_aload_n mq132 dd132_0 rfl
theorem dd132_1 : decode cX11_fails 1 = .ok (.getfield 42, 3) := by decide +kernel
theorem ww132_1 {d : Nat} {l0 l1 l2 : Option mw_V} {st : List mw_V} {σ : mw_S} {Q : Option mw_V → mw_S → Prop} : mw_WP d 132 1 [l0, l1, l2] (jR 0 :: st) σ Q ↔ mw_WP d 132 4 [l0, l1, l2] (jR 37 :: st) σ Q := WP_getR (ci := 10) (k := 4) mq132 dd132_1 (by decide) rfl
theorem dd132_4 : decode cX11_fails 4 = .ok (.iload_n 1, 1) := by decide +kernel
theorem ww132_4 {d : Nat} {l0 l2 : Option mw_V} {x : Int} {st : List mw_V} {σ : mw_S} {Q : Option mw_V → mw_S → Prop} : mw_WP d 132 4 [l0, some (jI x), l2] st σ Q ↔ mw_WP d 132 5 [l0, some (jI x), l2] (jI x :: st) σ Q := WP_iload_n mq132 dd132_4 rfl
theorem dd132_5 : decode cX11_fails 5 = .ok (.invokevirtual 176, 3) := by decide +kernel
theorem ww132_5 {d : Nat} {l0 l1 l2 : Option mw_V} {v0 : mw_V} {a : Nat} {st : List mw_V} {σ : mw_S} {Q : Option mw_V → mw_S → Prop} (hr : mw_rc a = 10) (h8 : (st.map mw_cat).sum ≤ 8) : mw_WP d 132 5 [l0, l1, l2] (v0 :: jR a :: st) σ Q ↔ mw_Call d 112 [jR a, v0] σ (fun r1 s1 => mw_WP d 132 8 [l0, l1, l2] (r1.toList ++ st) s1 Q) := WP_inv (as := [v0]) mq132 dd132_5 (by decide) mq112 rfl hr h8
theorem dd132_8 : decode cX11_fails 8 = .ok (.ifCond .eq 10, 3) := by decide +kernel
theorem ww132_8 {d : Nat} {l0 l1 l2 : Option mw_V} {x : Int} {st : List mw_V} {σ : mw_S} {Q : Option mw_V → mw_S → Prop} : mw_WP d 132 8 [l0, l1, l2] (jI x :: st) σ Q ↔ (if x = 0 then mw_WP d 132 18 [l0, l1, l2] st σ Q else mw_WP d 132 11 [l0, l1, l2] st σ Q) := WP_if_eq mq132 dd132_8 (by decide)
theorem dd132_11 : decode cX11_fails 11 = .ok (.iload_n 2, 1) := by decide +kernel
theorem ww132_11 {d : Nat} {l0 l1 : Option mw_V} {x : Int} {st : List mw_V} {σ : mw_S} {Q : Option mw_V → mw_S → Prop} : mw_WP d 132 11 [l0, l1, some (jI x)] st σ Q ↔ mw_WP d 132 12 [l0, l1, some (jI x)] (jI x :: st) σ Q := WP_iload_n mq132 dd132_11 rfl
theorem dd132_12 : decode cX11_fails 12 = .ok (.invokestatic 208, 3) := by decide +kernel
theorem ww132_12 {d : Nat} {l0 l1 l2 : Option mw_V} {v0 : mw_V} {st : List mw_V} {σ : mw_S} {Q : Option mw_V → mw_S → Prop} (h8 : (st.map mw_cat).sum ≤ 8) : mw_WP d 132 12 [l0, l1, l2] (v0 :: st) σ Q ↔ mw_Call d 163 [v0] σ (fun r1 s1 => mw_WP d 132 15 [l0, l1, l2] (r1.toList ++ st) s1 Q) := WP_invs (as := [v0]) mq132 dd132_12 (by decide) mq163 rfl rfl h8
theorem dd132_15 : decode cX11_fails 15 = .ok (.ifCond .ne 6, 3) := by decide +kernel
theorem ww132_15 {d : Nat} {l0 l1 l2 : Option mw_V} {x : Int} {st : List mw_V} {σ : mw_S} {Q : Option mw_V → mw_S → Prop} : mw_WP d 132 15 [l0, l1, l2] (jI x :: st) σ Q ↔ (if ¬ x = 0 then mw_WP d 132 21 [l0, l1, l2] st σ Q else mw_WP d 132 18 [l0, l1, l2] st σ Q) := WP_if_ne mq132 dd132_15 (by decide)
theorem dd132_18 : decode cX11_fails 18 = .ok (.bipush (-2), 2) := by decide +kernel
theorem ww132_18 {d : Nat} {l0 l1 l2 : Option mw_V} {st : List mw_V} {σ : mw_S} {Q : Option mw_V → mw_S → Prop} : mw_WP d 132 18 [l0, l1, l2] st σ Q ↔ mw_WP d 132 20 [l0, l1, l2] (jI (-2) :: st) σ Q := WP_bipush mq132 dd132_18 (by decide)
theorem dd132_20 : decode cX11_fails 20 = .ok (.ireturn, 1) := by decide +kernel
theorem ww132_20 {d : Nat} {l0 l1 l2 : Option mw_V} {z : Int} {σ : mw_S} {Q : Option mw_V → mw_S → Prop} : mw_WP d 132 20 [l0, l1, l2] [jI z] σ Q ↔ Q (some (jI z)) σ := WP_ireturn (ty := .int) mq132 dd132_20 rfl rfl
theorem dd132_21 : decode cX11_fails 21 = .ok (.aload_n 0, 1) := by decide +kernel
theorem ww132_21 {d : Nat} {l1 l2 : Option mw_V} {x : Nat} {st : List mw_V} {σ : mw_S} {Q : Option mw_V → mw_S → Prop} : mw_WP d 132 21 [some (jR x), l1, l2] st σ Q ↔ mw_WP d 132 22 [some (jR x), l1, l2] (jR x :: st) σ Q := WP_aload_n mq132 dd132_21 rfl
theorem dd132_22 : decode cX11_fails 22 = .ok (.getfield 42, 3) := by decide +kernel
theorem ww132_22 {d : Nat} {l0 l1 l2 : Option mw_V} {st : List mw_V} {σ : mw_S} {Q : Option mw_V → mw_S → Prop} : mw_WP d 132 22 [l0, l1, l2] (jR 0 :: st) σ Q ↔ mw_WP d 132 25 [l0, l1, l2] (jR 37 :: st) σ Q := WP_getR (ci := 10) (k := 4) mq132 dd132_22 (by decide) rfl
theorem dd132_25 : decode cX11_fails 25 = .ok (.iload_n 1, 1) := by decide +kernel
theorem ww132_25 {d : Nat} {l0 l2 : Option mw_V} {x : Int} {st : List mw_V} {σ : mw_S} {Q : Option mw_V → mw_S → Prop} : mw_WP d 132 25 [l0, some (jI x), l2] st σ Q ↔ mw_WP d 132 26 [l0, some (jI x), l2] (jI x :: st) σ Q := WP_iload_n mq132 dd132_25 rfl
theorem dd132_26 : decode cX11_fails 26 = .ok (.invokevirtual 179, 3) := by decide +kernel
theorem ww132_26 {d : Nat} {l0 l1 l2 : Option mw_V} {v0 : mw_V} {a : Nat} {st : List mw_V} {σ : mw_S} {Q : Option mw_V → mw_S → Prop} (hr : mw_rc a = 10) (h8 : (st.map mw_cat).sum ≤ 8) : mw_WP d 132 26 [l0, l1, l2] (v0 :: jR a :: st) σ Q ↔ mw_Call d 113 [jR a, v0] σ (fun r1 s1 => mw_WP d 132 29 [l0, l1, l2] (r1.toList ++ st) s1 Q) := WP_inv (as := [v0]) mq132 dd132_26 (by decide) mq113 rfl hr h8
theorem dd132_29 : decode cX11_fails 29 = .ok (.ifCond .eq 6, 3) := by decide +kernel
theorem ww132_29 {d : Nat} {l0 l1 l2 : Option mw_V} {x : Int} {st : List mw_V} {σ : mw_S} {Q : Option mw_V → mw_S → Prop} : mw_WP d 132 29 [l0, l1, l2] (jI x :: st) σ Q ↔ (if x = 0 then mw_WP d 132 35 [l0, l1, l2] st σ Q else mw_WP d 132 32 [l0, l1, l2] st σ Q) := WP_if_eq mq132 dd132_29 (by decide)
theorem dd132_32 : decode cX11_fails 32 = .ok (.bipush (-6), 2) := by decide +kernel
theorem ww132_32 {d : Nat} {l0 l1 l2 : Option mw_V} {st : List mw_V} {σ : mw_S} {Q : Option mw_V → mw_S → Prop} : mw_WP d 132 32 [l0, l1, l2] st σ Q ↔ mw_WP d 132 34 [l0, l1, l2] (jI (-6) :: st) σ Q := WP_bipush mq132 dd132_32 (by decide)
theorem dd132_34 : decode cX11_fails 34 = .ok (.ireturn, 1) := by decide +kernel
theorem ww132_34 {d : Nat} {l0 l1 l2 : Option mw_V} {z : Int} {σ : mw_S} {Q : Option mw_V → mw_S → Prop} : mw_WP d 132 34 [l0, l1, l2] [jI z] σ Q ↔ Q (some (jI z)) σ := WP_ireturn (ty := .int) mq132 dd132_34 rfl rfl
theorem dd132_35 : decode cX11_fails 35 = .ok (.aload_n 0, 1) := by decide +kernel
theorem ww132_35 {d : Nat} {l1 l2 : Option mw_V} {x : Nat} {st : List mw_V} {σ : mw_S} {Q : Option mw_V → mw_S → Prop} : mw_WP d 132 35 [some (jR x), l1, l2] st σ Q ↔ mw_WP d 132 36 [some (jR x), l1, l2] (jR x :: st) σ Q := WP_aload_n mq132 dd132_35 rfl
theorem dd132_36 : decode cX11_fails 36 = .ok (.iload_n 1, 1) := by decide +kernel
theorem ww132_36 {d : Nat} {l0 l2 : Option mw_V} {x : Int} {st : List mw_V} {σ : mw_S} {Q : Option mw_V → mw_S → Prop} : mw_WP d 132 36 [l0, some (jI x), l2] st σ Q ↔ mw_WP d 132 37 [l0, some (jI x), l2] (jI x :: st) σ Q := WP_iload_n mq132 dd132_36 rfl
theorem dd132_37 : decode cX11_fails 37 = .ok (.invokevirtual 182, 3) := by decide +kernel
theorem ww132_37 {d : Nat} {l0 l1 l2 : Option mw_V} {v0 : mw_V} {a : Nat} {st : List mw_V} {σ : mw_S} {Q : Option mw_V → mw_S → Prop} (hr : mw_rc a = 11) (h8 : (st.map mw_cat).sum ≤ 8) : mw_WP d 132 37 [l0, l1, l2] (v0 :: jR a :: st) σ Q ↔ mw_Call d 168 [jR a, v0] σ (fun r1 s1 => mw_WP d 132 40 [l0, l1, l2] (r1.toList ++ st) s1 Q) := WP_inv (as := [v0]) mq132 dd132_37 (by decide) mq168 rfl hr h8
theorem dd132_40 : decode cX11_fails 40 = .ok (.iload_n 2, 1) := by decide +kernel
theorem ww132_40 {d : Nat} {l0 l1 : Option mw_V} {x : Int} {st : List mw_V} {σ : mw_S} {Q : Option mw_V → mw_S → Prop} : mw_WP d 132 40 [l0, l1, some (jI x)] st σ Q ↔ mw_WP d 132 41 [l0, l1, some (jI x)] (jI x :: st) σ Q := WP_iload_n mq132 dd132_40 rfl
theorem dd132_41 : decode cX11_fails 41 = .ok (.ifCond .ne 13, 3) := by decide +kernel
theorem ww132_41 {d : Nat} {l0 l1 l2 : Option mw_V} {x : Int} {st : List mw_V} {σ : mw_S} {Q : Option mw_V → mw_S → Prop} : mw_WP d 132 41 [l0, l1, l2] (jI x :: st) σ Q ↔ (if ¬ x = 0 then mw_WP d 132 54 [l0, l1, l2] st σ Q else mw_WP d 132 44 [l0, l1, l2] st σ Q) := WP_if_ne mq132 dd132_41 (by decide)
theorem dd132_44 : decode cX11_fails 44 = .ok (.aload_n 0, 1) := by decide +kernel
theorem ww132_44 {d : Nat} {l1 l2 : Option mw_V} {x : Nat} {st : List mw_V} {σ : mw_S} {Q : Option mw_V → mw_S → Prop} : mw_WP d 132 44 [some (jR x), l1, l2] st σ Q ↔ mw_WP d 132 45 [some (jR x), l1, l2] (jR x :: st) σ Q := WP_aload_n mq132 dd132_44 rfl
theorem dd132_45 : decode cX11_fails 45 = .ok (.getfield 28, 3) := by decide +kernel
theorem ww132_45 {d : Nat} {l0 l1 l2 : Option mw_V} {st : List mw_V} {σ : mw_S} {Q : Option mw_V → mw_S → Prop} : mw_WP d 132 45 [l0, l1, l2] (jR 0 :: st) σ Q ↔ mw_WP d 132 48 [l0, l1, l2] (jR 22 :: st) σ Q := WP_getR (ci := 10) (k := 2) mq132 dd132_45 (by decide) rfl
theorem dd132_48 : decode cX11_fails 48 = .ok (.getfield 211, 3) := by decide +kernel
theorem ww132_48 {d : Nat} {l0 l1 l2 : Option mw_V} {st : List mw_V} {σ : mw_S} {Q : Option mw_V → mw_S → Prop} : mw_WP d 132 48 [l0, l1, l2] (jR 22 :: st) σ Q ↔ mw_WP d 132 51 [l0, l1, l2] (jI (σ 22 4) :: st) σ Q := WP_getI (ci := 8) (k := 4) mq132 dd132_48 (by decide) (Or.inl rfl)
theorem dd132_51 : decode cX11_fails 51 = .ok (.goto 10, 3) := by decide +kernel
theorem ww132_51 {d : Nat} {l0 l1 l2 : Option mw_V} {st : List mw_V} {σ : mw_S} {Q : Option mw_V → mw_S → Prop} : mw_WP d 132 51 [l0, l1, l2] st σ Q ↔ mw_WP d 132 61 [l0, l1, l2] st σ Q := WP_goto mq132 dd132_51 (by decide)
theorem dd132_54 : decode cX11_fails 54 = .ok (.aload_n 0, 1) := by decide +kernel
theorem ww132_54 {d : Nat} {l1 l2 : Option mw_V} {x : Nat} {st : List mw_V} {σ : mw_S} {Q : Option mw_V → mw_S → Prop} : mw_WP d 132 54 [some (jR x), l1, l2] st σ Q ↔ mw_WP d 132 55 [some (jR x), l1, l2] (jR x :: st) σ Q := WP_aload_n mq132 dd132_54 rfl
theorem dd132_55 : decode cX11_fails 55 = .ok (.getfield 28, 3) := by decide +kernel
theorem ww132_55 {d : Nat} {l0 l1 l2 : Option mw_V} {st : List mw_V} {σ : mw_S} {Q : Option mw_V → mw_S → Prop} : mw_WP d 132 55 [l0, l1, l2] (jR 0 :: st) σ Q ↔ mw_WP d 132 58 [l0, l1, l2] (jR 22 :: st) σ Q := WP_getR (ci := 10) (k := 2) mq132 dd132_55 (by decide) rfl
theorem dd132_58 : decode cX11_fails 58 = .ok (.getfield 214, 3) := by decide +kernel
theorem ww132_58 {d : Nat} {l0 l1 l2 : Option mw_V} {st : List mw_V} {σ : mw_S} {Q : Option mw_V → mw_S → Prop} : mw_WP d 132 58 [l0, l1, l2] (jR 22 :: st) σ Q ↔ mw_WP d 132 61 [l0, l1, l2] (jI (σ 22 5) :: st) σ Q := WP_getI (ci := 8) (k := 5) mq132 dd132_58 (by decide) (Or.inl rfl)
theorem dd132_61 : decode cX11_fails 61 = .ok (.ireturn, 1) := by decide +kernel
theorem ww132_61 {d : Nat} {l0 l1 l2 : Option mw_V} {z : Int} {σ : mw_S} {Q : Option mw_V → mw_S → Prop} : mw_WP d 132 61 [l0, l1, l2] [jI z] σ Q ↔ Q (some (jI z)) σ := WP_ireturn (ty := .int) mq132 dd132_61 rfl rfl
theorem ee133 {d : Nat} {a : Nat} {z0 : Int} {z1 : Int} {σ : mw_S} {Q : Option mw_V → mw_S → Prop} : mw_Call (d + 1) 133 [jR a, jI z0, jI z1] σ Q ↔ mw_WP d 133 0 [some (jR a), some (jI z0), some (jI z1), none] [] σ Q := CL_u mq133 (Nat.le_of_ble_eq_true rfl) rfl
theorem dd133_0 : decode cX11_round 0 = .ok (.aload_n 0, 1) := by decide +kernel
theorem ww133_0 {d : Nat} {l1 l2 l3 : Option mw_V} {x : Nat} {st : List mw_V} {σ : mw_S} {Q : Option mw_V → mw_S → Prop} : mw_WP d 133 0 [some (jR x), l1, l2, l3] st σ Q ↔ mw_WP d 133 1 [some (jR x), l1, l2, l3] (jR x :: st) σ Q := WP_aload_n mq133 dd133_0 rfl
theorem dd133_1 : decode cX11_round 1 = .ok (.getfield 42, 3) := by decide +kernel
theorem ww133_1 {d : Nat} {l0 l1 l2 l3 : Option mw_V} {st : List mw_V} {σ : mw_S} {Q : Option mw_V → mw_S → Prop} : mw_WP d 133 1 [l0, l1, l2, l3] (jR 0 :: st) σ Q ↔ mw_WP d 133 4 [l0, l1, l2, l3] (jR 37 :: st) σ Q := WP_getR (ci := 10) (k := 4) mq133 dd133_1 (by decide) rfl
theorem dd133_4 : decode cX11_round 4 = .ok (.iload_n 1, 1) := by decide +kernel
theorem ww133_4 {d : Nat} {l0 l2 l3 : Option mw_V} {x : Int} {st : List mw_V} {σ : mw_S} {Q : Option mw_V → mw_S → Prop} : mw_WP d 133 4 [l0, some (jI x), l2, l3] st σ Q ↔ mw_WP d 133 5 [l0, some (jI x), l2, l3] (jI x :: st) σ Q := WP_iload_n mq133 dd133_4 rfl
theorem dd133_5 : decode cX11_round 5 = .ok (.invokevirtual 176, 3) := by decide +kernel
theorem ww133_5 {d : Nat} {l0 l1 l2 l3 : Option mw_V} {v0 : mw_V} {a : Nat} {st : List mw_V} {σ : mw_S} {Q : Option mw_V → mw_S → Prop} (hr : mw_rc a = 10) (h8 : (st.map mw_cat).sum ≤ 8) : mw_WP d 133 5 [l0, l1, l2, l3] (v0 :: jR a :: st) σ Q ↔ mw_Call d 112 [jR a, v0] σ (fun r1 s1 => mw_WP d 133 8 [l0, l1, l2, l3] (r1.toList ++ st) s1 Q) := WP_inv (as := [v0]) mq133 dd133_5 (by decide) mq112 rfl hr h8
theorem dd133_8 : decode cX11_round 8 = .ok (.ifCond .eq 10, 3) := by decide +kernel
theorem ww133_8 {d : Nat} {l0 l1 l2 l3 : Option mw_V} {x : Int} {st : List mw_V} {σ : mw_S} {Q : Option mw_V → mw_S → Prop} : mw_WP d 133 8 [l0, l1, l2, l3] (jI x :: st) σ Q ↔ (if x = 0 then mw_WP d 133 18 [l0, l1, l2, l3] st σ Q else mw_WP d 133 11 [l0, l1, l2, l3] st σ Q) := WP_if_eq mq133 dd133_8 (by decide)
theorem dd133_11 : decode cX11_round 11 = .ok (.iload_n 2, 1) := by decide +kernel
theorem ww133_11 {d : Nat} {l0 l1 l3 : Option mw_V} {x : Int} {st : List mw_V} {σ : mw_S} {Q : Option mw_V → mw_S → Prop} : mw_WP d 133 11 [l0, l1, some (jI x), l3] st σ Q ↔ mw_WP d 133 12 [l0, l1, some (jI x), l3] (jI x :: st) σ Q := WP_iload_n mq133 dd133_11 rfl
theorem dd133_12 : decode cX11_round 12 = .ok (.invokestatic 208, 3) := by decide +kernel
theorem ww133_12 {d : Nat} {l0 l1 l2 l3 : Option mw_V} {v0 : mw_V} {st : List mw_V} {σ : mw_S} {Q : Option mw_V → mw_S → Prop} (h8 : (st.map mw_cat).sum ≤ 8) : mw_WP d 133 12 [l0, l1, l2, l3] (v0 :: st) σ Q ↔ mw_Call d 163 [v0] σ (fun r1 s1 => mw_WP d 133 15 [l0, l1, l2, l3] (r1.toList ++ st) s1 Q) := WP_invs (as := [v0]) mq133 dd133_12 (by decide) mq163 rfl rfl h8
theorem dd133_15 : decode cX11_round 15 = .ok (.ifCond .ne 6, 3) := by decide +kernel
theorem ww133_15 {d : Nat} {l0 l1 l2 l3 : Option mw_V} {x : Int} {st : List mw_V} {σ : mw_S} {Q : Option mw_V → mw_S → Prop} : mw_WP d 133 15 [l0, l1, l2, l3] (jI x :: st) σ Q ↔ (if ¬ x = 0 then mw_WP d 133 21 [l0, l1, l2, l3] st σ Q else mw_WP d 133 18 [l0, l1, l2, l3] st σ Q) := WP_if_ne mq133 dd133_15 (by decide)
theorem dd133_18 : decode cX11_round 18 = .ok (.bipush (-2), 2) := by decide +kernel
theorem ww133_18 {d : Nat} {l0 l1 l2 l3 : Option mw_V} {st : List mw_V} {σ : mw_S} {Q : Option mw_V → mw_S → Prop} : mw_WP d 133 18 [l0, l1, l2, l3] st σ Q ↔ mw_WP d 133 20 [l0, l1, l2, l3] (jI (-2) :: st) σ Q := WP_bipush mq133 dd133_18 (by decide)
theorem dd133_20 : decode cX11_round 20 = .ok (.ireturn, 1) := by decide +kernel
theorem ww133_20 {d : Nat} {l0 l1 l2 l3 : Option mw_V} {z : Int} {σ : mw_S} {Q : Option mw_V → mw_S → Prop} : mw_WP d 133 20 [l0, l1, l2, l3] [jI z] σ Q ↔ Q (some (jI z)) σ := WP_ireturn (ty := .int) mq133 dd133_20 rfl rfl
theorem dd133_21 : decode cX11_round 21 = .ok (.aload_n 0, 1) := by decide +kernel
theorem ww133_21 {d : Nat} {l1 l2 l3 : Option mw_V} {x : Nat} {st : List mw_V} {σ : mw_S} {Q : Option mw_V → mw_S → Prop} : mw_WP d 133 21 [some (jR x), l1, l2, l3] st σ Q ↔ mw_WP d 133 22 [some (jR x), l1, l2, l3] (jR x :: st) σ Q := WP_aload_n mq133 dd133_21 rfl
theorem dd133_22 : decode cX11_round 22 = .ok (.iload_n 1, 1) := by decide +kernel
theorem ww133_22 {d : Nat} {l0 l2 l3 : Option mw_V} {x : Int} {st : List mw_V} {σ : mw_S} {Q : Option mw_V → mw_S → Prop} : mw_WP d 133 22 [l0, some (jI x), l2, l3] st σ Q ↔ mw_WP d 133 23 [l0, some (jI x), l2, l3] (jI x :: st) σ Q := WP_iload_n mq133 dd133_22 rfl
theorem dd133_23 : decode cX11_round 23 = .ok (.bipush 10, 2) := by decide +kernel
theorem ww133_23 {d : Nat} {l0 l1 l2 l3 : Option mw_V} {st : List mw_V} {σ : mw_S} {Q : Option mw_V → mw_S → Prop} : mw_WP d 133 23 [l0, l1, l2, l3] st σ Q ↔ mw_WP d 133 25 [l0, l1, l2, l3] (jI (10) :: st) σ Q := WP_bipush mq133 dd133_23 (by decide)
theorem dd133_25 : decode cX11_round 25 = .ok (.invokevirtual 217, 3) := by decide +kernel
theorem ww133_25 {d : Nat} {l0 l1 l2 l3 : Option mw_V} {v0 v1 : mw_V} {a : Nat} {st : List mw_V} {σ : mw_S} {Q : Option mw_V → mw_S → Prop} (hr : mw_rc a = 11) (h8 : (st.map mw_cat).sum ≤ 8) : mw_WP d 133 25 [l0, l1, l2, l3] (v1 :: v0 :: jR a :: st) σ Q ↔ mw_Call d 165 [jR a, v0, v1] σ (fun r1 s1 => mw_WP d 133 28 [l0, l1, l2, l3] (r1.toList ++ st) s1 Q) := WP_inv (as := [v1, v0]) mq133 dd133_25 (by decide) mq165 rfl hr h8
theorem dd133_28 : decode cX11_round 28 = .ok (.istore_n 3, 1) := by decide +kernel
theorem ww133_28 {d : Nat} {l0 l1 l2 l3 : Option mw_V} {x : Int} {st : List mw_V} {σ : mw_S} {Q : Option mw_V → mw_S → Prop} (h : mw_nlo l2 = true) : mw_WP d 133 28 [l0, l1, l2, l3] (jI x :: st) σ Q ↔ mw_WP d 133 29 [l0, l1, l2, some (jI x)] st σ Q := WP_istore_n mq133 dd133_28 (Nat.le_of_ble_eq_true rfl) (mw_nl_of (i := 2) rfl h) rfl
theorem dd133_29 : decode cX11_round 29 = .ok (.iload_n 3, 1) := by decide +kernel
theorem ww133_29 {d : Nat} {l0 l1 l2 : Option mw_V} {x : Int} {st : List mw_V} {σ : mw_S} {Q : Option mw_V → mw_S → Prop} : mw_WP d 133 29 [l0, l1, l2, some (jI x)] st σ Q ↔ mw_WP d 133 30 [l0, l1, l2, some (jI x)] (jI x :: st) σ Q := WP_iload_n mq133 dd133_29 rfl
theorem dd133_30 : decode cX11_round 30 = .ok (.ifCond .eq 5, 3) := by decide +kernel
theorem ww133_30 {d : Nat} {l0 l1 l2 l3 : Option mw_V} {x : Int} {st : List mw_V} {σ : mw_S} {Q : Option mw_V → mw_S → Prop} : mw_WP d 133 30 [l0, l1, l2, l3] (jI x :: st) σ Q ↔ (if x = 0 then mw_WP d 133 35 [l0, l1, l2, l3] st σ Q else mw_WP d 133 33 [l0, l1, l2, l3] st σ Q) := WP_if_eq mq133 dd133_30 (by decide)
theorem dd133_33 : decode cX11_round 33 = .ok (.iload_n 3, 1) := by decide +kernel
theorem ww133_33 {d : Nat} {l0 l1 l2 : Option mw_V} {x : Int} {st : List mw_V} {σ : mw_S} {Q : Option mw_V → mw_S → Prop} : mw_WP d 133 33 [l0, l1, l2, some (jI x)] st σ Q ↔ mw_WP d 133 34 [l0, l1, l2, some (jI x)] (jI x :: st) σ Q := WP_iload_n mq133 dd133_33 rfl
theorem dd133_34 : decode cX11_round 34 = .ok (.ireturn, 1) := by decide +kernel
theorem ww133_34 {d : Nat} {l0 l1 l2 l3 : Option mw_V} {z : Int} {σ : mw_S} {Q : Option mw_V → mw_S → Prop} : mw_WP d 133 34 [l0, l1, l2, l3] [jI z] σ Q ↔ Q (some (jI z)) σ := WP_ireturn (ty := .int) mq133 dd133_34 rfl rfl
theorem dd133_35 : decode cX11_round 35 = .ok (.aload_n 0, 1) := by decide +kernel
theorem ww133_35 {d : Nat} {l1 l2 l3 : Option mw_V} {x : Nat} {st : List mw_V} {σ : mw_S} {Q : Option mw_V → mw_S → Prop} : mw_WP d 133 35 [some (jR x), l1, l2, l3] st σ Q ↔ mw_WP d 133 36 [some (jR x), l1, l2, l3] (jR x :: st) σ Q := WP_aload_n mq133 dd133_35 rfl
theorem dd133_36 : decode cX11_round 36 = .ok (.getfield 51, 3) := by decide +kernel
theorem ww133_36 {d : Nat} {l0 l1 l2 l3 : Option mw_V} {st : List mw_V} {σ : mw_S} {Q : Option mw_V → mw_S → Prop} : mw_WP d 133 36 [l0, l1, l2, l3] (jR 0 :: st) σ Q ↔ mw_WP d 133 39 [l0, l1, l2, l3] (jR 45 :: st) σ Q := WP_getR (ci := 10) (k := 5) mq133 dd133_36 (by decide) rfl
theorem dd133_39 : decode cX11_round 39 = .ok (.aload_n 0, 1) := by decide +kernel
theorem ww133_39 {d : Nat} {l1 l2 l3 : Option mw_V} {x : Nat} {st : List mw_V} {σ : mw_S} {Q : Option mw_V → mw_S → Prop} : mw_WP d 133 39 [some (jR x), l1, l2, l3] st σ Q ↔ mw_WP d 133 40 [some (jR x), l1, l2, l3] (jR x :: st) σ Q := WP_aload_n mq133 dd133_39 rfl
theorem dd133_40 : decode cX11_round 40 = .ok (.getfield 86, 3) := by decide +kernel
theorem ww133_40 {d : Nat} {l0 l1 l2 l3 : Option mw_V} {st : List mw_V} {σ : mw_S} {Q : Option mw_V → mw_S → Prop} : mw_WP d 133 40 [l0, l1, l2, l3] (jR 0 :: st) σ Q ↔ mw_WP d 133 43 [l0, l1, l2, l3] (jR 98 :: st) σ Q := WP_getR (ci := 10) (k := 11) mq133 dd133_40 (by decide) rfl
theorem dd133_43 : decode cX11_round 43 = .ok (.aload_n 0, 1) := by decide +kernel
theorem ww133_43 {d : Nat} {l1 l2 l3 : Option mw_V} {x : Nat} {st : List mw_V} {σ : mw_S} {Q : Option mw_V → mw_S → Prop} : mw_WP d 133 43 [some (jR x), l1, l2, l3] st σ Q ↔ mw_WP d 133 44 [some (jR x), l1, l2, l3] (jR x :: st) σ Q := WP_aload_n mq133 dd133_43 rfl
theorem dd133_44 : decode cX11_round 44 = .ok (.getfield 42, 3) := by decide +kernel
theorem ww133_44 {d : Nat} {l0 l1 l2 l3 : Option mw_V} {st : List mw_V} {σ : mw_S} {Q : Option mw_V → mw_S → Prop} : mw_WP d 133 44 [l0, l1, l2, l3] (jR 0 :: st) σ Q ↔ mw_WP d 133 47 [l0, l1, l2, l3] (jR 37 :: st) σ Q := WP_getR (ci := 10) (k := 4) mq133 dd133_44 (by decide) rfl
theorem dd133_47 : decode cX11_round 47 = .ok (.iload_n 1, 1) := by decide +kernel
theorem ww133_47 {d : Nat} {l0 l2 l3 : Option mw_V} {x : Int} {st : List mw_V} {σ : mw_S} {Q : Option mw_V → mw_S → Prop} : mw_WP d 133 47 [l0, some (jI x), l2, l3] st σ Q ↔ mw_WP d 133 48 [l0, some (jI x), l2, l3] (jI x :: st) σ Q := WP_iload_n mq133 dd133_47 rfl
theorem dd133_48 : decode cX11_round 48 = .ok (.invokevirtual 220, 3) := by decide +kernel
theorem ww133_48 {d : Nat} {l0 l1 l2 l3 : Option mw_V} {v0 v1 v2 : mw_V} {a : Nat} {st : List mw_V} {σ : mw_S} {Q : Option mw_V → mw_S → Prop} (hr : mw_rc a = 8) (h8 : (st.map mw_cat).sum ≤ 8) : mw_WP d 133 48 [l0, l1, l2, l3] (v2 :: v1 :: v0 :: jR a :: st) σ Q ↔ mw_Call d 84 [jR a, v0, v1, v2] σ (fun r1 s1 => mw_WP d 133 51 [l0, l1, l2, l3] (r1.toList ++ st) s1 Q) := WP_inv (as := [v2, v1, v0]) mq133 dd133_48 (by decide) mq84 rfl hr h8
theorem dd133_51 : decode cX11_round 51 = .ok (.iload_n 2, 1) := by decide +kernel
theorem ww133_51 {d : Nat} {l0 l1 l3 : Option mw_V} {x : Int} {st : List mw_V} {σ : mw_S} {Q : Option mw_V → mw_S → Prop} : mw_WP d 133 51 [l0, l1, some (jI x), l3] st σ Q ↔ mw_WP d 133 52 [l0, l1, some (jI x), l3] (jI x :: st) σ Q := WP_iload_n mq133 dd133_51 rfl
theorem dd133_52 : decode cX11_round 52 = .ok (.ifCond .ne 13, 3) := by decide +kernel
theorem ww133_52 {d : Nat} {l0 l1 l2 l3 : Option mw_V} {x : Int} {st : List mw_V} {σ : mw_S} {Q : Option mw_V → mw_S → Prop} : mw_WP d 133 52 [l0, l1, l2, l3] (jI x :: st) σ Q ↔ (if ¬ x = 0 then mw_WP d 133 65 [l0, l1, l2, l3] st σ Q else mw_WP d 133 55 [l0, l1, l2, l3] st σ Q) := WP_if_ne mq133 dd133_52 (by decide)
theorem dd133_55 : decode cX11_round 55 = .ok (.aload_n 0, 1) := by decide +kernel
theorem ww133_55 {d : Nat} {l1 l2 l3 : Option mw_V} {x : Nat} {st : List mw_V} {σ : mw_S} {Q : Option mw_V → mw_S → Prop} : mw_WP d 133 55 [some (jR x), l1, l2, l3] st σ Q ↔ mw_WP d 133 56 [some (jR x), l1, l2, l3] (jR x :: st) σ Q := WP_aload_n mq133 dd133_55 rfl
theorem dd133_56 : decode cX11_round 56 = .ok (.getfield 51, 3) := by decide +kernel
theorem ww133_56 {d : Nat} {l0 l1 l2 l3 : Option mw_V} {st : List mw_V} {σ : mw_S} {Q : Option mw_V → mw_S → Prop} : mw_WP d 133 56 [l0, l1, l2, l3] (jR 0 :: st) σ Q ↔ mw_WP d 133 59 [l0, l1, l2, l3] (jR 45 :: st) σ Q := WP_getR (ci := 10) (k := 5) mq133 dd133_56 (by decide) rfl
theorem dd133_59 : decode cX11_round 59 = .ok (.getfield 224, 3) := by decide +kernel
theorem ww133_59 {d : Nat} {l0 l1 l2 l3 : Option mw_V} {st : List mw_V} {σ : mw_S} {Q : Option mw_V → mw_S → Prop} : mw_WP d 133 59 [l0, l1, l2, l3] (jR 45 :: st) σ Q ↔ mw_WP d 133 62 [l0, l1, l2, l3] (jI (σ 45 0) :: st) σ Q := WP_getI (ci := 7) (k := 0) mq133 dd133_59 (by decide) (Or.inl rfl)
theorem dd133_62 : decode cX11_round 62 = .ok (.goto 10, 3) := by decide +kernel
theorem ww133_62 {d : Nat} {l0 l1 l2 l3 : Option mw_V} {st : List mw_V} {σ : mw_S} {Q : Option mw_V → mw_S → Prop} : mw_WP d 133 62 [l0, l1, l2, l3] st σ Q ↔ mw_WP d 133 72 [l0, l1, l2, l3] st σ Q := WP_goto mq133 dd133_62 (by decide)
theorem dd133_65 : decode cX11_round 65 = .ok (.aload_n 0, 1) := by decide +kernel
theorem ww133_65 {d : Nat} {l1 l2 l3 : Option mw_V} {x : Nat} {st : List mw_V} {σ : mw_S} {Q : Option mw_V → mw_S → Prop} : mw_WP d 133 65 [some (jR x), l1, l2, l3] st σ Q ↔ mw_WP d 133 66 [some (jR x), l1, l2, l3] (jR x :: st) σ Q := WP_aload_n mq133 dd133_65 rfl
theorem dd133_66 : decode cX11_round 66 = .ok (.getfield 51, 3) := by decide +kernel
theorem ww133_66 {d : Nat} {l0 l1 l2 l3 : Option mw_V} {st : List mw_V} {σ : mw_S} {Q : Option mw_V → mw_S → Prop} : mw_WP d 133 66 [l0, l1, l2, l3] (jR 0 :: st) σ Q ↔ mw_WP d 133 69 [l0, l1, l2, l3] (jR 45 :: st) σ Q := WP_getR (ci := 10) (k := 5) mq133 dd133_66 (by decide) rfl
theorem dd133_69 : decode cX11_round 69 = .ok (.getfield 227, 3) := by decide +kernel
theorem ww133_69 {d : Nat} {l0 l1 l2 l3 : Option mw_V} {st : List mw_V} {σ : mw_S} {Q : Option mw_V → mw_S → Prop} : mw_WP d 133 69 [l0, l1, l2, l3] (jR 45 :: st) σ Q ↔ mw_WP d 133 72 [l0, l1, l2, l3] (jI (σ 45 1) :: st) σ Q := WP_getI (ci := 7) (k := 1) mq133 dd133_69 (by decide) (Or.inl rfl)
theorem dd133_72 : decode cX11_round 72 = .ok (.ireturn, 1) := by decide +kernel
theorem ww133_72 {d : Nat} {l0 l1 l2 l3 : Option mw_V} {z : Int} {σ : mw_S} {Q : Option mw_V → mw_S → Prop} : mw_WP d 133 72 [l0, l1, l2, l3] [jI z] σ Q ↔ Q (some (jI z)) σ := WP_ireturn (ty := .int) mq133 dd133_72 rfl rfl
theorem ee134 {d : Nat} {a : Nat} {z0 : Int} {z1 : Int} {z2 : Int} {z3 : Int} {σ : mw_S} {Q : Option mw_V → mw_S → Prop} : mw_Call (d + 1) 134 [jR a, jI z0, jI z1, jI z2, jI z3] σ Q ↔ mw_WP d 134 0 [some (jR a), some (jI z0), some (jI z1), some (jI z2), some (jI z3), none, none] [] σ Q := CL_u mq134 (Nat.le_of_ble_eq_true rfl) rfl
theorem dd134_0 : decode cX11_soonest 0 = .ok (.iload 4, 2) := by decide +kernel
theorem ww134_0 {d : Nat} {l0 l1 l2 l3 l5 l6 : Option mw_V} {x : Int} {st : List mw_V} {σ : mw_S} {Q : Option mw_V → mw_S → Prop} : mw_WP d 134 0 [l0, l1, l2, l3, some (jI x), l5, l6] st σ Q ↔ mw_WP d 134 2 [l0, l1, l2, l3, some (jI x), l5, l6] (jI x :: st) σ Q := WP_iload mq134 dd134_0 rfl
theorem dd134_2 : decode cX11_soonest 2 = .ok (.ifCond .eq 17, 3) := by decide +kernel
theorem ww134_2 {d : Nat} {l0 l1 l2 l3 l4 l5 l6 : Option mw_V} {x : Int} {st : List mw_V} {σ : mw_S} {Q : Option mw_V → mw_S → Prop} : mw_WP d 134 2 [l0, l1, l2, l3, l4, l5, l6] (jI x :: st) σ Q ↔ (if x = 0 then mw_WP d 134 19 [l0, l1, l2, l3, l4, l5, l6] st σ Q else mw_WP d 134 5 [l0, l1, l2, l3, l4, l5, l6] st σ Q) := WP_if_eq mq134 dd134_2 (by decide)
theorem dd134_5 : decode cX11_soonest 5 = .ok (.iload 4, 2) := by decide +kernel
theorem ww134_5 {d : Nat} {l0 l1 l2 l3 l5 l6 : Option mw_V} {x : Int} {st : List mw_V} {σ : mw_S} {Q : Option mw_V → mw_S → Prop} : mw_WP d 134 5 [l0, l1, l2, l3, some (jI x), l5, l6] st σ Q ↔ mw_WP d 134 7 [l0, l1, l2, l3, some (jI x), l5, l6] (jI x :: st) σ Q := WP_iload mq134 dd134_5 rfl
theorem dd134_7 : decode cX11_soonest 7 = .ok (.bipush 10, 2) := by decide +kernel
theorem ww134_7 {d : Nat} {l0 l1 l2 l3 l4 l5 l6 : Option mw_V} {st : List mw_V} {σ : mw_S} {Q : Option mw_V → mw_S → Prop} : mw_WP d 134 7 [l0, l1, l2, l3, l4, l5, l6] st σ Q ↔ mw_WP d 134 9 [l0, l1, l2, l3, l4, l5, l6] (jI (10) :: st) σ Q := WP_bipush mq134 dd134_7 (by decide)
theorem dd134_9 : decode cX11_soonest 9 = .ok (.if_icmp .lt 14, 3) := by decide +kernel
theorem ww134_9 {d : Nat} {l0 l1 l2 l3 l4 l5 l6 : Option mw_V} {x y : Int} {st : List mw_V} {σ : mw_S} {Q : Option mw_V → mw_S → Prop} : mw_WP d 134 9 [l0, l1, l2, l3, l4, l5, l6] (jI y :: jI x :: st) σ Q ↔ (if x < y then mw_WP d 134 23 [l0, l1, l2, l3, l4, l5, l6] st σ Q else mw_WP d 134 12 [l0, l1, l2, l3, l4, l5, l6] st σ Q) := WP_icmp_lt mq134 dd134_9 (by decide)
theorem dd134_12 : decode cX11_soonest 12 = .ok (.iload 4, 2) := by decide +kernel
theorem ww134_12 {d : Nat} {l0 l1 l2 l3 l5 l6 : Option mw_V} {x : Int} {st : List mw_V} {σ : mw_S} {Q : Option mw_V → mw_S → Prop} : mw_WP d 134 12 [l0, l1, l2, l3, some (jI x), l5, l6] st σ Q ↔ mw_WP d 134 14 [l0, l1, l2, l3, some (jI x), l5, l6] (jI x :: st) σ Q := WP_iload mq134 dd134_12 rfl
theorem dd134_14 : decode cX11_soonest 14 = .ok (.bipush 17, 2) := by decide +kernel
theorem ww134_14 {d : Nat} {l0 l1 l2 l3 l4 l5 l6 : Option mw_V} {st : List mw_V} {σ : mw_S} {Q : Option mw_V → mw_S → Prop} : mw_WP d 134 14 [l0, l1, l2, l3, l4, l5, l6] st σ Q ↔ mw_WP d 134 16 [l0, l1, l2, l3, l4, l5, l6] (jI (17) :: st) σ Q := WP_bipush mq134 dd134_14 (by decide)
theorem dd134_16 : decode cX11_soonest 16 = .ok (.if_icmp .gt 7, 3) := by decide +kernel
theorem ww134_16 {d : Nat} {l0 l1 l2 l3 l4 l5 l6 : Option mw_V} {x y : Int} {st : List mw_V} {σ : mw_S} {Q : Option mw_V → mw_S → Prop} : mw_WP d 134 16 [l0, l1, l2, l3, l4, l5, l6] (jI y :: jI x :: st) σ Q ↔ (if y < x then mw_WP d 134 23 [l0, l1, l2, l3, l4, l5, l6] st σ Q else mw_WP d 134 19 [l0, l1, l2, l3, l4, l5, l6] st σ Q) := WP_icmp_gt mq134 dd134_16 (by decide)
theorem dd134_19 : decode cX11_soonest 19 = .ok (.iconst 1, 1) := by decide +kernel
theorem ww134_19 {d : Nat} {l0 l1 l2 l3 l4 l5 l6 : Option mw_V} {st : List mw_V} {σ : mw_S} {Q : Option mw_V → mw_S → Prop} : mw_WP d 134 19 [l0, l1, l2, l3, l4, l5, l6] st σ Q ↔ mw_WP d 134 20 [l0, l1, l2, l3, l4, l5, l6] (jI (1) :: st) σ Q := WP_iconst mq134 dd134_19 (by decide)
theorem dd134_20 : decode cX11_soonest 20 = .ok (.goto 4, 3) := by decide +kernel
theorem ww134_20 {d : Nat} {l0 l1 l2 l3 l4 l5 l6 : Option mw_V} {st : List mw_V} {σ : mw_S} {Q : Option mw_V → mw_S → Prop} : mw_WP d 134 20 [l0, l1, l2, l3, l4, l5, l6] st σ Q ↔ mw_WP d 134 24 [l0, l1, l2, l3, l4, l5, l6] st σ Q := WP_goto mq134 dd134_20 (by decide)
theorem dd134_23 : decode cX11_soonest 23 = .ok (.iconst 0, 1) := by decide +kernel
theorem ww134_23 {d : Nat} {l0 l1 l2 l3 l4 l5 l6 : Option mw_V} {st : List mw_V} {σ : mw_S} {Q : Option mw_V → mw_S → Prop} : mw_WP d 134 23 [l0, l1, l2, l3, l4, l5, l6] st σ Q ↔ mw_WP d 134 24 [l0, l1, l2, l3, l4, l5, l6] (jI (0) :: st) σ Q := WP_iconst mq134 dd134_23 (by decide)
theorem dd134_24 : decode cX11_soonest 24 = .ok (.istore 5, 2) := by decide +kernel
theorem ww134_24 {d : Nat} {l0 l1 l2 l3 l4 l5 l6 : Option mw_V} {x : Int} {st : List mw_V} {σ : mw_S} {Q : Option mw_V → mw_S → Prop} (h : mw_nlo l4 = true) : mw_WP d 134 24 [l0, l1, l2, l3, l4, l5, l6] (jI x :: st) σ Q ↔ mw_WP d 134 26 [l0, l1, l2, l3, l4, some (jI x), l6] st σ Q := WP_istore mq134 dd134_24 (Nat.le_of_ble_eq_true rfl) (mw_nl_of (i := 4) rfl h) rfl
theorem dd134_26 : decode cX11_soonest 26 = .ok (.aload_n 0, 1) := by decide +kernel
theorem ww134_26 {d : Nat} {l1 l2 l3 l4 l5 l6 : Option mw_V} {x : Nat} {st : List mw_V} {σ : mw_S} {Q : Option mw_V → mw_S → Prop} : mw_WP d 134 26 [some (jR x), l1, l2, l3, l4, l5, l6] st σ Q ↔ mw_WP d 134 27 [some (jR x), l1, l2, l3, l4, l5, l6] (jR x :: st) σ Q := WP_aload_n mq134 dd134_26 rfl
theorem dd134_27 : decode cX11_soonest 27 = .ok (.iload_n 1, 1) := by decide +kernel
theorem ww134_27 {d : Nat} {l0 l2 l3 l4 l5 l6 : Option mw_V} {x : Int} {st : List mw_V} {σ : mw_S} {Q : Option mw_V → mw_S → Prop} : mw_WP d 134 27 [l0, some (jI x), l2, l3, l4, l5, l6] st σ Q ↔ mw_WP d 134 28 [l0, some (jI x), l2, l3, l4, l5, l6] (jI x :: st) σ Q := WP_iload_n mq134 dd134_27 rfl
theorem dd134_28 : decode cX11_soonest 28 = .ok (.invokevirtual 131, 3) := by decide +kernel
theorem ww134_28 {d : Nat} {l0 l1 l2 l3 l4 l5 l6 : Option mw_V} {v0 : mw_V} {a : Nat} {st : List mw_V} {σ : mw_S} {Q : Option mw_V → mw_S → Prop} (hr : mw_rc a = 11) (h8 : (st.map mw_cat).sum ≤ 8) : mw_WP d 134 28 [l0, l1, l2, l3, l4, l5, l6] (v0 :: jR a :: st) σ Q ↔ mw_Call d 157 [jR a, v0] σ (fun r1 s1 => mw_WP d 134 31 [l0, l1, l2, l3, l4, l5, l6] (r1.toList ++ st) s1 Q) := WP_inv (as := [v0]) mq134 dd134_28 (by decide) mq157 rfl hr h8
theorem dd134_31 : decode cX11_soonest 31 = .ok (.ifCond .eq 21, 3) := by decide +kernel
theorem ww134_31 {d : Nat} {l0 l1 l2 l3 l4 l5 l6 : Option mw_V} {x : Int} {st : List mw_V} {σ : mw_S} {Q : Option mw_V → mw_S → Prop} : mw_WP d 134 31 [l0, l1, l2, l3, l4, l5, l6] (jI x :: st) σ Q ↔ (if x = 0 then mw_WP d 134 52 [l0, l1, l2, l3, l4, l5, l6] st σ Q else mw_WP d 134 34 [l0, l1, l2, l3, l4, l5, l6] st σ Q) := WP_if_eq mq134 dd134_31 (by decide)
theorem dd134_34 : decode cX11_soonest 34 = .ok (.iload_n 2, 1) := by decide +kernel
theorem ww134_34 {d : Nat} {l0 l1 l3 l4 l5 l6 : Option mw_V} {x : Int} {st : List mw_V} {σ : mw_S} {Q : Option mw_V → mw_S → Prop} : mw_WP d 134 34 [l0, l1, some (jI x), l3, l4, l5, l6] st σ Q ↔ mw_WP d 134 35 [l0, l1, some (jI x), l3, l4, l5, l6] (jI x :: st) σ Q := WP_iload_n mq134 dd134_34 rfl
theorem dd134_35 : decode cX11_soonest 35 = .ok (.iconst (-1), 1) := by decide +kernel
theorem ww134_35 {d : Nat} {l0 l1 l2 l3 l4 l5 l6 : Option mw_V} {st : List mw_V} {σ : mw_S} {Q : Option mw_V → mw_S → Prop} : mw_WP d 134 35 [l0, l1, l2, l3, l4, l5, l6] st σ Q ↔ mw_WP d 134 36 [l0, l1, l2, l3, l4, l5, l6] (jI (-1) :: st) σ Q := WP_iconst mq134 dd134_35 (by decide)
theorem dd134_36 : decode cX11_soonest 36 = .ok (.if_icmp .eq 11, 3) := by decide +kernel
theorem ww134_36 {d : Nat} {l0 l1 l2 l3 l4 l5 l6 : Option mw_V} {x y : Int} {st : List mw_V} {σ : mw_S} {Q : Option mw_V → mw_S → Prop} : mw_WP d 134 36 [l0, l1, l2, l3, l4, l5, l6] (jI y :: jI x :: st) σ Q ↔ (if x = y then mw_WP d 134 47 [l0, l1, l2, l3, l4, l5, l6] st σ Q else mw_WP d 134 39 [l0, l1, l2, l3, l4, l5, l6] st σ Q) := WP_icmp_eq mq134 dd134_36 (by decide)
theorem dd134_39 : decode cX11_soonest 39 = .ok (.aload_n 0, 1) := by decide +kernel
theorem ww134_39 {d : Nat} {l1 l2 l3 l4 l5 l6 : Option mw_V} {x : Nat} {st : List mw_V} {σ : mw_S} {Q : Option mw_V → mw_S → Prop} : mw_WP d 134 39 [some (jR x), l1, l2, l3, l4, l5, l6] st σ Q ↔ mw_WP d 134 40 [some (jR x), l1, l2, l3, l4, l5, l6] (jR x :: st) σ Q := WP_aload_n mq134 dd134_39 rfl
theorem dd134_40 : decode cX11_soonest 40 = .ok (.iload_n 2, 1) := by decide +kernel
theorem ww134_40 {d : Nat} {l0 l1 l3 l4 l5 l6 : Option mw_V} {x : Int} {st : List mw_V} {σ : mw_S} {Q : Option mw_V → mw_S → Prop} : mw_WP d 134 40 [l0, l1, some (jI x), l3, l4, l5, l6] st σ Q ↔ mw_WP d 134 41 [l0, l1, some (jI x), l3, l4, l5, l6] (jI x :: st) σ Q := WP_iload_n mq134 dd134_40 rfl
theorem dd134_41 : decode cX11_soonest 41 = .ok (.invokevirtual 145, 3) := by decide +kernel
theorem ww134_41 {d : Nat} {l0 l1 l2 l3 l4 l5 l6 : Option mw_V} {v0 : mw_V} {a : Nat} {st : List mw_V} {σ : mw_S} {Q : Option mw_V → mw_S → Prop} (hr : mw_rc a = 11) (h8 : (st.map mw_cat).sum ≤ 8) : mw_WP d 134 41 [l0, l1, l2, l3, l4, l5, l6] (v0 :: jR a :: st) σ Q ↔ mw_Call d 159 [jR a, v0] σ (fun r1 s1 => mw_WP d 134 44 [l0, l1, l2, l3, l4, l5, l6] (r1.toList ++ st) s1 Q) := WP_inv (as := [v0]) mq134 dd134_41 (by decide) mq159 rfl hr h8
theorem dd134_44 : decode cX11_soonest 44 = .ok (.ifCond .eq 8, 3) := by decide +kernel
theorem ww134_44 {d : Nat} {l0 l1 l2 l3 l4 l5 l6 : Option mw_V} {x : Int} {st : List mw_V} {σ : mw_S} {Q : Option mw_V → mw_S → Prop} : mw_WP d 134 44 [l0, l1, l2, l3, l4, l5, l6] (jI x :: st) σ Q ↔ (if x = 0 then mw_WP d 134 52 [l0, l1, l2, l3, l4, l5, l6] st σ Q else mw_WP d 134 47 [l0, l1, l2, l3, l4, l5, l6] st σ Q) := WP_if_eq mq134 dd134_44 (by decide)
theorem dd134_47 : decode cX11_soonest 47 = .ok (.iload 5, 2) := by decide +kernel
theorem ww134_47 {d : Nat} {l0 l1 l2 l3 l4 l6 : Option mw_V} {x : Int} {st : List mw_V} {σ : mw_S} {Q : Option mw_V → mw_S → Prop} : mw_WP d 134 47 [l0, l1, l2, l3, l4, some (jI x), l6] st σ Q ↔ mw_WP d 134 49 [l0, l1, l2, l3, l4, some (jI x), l6] (jI x :: st) σ Q := WP_iload mq134 dd134_47 rfl
theorem dd134_49 : decode cX11_soonest 49 = .ok (.ifCond .ne 6, 3) := by decide +kernel
theorem ww134_49 {d : Nat} {l0 l1 l2 l3 l4 l5 l6 : Option mw_V} {x : Int} {st : List mw_V} {σ : mw_S} {Q : Option mw_V → mw_S → Prop} : mw_WP d 134 49 [l0, l1, l2, l3, l4, l5, l6] (jI x :: st) σ Q ↔ (if ¬ x = 0 then mw_WP d 134 55 [l0, l1, l2, l3, l4, l5, l6] st σ Q else mw_WP d 134 52 [l0, l1, l2, l3, l4, l5, l6] st σ Q) := WP_if_ne mq134 dd134_49 (by decide)
theorem dd134_52 : decode cX11_soonest 52 = .ok (.bipush (-2), 2) := by decide +kernel
theorem ww134_52 {d : Nat} {l0 l1 l2 l3 l4 l5 l6 : Option mw_V} {st : List mw_V} {σ : mw_S} {Q : Option mw_V → mw_S → Prop} : mw_WP d 134 52 [l0, l1, l2, l3, l4, l5, l6] st σ Q ↔ mw_WP d 134 54 [l0, l1, l2, l3, l4, l5, l6] (jI (-2) :: st) σ Q := WP_bipush mq134 dd134_52 (by decide)
theorem dd134_54 : decode cX11_soonest 54 = .ok (.ireturn, 1) := by decide +kernel
theorem ww134_54 {d : Nat} {l0 l1 l2 l3 l4 l5 l6 : Option mw_V} {z : Int} {σ : mw_S} {Q : Option mw_V → mw_S → Prop} : mw_WP d 134 54 [l0, l1, l2, l3, l4, l5, l6] [jI z] σ Q ↔ Q (some (jI z)) σ := WP_ireturn (ty := .int) mq134 dd134_54 rfl rfl
theorem dd134_55 : decode cX11_soonest 55 = .ok (.iload_n 2, 1) := by decide +kernel
theorem ww134_55 {d : Nat} {l0 l1 l3 l4 l5 l6 : Option mw_V} {x : Int} {st : List mw_V} {σ : mw_S} {Q : Option mw_V → mw_S → Prop} : mw_WP d 134 55 [l0, l1, some (jI x), l3, l4, l5, l6] st σ Q ↔ mw_WP d 134 56 [l0, l1, some (jI x), l3, l4, l5, l6] (jI x :: st) σ Q := WP_iload_n mq134 dd134_55 rfl
theorem dd134_56 : decode cX11_soonest 56 = .ok (.iconst (-1), 1) := by decide +kernel
theorem ww134_56 {d : Nat} {l0 l1 l2 l3 l4 l5 l6 : Option mw_V} {st : List mw_V} {σ : mw_S} {Q : Option mw_V → mw_S → Prop} : mw_WP d 134 56 [l0, l1, l2, l3, l4, l5, l6] st σ Q ↔ mw_WP d 134 57 [l0, l1, l2, l3, l4, l5, l6] (jI (-1) :: st) σ Q := WP_iconst mq134 dd134_56 (by decide)
theorem dd134_57 : decode cX11_soonest 57 = .ok (.if_icmp .eq 14, 3) := by decide +kernel
theorem ww134_57 {d : Nat} {l0 l1 l2 l3 l4 l5 l6 : Option mw_V} {x y : Int} {st : List mw_V} {σ : mw_S} {Q : Option mw_V → mw_S → Prop} : mw_WP d 134 57 [l0, l1, l2, l3, l4, l5, l6] (jI y :: jI x :: st) σ Q ↔ (if x = y then mw_WP d 134 71 [l0, l1, l2, l3, l4, l5, l6] st σ Q else mw_WP d 134 60 [l0, l1, l2, l3, l4, l5, l6] st σ Q) := WP_icmp_eq mq134 dd134_57 (by decide)
theorem dd134_60 : decode cX11_soonest 60 = .ok (.aload_n 0, 1) := by decide +kernel
theorem ww134_60 {d : Nat} {l1 l2 l3 l4 l5 l6 : Option mw_V} {x : Nat} {st : List mw_V} {σ : mw_S} {Q : Option mw_V → mw_S → Prop} : mw_WP d 134 60 [some (jR x), l1, l2, l3, l4, l5, l6] st σ Q ↔ mw_WP d 134 61 [some (jR x), l1, l2, l3, l4, l5, l6] (jR x :: st) σ Q := WP_aload_n mq134 dd134_60 rfl
theorem dd134_61 : decode cX11_soonest 61 = .ok (.iload_n 3, 1) := by decide +kernel
theorem ww134_61 {d : Nat} {l0 l1 l2 l4 l5 l6 : Option mw_V} {x : Int} {st : List mw_V} {σ : mw_S} {Q : Option mw_V → mw_S → Prop} : mw_WP d 134 61 [l0, l1, l2, some (jI x), l4, l5, l6] st σ Q ↔ mw_WP d 134 62 [l0, l1, l2, some (jI x), l4, l5, l6] (jI x :: st) σ Q := WP_iload_n mq134 dd134_61 rfl
theorem dd134_62 : decode cX11_soonest 62 = .ok (.invokevirtual 230, 3) := by decide +kernel
theorem ww134_62 {d : Nat} {l0 l1 l2 l3 l4 l5 l6 : Option mw_V} {v0 : mw_V} {a : Nat} {st : List mw_V} {σ : mw_S} {Q : Option mw_V → mw_S → Prop} (hr : mw_rc a = 11) (h8 : (st.map mw_cat).sum ≤ 8) : mw_WP d 134 62 [l0, l1, l2, l3, l4, l5, l6] (v0 :: jR a :: st) σ Q ↔ mw_Call d 161 [jR a, v0] σ (fun r1 s1 => mw_WP d 134 65 [l0, l1, l2, l3, l4, l5, l6] (r1.toList ++ st) s1 Q) := WP_inv (as := [v0]) mq134 dd134_62 (by decide) mq161 rfl hr h8
theorem dd134_65 : decode cX11_soonest 65 = .ok (.ifCond .ne 6, 3) := by decide +kernel
theorem ww134_65 {d : Nat} {l0 l1 l2 l3 l4 l5 l6 : Option mw_V} {x : Int} {st : List mw_V} {σ : mw_S} {Q : Option mw_V → mw_S → Prop} : mw_WP d 134 65 [l0, l1, l2, l3, l4, l5, l6] (jI x :: st) σ Q ↔ (if ¬ x = 0 then mw_WP d 134 71 [l0, l1, l2, l3, l4, l5, l6] st σ Q else mw_WP d 134 68 [l0, l1, l2, l3, l4, l5, l6] st σ Q) := WP_if_ne mq134 dd134_65 (by decide)
theorem dd134_68 : decode cX11_soonest 68 = .ok (.bipush (-3), 2) := by decide +kernel
theorem ww134_68 {d : Nat} {l0 l1 l2 l3 l4 l5 l6 : Option mw_V} {st : List mw_V} {σ : mw_S} {Q : Option mw_V → mw_S → Prop} : mw_WP d 134 68 [l0, l1, l2, l3, l4, l5, l6] st σ Q ↔ mw_WP d 134 70 [l0, l1, l2, l3, l4, l5, l6] (jI (-3) :: st) σ Q := WP_bipush mq134 dd134_68 (by decide)
theorem dd134_70 : decode cX11_soonest 70 = .ok (.ireturn, 1) := by decide +kernel
theorem ww134_70 {d : Nat} {l0 l1 l2 l3 l4 l5 l6 : Option mw_V} {z : Int} {σ : mw_S} {Q : Option mw_V → mw_S → Prop} : mw_WP d 134 70 [l0, l1, l2, l3, l4, l5, l6] [jI z] σ Q ↔ Q (some (jI z)) σ := WP_ireturn (ty := .int) mq134 dd134_70 rfl rfl
theorem dd134_71 : decode cX11_soonest 71 = .ok (.aload_n 0, 1) := by decide +kernel
theorem ww134_71 {d : Nat} {l1 l2 l3 l4 l5 l6 : Option mw_V} {x : Nat} {st : List mw_V} {σ : mw_S} {Q : Option mw_V → mw_S → Prop} : mw_WP d 134 71 [some (jR x), l1, l2, l3, l4, l5, l6] st σ Q ↔ mw_WP d 134 72 [some (jR x), l1, l2, l3, l4, l5, l6] (jR x :: st) σ Q := WP_aload_n mq134 dd134_71 rfl
theorem dd134_72 : decode cX11_soonest 72 = .ok (.getfield 51, 3) := by decide +kernel
theorem ww134_72 {d : Nat} {l0 l1 l2 l3 l4 l5 l6 : Option mw_V} {st : List mw_V} {σ : mw_S} {Q : Option mw_V → mw_S → Prop} : mw_WP d 134 72 [l0, l1, l2, l3, l4, l5, l6] (jR 0 :: st) σ Q ↔ mw_WP d 134 75 [l0, l1, l2, l3, l4, l5, l6] (jR 45 :: st) σ Q := WP_getR (ci := 10) (k := 5) mq134 dd134_72 (by decide) rfl
theorem dd134_75 : decode cX11_soonest 75 = .ok (.aload_n 0, 1) := by decide +kernel
theorem ww134_75 {d : Nat} {l1 l2 l3 l4 l5 l6 : Option mw_V} {x : Nat} {st : List mw_V} {σ : mw_S} {Q : Option mw_V → mw_S → Prop} : mw_WP d 134 75 [some (jR x), l1, l2, l3, l4, l5, l6] st σ Q ↔ mw_WP d 134 76 [some (jR x), l1, l2, l3, l4, l5, l6] (jR x :: st) σ Q := WP_aload_n mq134 dd134_75 rfl
theorem dd134_76 : decode cX11_soonest 76 = .ok (.getfield 86, 3) := by decide +kernel
theorem ww134_76 {d : Nat} {l0 l1 l2 l3 l4 l5 l6 : Option mw_V} {st : List mw_V} {σ : mw_S} {Q : Option mw_V → mw_S → Prop} : mw_WP d 134 76 [l0, l1, l2, l3, l4, l5, l6] (jR 0 :: st) σ Q ↔ mw_WP d 134 79 [l0, l1, l2, l3, l4, l5, l6] (jR 98 :: st) σ Q := WP_getR (ci := 10) (k := 11) mq134 dd134_76 (by decide) rfl
theorem dd134_79 : decode cX11_soonest 79 = .ok (.iload_n 1, 1) := by decide +kernel
theorem ww134_79 {d : Nat} {l0 l2 l3 l4 l5 l6 : Option mw_V} {x : Int} {st : List mw_V} {σ : mw_S} {Q : Option mw_V → mw_S → Prop} : mw_WP d 134 79 [l0, some (jI x), l2, l3, l4, l5, l6] st σ Q ↔ mw_WP d 134 80 [l0, some (jI x), l2, l3, l4, l5, l6] (jI x :: st) σ Q := WP_iload_n mq134 dd134_79 rfl
theorem dd134_80 : decode cX11_soonest 80 = .ok (.iload_n 2, 1) := by decide +kernel
theorem ww134_80 {d : Nat} {l0 l1 l3 l4 l5 l6 : Option mw_V} {x : Int} {st : List mw_V} {σ : mw_S} {Q : Option mw_V → mw_S → Prop} : mw_WP d 134 80 [l0, l1, some (jI x), l3, l4, l5, l6] st σ Q ↔ mw_WP d 134 81 [l0, l1, some (jI x), l3, l4, l5, l6] (jI x :: st) σ Q := WP_iload_n mq134 dd134_80 rfl
theorem dd134_81 : decode cX11_soonest 81 = .ok (.iload_n 3, 1) := by decide +kernel
theorem ww134_81 {d : Nat} {l0 l1 l2 l4 l5 l6 : Option mw_V} {x : Int} {st : List mw_V} {σ : mw_S} {Q : Option mw_V → mw_S → Prop} : mw_WP d 134 81 [l0, l1, l2, some (jI x), l4, l5, l6] st σ Q ↔ mw_WP d 134 82 [l0, l1, l2, some (jI x), l4, l5, l6] (jI x :: st) σ Q := WP_iload_n mq134 dd134_81 rfl
theorem dd134_82 : decode cX11_soonest 82 = .ok (.invokevirtual 233, 3) := by decide +kernel
theorem ww134_82 {d : Nat} {l0 l1 l2 l3 l4 l5 l6 : Option mw_V} {v0 v1 v2 v3 : mw_V} {a : Nat} {st : List mw_V} {σ : mw_S} {Q : Option mw_V → mw_S → Prop} (hr : mw_rc a = 8) (h8 : (st.map mw_cat).sum ≤ 8) : mw_WP d 134 82 [l0, l1, l2, l3, l4, l5, l6] (v3 :: v2 :: v1 :: v0 :: jR a :: st) σ Q ↔ mw_Call d 78 [jR a, v0, v1, v2, v3] σ (fun r1 s1 => mw_WP d 134 85 [l0, l1, l2, l3, l4, l5, l6] (r1.toList ++ st) s1 Q) := WP_inv (as := [v3, v2, v1, v0]) mq134 dd134_82 (by decide) mq78 rfl hr h8
theorem dd134_85 : decode cX11_soonest 85 = .ok (.istore 6, 2) := by decide +kernel
theorem ww134_85 {d : Nat} {l0 l1 l2 l3 l4 l5 l6 : Option mw_V} {x : Int} {st : List mw_V} {σ : mw_S} {Q : Option mw_V → mw_S → Prop} (h : mw_nlo l5 = true) : mw_WP d 134 85 [l0, l1, l2, l3, l4, l5, l6] (jI x :: st) σ Q ↔ mw_WP d 134 87 [l0, l1, l2, l3, l4, l5, some (jI x)] st σ Q := WP_istore mq134 dd134_85 (Nat.le_of_ble_eq_true rfl) (mw_nl_of (i := 5) rfl h) rfl
theorem dd134_87 : decode cX11_soonest 87 = .ok (.iload 6, 2) := by decide +kernel
theorem ww134_87 {d : Nat} {l0 l1 l2 l3 l4 l5 : Option mw_V} {x : Int} {st : List mw_V} {σ : mw_S} {Q : Option mw_V → mw_S → Prop} : mw_WP d 134 87 [l0, l1, l2, l3, l4, l5, some (jI x)] st σ Q ↔ mw_WP d 134 89 [l0, l1, l2, l3, l4, l5, some (jI x)] (jI x :: st) σ Q := WP_iload mq134 dd134_87 rfl
theorem dd134_89 : decode cX11_soonest 89 = .ok (.ifCond .lt 8, 3) := by decide +kernel
theorem ww134_89 {d : Nat} {l0 l1 l2 l3 l4 l5 l6 : Option mw_V} {x : Int} {st : List mw_V} {σ : mw_S} {Q : Option mw_V → mw_S → Prop} : mw_WP d 134 89 [l0, l1, l2, l3, l4, l5, l6] (jI x :: st) σ Q ↔ (if x < 0 then mw_WP d 134 97 [l0, l1, l2, l3, l4, l5, l6] st σ Q else mw_WP d 134 92 [l0, l1, l2, l3, l4, l5, l6] st σ Q) := WP_if_lt mq134 dd134_89 (by decide)
theorem dd134_92 : decode cX11_soonest 92 = .ok (.iload 4, 2) := by decide +kernel
theorem ww134_92 {d : Nat} {l0 l1 l2 l3 l5 l6 : Option mw_V} {x : Int} {st : List mw_V} {σ : mw_S} {Q : Option mw_V → mw_S → Prop} : mw_WP d 134 92 [l0, l1, l2, l3, some (jI x), l5, l6] st σ Q ↔ mw_WP d 134 94 [l0, l1, l2, l3, some (jI x), l5, l6] (jI x :: st) σ Q := WP_iload mq134 dd134_92 rfl
theorem dd134_94 : decode cX11_soonest 94 = .ok (.ifCond .ne 6, 3) := by decide +kernel
theorem ww134_94 {d : Nat} {l0 l1 l2 l3 l4 l5 l6 : Option mw_V} {x : Int} {st : List mw_V} {σ : mw_S} {Q : Option mw_V → mw_S → Prop} : mw_WP d 134 94 [l0, l1, l2, l3, l4, l5, l6] (jI x :: st) σ Q ↔ (if ¬ x = 0 then mw_WP d 134 100 [l0, l1, l2, l3, l4, l5, l6] st σ Q else mw_WP d 134 97 [l0, l1, l2, l3, l4, l5, l6] st σ Q) := WP_if_ne mq134 dd134_94 (by decide)
theorem dd134_97 : decode cX11_soonest 97 = .ok (.iload 6, 2) := by decide +kernel
theorem ww134_97 {d : Nat} {l0 l1 l2 l3 l4 l5 : Option mw_V} {x : Int} {st : List mw_V} {σ : mw_S} {Q : Option mw_V → mw_S → Prop} : mw_WP d 134 97 [l0, l1, l2, l3, l4, l5, some (jI x)] st σ Q ↔ mw_WP d 134 99 [l0, l1, l2, l3, l4, l5, some (jI x)] (jI x :: st) σ Q := WP_iload mq134 dd134_97 rfl
theorem dd134_99 : decode cX11_soonest 99 = .ok (.ireturn, 1) := by decide +kernel
theorem ww134_99 {d : Nat} {l0 l1 l2 l3 l4 l5 l6 : Option mw_V} {z : Int} {σ : mw_S} {Q : Option mw_V → mw_S → Prop} : mw_WP d 134 99 [l0, l1, l2, l3, l4, l5, l6] [jI z] σ Q ↔ Q (some (jI z)) σ := WP_ireturn (ty := .int) mq134 dd134_99 rfl rfl
theorem dd134_100 : decode cX11_soonest 100 = .ok (.iload 4, 2) := by decide +kernel
theorem ww134_100 {d : Nat} {l0 l1 l2 l3 l5 l6 : Option mw_V} {x : Int} {st : List mw_V} {σ : mw_S} {Q : Option mw_V → mw_S → Prop} : mw_WP d 134 100 [l0, l1, l2, l3, some (jI x), l5, l6] st σ Q ↔ mw_WP d 134 102 [l0, l1, l2, l3, some (jI x), l5, l6] (jI x :: st) σ Q := WP_iload mq134 dd134_100 rfl
theorem dd134_102 : decode cX11_soonest 102 = .ok (.bipush 10, 2) := by decide +kernel
theorem ww134_102 {d : Nat} {l0 l1 l2 l3 l4 l5 l6 : Option mw_V} {st : List mw_V} {σ : mw_S} {Q : Option mw_V → mw_S → Prop} : mw_WP d 134 102 [l0, l1, l2, l3, l4, l5, l6] st σ Q ↔ mw_WP d 134 104 [l0, l1, l2, l3, l4, l5, l6] (jI (10) :: st) σ Q := WP_bipush mq134 dd134_102 (by decide)
theorem dd134_104 : decode cX11_soonest 104 = .ok (.isub, 1) := by decide +kernel
theorem ww134_104 {d : Nat} {l0 l1 l2 l3 l4 l5 l6 : Option mw_V} {x y : Int} {st : List mw_V} {σ : mw_S} {Q : Option mw_V → mw_S → Prop} : mw_WP d 134 104 [l0, l1, l2, l3, l4, l5, l6] (jI y :: jI x :: st) σ Q ↔ mw_WP d 134 105 [l0, l1, l2, l3, l4, l5, l6] (jI (w32 (x - y)) :: st) σ Q := WP_isub mq134 dd134_104
theorem dd134_105 : decode cX11_soonest 105 = .ok (.iload 6, 2) := by decide +kernel
theorem ww134_105 {d : Nat} {l0 l1 l2 l3 l4 l5 : Option mw_V} {x : Int} {st : List mw_V} {σ : mw_S} {Q : Option mw_V → mw_S → Prop} : mw_WP d 134 105 [l0, l1, l2, l3, l4, l5, some (jI x)] st σ Q ↔ mw_WP d 134 107 [l0, l1, l2, l3, l4, l5, some (jI x)] (jI x :: st) σ Q := WP_iload mq134 dd134_105 rfl
theorem dd134_107 : decode cX11_soonest 107 = .ok (.if_icmp .ge 18, 3) := by decide +kernel
theorem ww134_107 {d : Nat} {l0 l1 l2 l3 l4 l5 l6 : Option mw_V} {x y : Int} {st : List mw_V} {σ : mw_S} {Q : Option mw_V → mw_S → Prop} : mw_WP d 134 107 [l0, l1, l2, l3, l4, l5, l6] (jI y :: jI x :: st) σ Q ↔ (if y ≤ x then mw_WP d 134 125 [l0, l1, l2, l3, l4, l5, l6] st σ Q else mw_WP d 134 110 [l0, l1, l2, l3, l4, l5, l6] st σ Q) := WP_icmp_ge mq134 dd134_107 (by decide)
theorem dd134_110 : decode cX11_soonest 110 = .ok (.aload_n 0, 1) := by decide +kernel
theorem ww134_110 {d : Nat} {l1 l2 l3 l4 l5 l6 : Option mw_V} {x : Nat} {st : List mw_V} {σ : mw_S} {Q : Option mw_V → mw_S → Prop} : mw_WP d 134 110 [some (jR x), l1, l2, l3, l4, l5, l6] st σ Q ↔ mw_WP d 134 111 [some (jR x), l1, l2, l3, l4, l5, l6] (jR x :: st) σ Q := WP_aload_n mq134 dd134_110 rfl
theorem dd134_111 : decode cX11_soonest 111 = .ok (.getfield 51, 3) := by decide +kernel
theorem ww134_111 {d : Nat} {l0 l1 l2 l3 l4 l5 l6 : Option mw_V} {st : List mw_V} {σ : mw_S} {Q : Option mw_V → mw_S → Prop} : mw_WP d 134 111 [l0, l1, l2, l3, l4, l5, l6] (jR 0 :: st) σ Q ↔ mw_WP d 134 114 [l0, l1, l2, l3, l4, l5, l6] (jR 45 :: st) σ Q := WP_getR (ci := 10) (k := 5) mq134 dd134_111 (by decide) rfl
theorem dd134_114 : decode cX11_soonest 114 = .ok (.iload 4, 2) := by decide +kernel
theorem ww134_114 {d : Nat} {l0 l1 l2 l3 l5 l6 : Option mw_V} {x : Int} {st : List mw_V} {σ : mw_S} {Q : Option mw_V → mw_S → Prop} : mw_WP d 134 114 [l0, l1, l2, l3, some (jI x), l5, l6] st σ Q ↔ mw_WP d 134 116 [l0, l1, l2, l3, some (jI x), l5, l6] (jI x :: st) σ Q := WP_iload mq134 dd134_114 rfl
theorem dd134_116 : decode cX11_soonest 116 = .ok (.bipush 10, 2) := by decide +kernel
theorem ww134_116 {d : Nat} {l0 l1 l2 l3 l4 l5 l6 : Option mw_V} {st : List mw_V} {σ : mw_S} {Q : Option mw_V → mw_S → Prop} : mw_WP d 134 116 [l0, l1, l2, l3, l4, l5, l6] st σ Q ↔ mw_WP d 134 118 [l0, l1, l2, l3, l4, l5, l6] (jI (10) :: st) σ Q := WP_bipush mq134 dd134_116 (by decide)
theorem dd134_118 : decode cX11_soonest 118 = .ok (.isub, 1) := by decide +kernel
theorem ww134_118 {d : Nat} {l0 l1 l2 l3 l4 l5 l6 : Option mw_V} {x y : Int} {st : List mw_V} {σ : mw_S} {Q : Option mw_V → mw_S → Prop} : mw_WP d 134 118 [l0, l1, l2, l3, l4, l5, l6] (jI y :: jI x :: st) σ Q ↔ mw_WP d 134 119 [l0, l1, l2, l3, l4, l5, l6] (jI (w32 (x - y)) :: st) σ Q := WP_isub mq134 dd134_118
theorem dd134_119 : decode cX11_soonest 119 = .ok (.invokevirtual 237, 3) := by decide +kernel
theorem ww134_119 {d : Nat} {l0 l1 l2 l3 l4 l5 l6 : Option mw_V} {v0 : mw_V} {a : Nat} {st : List mw_V} {σ : mw_S} {Q : Option mw_V → mw_S → Prop} (hr : mw_rc a = 8) (h8 : (st.map mw_cat).sum ≤ 8) : mw_WP d 134 119 [l0, l1, l2, l3, l4, l5, l6] (v0 :: jR a :: st) σ Q ↔ mw_Call d 79 [jR a, v0] σ (fun r1 s1 => mw_WP d 134 122 [l0, l1, l2, l3, l4, l5, l6] (r1.toList ++ st) s1 Q) := WP_inv (as := [v0]) mq134 dd134_119 (by decide) mq79 rfl hr h8
theorem dd134_122 : decode cX11_soonest 122 = .ok (.goto 4, 3) := by decide +kernel
theorem ww134_122 {d : Nat} {l0 l1 l2 l3 l4 l5 l6 : Option mw_V} {st : List mw_V} {σ : mw_S} {Q : Option mw_V → mw_S → Prop} : mw_WP d 134 122 [l0, l1, l2, l3, l4, l5, l6] st σ Q ↔ mw_WP d 134 126 [l0, l1, l2, l3, l4, l5, l6] st σ Q := WP_goto mq134 dd134_122 (by decide)
theorem dd134_125 : decode cX11_soonest 125 = .ok (.iconst (-1), 1) := by decide +kernel
theorem ww134_125 {d : Nat} {l0 l1 l2 l3 l4 l5 l6 : Option mw_V} {st : List mw_V} {σ : mw_S} {Q : Option mw_V → mw_S → Prop} : mw_WP d 134 125 [l0, l1, l2, l3, l4, l5, l6] st σ Q ↔ mw_WP d 134 126 [l0, l1, l2, l3, l4, l5, l6] (jI (-1) :: st) σ Q := WP_iconst mq134 dd134_125 (by decide)
theorem dd134_126 : decode cX11_soonest 126 = .ok (.ireturn, 1) := by decide +kernel
theorem ww134_126 {d : Nat} {l0 l1 l2 l3 l4 l5 l6 : Option mw_V} {z : Int} {σ : mw_S} {Q : Option mw_V → mw_S → Prop} : mw_WP d 134 126 [l0, l1, l2, l3, l4, l5, l6] [jI z] σ Q ↔ Q (some (jI z)) σ := WP_ireturn (ty := .int) mq134 dd134_126 rfl rfl
theorem ee135 {d : Nat} {a : Nat} {z0 : Int} {z1 : Int} {σ : mw_S} {Q : Option mw_V → mw_S → Prop} : mw_Call (d + 1) 135 [jR a, jI z0, jI z1] σ Q ↔ mw_WP d 135 0 [some (jR a), some (jI z0), some (jI z1)] [] σ Q := CL_u mq135 (Nat.le_of_ble_eq_true rfl) rfl
theorem dd135_0 : decode cX11_states 0 = .ok (.aload_n 0, 1) := by decide +kernel
theorem ww135_0 {d : Nat} {l1 l2 : Option mw_V} {x : Nat} {st : List mw_V} {σ : mw_S} {Q : Option mw_V → mw_S → Prop} : mw_WP d 135 0 [some (jR x), l1, l2] st σ Q ↔ mw_WP d 135 1 [some (jR x), l1, l2] (jR x :: st) σ Q := WP_aload_n mq135 dd135_0 rfl
theorem dd135_1 : decode cX11_states 1 = .ok (.iload_n 1, 1) := by decide +kernel
theorem ww135_1 {d : Nat} {l0 l2 : Option mw_V} {x : Int} {st : List mw_V} {σ : mw_S} {Q : Option mw_V → mw_S → Prop} : mw_WP d 135 1 [l0, some (jI x), l2] st σ Q ↔ mw_WP d 135 2 [l0, some (jI x), l2] (jI x :: st) σ Q := WP_iload_n mq135 dd135_1 rfl
theorem dd135_2 : decode cX11_states 2 = .ok (.invokevirtual 131, 3) := by decide +kernel
theorem ww135_2 {d : Nat} {l0 l1 l2 : Option mw_V} {v0 : mw_V} {a : Nat} {st : List mw_V} {σ : mw_S} {Q : Option mw_V → mw_S → Prop} (hr : mw_rc a = 11) (h8 : (st.map mw_cat).sum ≤ 8) : mw_WP d 135 2 [l0, l1, l2] (v0 :: jR a :: st) σ Q ↔ mw_Call d 157 [jR a, v0] σ (fun r1 s1 => mw_WP d 135 5 [l0, l1, l2] (r1.toList ++ st) s1 Q) := WP_inv (as := [v0]) mq135 dd135_2 (by decide) mq157 rfl hr h8
theorem dd135_5 : decode cX11_states 5 = .ok (.ifCond .ne 6, 3) := by decide +kernel
theorem ww135_5 {d : Nat} {l0 l1 l2 : Option mw_V} {x : Int} {st : List mw_V} {σ : mw_S} {Q : Option mw_V → mw_S → Prop} : mw_WP d 135 5 [l0, l1, l2] (jI x :: st) σ Q ↔ (if ¬ x = 0 then mw_WP d 135 11 [l0, l1, l2] st σ Q else mw_WP d 135 8 [l0, l1, l2] st σ Q) := WP_if_ne mq135 dd135_5 (by decide)
theorem dd135_8 : decode cX11_states 8 = .ok (.bipush (-2), 2) := by decide +kernel
theorem ww135_8 {d : Nat} {l0 l1 l2 : Option mw_V} {st : List mw_V} {σ : mw_S} {Q : Option mw_V → mw_S → Prop} : mw_WP d 135 8 [l0, l1, l2] st σ Q ↔ mw_WP d 135 10 [l0, l1, l2] (jI (-2) :: st) σ Q := WP_bipush mq135 dd135_8 (by decide)
theorem dd135_10 : decode cX11_states 10 = .ok (.ireturn, 1) := by decide +kernel
theorem ww135_10 {d : Nat} {l0 l1 l2 : Option mw_V} {z : Int} {σ : mw_S} {Q : Option mw_V → mw_S → Prop} : mw_WP d 135 10 [l0, l1, l2] [jI z] σ Q ↔ Q (some (jI z)) σ := WP_ireturn (ty := .int) mq135 dd135_10 rfl rfl
theorem dd135_11 : decode cX11_states 11 = .ok (.iload_n 2, 1) := by decide +kernel
theorem ww135_11 {d : Nat} {l0 l1 : Option mw_V} {x : Int} {st : List mw_V} {σ : mw_S} {Q : Option mw_V → mw_S → Prop} : mw_WP d 135 11 [l0, l1, some (jI x)] st σ Q ↔ mw_WP d 135 12 [l0, l1, some (jI x)] (jI x :: st) σ Q := WP_iload_n mq135 dd135_11 rfl
theorem dd135_12 : decode cX11_states 12 = .ok (.ifCond .lt 8, 3) := by decide +kernel
theorem ww135_12 {d : Nat} {l0 l1 l2 : Option mw_V} {x : Int} {st : List mw_V} {σ : mw_S} {Q : Option mw_V → mw_S → Prop} : mw_WP d 135 12 [l0, l1, l2] (jI x :: st) σ Q ↔ (if x < 0 then mw_WP d 135 20 [l0, l1, l2] st σ Q else mw_WP d 135 15 [l0, l1, l2] st σ Q) := WP_if_lt mq135 dd135_12 (by decide)
theorem dd135_15 : decode cX11_states 15 = .ok (.iload_n 2, 1) := by decide +kernel
theorem ww135_15 {d : Nat} {l0 l1 : Option mw_V} {x : Int} {st : List mw_V} {σ : mw_S} {Q : Option mw_V → mw_S → Prop} : mw_WP d 135 15 [l0, l1, some (jI x)] st σ Q ↔ mw_WP d 135 16 [l0, l1, some (jI x)] (jI x :: st) σ Q := WP_iload_n mq135 dd135_15 rfl
theorem dd135_16 : decode cX11_states 16 = .ok (.iconst 4, 1) := by decide +kernel
theorem ww135_16 {d : Nat} {l0 l1 l2 : Option mw_V} {st : List mw_V} {σ : mw_S} {Q : Option mw_V → mw_S → Prop} : mw_WP d 135 16 [l0, l1, l2] st σ Q ↔ mw_WP d 135 17 [l0, l1, l2] (jI (4) :: st) σ Q := WP_iconst mq135 dd135_16 (by decide)
theorem dd135_17 : decode cX11_states 17 = .ok (.if_icmp .le 6, 3) := by decide +kernel
theorem ww135_17 {d : Nat} {l0 l1 l2 : Option mw_V} {x y : Int} {st : List mw_V} {σ : mw_S} {Q : Option mw_V → mw_S → Prop} : mw_WP d 135 17 [l0, l1, l2] (jI y :: jI x :: st) σ Q ↔ (if x ≤ y then mw_WP d 135 23 [l0, l1, l2] st σ Q else mw_WP d 135 20 [l0, l1, l2] st σ Q) := WP_icmp_le mq135 dd135_17 (by decide)
theorem dd135_20 : decode cX11_states 20 = .ok (.bipush (-3), 2) := by decide +kernel
theorem ww135_20 {d : Nat} {l0 l1 l2 : Option mw_V} {st : List mw_V} {σ : mw_S} {Q : Option mw_V → mw_S → Prop} : mw_WP d 135 20 [l0, l1, l2] st σ Q ↔ mw_WP d 135 22 [l0, l1, l2] (jI (-3) :: st) σ Q := WP_bipush mq135 dd135_20 (by decide)
theorem dd135_22 : decode cX11_states 22 = .ok (.ireturn, 1) := by decide +kernel
theorem ww135_22 {d : Nat} {l0 l1 l2 : Option mw_V} {z : Int} {σ : mw_S} {Q : Option mw_V → mw_S → Prop} : mw_WP d 135 22 [l0, l1, l2] [jI z] σ Q ↔ Q (some (jI z)) σ := WP_ireturn (ty := .int) mq135 dd135_22 rfl rfl
theorem dd135_23 : decode cX11_states 23 = .ok (.getstatic 240, 3) := by decide +kernel
theorem ww135_23 {d : Nat} {l0 l1 l2 : Option mw_V} {st : List mw_V} {σ : mw_S} {Q : Option mw_V → mw_S → Prop} : mw_WP d 135 23 [l0, l1, l2] st σ Q ↔ mw_WP d 135 26 [l0, l1, l2] (jR 3000 :: st) σ Q := WP_gets0 mq135 dd135_23 (by decide)
theorem dd135_26 : decode cX11_states 26 = .ok (.iload_n 2, 1) := by decide +kernel
theorem ww135_26 {d : Nat} {l0 l1 : Option mw_V} {x : Int} {st : List mw_V} {σ : mw_S} {Q : Option mw_V → mw_S → Prop} : mw_WP d 135 26 [l0, l1, some (jI x)] st σ Q ↔ mw_WP d 135 27 [l0, l1, some (jI x)] (jI x :: st) σ Q := WP_iload_n mq135 dd135_26 rfl
theorem dd135_27 : decode cX11_states 27 = .ok (.iaload, 1) := by decide +kernel
theorem ww135_27 {d : Nat} {l0 l1 l2 : Option mw_V} {z : Int} {a : Nat} {st : List mw_V} {σ : mw_S} {Q : Option mw_V → mw_S → Prop} : mw_WP d 135 27 [l0, l1, l2] (jI z :: jR a :: st) σ Q ↔ ((0 ≤ z ∧ z < mw_lenI a) ∧ mw_WP d 135 28 [l0, l1, l2] (jI (mw_rdI σ a z.toNat) :: st) σ Q) := WP_iaload mq135 dd135_27
theorem dd135_28 : decode cX11_states 28 = .ok (.ireturn, 1) := by decide +kernel
theorem ww135_28 {d : Nat} {l0 l1 l2 : Option mw_V} {z : Int} {σ : mw_S} {Q : Option mw_V → mw_S → Prop} : mw_WP d 135 28 [l0, l1, l2] [jI z] σ Q ↔ Q (some (jI z)) σ := WP_ireturn (ty := .int) mq135 dd135_28 rfl rfl
theorem ee136 {d : Nat} {a : Nat} {z0 : Int} {z1 : Int} {σ : mw_S} {Q : Option mw_V → mw_S → Prop} : mw_Call (d + 1) 136 [jR a, jI z0, jI z1] σ Q ↔ mw_WP d 136 0 [some (jR a), some (jI z0), some (jI z1)] [] σ Q := CL_u mq136 (Nat.le_of_ble_eq_true rfl) rfl
theorem dd136_0 : decode cX11_reach 0 = .ok (.aload_n 0, 1) := by decide +kernel
theorem ww136_0 {d : Nat} {l1 l2 : Option mw_V} {x : Nat} {st : List mw_V} {σ : mw_S} {Q : Option mw_V → mw_S → Prop} : mw_WP d 136 0 [some (jR x), l1, l2] st σ Q ↔ mw_WP d 136 1 [some (jR x), l1, l2] (jR x :: st) σ Q := WP_aload_n mq136 dd136_0 rfl
theorem dd136_1 : decode cX11_reach 1 = .ok (.iload_n 1, 1) := by decide +kernel
theorem ww136_1 {d : Nat} {l0 l2 : Option mw_V} {x : Int} {st : List mw_V} {σ : mw_S} {Q : Option mw_V → mw_S → Prop} : mw_WP d 136 1 [l0, some (jI x), l2] st σ Q ↔ mw_WP d 136 2 [l0, some (jI x), l2] (jI x :: st) σ Q := WP_iload_n mq136 dd136_1 rfl
theorem dd136_2 : decode cX11_reach 2 = .ok (.invokevirtual 131, 3) := by decide +kernel
theorem ww136_2 {d : Nat} {l0 l1 l2 : Option mw_V} {v0 : mw_V} {a : Nat} {st : List mw_V} {σ : mw_S} {Q : Option mw_V → mw_S → Prop} (hr : mw_rc a = 11) (h8 : (st.map mw_cat).sum ≤ 8) : mw_WP d 136 2 [l0, l1, l2] (v0 :: jR a :: st) σ Q ↔ mw_Call d 157 [jR a, v0] σ (fun r1 s1 => mw_WP d 136 5 [l0, l1, l2] (r1.toList ++ st) s1 Q) := WP_inv (as := [v0]) mq136 dd136_2 (by decide) mq157 rfl hr h8
theorem dd136_5 : decode cX11_reach 5 = .ok (.ifCond .ne 6, 3) := by decide +kernel
theorem ww136_5 {d : Nat} {l0 l1 l2 : Option mw_V} {x : Int} {st : List mw_V} {σ : mw_S} {Q : Option mw_V → mw_S → Prop} : mw_WP d 136 5 [l0, l1, l2] (jI x :: st) σ Q ↔ (if ¬ x = 0 then mw_WP d 136 11 [l0, l1, l2] st σ Q else mw_WP d 136 8 [l0, l1, l2] st σ Q) := WP_if_ne mq136 dd136_5 (by decide)
theorem dd136_8 : decode cX11_reach 8 = .ok (.bipush (-2), 2) := by decide +kernel
theorem ww136_8 {d : Nat} {l0 l1 l2 : Option mw_V} {st : List mw_V} {σ : mw_S} {Q : Option mw_V → mw_S → Prop} : mw_WP d 136 8 [l0, l1, l2] st σ Q ↔ mw_WP d 136 10 [l0, l1, l2] (jI (-2) :: st) σ Q := WP_bipush mq136 dd136_8 (by decide)
theorem dd136_10 : decode cX11_reach 10 = .ok (.ireturn, 1) := by decide +kernel
theorem ww136_10 {d : Nat} {l0 l1 l2 : Option mw_V} {z : Int} {σ : mw_S} {Q : Option mw_V → mw_S → Prop} : mw_WP d 136 10 [l0, l1, l2] [jI z] σ Q ↔ Q (some (jI z)) σ := WP_ireturn (ty := .int) mq136 dd136_10 rfl rfl
theorem dd136_11 : decode cX11_reach 11 = .ok (.iload_n 2, 1) := by decide +kernel
theorem ww136_11 {d : Nat} {l0 l1 : Option mw_V} {x : Int} {st : List mw_V} {σ : mw_S} {Q : Option mw_V → mw_S → Prop} : mw_WP d 136 11 [l0, l1, some (jI x)] st σ Q ↔ mw_WP d 136 12 [l0, l1, some (jI x)] (jI x :: st) σ Q := WP_iload_n mq136 dd136_11 rfl
theorem dd136_12 : decode cX11_reach 12 = .ok (.ifCond .lt 8, 3) := by decide +kernel
theorem ww136_12 {d : Nat} {l0 l1 l2 : Option mw_V} {x : Int} {st : List mw_V} {σ : mw_S} {Q : Option mw_V → mw_S → Prop} : mw_WP d 136 12 [l0, l1, l2] (jI x :: st) σ Q ↔ (if x < 0 then mw_WP d 136 20 [l0, l1, l2] st σ Q else mw_WP d 136 15 [l0, l1, l2] st σ Q) := WP_if_lt mq136 dd136_12 (by decide)
theorem dd136_15 : decode cX11_reach 15 = .ok (.iload_n 2, 1) := by decide +kernel
theorem ww136_15 {d : Nat} {l0 l1 : Option mw_V} {x : Int} {st : List mw_V} {σ : mw_S} {Q : Option mw_V → mw_S → Prop} : mw_WP d 136 15 [l0, l1, some (jI x)] st σ Q ↔ mw_WP d 136 16 [l0, l1, some (jI x)] (jI x :: st) σ Q := WP_iload_n mq136 dd136_15 rfl
theorem dd136_16 : decode cX11_reach 16 = .ok (.iconst 4, 1) := by decide +kernel
theorem ww136_16 {d : Nat} {l0 l1 l2 : Option mw_V} {st : List mw_V} {σ : mw_S} {Q : Option mw_V → mw_S → Prop} : mw_WP d 136 16 [l0, l1, l2] st σ Q ↔ mw_WP d 136 17 [l0, l1, l2] (jI (4) :: st) σ Q := WP_iconst mq136 dd136_16 (by decide)
theorem dd136_17 : decode cX11_reach 17 = .ok (.if_icmp .le 6, 3) := by decide +kernel
theorem ww136_17 {d : Nat} {l0 l1 l2 : Option mw_V} {x y : Int} {st : List mw_V} {σ : mw_S} {Q : Option mw_V → mw_S → Prop} : mw_WP d 136 17 [l0, l1, l2] (jI y :: jI x :: st) σ Q ↔ (if x ≤ y then mw_WP d 136 23 [l0, l1, l2] st σ Q else mw_WP d 136 20 [l0, l1, l2] st σ Q) := WP_icmp_le mq136 dd136_17 (by decide)
theorem dd136_20 : decode cX11_reach 20 = .ok (.bipush (-3), 2) := by decide +kernel
theorem ww136_20 {d : Nat} {l0 l1 l2 : Option mw_V} {st : List mw_V} {σ : mw_S} {Q : Option mw_V → mw_S → Prop} : mw_WP d 136 20 [l0, l1, l2] st σ Q ↔ mw_WP d 136 22 [l0, l1, l2] (jI (-3) :: st) σ Q := WP_bipush mq136 dd136_20 (by decide)
theorem dd136_22 : decode cX11_reach 22 = .ok (.ireturn, 1) := by decide +kernel
theorem ww136_22 {d : Nat} {l0 l1 l2 : Option mw_V} {z : Int} {σ : mw_S} {Q : Option mw_V → mw_S → Prop} : mw_WP d 136 22 [l0, l1, l2] [jI z] σ Q ↔ Q (some (jI z)) σ := WP_ireturn (ty := .int) mq136 dd136_22 rfl rfl
theorem dd136_23 : decode cX11_reach 23 = .ok (.aload_n 0, 1) := by decide +kernel
theorem ww136_23 {d : Nat} {l1 l2 : Option mw_V} {x : Nat} {st : List mw_V} {σ : mw_S} {Q : Option mw_V → mw_S → Prop} : mw_WP d 136 23 [some (jR x), l1, l2] st σ Q ↔ mw_WP d 136 24 [some (jR x), l1, l2] (jR x :: st) σ Q := WP_aload_n mq136 dd136_23 rfl
theorem dd136_24 : decode cX11_reach 24 = .ok (.getfield 51, 3) := by decide +kernel
theorem ww136_24 {d : Nat} {l0 l1 l2 : Option mw_V} {st : List mw_V} {σ : mw_S} {Q : Option mw_V → mw_S → Prop} : mw_WP d 136 24 [l0, l1, l2] (jR 0 :: st) σ Q ↔ mw_WP d 136 27 [l0, l1, l2] (jR 45 :: st) σ Q := WP_getR (ci := 10) (k := 5) mq136 dd136_24 (by decide) rfl
theorem dd136_27 : decode cX11_reach 27 = .ok (.aload_n 0, 1) := by decide +kernel
theorem ww136_27 {d : Nat} {l1 l2 : Option mw_V} {x : Nat} {st : List mw_V} {σ : mw_S} {Q : Option mw_V → mw_S → Prop} : mw_WP d 136 27 [some (jR x), l1, l2] st σ Q ↔ mw_WP d 136 28 [some (jR x), l1, l2] (jR x :: st) σ Q := WP_aload_n mq136 dd136_27 rfl
theorem dd136_28 : decode cX11_reach 28 = .ok (.getfield 86, 3) := by decide +kernel
theorem ww136_28 {d : Nat} {l0 l1 l2 : Option mw_V} {st : List mw_V} {σ : mw_S} {Q : Option mw_V → mw_S → Prop} : mw_WP d 136 28 [l0, l1, l2] (jR 0 :: st) σ Q ↔ mw_WP d 136 31 [l0, l1, l2] (jR 98 :: st) σ Q := WP_getR (ci := 10) (k := 11) mq136 dd136_28 (by decide) rfl
theorem dd136_31 : decode cX11_reach 31 = .ok (.iload_n 1, 1) := by decide +kernel
theorem ww136_31 {d : Nat} {l0 l2 : Option mw_V} {x : Int} {st : List mw_V} {σ : mw_S} {Q : Option mw_V → mw_S → Prop} : mw_WP d 136 31 [l0, some (jI x), l2] st σ Q ↔ mw_WP d 136 32 [l0, some (jI x), l2] (jI x :: st) σ Q := WP_iload_n mq136 dd136_31 rfl
theorem dd136_32 : decode cX11_reach 32 = .ok (.iload_n 2, 1) := by decide +kernel
theorem ww136_32 {d : Nat} {l0 l1 : Option mw_V} {x : Int} {st : List mw_V} {σ : mw_S} {Q : Option mw_V → mw_S → Prop} : mw_WP d 136 32 [l0, l1, some (jI x)] st σ Q ↔ mw_WP d 136 33 [l0, l1, some (jI x)] (jI x :: st) σ Q := WP_iload_n mq136 dd136_32 rfl
theorem dd136_33 : decode cX11_reach 33 = .ok (.invokevirtual 243, 3) := by decide +kernel
theorem ww136_33 {d : Nat} {l0 l1 l2 : Option mw_V} {v0 v1 v2 : mw_V} {a : Nat} {st : List mw_V} {σ : mw_S} {Q : Option mw_V → mw_S → Prop} (hr : mw_rc a = 8) (h8 : (st.map mw_cat).sum ≤ 8) : mw_WP d 136 33 [l0, l1, l2] (v2 :: v1 :: v0 :: jR a :: st) σ Q ↔ mw_Call d 82 [jR a, v0, v1, v2] σ (fun r1 s1 => mw_WP d 136 36 [l0, l1, l2] (r1.toList ++ st) s1 Q) := WP_inv (as := [v2, v1, v0]) mq136 dd136_33 (by decide) mq82 rfl hr h8
theorem dd136_36 : decode cX11_reach 36 = .ok (.ireturn, 1) := by decide +kernel
theorem ww136_36 {d : Nat} {l0 l1 l2 : Option mw_V} {z : Int} {σ : mw_S} {Q : Option mw_V → mw_S → Prop} : mw_WP d 136 36 [l0, l1, l2] [jI z] σ Q ↔ Q (some (jI z)) σ := WP_ireturn (ty := .int) mq136 dd136_36 rfl rfl
theorem ee137 {d : Nat} {a : Nat} {z0 : Int} {σ : mw_S} {Q : Option mw_V → mw_S → Prop} : mw_Call (d + 1) 137 [jR a, jI z0] σ Q ↔ mw_WP d 137 0 [some (jR a), some (jI z0), none] [] σ Q := CL_u mq137 (Nat.le_of_ble_eq_true rfl) rfl
theorem dd137_0 : decode cX11_fits 0 = .ok (.aload_n 0, 1) := by decide +kernel
theorem ww137_0 {d : Nat} {l1 l2 : Option mw_V} {x : Nat} {st : List mw_V} {σ : mw_S} {Q : Option mw_V → mw_S → Prop} : mw_WP d 137 0 [some (jR x), l1, l2] st σ Q ↔ mw_WP d 137 1 [some (jR x), l1, l2] (jR x :: st) σ Q := WP_aload_n mq137 dd137_0 rfl
theorem dd137_1 : decode cX11_fits 1 = .ok (.iload_n 1, 1) := by decide +kernel
theorem ww137_1 {d : Nat} {l0 l2 : Option mw_V} {x : Int} {st : List mw_V} {σ : mw_S} {Q : Option mw_V → mw_S → Prop} : mw_WP d 137 1 [l0, some (jI x), l2] st σ Q ↔ mw_WP d 137 2 [l0, some (jI x), l2] (jI x :: st) σ Q := WP_iload_n mq137 dd137_1 rfl
theorem dd137_2 : decode cX11_fits 2 = .ok (.invokevirtual 246, 3) := by decide +kernel
theorem ww137_2 {d : Nat} {l0 l1 l2 : Option mw_V} {v0 : mw_V} {a : Nat} {st : List mw_V} {σ : mw_S} {Q : Option mw_V → mw_S → Prop} (hr : mw_rc a = 11) (h8 : (st.map mw_cat).sum ≤ 8) : mw_WP d 137 2 [l0, l1, l2] (v0 :: jR a :: st) σ Q ↔ mw_Call d 166 [jR a, v0] σ (fun r1 s1 => mw_WP d 137 5 [l0, l1, l2] (r1.toList ++ st) s1 Q) := WP_inv (as := [v0]) mq137 dd137_2 (by decide) mq166 rfl hr h8
theorem dd137_5 : decode cX11_fits 5 = .ok (.istore_n 2, 1) := by decide +kernel
theorem ww137_5 {d : Nat} {l0 l1 l2 : Option mw_V} {x : Int} {st : List mw_V} {σ : mw_S} {Q : Option mw_V → mw_S → Prop} (h : mw_nlo l1 = true) : mw_WP d 137 5 [l0, l1, l2] (jI x :: st) σ Q ↔ mw_WP d 137 6 [l0, l1, some (jI x)] st σ Q := WP_istore_n mq137 dd137_5 (Nat.le_of_ble_eq_true rfl) (mw_nl_of (i := 1) rfl h) rfl
theorem dd137_6 : decode cX11_fits 6 = .ok (.iload_n 2, 1) := by decide +kernel
theorem ww137_6 {d : Nat} {l0 l1 : Option mw_V} {x : Int} {st : List mw_V} {σ : mw_S} {Q : Option mw_V → mw_S → Prop} : mw_WP d 137 6 [l0, l1, some (jI x)] st σ Q ↔ mw_WP d 137 7 [l0, l1, some (jI x)] (jI x :: st) σ Q := WP_iload_n mq137 dd137_6 rfl
theorem dd137_7 : decode cX11_fits 7 = .ok (.ifCond .eq 5, 3) := by decide +kernel
theorem ww137_7 {d : Nat} {l0 l1 l2 : Option mw_V} {x : Int} {st : List mw_V} {σ : mw_S} {Q : Option mw_V → mw_S → Prop} : mw_WP d 137 7 [l0, l1, l2] (jI x :: st) σ Q ↔ (if x = 0 then mw_WP d 137 12 [l0, l1, l2] st σ Q else mw_WP d 137 10 [l0, l1, l2] st σ Q) := WP_if_eq mq137 dd137_7 (by decide)
theorem dd137_10 : decode cX11_fits 10 = .ok (.iload_n 2, 1) := by decide +kernel
theorem ww137_10 {d : Nat} {l0 l1 : Option mw_V} {x : Int} {st : List mw_V} {σ : mw_S} {Q : Option mw_V → mw_S → Prop} : mw_WP d 137 10 [l0, l1, some (jI x)] st σ Q ↔ mw_WP d 137 11 [l0, l1, some (jI x)] (jI x :: st) σ Q := WP_iload_n mq137 dd137_10 rfl
theorem dd137_11 : decode cX11_fits 11 = .ok (.ireturn, 1) := by decide +kernel
theorem ww137_11 {d : Nat} {l0 l1 l2 : Option mw_V} {z : Int} {σ : mw_S} {Q : Option mw_V → mw_S → Prop} : mw_WP d 137 11 [l0, l1, l2] [jI z] σ Q ↔ Q (some (jI z)) σ := WP_ireturn (ty := .int) mq137 dd137_11 rfl rfl
theorem dd137_12 : decode cX11_fits 12 = .ok (.aload_n 0, 1) := by decide +kernel
theorem ww137_12 {d : Nat} {l1 l2 : Option mw_V} {x : Nat} {st : List mw_V} {σ : mw_S} {Q : Option mw_V → mw_S → Prop} : mw_WP d 137 12 [some (jR x), l1, l2] st σ Q ↔ mw_WP d 137 13 [some (jR x), l1, l2] (jR x :: st) σ Q := WP_aload_n mq137 dd137_12 rfl
theorem dd137_13 : decode cX11_fits 13 = .ok (.getfield 65, 3) := by decide +kernel
theorem ww137_13 {d : Nat} {l0 l1 l2 : Option mw_V} {st : List mw_V} {σ : mw_S} {Q : Option mw_V → mw_S → Prop} : mw_WP d 137 13 [l0, l1, l2] (jR 0 :: st) σ Q ↔ mw_WP d 137 16 [l0, l1, l2] (jR 65 :: st) σ Q := WP_getR (ci := 10) (k := 7) mq137 dd137_13 (by decide) rfl
theorem dd137_16 : decode cX11_fits 16 = .ok (.aload_n 0, 1) := by decide +kernel
theorem ww137_16 {d : Nat} {l1 l2 : Option mw_V} {x : Nat} {st : List mw_V} {σ : mw_S} {Q : Option mw_V → mw_S → Prop} : mw_WP d 137 16 [some (jR x), l1, l2] st σ Q ↔ mw_WP d 137 17 [some (jR x), l1, l2] (jR x :: st) σ Q := WP_aload_n mq137 dd137_16 rfl
theorem dd137_17 : decode cX11_fits 17 = .ok (.getfield 42, 3) := by decide +kernel
theorem ww137_17 {d : Nat} {l0 l1 l2 : Option mw_V} {st : List mw_V} {σ : mw_S} {Q : Option mw_V → mw_S → Prop} : mw_WP d 137 17 [l0, l1, l2] (jR 0 :: st) σ Q ↔ mw_WP d 137 20 [l0, l1, l2] (jR 37 :: st) σ Q := WP_getR (ci := 10) (k := 4) mq137 dd137_17 (by decide) rfl
theorem dd137_20 : decode cX11_fits 20 = .ok (.iload_n 1, 1) := by decide +kernel
theorem ww137_20 {d : Nat} {l0 l2 : Option mw_V} {x : Int} {st : List mw_V} {σ : mw_S} {Q : Option mw_V → mw_S → Prop} : mw_WP d 137 20 [l0, some (jI x), l2] st σ Q ↔ mw_WP d 137 21 [l0, some (jI x), l2] (jI x :: st) σ Q := WP_iload_n mq137 dd137_20 rfl
theorem dd137_21 : decode cX11_fits 21 = .ok (.invokevirtual 249, 3) := by decide +kernel
theorem ww137_21 {d : Nat} {l0 l1 l2 : Option mw_V} {v0 v1 : mw_V} {a : Nat} {st : List mw_V} {σ : mw_S} {Q : Option mw_V → mw_S → Prop} (hr : mw_rc a = 5) (h8 : (st.map mw_cat).sum ≤ 8) : mw_WP d 137 21 [l0, l1, l2] (v1 :: v0 :: jR a :: st) σ Q ↔ mw_Call d 28 [jR a, v0, v1] σ (fun r1 s1 => mw_WP d 137 24 [l0, l1, l2] (r1.toList ++ st) s1 Q) := WP_inv (as := [v1, v0]) mq137 dd137_21 (by decide) mq28 rfl hr h8
theorem dd137_24 : decode cX11_fits 24 = .ok (.aload_n 0, 1) := by decide +kernel
theorem ww137_24 {d : Nat} {l1 l2 : Option mw_V} {x : Nat} {st : List mw_V} {σ : mw_S} {Q : Option mw_V → mw_S → Prop} : mw_WP d 137 24 [some (jR x), l1, l2] st σ Q ↔ mw_WP d 137 25 [some (jR x), l1, l2] (jR x :: st) σ Q := WP_aload_n mq137 dd137_24 rfl
theorem dd137_25 : decode cX11_fits 25 = .ok (.getfield 65, 3) := by decide +kernel
theorem ww137_25 {d : Nat} {l0 l1 l2 : Option mw_V} {st : List mw_V} {σ : mw_S} {Q : Option mw_V → mw_S → Prop} : mw_WP d 137 25 [l0, l1, l2] (jR 0 :: st) σ Q ↔ mw_WP d 137 28 [l0, l1, l2] (jR 65 :: st) σ Q := WP_getR (ci := 10) (k := 7) mq137 dd137_25 (by decide) rfl
theorem dd137_28 : decode cX11_fits 28 = .ok (.invokevirtual 253, 3) := by decide +kernel
theorem ww137_28 {d : Nat} {l0 l1 l2 : Option mw_V} {a : Nat} {st : List mw_V} {σ : mw_S} {Q : Option mw_V → mw_S → Prop} (hr : mw_rc a = 5) (h8 : (st.map mw_cat).sum ≤ 8) : mw_WP d 137 28 [l0, l1, l2] (jR a :: st) σ Q ↔ mw_Call d 32 [jR a] σ (fun r1 s1 => mw_WP d 137 31 [l0, l1, l2] (r1.toList ++ st) s1 Q) := WP_inv (as := []) mq137 dd137_28 (by decide) mq32 rfl hr h8
theorem dd137_31 : decode cX11_fits 31 = .ok (.ireturn, 1) := by decide +kernel
theorem ww137_31 {d : Nat} {l0 l1 l2 : Option mw_V} {z : Int} {σ : mw_S} {Q : Option mw_V → mw_S → Prop} : mw_WP d 137 31 [l0, l1, l2] [jI z] σ Q ↔ Q (some (jI z)) σ := WP_ireturn (ty := .int) mq137 dd137_31 rfl rfl
theorem ee138 {d : Nat} {a : Nat} {z0 : Int} {z1 : Int} {σ : mw_S} {Q : Option mw_V → mw_S → Prop} : mw_Call (d + 1) 138 [jR a, jI z0, jI z1] σ Q ↔ mw_WP d 138 0 [some (jR a), some (jI z0), some (jI z1), none, none] [] σ Q := CL_u mq138 (Nat.le_of_ble_eq_true rfl) rfl
theorem dd138_0 : decode cX11_smallest 0 = .ok (.iload_n 2, 1) := by decide +kernel
theorem ww138_0 {d : Nat} {l0 l1 l3 l4 : Option mw_V} {x : Int} {st : List mw_V} {σ : mw_S} {Q : Option mw_V → mw_S → Prop} : mw_WP d 138 0 [l0, l1, some (jI x), l3, l4] st σ Q ↔ mw_WP d 138 1 [l0, l1, some (jI x), l3, l4] (jI x :: st) σ Q := WP_iload_n mq138 dd138_0 rfl
theorem dd138_1 : decode cX11_smallest 1 = .ok (.invokestatic 208, 3) := by decide +kernel
theorem ww138_1 {d : Nat} {l0 l1 l2 l3 l4 : Option mw_V} {v0 : mw_V} {st : List mw_V} {σ : mw_S} {Q : Option mw_V → mw_S → Prop} (h8 : (st.map mw_cat).sum ≤ 8) : mw_WP d 138 1 [l0, l1, l2, l3, l4] (v0 :: st) σ Q ↔ mw_Call d 163 [v0] σ (fun r1 s1 => mw_WP d 138 4 [l0, l1, l2, l3, l4] (r1.toList ++ st) s1 Q) := WP_invs (as := [v0]) mq138 dd138_1 (by decide) mq163 rfl rfl h8
theorem dd138_4 : decode cX11_smallest 4 = .ok (.ifCond .eq 11, 3) := by decide +kernel
theorem ww138_4 {d : Nat} {l0 l1 l2 l3 l4 : Option mw_V} {x : Int} {st : List mw_V} {σ : mw_S} {Q : Option mw_V → mw_S → Prop} : mw_WP d 138 4 [l0, l1, l2, l3, l4] (jI x :: st) σ Q ↔ (if x = 0 then mw_WP d 138 15 [l0, l1, l2, l3, l4] st σ Q else mw_WP d 138 7 [l0, l1, l2, l3, l4] st σ Q) := WP_if_eq mq138 dd138_4 (by decide)
theorem dd138_7 : decode cX11_smallest 7 = .ok (.aload_n 0, 1) := by decide +kernel
theorem ww138_7 {d : Nat} {l1 l2 l3 l4 : Option mw_V} {x : Nat} {st : List mw_V} {σ : mw_S} {Q : Option mw_V → mw_S → Prop} : mw_WP d 138 7 [some (jR x), l1, l2, l3, l4] st σ Q ↔ mw_WP d 138 8 [some (jR x), l1, l2, l3, l4] (jR x :: st) σ Q := WP_aload_n mq138 dd138_7 rfl
theorem dd138_8 : decode cX11_smallest 8 = .ok (.iload_n 1, 1) := by decide +kernel
theorem ww138_8 {d : Nat} {l0 l2 l3 l4 : Option mw_V} {x : Int} {st : List mw_V} {σ : mw_S} {Q : Option mw_V → mw_S → Prop} : mw_WP d 138 8 [l0, some (jI x), l2, l3, l4] st σ Q ↔ mw_WP d 138 9 [l0, some (jI x), l2, l3, l4] (jI x :: st) σ Q := WP_iload_n mq138 dd138_8 rfl
theorem dd138_9 : decode cX11_smallest 9 = .ok (.invokevirtual 246, 3) := by decide +kernel
theorem ww138_9 {d : Nat} {l0 l1 l2 l3 l4 : Option mw_V} {v0 : mw_V} {a : Nat} {st : List mw_V} {σ : mw_S} {Q : Option mw_V → mw_S → Prop} (hr : mw_rc a = 11) (h8 : (st.map mw_cat).sum ≤ 8) : mw_WP d 138 9 [l0, l1, l2, l3, l4] (v0 :: jR a :: st) σ Q ↔ mw_Call d 166 [jR a, v0] σ (fun r1 s1 => mw_WP d 138 12 [l0, l1, l2, l3, l4] (r1.toList ++ st) s1 Q) := WP_inv (as := [v0]) mq138 dd138_9 (by decide) mq166 rfl hr h8
theorem dd138_12 : decode cX11_smallest 12 = .ok (.goto 5, 3) := by decide +kernel
theorem ww138_12 {d : Nat} {l0 l1 l2 l3 l4 : Option mw_V} {st : List mw_V} {σ : mw_S} {Q : Option mw_V → mw_S → Prop} : mw_WP d 138 12 [l0, l1, l2, l3, l4] st σ Q ↔ mw_WP d 138 17 [l0, l1, l2, l3, l4] st σ Q := WP_goto mq138 dd138_12 (by decide)
theorem dd138_15 : decode cX11_smallest 15 = .ok (.bipush (-2), 2) := by decide +kernel
theorem ww138_15 {d : Nat} {l0 l1 l2 l3 l4 : Option mw_V} {st : List mw_V} {σ : mw_S} {Q : Option mw_V → mw_S → Prop} : mw_WP d 138 15 [l0, l1, l2, l3, l4] st σ Q ↔ mw_WP d 138 17 [l0, l1, l2, l3, l4] (jI (-2) :: st) σ Q := WP_bipush mq138 dd138_15 (by decide)
theorem dd138_17 : decode cX11_smallest 17 = .ok (.istore_n 3, 1) := by decide +kernel
theorem ww138_17 {d : Nat} {l0 l1 l2 l3 l4 : Option mw_V} {x : Int} {st : List mw_V} {σ : mw_S} {Q : Option mw_V → mw_S → Prop} (h : mw_nlo l2 = true) : mw_WP d 138 17 [l0, l1, l2, l3, l4] (jI x :: st) σ Q ↔ mw_WP d 138 18 [l0, l1, l2, some (jI x), l4] st σ Q := WP_istore_n mq138 dd138_17 (Nat.le_of_ble_eq_true rfl) (mw_nl_of (i := 2) rfl h) rfl
theorem dd138_18 : decode cX11_smallest 18 = .ok (.iload_n 3, 1) := by decide +kernel
theorem ww138_18 {d : Nat} {l0 l1 l2 l4 : Option mw_V} {x : Int} {st : List mw_V} {σ : mw_S} {Q : Option mw_V → mw_S → Prop} : mw_WP d 138 18 [l0, l1, l2, some (jI x), l4] st σ Q ↔ mw_WP d 138 19 [l0, l1, l2, some (jI x), l4] (jI x :: st) σ Q := WP_iload_n mq138 dd138_18 rfl
theorem dd138_19 : decode cX11_smallest 19 = .ok (.ifCond .eq 5, 3) := by decide +kernel
theorem ww138_19 {d : Nat} {l0 l1 l2 l3 l4 : Option mw_V} {x : Int} {st : List mw_V} {σ : mw_S} {Q : Option mw_V → mw_S → Prop} : mw_WP d 138 19 [l0, l1, l2, l3, l4] (jI x :: st) σ Q ↔ (if x = 0 then mw_WP d 138 24 [l0, l1, l2, l3, l4] st σ Q else mw_WP d 138 22 [l0, l1, l2, l3, l4] st σ Q) := WP_if_eq mq138 dd138_19 (by decide)
theorem dd138_22 : decode cX11_smallest 22 = .ok (.iload_n 3, 1) := by decide +kernel
theorem ww138_22 {d : Nat} {l0 l1 l2 l4 : Option mw_V} {x : Int} {st : List mw_V} {σ : mw_S} {Q : Option mw_V → mw_S → Prop} : mw_WP d 138 22 [l0, l1, l2, some (jI x), l4] st σ Q ↔ mw_WP d 138 23 [l0, l1, l2, some (jI x), l4] (jI x :: st) σ Q := WP_iload_n mq138 dd138_22 rfl
theorem dd138_23 : decode cX11_smallest 23 = .ok (.ireturn, 1) := by decide +kernel
theorem ww138_23 {d : Nat} {l0 l1 l2 l3 l4 : Option mw_V} {z : Int} {σ : mw_S} {Q : Option mw_V → mw_S → Prop} : mw_WP d 138 23 [l0, l1, l2, l3, l4] [jI z] σ Q ↔ Q (some (jI z)) σ := WP_ireturn (ty := .int) mq138 dd138_23 rfl rfl
theorem dd138_24 : decode cX11_smallest 24 = .ok (.aload_n 0, 1) := by decide +kernel
theorem ww138_24 {d : Nat} {l1 l2 l3 l4 : Option mw_V} {x : Nat} {st : List mw_V} {σ : mw_S} {Q : Option mw_V → mw_S → Prop} : mw_WP d 138 24 [some (jR x), l1, l2, l3, l4] st σ Q ↔ mw_WP d 138 25 [some (jR x), l1, l2, l3, l4] (jR x :: st) σ Q := WP_aload_n mq138 dd138_24 rfl
theorem dd138_25 : decode cX11_smallest 25 = .ok (.getfield 65, 3) := by decide +kernel
theorem ww138_25 {d : Nat} {l0 l1 l2 l3 l4 : Option mw_V} {st : List mw_V} {σ : mw_S} {Q : Option mw_V → mw_S → Prop} : mw_WP d 138 25 [l0, l1, l2, l3, l4] (jR 0 :: st) σ Q ↔ mw_WP d 138 28 [l0, l1, l2, l3, l4] (jR 65 :: st) σ Q := WP_getR (ci := 10) (k := 7) mq138 dd138_25 (by decide) rfl
theorem dd138_28 : decode cX11_smallest 28 = .ok (.aload_n 0, 1) := by decide +kernel
theorem ww138_28 {d : Nat} {l1 l2 l3 l4 : Option mw_V} {x : Nat} {st : List mw_V} {σ : mw_S} {Q : Option mw_V → mw_S → Prop} : mw_WP d 138 28 [some (jR x), l1, l2, l3, l4] st σ Q ↔ mw_WP d 138 29 [some (jR x), l1, l2, l3, l4] (jR x :: st) σ Q := WP_aload_n mq138 dd138_28 rfl
theorem dd138_29 : decode cX11_smallest 29 = .ok (.getfield 42, 3) := by decide +kernel
theorem ww138_29 {d : Nat} {l0 l1 l2 l3 l4 : Option mw_V} {st : List mw_V} {σ : mw_S} {Q : Option mw_V → mw_S → Prop} : mw_WP d 138 29 [l0, l1, l2, l3, l4] (jR 0 :: st) σ Q ↔ mw_WP d 138 32 [l0, l1, l2, l3, l4] (jR 37 :: st) σ Q := WP_getR (ci := 10) (k := 4) mq138 dd138_29 (by decide) rfl
theorem dd138_32 : decode cX11_smallest 32 = .ok (.iload_n 1, 1) := by decide +kernel
theorem ww138_32 {d : Nat} {l0 l2 l3 l4 : Option mw_V} {x : Int} {st : List mw_V} {σ : mw_S} {Q : Option mw_V → mw_S → Prop} : mw_WP d 138 32 [l0, some (jI x), l2, l3, l4] st σ Q ↔ mw_WP d 138 33 [l0, some (jI x), l2, l3, l4] (jI x :: st) σ Q := WP_iload_n mq138 dd138_32 rfl
theorem dd138_33 : decode cX11_smallest 33 = .ok (.invokevirtual 249, 3) := by decide +kernel
theorem ww138_33 {d : Nat} {l0 l1 l2 l3 l4 : Option mw_V} {v0 v1 : mw_V} {a : Nat} {st : List mw_V} {σ : mw_S} {Q : Option mw_V → mw_S → Prop} (hr : mw_rc a = 5) (h8 : (st.map mw_cat).sum ≤ 8) : mw_WP d 138 33 [l0, l1, l2, l3, l4] (v1 :: v0 :: jR a :: st) σ Q ↔ mw_Call d 28 [jR a, v0, v1] σ (fun r1 s1 => mw_WP d 138 36 [l0, l1, l2, l3, l4] (r1.toList ++ st) s1 Q) := WP_inv (as := [v1, v0]) mq138 dd138_33 (by decide) mq28 rfl hr h8
theorem dd138_36 : decode cX11_smallest 36 = .ok (.aload_n 0, 1) := by decide +kernel
theorem ww138_36 {d : Nat} {l1 l2 l3 l4 : Option mw_V} {x : Nat} {st : List mw_V} {σ : mw_S} {Q : Option mw_V → mw_S → Prop} : mw_WP d 138 36 [some (jR x), l1, l2, l3, l4] st σ Q ↔ mw_WP d 138 37 [some (jR x), l1, l2, l3, l4] (jR x :: st) σ Q := WP_aload_n mq138 dd138_36 rfl
theorem dd138_37 : decode cX11_smallest 37 = .ok (.getfield 65, 3) := by decide +kernel
theorem ww138_37 {d : Nat} {l0 l1 l2 l3 l4 : Option mw_V} {st : List mw_V} {σ : mw_S} {Q : Option mw_V → mw_S → Prop} : mw_WP d 138 37 [l0, l1, l2, l3, l4] (jR 0 :: st) σ Q ↔ mw_WP d 138 40 [l0, l1, l2, l3, l4] (jR 65 :: st) σ Q := WP_getR (ci := 10) (k := 7) mq138 dd138_37 (by decide) rfl
theorem dd138_40 : decode cX11_smallest 40 = .ok (.invokevirtual 257, 3) := by decide +kernel
theorem ww138_40 {d : Nat} {l0 l1 l2 l3 l4 : Option mw_V} {a : Nat} {st : List mw_V} {σ : mw_S} {Q : Option mw_V → mw_S → Prop} (hr : mw_rc a = 5) (h8 : (st.map mw_cat).sum ≤ 8) : mw_WP d 138 40 [l0, l1, l2, l3, l4] (jR a :: st) σ Q ↔ mw_Call d 33 [jR a] σ (fun r1 s1 => mw_WP d 138 43 [l0, l1, l2, l3, l4] (r1.toList ++ st) s1 Q) := WP_inv (as := []) mq138 dd138_40 (by decide) mq33 rfl hr h8
theorem dd138_43 : decode cX11_smallest 43 = .ok (.istore 4, 2) := by decide +kernel
theorem ww138_43 {d : Nat} {l0 l1 l2 l3 l4 : Option mw_V} {x : Int} {st : List mw_V} {σ : mw_S} {Q : Option mw_V → mw_S → Prop} (h : mw_nlo l3 = true) : mw_WP d 138 43 [l0, l1, l2, l3, l4] (jI x :: st) σ Q ↔ mw_WP d 138 45 [l0, l1, l2, l3, some (jI x)] st σ Q := WP_istore mq138 dd138_43 (Nat.le_of_ble_eq_true rfl) (mw_nl_of (i := 3) rfl h) rfl
theorem dd138_45 : decode cX11_smallest 45 = .ok (.iload 4, 2) := by decide +kernel
theorem ww138_45 {d : Nat} {l0 l1 l2 l3 : Option mw_V} {x : Int} {st : List mw_V} {σ : mw_S} {Q : Option mw_V → mw_S → Prop} : mw_WP d 138 45 [l0, l1, l2, l3, some (jI x)] st σ Q ↔ mw_WP d 138 47 [l0, l1, l2, l3, some (jI x)] (jI x :: st) σ Q := WP_iload mq138 dd138_45 rfl
theorem dd138_47 : decode cX11_smallest 47 = .ok (.iconst (-1), 1) := by decide +kernel
theorem ww138_47 {d : Nat} {l0 l1 l2 l3 l4 : Option mw_V} {st : List mw_V} {σ : mw_S} {Q : Option mw_V → mw_S → Prop} : mw_WP d 138 47 [l0, l1, l2, l3, l4] st σ Q ↔ mw_WP d 138 48 [l0, l1, l2, l3, l4] (jI (-1) :: st) σ Q := WP_iconst mq138 dd138_47 (by decide)
theorem dd138_48 : decode cX11_smallest 48 = .ok (.if_icmp .eq 7, 3) := by decide +kernel
theorem ww138_48 {d : Nat} {l0 l1 l2 l3 l4 : Option mw_V} {x y : Int} {st : List mw_V} {σ : mw_S} {Q : Option mw_V → mw_S → Prop} : mw_WP d 138 48 [l0, l1, l2, l3, l4] (jI y :: jI x :: st) σ Q ↔ (if x = y then mw_WP d 138 55 [l0, l1, l2, l3, l4] st σ Q else mw_WP d 138 51 [l0, l1, l2, l3, l4] st σ Q) := WP_icmp_eq mq138 dd138_48 (by decide)
theorem dd138_51 : decode cX11_smallest 51 = .ok (.iload_n 2, 1) := by decide +kernel
theorem ww138_51 {d : Nat} {l0 l1 l3 l4 : Option mw_V} {x : Int} {st : List mw_V} {σ : mw_S} {Q : Option mw_V → mw_S → Prop} : mw_WP d 138 51 [l0, l1, some (jI x), l3, l4] st σ Q ↔ mw_WP d 138 52 [l0, l1, some (jI x), l3, l4] (jI x :: st) σ Q := WP_iload_n mq138 dd138_51 rfl
theorem dd138_52 : decode cX11_smallest 52 = .ok (.ifCond .ne 6, 3) := by decide +kernel
theorem ww138_52 {d : Nat} {l0 l1 l2 l3 l4 : Option mw_V} {x : Int} {st : List mw_V} {σ : mw_S} {Q : Option mw_V → mw_S → Prop} : mw_WP d 138 52 [l0, l1, l2, l3, l4] (jI x :: st) σ Q ↔ (if ¬ x = 0 then mw_WP d 138 58 [l0, l1, l2, l3, l4] st σ Q else mw_WP d 138 55 [l0, l1, l2, l3, l4] st σ Q) := WP_if_ne mq138 dd138_52 (by decide)
theorem dd138_55 : decode cX11_smallest 55 = .ok (.iload 4, 2) := by decide +kernel
theorem ww138_55 {d : Nat} {l0 l1 l2 l3 : Option mw_V} {x : Int} {st : List mw_V} {σ : mw_S} {Q : Option mw_V → mw_S → Prop} : mw_WP d 138 55 [l0, l1, l2, l3, some (jI x)] st σ Q ↔ mw_WP d 138 57 [l0, l1, l2, l3, some (jI x)] (jI x :: st) σ Q := WP_iload mq138 dd138_55 rfl
theorem dd138_57 : decode cX11_smallest 57 = .ok (.ireturn, 1) := by decide +kernel
theorem ww138_57 {d : Nat} {l0 l1 l2 l3 l4 : Option mw_V} {z : Int} {σ : mw_S} {Q : Option mw_V → mw_S → Prop} : mw_WP d 138 57 [l0, l1, l2, l3, l4] [jI z] σ Q ↔ Q (some (jI z)) σ := WP_ireturn (ty := .int) mq138 dd138_57 rfl rfl
theorem dd138_58 : decode cX11_smallest 58 = .ok (.aload_n 0, 1) := by decide +kernel
theorem ww138_58 {d : Nat} {l1 l2 l3 l4 : Option mw_V} {x : Nat} {st : List mw_V} {σ : mw_S} {Q : Option mw_V → mw_S → Prop} : mw_WP d 138 58 [some (jR x), l1, l2, l3, l4] st σ Q ↔ mw_WP d 138 59 [some (jR x), l1, l2, l3, l4] (jR x :: st) σ Q := WP_aload_n mq138 dd138_58 rfl
theorem dd138_59 : decode cX11_smallest 59 = .ok (.getfield 65, 3) := by decide +kernel
theorem ww138_59 {d : Nat} {l0 l1 l2 l3 l4 : Option mw_V} {st : List mw_V} {σ : mw_S} {Q : Option mw_V → mw_S → Prop} : mw_WP d 138 59 [l0, l1, l2, l3, l4] (jR 0 :: st) σ Q ↔ mw_WP d 138 62 [l0, l1, l2, l3, l4] (jR 65 :: st) σ Q := WP_getR (ci := 10) (k := 7) mq138 dd138_59 (by decide) rfl
theorem dd138_62 : decode cX11_smallest 62 = .ok (.getfield 260, 3) := by decide +kernel
theorem ww138_62 {d : Nat} {l0 l1 l2 l3 l4 : Option mw_V} {st : List mw_V} {σ : mw_S} {Q : Option mw_V → mw_S → Prop} : mw_WP d 138 62 [l0, l1, l2, l3, l4] (jR 65 :: st) σ Q ↔ mw_WP d 138 65 [l0, l1, l2, l3, l4] (jR 66 :: st) σ Q := WP_getR (ci := 4) (k := 0) mq138 dd138_62 (by decide) rfl
theorem dd138_65 : decode cX11_smallest 65 = .ok (.iload 4, 2) := by decide +kernel
theorem ww138_65 {d : Nat} {l0 l1 l2 l3 : Option mw_V} {x : Int} {st : List mw_V} {σ : mw_S} {Q : Option mw_V → mw_S → Prop} : mw_WP d 138 65 [l0, l1, l2, l3, some (jI x)] st σ Q ↔ mw_WP d 138 67 [l0, l1, l2, l3, some (jI x)] (jI x :: st) σ Q := WP_iload mq138 dd138_65 rfl
theorem dd138_67 : decode cX11_smallest 67 = .ok (.iaload, 1) := by decide +kernel
theorem ww138_67 {d : Nat} {l0 l1 l2 l3 l4 : Option mw_V} {z : Int} {a : Nat} {st : List mw_V} {σ : mw_S} {Q : Option mw_V → mw_S → Prop} : mw_WP d 138 67 [l0, l1, l2, l3, l4] (jI z :: jR a :: st) σ Q ↔ ((0 ≤ z ∧ z < mw_lenI a) ∧ mw_WP d 138 68 [l0, l1, l2, l3, l4] (jI (mw_rdI σ a z.toNat) :: st) σ Q) := WP_iaload mq138 dd138_67
theorem dd138_68 : decode cX11_smallest 68 = .ok (.ireturn, 1) := by decide +kernel
theorem ww138_68 {d : Nat} {l0 l1 l2 l3 l4 : Option mw_V} {z : Int} {σ : mw_S} {Q : Option mw_V → mw_S → Prop} : mw_WP d 138 68 [l0, l1, l2, l3, l4] [jI z] σ Q ↔ Q (some (jI z)) σ := WP_ireturn (ty := .int) mq138 dd138_68 rfl rfl
theorem ee139 {d : Nat} {a : Nat} {z0 : Int} {σ : mw_S} {Q : Option mw_V → mw_S → Prop} : mw_Call (d + 1) 139 [jR a, jI z0] σ Q ↔ mw_WP d 139 0 [some (jR a), some (jI z0), none] [] σ Q := CL_u mq139 (Nat.le_of_ble_eq_true rfl) rfl
theorem dd139_0 : decode cX11_sure 0 = .ok (.aload_n 0, 1) := by decide +kernel
theorem ww139_0 {d : Nat} {l1 l2 : Option mw_V} {x : Nat} {st : List mw_V} {σ : mw_S} {Q : Option mw_V → mw_S → Prop} : mw_WP d 139 0 [some (jR x), l1, l2] st σ Q ↔ mw_WP d 139 1 [some (jR x), l1, l2] (jR x :: st) σ Q := WP_aload_n mq139 dd139_0 rfl
theorem dd139_1 : decode cX11_sure 1 = .ok (.iload_n 1, 1) := by decide +kernel
theorem ww139_1 {d : Nat} {l0 l2 : Option mw_V} {x : Int} {st : List mw_V} {σ : mw_S} {Q : Option mw_V → mw_S → Prop} : mw_WP d 139 1 [l0, some (jI x), l2] st σ Q ↔ mw_WP d 139 2 [l0, some (jI x), l2] (jI x :: st) σ Q := WP_iload_n mq139 dd139_1 rfl
theorem dd139_2 : decode cX11_sure 2 = .ok (.invokevirtual 246, 3) := by decide +kernel
theorem ww139_2 {d : Nat} {l0 l1 l2 : Option mw_V} {v0 : mw_V} {a : Nat} {st : List mw_V} {σ : mw_S} {Q : Option mw_V → mw_S → Prop} (hr : mw_rc a = 11) (h8 : (st.map mw_cat).sum ≤ 8) : mw_WP d 139 2 [l0, l1, l2] (v0 :: jR a :: st) σ Q ↔ mw_Call d 166 [jR a, v0] σ (fun r1 s1 => mw_WP d 139 5 [l0, l1, l2] (r1.toList ++ st) s1 Q) := WP_inv (as := [v0]) mq139 dd139_2 (by decide) mq166 rfl hr h8
theorem dd139_5 : decode cX11_sure 5 = .ok (.istore_n 2, 1) := by decide +kernel
theorem ww139_5 {d : Nat} {l0 l1 l2 : Option mw_V} {x : Int} {st : List mw_V} {σ : mw_S} {Q : Option mw_V → mw_S → Prop} (h : mw_nlo l1 = true) : mw_WP d 139 5 [l0, l1, l2] (jI x :: st) σ Q ↔ mw_WP d 139 6 [l0, l1, some (jI x)] st σ Q := WP_istore_n mq139 dd139_5 (Nat.le_of_ble_eq_true rfl) (mw_nl_of (i := 1) rfl h) rfl
theorem dd139_6 : decode cX11_sure 6 = .ok (.iload_n 2, 1) := by decide +kernel
theorem ww139_6 {d : Nat} {l0 l1 : Option mw_V} {x : Int} {st : List mw_V} {σ : mw_S} {Q : Option mw_V → mw_S → Prop} : mw_WP d 139 6 [l0, l1, some (jI x)] st σ Q ↔ mw_WP d 139 7 [l0, l1, some (jI x)] (jI x :: st) σ Q := WP_iload_n mq139 dd139_6 rfl
theorem dd139_7 : decode cX11_sure 7 = .ok (.ifCond .eq 5, 3) := by decide +kernel
theorem ww139_7 {d : Nat} {l0 l1 l2 : Option mw_V} {x : Int} {st : List mw_V} {σ : mw_S} {Q : Option mw_V → mw_S → Prop} : mw_WP d 139 7 [l0, l1, l2] (jI x :: st) σ Q ↔ (if x = 0 then mw_WP d 139 12 [l0, l1, l2] st σ Q else mw_WP d 139 10 [l0, l1, l2] st σ Q) := WP_if_eq mq139 dd139_7 (by decide)
theorem dd139_10 : decode cX11_sure 10 = .ok (.iload_n 2, 1) := by decide +kernel
theorem ww139_10 {d : Nat} {l0 l1 : Option mw_V} {x : Int} {st : List mw_V} {σ : mw_S} {Q : Option mw_V → mw_S → Prop} : mw_WP d 139 10 [l0, l1, some (jI x)] st σ Q ↔ mw_WP d 139 11 [l0, l1, some (jI x)] (jI x :: st) σ Q := WP_iload_n mq139 dd139_10 rfl
theorem dd139_11 : decode cX11_sure 11 = .ok (.ireturn, 1) := by decide +kernel
theorem ww139_11 {d : Nat} {l0 l1 l2 : Option mw_V} {z : Int} {σ : mw_S} {Q : Option mw_V → mw_S → Prop} : mw_WP d 139 11 [l0, l1, l2] [jI z] σ Q ↔ Q (some (jI z)) σ := WP_ireturn (ty := .int) mq139 dd139_11 rfl rfl
theorem dd139_12 : decode cX11_sure 12 = .ok (.aload_n 0, 1) := by decide +kernel
theorem ww139_12 {d : Nat} {l1 l2 : Option mw_V} {x : Nat} {st : List mw_V} {σ : mw_S} {Q : Option mw_V → mw_S → Prop} : mw_WP d 139 12 [some (jR x), l1, l2] st σ Q ↔ mw_WP d 139 13 [some (jR x), l1, l2] (jR x :: st) σ Q := WP_aload_n mq139 dd139_12 rfl
theorem dd139_13 : decode cX11_sure 13 = .ok (.getfield 65, 3) := by decide +kernel
theorem ww139_13 {d : Nat} {l0 l1 l2 : Option mw_V} {st : List mw_V} {σ : mw_S} {Q : Option mw_V → mw_S → Prop} : mw_WP d 139 13 [l0, l1, l2] (jR 0 :: st) σ Q ↔ mw_WP d 139 16 [l0, l1, l2] (jR 65 :: st) σ Q := WP_getR (ci := 10) (k := 7) mq139 dd139_13 (by decide) rfl
theorem dd139_16 : decode cX11_sure 16 = .ok (.aload_n 0, 1) := by decide +kernel
theorem ww139_16 {d : Nat} {l1 l2 : Option mw_V} {x : Nat} {st : List mw_V} {σ : mw_S} {Q : Option mw_V → mw_S → Prop} : mw_WP d 139 16 [some (jR x), l1, l2] st σ Q ↔ mw_WP d 139 17 [some (jR x), l1, l2] (jR x :: st) σ Q := WP_aload_n mq139 dd139_16 rfl
theorem dd139_17 : decode cX11_sure 17 = .ok (.getfield 42, 3) := by decide +kernel
theorem ww139_17 {d : Nat} {l0 l1 l2 : Option mw_V} {st : List mw_V} {σ : mw_S} {Q : Option mw_V → mw_S → Prop} : mw_WP d 139 17 [l0, l1, l2] (jR 0 :: st) σ Q ↔ mw_WP d 139 20 [l0, l1, l2] (jR 37 :: st) σ Q := WP_getR (ci := 10) (k := 4) mq139 dd139_17 (by decide) rfl
theorem dd139_20 : decode cX11_sure 20 = .ok (.iload_n 1, 1) := by decide +kernel
theorem ww139_20 {d : Nat} {l0 l2 : Option mw_V} {x : Int} {st : List mw_V} {σ : mw_S} {Q : Option mw_V → mw_S → Prop} : mw_WP d 139 20 [l0, some (jI x), l2] st σ Q ↔ mw_WP d 139 21 [l0, some (jI x), l2] (jI x :: st) σ Q := WP_iload_n mq139 dd139_20 rfl
theorem dd139_21 : decode cX11_sure 21 = .ok (.invokevirtual 249, 3) := by decide +kernel
theorem ww139_21 {d : Nat} {l0 l1 l2 : Option mw_V} {v0 v1 : mw_V} {a : Nat} {st : List mw_V} {σ : mw_S} {Q : Option mw_V → mw_S → Prop} (hr : mw_rc a = 5) (h8 : (st.map mw_cat).sum ≤ 8) : mw_WP d 139 21 [l0, l1, l2] (v1 :: v0 :: jR a :: st) σ Q ↔ mw_Call d 28 [jR a, v0, v1] σ (fun r1 s1 => mw_WP d 139 24 [l0, l1, l2] (r1.toList ++ st) s1 Q) := WP_inv (as := [v1, v0]) mq139 dd139_21 (by decide) mq28 rfl hr h8
theorem dd139_24 : decode cX11_sure 24 = .ok (.aload_n 0, 1) := by decide +kernel
theorem ww139_24 {d : Nat} {l1 l2 : Option mw_V} {x : Nat} {st : List mw_V} {σ : mw_S} {Q : Option mw_V → mw_S → Prop} : mw_WP d 139 24 [some (jR x), l1, l2] st σ Q ↔ mw_WP d 139 25 [some (jR x), l1, l2] (jR x :: st) σ Q := WP_aload_n mq139 dd139_24 rfl
theorem dd139_25 : decode cX11_sure 25 = .ok (.getfield 65, 3) := by decide +kernel
theorem ww139_25 {d : Nat} {l0 l1 l2 : Option mw_V} {st : List mw_V} {σ : mw_S} {Q : Option mw_V → mw_S → Prop} : mw_WP d 139 25 [l0, l1, l2] (jR 0 :: st) σ Q ↔ mw_WP d 139 28 [l0, l1, l2] (jR 65 :: st) σ Q := WP_getR (ci := 10) (k := 7) mq139 dd139_25 (by decide) rfl
theorem dd139_28 : decode cX11_sure 28 = .ok (.invokevirtual 263, 3) := by decide +kernel
theorem ww139_28 {d : Nat} {l0 l1 l2 : Option mw_V} {a : Nat} {st : List mw_V} {σ : mw_S} {Q : Option mw_V → mw_S → Prop} (hr : mw_rc a = 5) (h8 : (st.map mw_cat).sum ≤ 8) : mw_WP d 139 28 [l0, l1, l2] (jR a :: st) σ Q ↔ mw_Call d 34 [jR a] σ (fun r1 s1 => mw_WP d 139 31 [l0, l1, l2] (r1.toList ++ st) s1 Q) := WP_inv (as := []) mq139 dd139_28 (by decide) mq34 rfl hr h8
theorem dd139_31 : decode cX11_sure 31 = .ok (.ireturn, 1) := by decide +kernel
theorem ww139_31 {d : Nat} {l0 l1 l2 : Option mw_V} {z : Int} {σ : mw_S} {Q : Option mw_V → mw_S → Prop} : mw_WP d 139 31 [l0, l1, l2] [jI z] σ Q ↔ Q (some (jI z)) σ := WP_ireturn (ty := .int) mq139 dd139_31 rfl rfl
theorem ee140 {d : Nat} {a : Nat} {z0 : Int} {z1 : Int} {σ : mw_S} {Q : Option mw_V → mw_S → Prop} : mw_Call (d + 1) 140 [jR a, jI z0, jI z1] σ Q ↔ mw_WP d 140 0 [some (jR a), some (jI z0), some (jI z1), none] [] σ Q := CL_u mq140 (Nat.le_of_ble_eq_true rfl) rfl
theorem dd140_0 : decode cX11_telling 0 = .ok (.iload_n 2, 1) := by decide +kernel
theorem ww140_0 {d : Nat} {l0 l1 l3 : Option mw_V} {x : Int} {st : List mw_V} {σ : mw_S} {Q : Option mw_V → mw_S → Prop} : mw_WP d 140 0 [l0, l1, some (jI x), l3] st σ Q ↔ mw_WP d 140 1 [l0, l1, some (jI x), l3] (jI x :: st) σ Q := WP_iload_n mq140 dd140_0 rfl
theorem dd140_1 : decode cX11_telling 1 = .ok (.invokestatic 208, 3) := by decide +kernel
theorem ww140_1 {d : Nat} {l0 l1 l2 l3 : Option mw_V} {v0 : mw_V} {st : List mw_V} {σ : mw_S} {Q : Option mw_V → mw_S → Prop} (h8 : (st.map mw_cat).sum ≤ 8) : mw_WP d 140 1 [l0, l1, l2, l3] (v0 :: st) σ Q ↔ mw_Call d 163 [v0] σ (fun r1 s1 => mw_WP d 140 4 [l0, l1, l2, l3] (r1.toList ++ st) s1 Q) := WP_invs (as := [v0]) mq140 dd140_1 (by decide) mq163 rfl rfl h8
theorem dd140_4 : decode cX11_telling 4 = .ok (.ifCond .eq 11, 3) := by decide +kernel
theorem ww140_4 {d : Nat} {l0 l1 l2 l3 : Option mw_V} {x : Int} {st : List mw_V} {σ : mw_S} {Q : Option mw_V → mw_S → Prop} : mw_WP d 140 4 [l0, l1, l2, l3] (jI x :: st) σ Q ↔ (if x = 0 then mw_WP d 140 15 [l0, l1, l2, l3] st σ Q else mw_WP d 140 7 [l0, l1, l2, l3] st σ Q) := WP_if_eq mq140 dd140_4 (by decide)
theorem dd140_7 : decode cX11_telling 7 = .ok (.aload_n 0, 1) := by decide +kernel
theorem ww140_7 {d : Nat} {l1 l2 l3 : Option mw_V} {x : Nat} {st : List mw_V} {σ : mw_S} {Q : Option mw_V → mw_S → Prop} : mw_WP d 140 7 [some (jR x), l1, l2, l3] st σ Q ↔ mw_WP d 140 8 [some (jR x), l1, l2, l3] (jR x :: st) σ Q := WP_aload_n mq140 dd140_7 rfl
theorem dd140_8 : decode cX11_telling 8 = .ok (.iload_n 1, 1) := by decide +kernel
theorem ww140_8 {d : Nat} {l0 l2 l3 : Option mw_V} {x : Int} {st : List mw_V} {σ : mw_S} {Q : Option mw_V → mw_S → Prop} : mw_WP d 140 8 [l0, some (jI x), l2, l3] st σ Q ↔ mw_WP d 140 9 [l0, some (jI x), l2, l3] (jI x :: st) σ Q := WP_iload_n mq140 dd140_8 rfl
theorem dd140_9 : decode cX11_telling 9 = .ok (.invokevirtual 246, 3) := by decide +kernel
theorem ww140_9 {d : Nat} {l0 l1 l2 l3 : Option mw_V} {v0 : mw_V} {a : Nat} {st : List mw_V} {σ : mw_S} {Q : Option mw_V → mw_S → Prop} (hr : mw_rc a = 11) (h8 : (st.map mw_cat).sum ≤ 8) : mw_WP d 140 9 [l0, l1, l2, l3] (v0 :: jR a :: st) σ Q ↔ mw_Call d 166 [jR a, v0] σ (fun r1 s1 => mw_WP d 140 12 [l0, l1, l2, l3] (r1.toList ++ st) s1 Q) := WP_inv (as := [v0]) mq140 dd140_9 (by decide) mq166 rfl hr h8
theorem dd140_12 : decode cX11_telling 12 = .ok (.goto 5, 3) := by decide +kernel
theorem ww140_12 {d : Nat} {l0 l1 l2 l3 : Option mw_V} {st : List mw_V} {σ : mw_S} {Q : Option mw_V → mw_S → Prop} : mw_WP d 140 12 [l0, l1, l2, l3] st σ Q ↔ mw_WP d 140 17 [l0, l1, l2, l3] st σ Q := WP_goto mq140 dd140_12 (by decide)
theorem dd140_15 : decode cX11_telling 15 = .ok (.bipush (-2), 2) := by decide +kernel
theorem ww140_15 {d : Nat} {l0 l1 l2 l3 : Option mw_V} {st : List mw_V} {σ : mw_S} {Q : Option mw_V → mw_S → Prop} : mw_WP d 140 15 [l0, l1, l2, l3] st σ Q ↔ mw_WP d 140 17 [l0, l1, l2, l3] (jI (-2) :: st) σ Q := WP_bipush mq140 dd140_15 (by decide)
theorem dd140_17 : decode cX11_telling 17 = .ok (.istore_n 3, 1) := by decide +kernel
theorem ww140_17 {d : Nat} {l0 l1 l2 l3 : Option mw_V} {x : Int} {st : List mw_V} {σ : mw_S} {Q : Option mw_V → mw_S → Prop} (h : mw_nlo l2 = true) : mw_WP d 140 17 [l0, l1, l2, l3] (jI x :: st) σ Q ↔ mw_WP d 140 18 [l0, l1, l2, some (jI x)] st σ Q := WP_istore_n mq140 dd140_17 (Nat.le_of_ble_eq_true rfl) (mw_nl_of (i := 2) rfl h) rfl
theorem dd140_18 : decode cX11_telling 18 = .ok (.iload_n 3, 1) := by decide +kernel
theorem ww140_18 {d : Nat} {l0 l1 l2 : Option mw_V} {x : Int} {st : List mw_V} {σ : mw_S} {Q : Option mw_V → mw_S → Prop} : mw_WP d 140 18 [l0, l1, l2, some (jI x)] st σ Q ↔ mw_WP d 140 19 [l0, l1, l2, some (jI x)] (jI x :: st) σ Q := WP_iload_n mq140 dd140_18 rfl
theorem dd140_19 : decode cX11_telling 19 = .ok (.ifCond .eq 5, 3) := by decide +kernel
theorem ww140_19 {d : Nat} {l0 l1 l2 l3 : Option mw_V} {x : Int} {st : List mw_V} {σ : mw_S} {Q : Option mw_V → mw_S → Prop} : mw_WP d 140 19 [l0, l1, l2, l3] (jI x :: st) σ Q ↔ (if x = 0 then mw_WP d 140 24 [l0, l1, l2, l3] st σ Q else mw_WP d 140 22 [l0, l1, l2, l3] st σ Q) := WP_if_eq mq140 dd140_19 (by decide)
theorem dd140_22 : decode cX11_telling 22 = .ok (.iload_n 3, 1) := by decide +kernel
theorem ww140_22 {d : Nat} {l0 l1 l2 : Option mw_V} {x : Int} {st : List mw_V} {σ : mw_S} {Q : Option mw_V → mw_S → Prop} : mw_WP d 140 22 [l0, l1, l2, some (jI x)] st σ Q ↔ mw_WP d 140 23 [l0, l1, l2, some (jI x)] (jI x :: st) σ Q := WP_iload_n mq140 dd140_22 rfl
theorem dd140_23 : decode cX11_telling 23 = .ok (.ireturn, 1) := by decide +kernel
theorem ww140_23 {d : Nat} {l0 l1 l2 l3 : Option mw_V} {z : Int} {σ : mw_S} {Q : Option mw_V → mw_S → Prop} : mw_WP d 140 23 [l0, l1, l2, l3] [jI z] σ Q ↔ Q (some (jI z)) σ := WP_ireturn (ty := .int) mq140 dd140_23 rfl rfl
theorem dd140_24 : decode cX11_telling 24 = .ok (.aload_n 0, 1) := by decide +kernel
theorem ww140_24 {d : Nat} {l1 l2 l3 : Option mw_V} {x : Nat} {st : List mw_V} {σ : mw_S} {Q : Option mw_V → mw_S → Prop} : mw_WP d 140 24 [some (jR x), l1, l2, l3] st σ Q ↔ mw_WP d 140 25 [some (jR x), l1, l2, l3] (jR x :: st) σ Q := WP_aload_n mq140 dd140_24 rfl
theorem dd140_25 : decode cX11_telling 25 = .ok (.getfield 65, 3) := by decide +kernel
theorem ww140_25 {d : Nat} {l0 l1 l2 l3 : Option mw_V} {st : List mw_V} {σ : mw_S} {Q : Option mw_V → mw_S → Prop} : mw_WP d 140 25 [l0, l1, l2, l3] (jR 0 :: st) σ Q ↔ mw_WP d 140 28 [l0, l1, l2, l3] (jR 65 :: st) σ Q := WP_getR (ci := 10) (k := 7) mq140 dd140_25 (by decide) rfl
theorem dd140_28 : decode cX11_telling 28 = .ok (.aload_n 0, 1) := by decide +kernel
theorem ww140_28 {d : Nat} {l1 l2 l3 : Option mw_V} {x : Nat} {st : List mw_V} {σ : mw_S} {Q : Option mw_V → mw_S → Prop} : mw_WP d 140 28 [some (jR x), l1, l2, l3] st σ Q ↔ mw_WP d 140 29 [some (jR x), l1, l2, l3] (jR x :: st) σ Q := WP_aload_n mq140 dd140_28 rfl
theorem dd140_29 : decode cX11_telling 29 = .ok (.getfield 42, 3) := by decide +kernel
theorem ww140_29 {d : Nat} {l0 l1 l2 l3 : Option mw_V} {st : List mw_V} {σ : mw_S} {Q : Option mw_V → mw_S → Prop} : mw_WP d 140 29 [l0, l1, l2, l3] (jR 0 :: st) σ Q ↔ mw_WP d 140 32 [l0, l1, l2, l3] (jR 37 :: st) σ Q := WP_getR (ci := 10) (k := 4) mq140 dd140_29 (by decide) rfl
theorem dd140_32 : decode cX11_telling 32 = .ok (.iload_n 1, 1) := by decide +kernel
theorem ww140_32 {d : Nat} {l0 l2 l3 : Option mw_V} {x : Int} {st : List mw_V} {σ : mw_S} {Q : Option mw_V → mw_S → Prop} : mw_WP d 140 32 [l0, some (jI x), l2, l3] st σ Q ↔ mw_WP d 140 33 [l0, some (jI x), l2, l3] (jI x :: st) σ Q := WP_iload_n mq140 dd140_32 rfl
theorem dd140_33 : decode cX11_telling 33 = .ok (.invokevirtual 249, 3) := by decide +kernel
theorem ww140_33 {d : Nat} {l0 l1 l2 l3 : Option mw_V} {v0 v1 : mw_V} {a : Nat} {st : List mw_V} {σ : mw_S} {Q : Option mw_V → mw_S → Prop} (hr : mw_rc a = 5) (h8 : (st.map mw_cat).sum ≤ 8) : mw_WP d 140 33 [l0, l1, l2, l3] (v1 :: v0 :: jR a :: st) σ Q ↔ mw_Call d 28 [jR a, v0, v1] σ (fun r1 s1 => mw_WP d 140 36 [l0, l1, l2, l3] (r1.toList ++ st) s1 Q) := WP_inv (as := [v1, v0]) mq140 dd140_33 (by decide) mq28 rfl hr h8
theorem dd140_36 : decode cX11_telling 36 = .ok (.aload_n 0, 1) := by decide +kernel
theorem ww140_36 {d : Nat} {l1 l2 l3 : Option mw_V} {x : Nat} {st : List mw_V} {σ : mw_S} {Q : Option mw_V → mw_S → Prop} : mw_WP d 140 36 [some (jR x), l1, l2, l3] st σ Q ↔ mw_WP d 140 37 [some (jR x), l1, l2, l3] (jR x :: st) σ Q := WP_aload_n mq140 dd140_36 rfl
theorem dd140_37 : decode cX11_telling 37 = .ok (.getfield 65, 3) := by decide +kernel
theorem ww140_37 {d : Nat} {l0 l1 l2 l3 : Option mw_V} {st : List mw_V} {σ : mw_S} {Q : Option mw_V → mw_S → Prop} : mw_WP d 140 37 [l0, l1, l2, l3] (jR 0 :: st) σ Q ↔ mw_WP d 140 40 [l0, l1, l2, l3] (jR 65 :: st) σ Q := WP_getR (ci := 10) (k := 7) mq140 dd140_37 (by decide) rfl
theorem dd140_40 : decode cX11_telling 40 = .ok (.invokevirtual 253, 3) := by decide +kernel
theorem ww140_40 {d : Nat} {l0 l1 l2 l3 : Option mw_V} {a : Nat} {st : List mw_V} {σ : mw_S} {Q : Option mw_V → mw_S → Prop} (hr : mw_rc a = 5) (h8 : (st.map mw_cat).sum ≤ 8) : mw_WP d 140 40 [l0, l1, l2, l3] (jR a :: st) σ Q ↔ mw_Call d 32 [jR a] σ (fun r1 s1 => mw_WP d 140 43 [l0, l1, l2, l3] (r1.toList ++ st) s1 Q) := WP_inv (as := []) mq140 dd140_40 (by decide) mq32 rfl hr h8
theorem dd140_43 : decode cX11_telling 43 = .ok (.iconst 2, 1) := by decide +kernel
theorem ww140_43 {d : Nat} {l0 l1 l2 l3 : Option mw_V} {st : List mw_V} {σ : mw_S} {Q : Option mw_V → mw_S → Prop} : mw_WP d 140 43 [l0, l1, l2, l3] st σ Q ↔ mw_WP d 140 44 [l0, l1, l2, l3] (jI (2) :: st) σ Q := WP_iconst mq140 dd140_43 (by decide)
theorem dd140_44 : decode cX11_telling 44 = .ok (.if_icmp .ge 5, 3) := by decide +kernel
theorem ww140_44 {d : Nat} {l0 l1 l2 l3 : Option mw_V} {x y : Int} {st : List mw_V} {σ : mw_S} {Q : Option mw_V → mw_S → Prop} : mw_WP d 140 44 [l0, l1, l2, l3] (jI y :: jI x :: st) σ Q ↔ (if y ≤ x then mw_WP d 140 49 [l0, l1, l2, l3] st σ Q else mw_WP d 140 47 [l0, l1, l2, l3] st σ Q) := WP_icmp_ge mq140 dd140_44 (by decide)
theorem dd140_47 : decode cX11_telling 47 = .ok (.iconst (-1), 1) := by decide +kernel
theorem ww140_47 {d : Nat} {l0 l1 l2 l3 : Option mw_V} {st : List mw_V} {σ : mw_S} {Q : Option mw_V → mw_S → Prop} : mw_WP d 140 47 [l0, l1, l2, l3] st σ Q ↔ mw_WP d 140 48 [l0, l1, l2, l3] (jI (-1) :: st) σ Q := WP_iconst mq140 dd140_47 (by decide)
theorem dd140_48 : decode cX11_telling 48 = .ok (.ireturn, 1) := by decide +kernel
theorem ww140_48 {d : Nat} {l0 l1 l2 l3 : Option mw_V} {z : Int} {σ : mw_S} {Q : Option mw_V → mw_S → Prop} : mw_WP d 140 48 [l0, l1, l2, l3] [jI z] σ Q ↔ Q (some (jI z)) σ := WP_ireturn (ty := .int) mq140 dd140_48 rfl rfl
theorem dd140_49 : decode cX11_telling 49 = .ok (.aload_n 0, 1) := by decide +kernel
theorem ww140_49 {d : Nat} {l1 l2 l3 : Option mw_V} {x : Nat} {st : List mw_V} {σ : mw_S} {Q : Option mw_V → mw_S → Prop} : mw_WP d 140 49 [some (jR x), l1, l2, l3] st σ Q ↔ mw_WP d 140 50 [some (jR x), l1, l2, l3] (jR x :: st) σ Q := WP_aload_n mq140 dd140_49 rfl
theorem dd140_50 : decode cX11_telling 50 = .ok (.getfield 65, 3) := by decide +kernel
theorem ww140_50 {d : Nat} {l0 l1 l2 l3 : Option mw_V} {st : List mw_V} {σ : mw_S} {Q : Option mw_V → mw_S → Prop} : mw_WP d 140 50 [l0, l1, l2, l3] (jR 0 :: st) σ Q ↔ mw_WP d 140 53 [l0, l1, l2, l3] (jR 65 :: st) σ Q := WP_getR (ci := 10) (k := 7) mq140 dd140_50 (by decide) rfl
theorem dd140_53 : decode cX11_telling 53 = .ok (.invokevirtual 266, 3) := by decide +kernel
theorem ww140_53 {d : Nat} {l0 l1 l2 l3 : Option mw_V} {a : Nat} {st : List mw_V} {σ : mw_S} {Q : Option mw_V → mw_S → Prop} (hr : mw_rc a = 5) (h8 : (st.map mw_cat).sum ≤ 8) : mw_WP d 140 53 [l0, l1, l2, l3] (jR a :: st) σ Q ↔ mw_Call d 35 [jR a] σ (fun r1 s1 => mw_WP d 140 56 [l0, l1, l2, l3] (r1.toList ++ st) s1 Q) := WP_inv (as := []) mq140 dd140_53 (by decide) mq35 rfl hr h8
theorem dd140_56 : decode cX11_telling 56 = .ok (.iload_n 2, 1) := by decide +kernel
theorem ww140_56 {d : Nat} {l0 l1 l3 : Option mw_V} {x : Int} {st : List mw_V} {σ : mw_S} {Q : Option mw_V → mw_S → Prop} : mw_WP d 140 56 [l0, l1, some (jI x), l3] st σ Q ↔ mw_WP d 140 57 [l0, l1, some (jI x), l3] (jI x :: st) σ Q := WP_iload_n mq140 dd140_56 rfl
theorem dd140_57 : decode cX11_telling 57 = .ok (.ifCond .ne 13, 3) := by decide +kernel
theorem ww140_57 {d : Nat} {l0 l1 l2 l3 : Option mw_V} {x : Int} {st : List mw_V} {σ : mw_S} {Q : Option mw_V → mw_S → Prop} : mw_WP d 140 57 [l0, l1, l2, l3] (jI x :: st) σ Q ↔ (if ¬ x = 0 then mw_WP d 140 70 [l0, l1, l2, l3] st σ Q else mw_WP d 140 60 [l0, l1, l2, l3] st σ Q) := WP_if_ne mq140 dd140_57 (by decide)
theorem dd140_60 : decode cX11_telling 60 = .ok (.aload_n 0, 1) := by decide +kernel
theorem ww140_60 {d : Nat} {l1 l2 l3 : Option mw_V} {x : Nat} {st : List mw_V} {σ : mw_S} {Q : Option mw_V → mw_S → Prop} : mw_WP d 140 60 [some (jR x), l1, l2, l3] st σ Q ↔ mw_WP d 140 61 [some (jR x), l1, l2, l3] (jR x :: st) σ Q := WP_aload_n mq140 dd140_60 rfl
theorem dd140_61 : decode cX11_telling 61 = .ok (.getfield 65, 3) := by decide +kernel
theorem ww140_61 {d : Nat} {l0 l1 l2 l3 : Option mw_V} {st : List mw_V} {σ : mw_S} {Q : Option mw_V → mw_S → Prop} : mw_WP d 140 61 [l0, l1, l2, l3] (jR 0 :: st) σ Q ↔ mw_WP d 140 64 [l0, l1, l2, l3] (jR 65 :: st) σ Q := WP_getR (ci := 10) (k := 7) mq140 dd140_61 (by decide) rfl
theorem dd140_64 : decode cX11_telling 64 = .ok (.getfield 269, 3) := by decide +kernel
theorem ww140_64 {d : Nat} {l0 l1 l2 l3 : Option mw_V} {st : List mw_V} {σ : mw_S} {Q : Option mw_V → mw_S → Prop} : mw_WP d 140 64 [l0, l1, l2, l3] (jR 65 :: st) σ Q ↔ mw_WP d 140 67 [l0, l1, l2, l3] (jI (σ 65 1) :: st) σ Q := WP_getI (ci := 4) (k := 1) mq140 dd140_64 (by decide) (Or.inl rfl)
theorem dd140_67 : decode cX11_telling 67 = .ok (.goto 10, 3) := by decide +kernel
theorem ww140_67 {d : Nat} {l0 l1 l2 l3 : Option mw_V} {st : List mw_V} {σ : mw_S} {Q : Option mw_V → mw_S → Prop} : mw_WP d 140 67 [l0, l1, l2, l3] st σ Q ↔ mw_WP d 140 77 [l0, l1, l2, l3] st σ Q := WP_goto mq140 dd140_67 (by decide)
theorem dd140_70 : decode cX11_telling 70 = .ok (.aload_n 0, 1) := by decide +kernel
theorem ww140_70 {d : Nat} {l1 l2 l3 : Option mw_V} {x : Nat} {st : List mw_V} {σ : mw_S} {Q : Option mw_V → mw_S → Prop} : mw_WP d 140 70 [some (jR x), l1, l2, l3] st σ Q ↔ mw_WP d 140 71 [some (jR x), l1, l2, l3] (jR x :: st) σ Q := WP_aload_n mq140 dd140_70 rfl
theorem dd140_71 : decode cX11_telling 71 = .ok (.getfield 65, 3) := by decide +kernel
theorem ww140_71 {d : Nat} {l0 l1 l2 l3 : Option mw_V} {st : List mw_V} {σ : mw_S} {Q : Option mw_V → mw_S → Prop} : mw_WP d 140 71 [l0, l1, l2, l3] (jR 0 :: st) σ Q ↔ mw_WP d 140 74 [l0, l1, l2, l3] (jR 65 :: st) σ Q := WP_getR (ci := 10) (k := 7) mq140 dd140_71 (by decide) rfl
theorem dd140_74 : decode cX11_telling 74 = .ok (.getfield 272, 3) := by decide +kernel
theorem ww140_74 {d : Nat} {l0 l1 l2 l3 : Option mw_V} {st : List mw_V} {σ : mw_S} {Q : Option mw_V → mw_S → Prop} : mw_WP d 140 74 [l0, l1, l2, l3] (jR 65 :: st) σ Q ↔ mw_WP d 140 77 [l0, l1, l2, l3] (jI (σ 65 2) :: st) σ Q := WP_getI (ci := 4) (k := 2) mq140 dd140_74 (by decide) (Or.inl rfl)
theorem dd140_77 : decode cX11_telling 77 = .ok (.ireturn, 1) := by decide +kernel
theorem ww140_77 {d : Nat} {l0 l1 l2 l3 : Option mw_V} {z : Int} {σ : mw_S} {Q : Option mw_V → mw_S → Prop} : mw_WP d 140 77 [l0, l1, l2, l3] [jI z] σ Q ↔ Q (some (jI z)) σ := WP_ireturn (ty := .int) mq140 dd140_77 rfl rfl
theorem ee141 {d : Nat} {a : Nat} {z0 : Int} {z1 : Int} {z2 : Int} {σ : mw_S} {Q : Option mw_V → mw_S → Prop} : mw_Call (d + 1) 141 [jR a, jI z0, jI z1, jI z2] σ Q ↔ mw_WP d 141 0 [some (jR a), some (jI z0), some (jI z1), some (jI z2), none] [] σ Q := CL_u mq141 (Nat.le_of_ble_eq_true rfl) rfl
theorem dd141_0 : decode cX11_meant 0 = .ok (.aload_n 0, 1) := by decide +kernel
theorem ww141_0 {d : Nat} {l1 l2 l3 l4 : Option mw_V} {x : Nat} {st : List mw_V} {σ : mw_S} {Q : Option mw_V → mw_S → Prop} : mw_WP d 141 0 [some (jR x), l1, l2, l3, l4] st σ Q ↔ mw_WP d 141 1 [some (jR x), l1, l2, l3, l4] (jR x :: st) σ Q := WP_aload_n mq141 dd141_0 rfl
theorem dd141_1 : decode cX11_meant 1 = .ok (.iload_n 1, 1) := by decide +kernel
theorem ww141_1 {d : Nat} {l0 l2 l3 l4 : Option mw_V} {x : Int} {st : List mw_V} {σ : mw_S} {Q : Option mw_V → mw_S → Prop} : mw_WP d 141 1 [l0, some (jI x), l2, l3, l4] st σ Q ↔ mw_WP d 141 2 [l0, some (jI x), l2, l3, l4] (jI x :: st) σ Q := WP_iload_n mq141 dd141_1 rfl
theorem dd141_2 : decode cX11_meant 2 = .ok (.iload_n 2, 1) := by decide +kernel
theorem ww141_2 {d : Nat} {l0 l1 l3 l4 : Option mw_V} {x : Int} {st : List mw_V} {σ : mw_S} {Q : Option mw_V → mw_S → Prop} : mw_WP d 141 2 [l0, l1, some (jI x), l3, l4] st σ Q ↔ mw_WP d 141 3 [l0, l1, some (jI x), l3, l4] (jI x :: st) σ Q := WP_iload_n mq141 dd141_2 rfl
theorem dd141_3 : decode cX11_meant 3 = .ok (.invokevirtual 275, 3) := by decide +kernel
theorem ww141_3 {d : Nat} {l0 l1 l2 l3 l4 : Option mw_V} {v0 v1 : mw_V} {a : Nat} {st : List mw_V} {σ : mw_S} {Q : Option mw_V → mw_S → Prop} (hr : mw_rc a = 11) (h8 : (st.map mw_cat).sum ≤ 8) : mw_WP d 141 3 [l0, l1, l2, l3, l4] (v1 :: v0 :: jR a :: st) σ Q ↔ mw_Call d 167 [jR a, v0, v1] σ (fun r1 s1 => mw_WP d 141 6 [l0, l1, l2, l3, l4] (r1.toList ++ st) s1 Q) := WP_inv (as := [v1, v0]) mq141 dd141_3 (by decide) mq167 rfl hr h8
theorem dd141_6 : decode cX11_meant 6 = .ok (.istore 4, 2) := by decide +kernel
theorem ww141_6 {d : Nat} {l0 l1 l2 l3 l4 : Option mw_V} {x : Int} {st : List mw_V} {σ : mw_S} {Q : Option mw_V → mw_S → Prop} (h : mw_nlo l3 = true) : mw_WP d 141 6 [l0, l1, l2, l3, l4] (jI x :: st) σ Q ↔ mw_WP d 141 8 [l0, l1, l2, l3, some (jI x)] st σ Q := WP_istore mq141 dd141_6 (Nat.le_of_ble_eq_true rfl) (mw_nl_of (i := 3) rfl h) rfl
theorem dd141_8 : decode cX11_meant 8 = .ok (.iload 4, 2) := by decide +kernel
theorem ww141_8 {d : Nat} {l0 l1 l2 l3 : Option mw_V} {x : Int} {st : List mw_V} {σ : mw_S} {Q : Option mw_V → mw_S → Prop} : mw_WP d 141 8 [l0, l1, l2, l3, some (jI x)] st σ Q ↔ mw_WP d 141 10 [l0, l1, l2, l3, some (jI x)] (jI x :: st) σ Q := WP_iload mq141 dd141_8 rfl
theorem dd141_10 : decode cX11_meant 10 = .ok (.ifCond .eq 6, 3) := by decide +kernel
theorem ww141_10 {d : Nat} {l0 l1 l2 l3 l4 : Option mw_V} {x : Int} {st : List mw_V} {σ : mw_S} {Q : Option mw_V → mw_S → Prop} : mw_WP d 141 10 [l0, l1, l2, l3, l4] (jI x :: st) σ Q ↔ (if x = 0 then mw_WP d 141 16 [l0, l1, l2, l3, l4] st σ Q else mw_WP d 141 13 [l0, l1, l2, l3, l4] st σ Q) := WP_if_eq mq141 dd141_10 (by decide)
theorem dd141_13 : decode cX11_meant 13 = .ok (.iload 4, 2) := by decide +kernel
theorem ww141_13 {d : Nat} {l0 l1 l2 l3 : Option mw_V} {x : Int} {st : List mw_V} {σ : mw_S} {Q : Option mw_V → mw_S → Prop} : mw_WP d 141 13 [l0, l1, l2, l3, some (jI x)] st σ Q ↔ mw_WP d 141 15 [l0, l1, l2, l3, some (jI x)] (jI x :: st) σ Q := WP_iload mq141 dd141_13 rfl
theorem dd141_15 : decode cX11_meant 15 = .ok (.ireturn, 1) := by decide +kernel
theorem ww141_15 {d : Nat} {l0 l1 l2 l3 l4 : Option mw_V} {z : Int} {σ : mw_S} {Q : Option mw_V → mw_S → Prop} : mw_WP d 141 15 [l0, l1, l2, l3, l4] [jI z] σ Q ↔ Q (some (jI z)) σ := WP_ireturn (ty := .int) mq141 dd141_15 rfl rfl
theorem dd141_16 : decode cX11_meant 16 = .ok (.aload_n 0, 1) := by decide +kernel
theorem ww141_16 {d : Nat} {l1 l2 l3 l4 : Option mw_V} {x : Nat} {st : List mw_V} {σ : mw_S} {Q : Option mw_V → mw_S → Prop} : mw_WP d 141 16 [some (jR x), l1, l2, l3, l4] st σ Q ↔ mw_WP d 141 17 [some (jR x), l1, l2, l3, l4] (jR x :: st) σ Q := WP_aload_n mq141 dd141_16 rfl
theorem dd141_17 : decode cX11_meant 17 = .ok (.getfield 58, 3) := by decide +kernel
theorem ww141_17 {d : Nat} {l0 l1 l2 l3 l4 : Option mw_V} {st : List mw_V} {σ : mw_S} {Q : Option mw_V → mw_S → Prop} : mw_WP d 141 17 [l0, l1, l2, l3, l4] (jR 0 :: st) σ Q ↔ mw_WP d 141 20 [l0, l1, l2, l3, l4] (jR 55 :: st) σ Q := WP_getR (ci := 10) (k := 6) mq141 dd141_17 (by decide) rfl
theorem dd141_20 : decode cX11_meant 20 = .ok (.aload_n 0, 1) := by decide +kernel
theorem ww141_20 {d : Nat} {l1 l2 l3 l4 : Option mw_V} {x : Nat} {st : List mw_V} {σ : mw_S} {Q : Option mw_V → mw_S → Prop} : mw_WP d 141 20 [some (jR x), l1, l2, l3, l4] st σ Q ↔ mw_WP d 141 21 [some (jR x), l1, l2, l3, l4] (jR x :: st) σ Q := WP_aload_n mq141 dd141_20 rfl
theorem dd141_21 : decode cX11_meant 21 = .ok (.getfield 86, 3) := by decide +kernel
theorem ww141_21 {d : Nat} {l0 l1 l2 l3 l4 : Option mw_V} {st : List mw_V} {σ : mw_S} {Q : Option mw_V → mw_S → Prop} : mw_WP d 141 21 [l0, l1, l2, l3, l4] (jR 0 :: st) σ Q ↔ mw_WP d 141 24 [l0, l1, l2, l3, l4] (jR 98 :: st) σ Q := WP_getR (ci := 10) (k := 11) mq141 dd141_21 (by decide) rfl
theorem dd141_24 : decode cX11_meant 24 = .ok (.iload_n 1, 1) := by decide +kernel
theorem ww141_24 {d : Nat} {l0 l2 l3 l4 : Option mw_V} {x : Int} {st : List mw_V} {σ : mw_S} {Q : Option mw_V → mw_S → Prop} : mw_WP d 141 24 [l0, some (jI x), l2, l3, l4] st σ Q ↔ mw_WP d 141 25 [l0, some (jI x), l2, l3, l4] (jI x :: st) σ Q := WP_iload_n mq141 dd141_24 rfl
theorem dd141_25 : decode cX11_meant 25 = .ok (.iload_n 3, 1) := by decide +kernel
theorem ww141_25 {d : Nat} {l0 l1 l2 l4 : Option mw_V} {x : Int} {st : List mw_V} {σ : mw_S} {Q : Option mw_V → mw_S → Prop} : mw_WP d 141 25 [l0, l1, l2, some (jI x), l4] st σ Q ↔ mw_WP d 141 26 [l0, l1, l2, some (jI x), l4] (jI x :: st) σ Q := WP_iload_n mq141 dd141_25 rfl
theorem dd141_26 : decode cX11_meant 26 = .ok (.iconst (-1), 1) := by decide +kernel
theorem ww141_26 {d : Nat} {l0 l1 l2 l3 l4 : Option mw_V} {st : List mw_V} {σ : mw_S} {Q : Option mw_V → mw_S → Prop} : mw_WP d 141 26 [l0, l1, l2, l3, l4] st σ Q ↔ mw_WP d 141 27 [l0, l1, l2, l3, l4] (jI (-1) :: st) σ Q := WP_iconst mq141 dd141_26 (by decide)
theorem dd141_27 : decode cX11_meant 27 = .ok (.invokevirtual 278, 3) := by decide +kernel
theorem ww141_27 {d : Nat} {l0 l1 l2 l3 l4 : Option mw_V} {v0 v1 v2 v3 : mw_V} {a : Nat} {st : List mw_V} {σ : mw_S} {Q : Option mw_V → mw_S → Prop} (hr : mw_rc a = 3) (h8 : (st.map mw_cat).sum ≤ 8) : mw_WP d 141 27 [l0, l1, l2, l3, l4] (v3 :: v2 :: v1 :: v0 :: jR a :: st) σ Q ↔ mw_Call d 21 [jR a, v0, v1, v2, v3] σ (fun r1 s1 => mw_WP d 141 30 [l0, l1, l2, l3, l4] (r1.toList ++ st) s1 Q) := WP_inv (as := [v3, v2, v1, v0]) mq141 dd141_27 (by decide) mq21 rfl hr h8
theorem dd141_30 : decode cX11_meant 30 = .ok (.iload_n 3, 1) := by decide +kernel
theorem ww141_30 {d : Nat} {l0 l1 l2 l4 : Option mw_V} {x : Int} {st : List mw_V} {σ : mw_S} {Q : Option mw_V → mw_S → Prop} : mw_WP d 141 30 [l0, l1, l2, some (jI x), l4] st σ Q ↔ mw_WP d 141 31 [l0, l1, l2, some (jI x), l4] (jI x :: st) σ Q := WP_iload_n mq141 dd141_30 rfl
theorem dd141_31 : decode cX11_meant 31 = .ok (.iconst (-1), 1) := by decide +kernel
theorem ww141_31 {d : Nat} {l0 l1 l2 l3 l4 : Option mw_V} {st : List mw_V} {σ : mw_S} {Q : Option mw_V → mw_S → Prop} : mw_WP d 141 31 [l0, l1, l2, l3, l4] st σ Q ↔ mw_WP d 141 32 [l0, l1, l2, l3, l4] (jI (-1) :: st) σ Q := WP_iconst mq141 dd141_31 (by decide)
theorem dd141_32 : decode cX11_meant 32 = .ok (.if_icmp .ne 13, 3) := by decide +kernel
theorem ww141_32 {d : Nat} {l0 l1 l2 l3 l4 : Option mw_V} {x y : Int} {st : List mw_V} {σ : mw_S} {Q : Option mw_V → mw_S → Prop} : mw_WP d 141 32 [l0, l1, l2, l3, l4] (jI y :: jI x :: st) σ Q ↔ (if ¬ x = y then mw_WP d 141 45 [l0, l1, l2, l3, l4] st σ Q else mw_WP d 141 35 [l0, l1, l2, l3, l4] st σ Q) := WP_icmp_ne mq141 dd141_32 (by decide)
theorem dd141_35 : decode cX11_meant 35 = .ok (.aload_n 0, 1) := by decide +kernel
theorem ww141_35 {d : Nat} {l1 l2 l3 l4 : Option mw_V} {x : Nat} {st : List mw_V} {σ : mw_S} {Q : Option mw_V → mw_S → Prop} : mw_WP d 141 35 [some (jR x), l1, l2, l3, l4] st σ Q ↔ mw_WP d 141 36 [some (jR x), l1, l2, l3, l4] (jR x :: st) σ Q := WP_aload_n mq141 dd141_35 rfl
theorem dd141_36 : decode cX11_meant 36 = .ok (.getfield 58, 3) := by decide +kernel
theorem ww141_36 {d : Nat} {l0 l1 l2 l3 l4 : Option mw_V} {st : List mw_V} {σ : mw_S} {Q : Option mw_V → mw_S → Prop} : mw_WP d 141 36 [l0, l1, l2, l3, l4] (jR 0 :: st) σ Q ↔ mw_WP d 141 39 [l0, l1, l2, l3, l4] (jR 55 :: st) σ Q := WP_getR (ci := 10) (k := 6) mq141 dd141_36 (by decide) rfl
theorem dd141_39 : decode cX11_meant 39 = .ok (.getfield 282, 3) := by decide +kernel
theorem ww141_39 {d : Nat} {l0 l1 l2 l3 l4 : Option mw_V} {st : List mw_V} {σ : mw_S} {Q : Option mw_V → mw_S → Prop} : mw_WP d 141 39 [l0, l1, l2, l3, l4] (jR 55 :: st) σ Q ↔ mw_WP d 141 42 [l0, l1, l2, l3, l4] (jI (σ 55 0) :: st) σ Q := WP_getI (ci := 2) (k := 0) mq141 dd141_39 (by decide) (Or.inl rfl)
theorem dd141_42 : decode cX11_meant 42 = .ok (.goto 10, 3) := by decide +kernel
theorem ww141_42 {d : Nat} {l0 l1 l2 l3 l4 : Option mw_V} {st : List mw_V} {σ : mw_S} {Q : Option mw_V → mw_S → Prop} : mw_WP d 141 42 [l0, l1, l2, l3, l4] st σ Q ↔ mw_WP d 141 52 [l0, l1, l2, l3, l4] st σ Q := WP_goto mq141 dd141_42 (by decide)
theorem dd141_45 : decode cX11_meant 45 = .ok (.aload_n 0, 1) := by decide +kernel
theorem ww141_45 {d : Nat} {l1 l2 l3 l4 : Option mw_V} {x : Nat} {st : List mw_V} {σ : mw_S} {Q : Option mw_V → mw_S → Prop} : mw_WP d 141 45 [some (jR x), l1, l2, l3, l4] st σ Q ↔ mw_WP d 141 46 [some (jR x), l1, l2, l3, l4] (jR x :: st) σ Q := WP_aload_n mq141 dd141_45 rfl
theorem dd141_46 : decode cX11_meant 46 = .ok (.getfield 58, 3) := by decide +kernel
theorem ww141_46 {d : Nat} {l0 l1 l2 l3 l4 : Option mw_V} {st : List mw_V} {σ : mw_S} {Q : Option mw_V → mw_S → Prop} : mw_WP d 141 46 [l0, l1, l2, l3, l4] (jR 0 :: st) σ Q ↔ mw_WP d 141 49 [l0, l1, l2, l3, l4] (jR 55 :: st) σ Q := WP_getR (ci := 10) (k := 6) mq141 dd141_46 (by decide) rfl
theorem dd141_49 : decode cX11_meant 49 = .ok (.getfield 285, 3) := by decide +kernel
theorem ww141_49 {d : Nat} {l0 l1 l2 l3 l4 : Option mw_V} {st : List mw_V} {σ : mw_S} {Q : Option mw_V → mw_S → Prop} : mw_WP d 141 49 [l0, l1, l2, l3, l4] (jR 55 :: st) σ Q ↔ mw_WP d 141 52 [l0, l1, l2, l3, l4] (jI (σ 55 1) :: st) σ Q := WP_getI (ci := 2) (k := 1) mq141 dd141_49 (by decide) (Or.inl rfl)
theorem dd141_52 : decode cX11_meant 52 = .ok (.ireturn, 1) := by decide +kernel
theorem ww141_52 {d : Nat} {l0 l1 l2 l3 l4 : Option mw_V} {z : Int} {σ : mw_S} {Q : Option mw_V → mw_S → Prop} : mw_WP d 141 52 [l0, l1, l2, l3, l4] [jI z] σ Q ↔ Q (some (jI z)) σ := WP_ireturn (ty := .int) mq141 dd141_52 rfl rfl
theorem ee142 {d : Nat} {a : Nat} {z0 : Int} {z1 : Int} {z2 : Int} {σ : mw_S} {Q : Option mw_V → mw_S → Prop} : mw_Call (d + 1) 142 [jR a, jI z0, jI z1, jI z2] σ Q ↔ mw_WP d 142 0 [some (jR a), some (jI z0), some (jI z1), some (jI z2), none] [] σ Q := CL_u mq142 (Nat.le_of_ble_eq_true rfl) rfl
theorem dd142_0 : decode cX11_maybe 0 = .ok (.aload_n 0, 1) := by decide +kernel
theorem ww142_0 {d : Nat} {l1 l2 l3 l4 : Option mw_V} {x : Nat} {st : List mw_V} {σ : mw_S} {Q : Option mw_V → mw_S → Prop} : mw_WP d 142 0 [some (jR x), l1, l2, l3, l4] st σ Q ↔ mw_WP d 142 1 [some (jR x), l1, l2, l3, l4] (jR x :: st) σ Q := WP_aload_n mq142 dd142_0 rfl
theorem dd142_1 : decode cX11_maybe 1 = .ok (.iload_n 1, 1) := by decide +kernel
theorem ww142_1 {d : Nat} {l0 l2 l3 l4 : Option mw_V} {x : Int} {st : List mw_V} {σ : mw_S} {Q : Option mw_V → mw_S → Prop} : mw_WP d 142 1 [l0, some (jI x), l2, l3, l4] st σ Q ↔ mw_WP d 142 2 [l0, some (jI x), l2, l3, l4] (jI x :: st) σ Q := WP_iload_n mq142 dd142_1 rfl
theorem dd142_2 : decode cX11_maybe 2 = .ok (.iload_n 2, 1) := by decide +kernel
theorem ww142_2 {d : Nat} {l0 l1 l3 l4 : Option mw_V} {x : Int} {st : List mw_V} {σ : mw_S} {Q : Option mw_V → mw_S → Prop} : mw_WP d 142 2 [l0, l1, some (jI x), l3, l4] st σ Q ↔ mw_WP d 142 3 [l0, l1, some (jI x), l3, l4] (jI x :: st) σ Q := WP_iload_n mq142 dd142_2 rfl
theorem dd142_3 : decode cX11_maybe 3 = .ok (.invokevirtual 275, 3) := by decide +kernel
theorem ww142_3 {d : Nat} {l0 l1 l2 l3 l4 : Option mw_V} {v0 v1 : mw_V} {a : Nat} {st : List mw_V} {σ : mw_S} {Q : Option mw_V → mw_S → Prop} (hr : mw_rc a = 11) (h8 : (st.map mw_cat).sum ≤ 8) : mw_WP d 142 3 [l0, l1, l2, l3, l4] (v1 :: v0 :: jR a :: st) σ Q ↔ mw_Call d 167 [jR a, v0, v1] σ (fun r1 s1 => mw_WP d 142 6 [l0, l1, l2, l3, l4] (r1.toList ++ st) s1 Q) := WP_inv (as := [v1, v0]) mq142 dd142_3 (by decide) mq167 rfl hr h8
theorem dd142_6 : decode cX11_maybe 6 = .ok (.istore 4, 2) := by decide +kernel
theorem ww142_6 {d : Nat} {l0 l1 l2 l3 l4 : Option mw_V} {x : Int} {st : List mw_V} {σ : mw_S} {Q : Option mw_V → mw_S → Prop} (h : mw_nlo l3 = true) : mw_WP d 142 6 [l0, l1, l2, l3, l4] (jI x :: st) σ Q ↔ mw_WP d 142 8 [l0, l1, l2, l3, some (jI x)] st σ Q := WP_istore mq142 dd142_6 (Nat.le_of_ble_eq_true rfl) (mw_nl_of (i := 3) rfl h) rfl
theorem dd142_8 : decode cX11_maybe 8 = .ok (.iload 4, 2) := by decide +kernel
theorem ww142_8 {d : Nat} {l0 l1 l2 l3 : Option mw_V} {x : Int} {st : List mw_V} {σ : mw_S} {Q : Option mw_V → mw_S → Prop} : mw_WP d 142 8 [l0, l1, l2, l3, some (jI x)] st σ Q ↔ mw_WP d 142 10 [l0, l1, l2, l3, some (jI x)] (jI x :: st) σ Q := WP_iload mq142 dd142_8 rfl
theorem dd142_10 : decode cX11_maybe 10 = .ok (.ifCond .eq 6, 3) := by decide +kernel
theorem ww142_10 {d : Nat} {l0 l1 l2 l3 l4 : Option mw_V} {x : Int} {st : List mw_V} {σ : mw_S} {Q : Option mw_V → mw_S → Prop} : mw_WP d 142 10 [l0, l1, l2, l3, l4] (jI x :: st) σ Q ↔ (if x = 0 then mw_WP d 142 16 [l0, l1, l2, l3, l4] st σ Q else mw_WP d 142 13 [l0, l1, l2, l3, l4] st σ Q) := WP_if_eq mq142 dd142_10 (by decide)
theorem dd142_13 : decode cX11_maybe 13 = .ok (.iload 4, 2) := by decide +kernel
theorem ww142_13 {d : Nat} {l0 l1 l2 l3 : Option mw_V} {x : Int} {st : List mw_V} {σ : mw_S} {Q : Option mw_V → mw_S → Prop} : mw_WP d 142 13 [l0, l1, l2, l3, some (jI x)] st σ Q ↔ mw_WP d 142 15 [l0, l1, l2, l3, some (jI x)] (jI x :: st) σ Q := WP_iload mq142 dd142_13 rfl
theorem dd142_15 : decode cX11_maybe 15 = .ok (.ireturn, 1) := by decide +kernel
theorem ww142_15 {d : Nat} {l0 l1 l2 l3 l4 : Option mw_V} {z : Int} {σ : mw_S} {Q : Option mw_V → mw_S → Prop} : mw_WP d 142 15 [l0, l1, l2, l3, l4] [jI z] σ Q ↔ Q (some (jI z)) σ := WP_ireturn (ty := .int) mq142 dd142_15 rfl rfl
theorem dd142_16 : decode cX11_maybe 16 = .ok (.iload_n 3, 1) := by decide +kernel
theorem ww142_16 {d : Nat} {l0 l1 l2 l4 : Option mw_V} {x : Int} {st : List mw_V} {σ : mw_S} {Q : Option mw_V → mw_S → Prop} : mw_WP d 142 16 [l0, l1, l2, some (jI x), l4] st σ Q ↔ mw_WP d 142 17 [l0, l1, l2, some (jI x), l4] (jI x :: st) σ Q := WP_iload_n mq142 dd142_16 rfl
theorem dd142_17 : decode cX11_maybe 17 = .ok (.ifCond .lt 15, 3) := by decide +kernel
theorem ww142_17 {d : Nat} {l0 l1 l2 l3 l4 : Option mw_V} {x : Int} {st : List mw_V} {σ : mw_S} {Q : Option mw_V → mw_S → Prop} : mw_WP d 142 17 [l0, l1, l2, l3, l4] (jI x :: st) σ Q ↔ (if x < 0 then mw_WP d 142 32 [l0, l1, l2, l3, l4] st σ Q else mw_WP d 142 20 [l0, l1, l2, l3, l4] st σ Q) := WP_if_lt mq142 dd142_17 (by decide)
theorem dd142_20 : decode cX11_maybe 20 = .ok (.iload_n 3, 1) := by decide +kernel
theorem ww142_20 {d : Nat} {l0 l1 l2 l4 : Option mw_V} {x : Int} {st : List mw_V} {σ : mw_S} {Q : Option mw_V → mw_S → Prop} : mw_WP d 142 20 [l0, l1, l2, some (jI x), l4] st σ Q ↔ mw_WP d 142 21 [l0, l1, l2, some (jI x), l4] (jI x :: st) σ Q := WP_iload_n mq142 dd142_20 rfl
theorem dd142_21 : decode cX11_maybe 21 = .ok (.aload_n 0, 1) := by decide +kernel
theorem ww142_21 {d : Nat} {l1 l2 l3 l4 : Option mw_V} {x : Nat} {st : List mw_V} {σ : mw_S} {Q : Option mw_V → mw_S → Prop} : mw_WP d 142 21 [some (jR x), l1, l2, l3, l4] st σ Q ↔ mw_WP d 142 22 [some (jR x), l1, l2, l3, l4] (jR x :: st) σ Q := WP_aload_n mq142 dd142_21 rfl
theorem dd142_22 : decode cX11_maybe 22 = .ok (.getfield 42, 3) := by decide +kernel
theorem ww142_22 {d : Nat} {l0 l1 l2 l3 l4 : Option mw_V} {st : List mw_V} {σ : mw_S} {Q : Option mw_V → mw_S → Prop} : mw_WP d 142 22 [l0, l1, l2, l3, l4] (jR 0 :: st) σ Q ↔ mw_WP d 142 25 [l0, l1, l2, l3, l4] (jR 37 :: st) σ Q := WP_getR (ci := 10) (k := 4) mq142 dd142_22 (by decide) rfl
theorem dd142_25 : decode cX11_maybe 25 = .ok (.iload_n 2, 1) := by decide +kernel
theorem ww142_25 {d : Nat} {l0 l1 l3 l4 : Option mw_V} {x : Int} {st : List mw_V} {σ : mw_S} {Q : Option mw_V → mw_S → Prop} : mw_WP d 142 25 [l0, l1, some (jI x), l3, l4] st σ Q ↔ mw_WP d 142 26 [l0, l1, some (jI x), l3, l4] (jI x :: st) σ Q := WP_iload_n mq142 dd142_25 rfl
theorem dd142_26 : decode cX11_maybe 26 = .ok (.invokevirtual 188, 3) := by decide +kernel
theorem ww142_26 {d : Nat} {l0 l1 l2 l3 l4 : Option mw_V} {v0 : mw_V} {a : Nat} {st : List mw_V} {σ : mw_S} {Q : Option mw_V → mw_S → Prop} (hr : mw_rc a = 10) (h8 : (st.map mw_cat).sum ≤ 8) : mw_WP d 142 26 [l0, l1, l2, l3, l4] (v0 :: jR a :: st) σ Q ↔ mw_Call d 114 [jR a, v0] σ (fun r1 s1 => mw_WP d 142 29 [l0, l1, l2, l3, l4] (r1.toList ++ st) s1 Q) := WP_inv (as := [v0]) mq142 dd142_26 (by decide) mq114 rfl hr h8
theorem dd142_29 : decode cX11_maybe 29 = .ok (.if_icmp .lt 6, 3) := by decide +kernel
theorem ww142_29 {d : Nat} {l0 l1 l2 l3 l4 : Option mw_V} {x y : Int} {st : List mw_V} {σ : mw_S} {Q : Option mw_V → mw_S → Prop} : mw_WP d 142 29 [l0, l1, l2, l3, l4] (jI y :: jI x :: st) σ Q ↔ (if x < y then mw_WP d 142 35 [l0, l1, l2, l3, l4] st σ Q else mw_WP d 142 32 [l0, l1, l2, l3, l4] st σ Q) := WP_icmp_lt mq142 dd142_29 (by decide)
theorem dd142_32 : decode cX11_maybe 32 = .ok (.bipush (-3), 2) := by decide +kernel
theorem ww142_32 {d : Nat} {l0 l1 l2 l3 l4 : Option mw_V} {st : List mw_V} {σ : mw_S} {Q : Option mw_V → mw_S → Prop} : mw_WP d 142 32 [l0, l1, l2, l3, l4] st σ Q ↔ mw_WP d 142 34 [l0, l1, l2, l3, l4] (jI (-3) :: st) σ Q := WP_bipush mq142 dd142_32 (by decide)
theorem dd142_34 : decode cX11_maybe 34 = .ok (.ireturn, 1) := by decide +kernel
theorem ww142_34 {d : Nat} {l0 l1 l2 l3 l4 : Option mw_V} {z : Int} {σ : mw_S} {Q : Option mw_V → mw_S → Prop} : mw_WP d 142 34 [l0, l1, l2, l3, l4] [jI z] σ Q ↔ Q (some (jI z)) σ := WP_ireturn (ty := .int) mq142 dd142_34 rfl rfl
theorem dd142_35 : decode cX11_maybe 35 = .ok (.aload_n 0, 1) := by decide +kernel
theorem ww142_35 {d : Nat} {l1 l2 l3 l4 : Option mw_V} {x : Nat} {st : List mw_V} {σ : mw_S} {Q : Option mw_V → mw_S → Prop} : mw_WP d 142 35 [some (jR x), l1, l2, l3, l4] st σ Q ↔ mw_WP d 142 36 [some (jR x), l1, l2, l3, l4] (jR x :: st) σ Q := WP_aload_n mq142 dd142_35 rfl
theorem dd142_36 : decode cX11_maybe 36 = .ok (.getfield 58, 3) := by decide +kernel
theorem ww142_36 {d : Nat} {l0 l1 l2 l3 l4 : Option mw_V} {st : List mw_V} {σ : mw_S} {Q : Option mw_V → mw_S → Prop} : mw_WP d 142 36 [l0, l1, l2, l3, l4] (jR 0 :: st) σ Q ↔ mw_WP d 142 39 [l0, l1, l2, l3, l4] (jR 55 :: st) σ Q := WP_getR (ci := 10) (k := 6) mq142 dd142_36 (by decide) rfl
theorem dd142_39 : decode cX11_maybe 39 = .ok (.aload_n 0, 1) := by decide +kernel
theorem ww142_39 {d : Nat} {l1 l2 l3 l4 : Option mw_V} {x : Nat} {st : List mw_V} {σ : mw_S} {Q : Option mw_V → mw_S → Prop} : mw_WP d 142 39 [some (jR x), l1, l2, l3, l4] st σ Q ↔ mw_WP d 142 40 [some (jR x), l1, l2, l3, l4] (jR x :: st) σ Q := WP_aload_n mq142 dd142_39 rfl
theorem dd142_40 : decode cX11_maybe 40 = .ok (.getfield 86, 3) := by decide +kernel
theorem ww142_40 {d : Nat} {l0 l1 l2 l3 l4 : Option mw_V} {st : List mw_V} {σ : mw_S} {Q : Option mw_V → mw_S → Prop} : mw_WP d 142 40 [l0, l1, l2, l3, l4] (jR 0 :: st) σ Q ↔ mw_WP d 142 43 [l0, l1, l2, l3, l4] (jR 98 :: st) σ Q := WP_getR (ci := 10) (k := 11) mq142 dd142_40 (by decide) rfl
theorem dd142_43 : decode cX11_maybe 43 = .ok (.iload_n 1, 1) := by decide +kernel
theorem ww142_43 {d : Nat} {l0 l2 l3 l4 : Option mw_V} {x : Int} {st : List mw_V} {σ : mw_S} {Q : Option mw_V → mw_S → Prop} : mw_WP d 142 43 [l0, some (jI x), l2, l3, l4] st σ Q ↔ mw_WP d 142 44 [l0, some (jI x), l2, l3, l4] (jI x :: st) σ Q := WP_iload_n mq142 dd142_43 rfl
theorem dd142_44 : decode cX11_maybe 44 = .ok (.iconst (-1), 1) := by decide +kernel
theorem ww142_44 {d : Nat} {l0 l1 l2 l3 l4 : Option mw_V} {st : List mw_V} {σ : mw_S} {Q : Option mw_V → mw_S → Prop} : mw_WP d 142 44 [l0, l1, l2, l3, l4] st σ Q ↔ mw_WP d 142 45 [l0, l1, l2, l3, l4] (jI (-1) :: st) σ Q := WP_iconst mq142 dd142_44 (by decide)
theorem dd142_45 : decode cX11_maybe 45 = .ok (.iload_n 3, 1) := by decide +kernel
theorem ww142_45 {d : Nat} {l0 l1 l2 l4 : Option mw_V} {x : Int} {st : List mw_V} {σ : mw_S} {Q : Option mw_V → mw_S → Prop} : mw_WP d 142 45 [l0, l1, l2, some (jI x), l4] st σ Q ↔ mw_WP d 142 46 [l0, l1, l2, some (jI x), l4] (jI x :: st) σ Q := WP_iload_n mq142 dd142_45 rfl
theorem dd142_46 : decode cX11_maybe 46 = .ok (.invokevirtual 278, 3) := by decide +kernel
theorem ww142_46 {d : Nat} {l0 l1 l2 l3 l4 : Option mw_V} {v0 v1 v2 v3 : mw_V} {a : Nat} {st : List mw_V} {σ : mw_S} {Q : Option mw_V → mw_S → Prop} (hr : mw_rc a = 3) (h8 : (st.map mw_cat).sum ≤ 8) : mw_WP d 142 46 [l0, l1, l2, l3, l4] (v3 :: v2 :: v1 :: v0 :: jR a :: st) σ Q ↔ mw_Call d 21 [jR a, v0, v1, v2, v3] σ (fun r1 s1 => mw_WP d 142 49 [l0, l1, l2, l3, l4] (r1.toList ++ st) s1 Q) := WP_inv (as := [v3, v2, v1, v0]) mq142 dd142_46 (by decide) mq21 rfl hr h8
theorem dd142_49 : decode cX11_maybe 49 = .ok (.aload_n 0, 1) := by decide +kernel
theorem ww142_49 {d : Nat} {l1 l2 l3 l4 : Option mw_V} {x : Nat} {st : List mw_V} {σ : mw_S} {Q : Option mw_V → mw_S → Prop} : mw_WP d 142 49 [some (jR x), l1, l2, l3, l4] st σ Q ↔ mw_WP d 142 50 [some (jR x), l1, l2, l3, l4] (jR x :: st) σ Q := WP_aload_n mq142 dd142_49 rfl
theorem dd142_50 : decode cX11_maybe 50 = .ok (.getfield 58, 3) := by decide +kernel
theorem ww142_50 {d : Nat} {l0 l1 l2 l3 l4 : Option mw_V} {st : List mw_V} {σ : mw_S} {Q : Option mw_V → mw_S → Prop} : mw_WP d 142 50 [l0, l1, l2, l3, l4] (jR 0 :: st) σ Q ↔ mw_WP d 142 53 [l0, l1, l2, l3, l4] (jR 55 :: st) σ Q := WP_getR (ci := 10) (k := 6) mq142 dd142_50 (by decide) rfl
theorem dd142_53 : decode cX11_maybe 53 = .ok (.getfield 288, 3) := by decide +kernel
theorem ww142_53 {d : Nat} {l0 l1 l2 l3 l4 : Option mw_V} {st : List mw_V} {σ : mw_S} {Q : Option mw_V → mw_S → Prop} : mw_WP d 142 53 [l0, l1, l2, l3, l4] (jR 55 :: st) σ Q ↔ mw_WP d 142 56 [l0, l1, l2, l3, l4] (jI (σ 55 2) :: st) σ Q := WP_getI (ci := 2) (k := 2) mq142 dd142_53 (by decide) (Or.inl rfl)
theorem dd142_56 : decode cX11_maybe 56 = .ok (.ireturn, 1) := by decide +kernel
theorem ww142_56 {d : Nat} {l0 l1 l2 l3 l4 : Option mw_V} {z : Int} {σ : mw_S} {Q : Option mw_V → mw_S → Prop} : mw_WP d 142 56 [l0, l1, l2, l3, l4] [jI z] σ Q ↔ Q (some (jI z)) σ := WP_ireturn (ty := .int) mq142 dd142_56 rfl rfl
theorem ee143 {d : Nat} {a : Nat} {z0 : Int} {z1 : Int} {z2 : Int} {σ : mw_S} {Q : Option mw_V → mw_S → Prop} : mw_Call (d + 1) 143 [jR a, jI z0, jI z1, jI z2] σ Q ↔ mw_WP d 143 0 [some (jR a), some (jI z0), some (jI z1), some (jI z2), none] [] σ Q := CL_u mq143 (Nat.le_of_ble_eq_true rfl) rfl
theorem dd143_0 : decode cX11_odds 0 = .ok (.aload_n 0, 1) := by decide +kernel
theorem ww143_0 {d : Nat} {l1 l2 l3 l4 : Option mw_V} {x : Nat} {st : List mw_V} {σ : mw_S} {Q : Option mw_V → mw_S → Prop} : mw_WP d 143 0 [some (jR x), l1, l2, l3, l4] st σ Q ↔ mw_WP d 143 1 [some (jR x), l1, l2, l3, l4] (jR x :: st) σ Q := WP_aload_n mq143 dd143_0 rfl
theorem dd143_1 : decode cX11_odds 1 = .ok (.iload_n 1, 1) := by decide +kernel
theorem ww143_1 {d : Nat} {l0 l2 l3 l4 : Option mw_V} {x : Int} {st : List mw_V} {σ : mw_S} {Q : Option mw_V → mw_S → Prop} : mw_WP d 143 1 [l0, some (jI x), l2, l3, l4] st σ Q ↔ mw_WP d 143 2 [l0, some (jI x), l2, l3, l4] (jI x :: st) σ Q := WP_iload_n mq143 dd143_1 rfl
theorem dd143_2 : decode cX11_odds 2 = .ok (.invokevirtual 131, 3) := by decide +kernel
theorem ww143_2 {d : Nat} {l0 l1 l2 l3 l4 : Option mw_V} {v0 : mw_V} {a : Nat} {st : List mw_V} {σ : mw_S} {Q : Option mw_V → mw_S → Prop} (hr : mw_rc a = 11) (h8 : (st.map mw_cat).sum ≤ 8) : mw_WP d 143 2 [l0, l1, l2, l3, l4] (v0 :: jR a :: st) σ Q ↔ mw_Call d 157 [jR a, v0] σ (fun r1 s1 => mw_WP d 143 5 [l0, l1, l2, l3, l4] (r1.toList ++ st) s1 Q) := WP_inv (as := [v0]) mq143 dd143_2 (by decide) mq157 rfl hr h8
theorem dd143_5 : decode cX11_odds 5 = .ok (.ifCond .eq 14, 3) := by decide +kernel
theorem ww143_5 {d : Nat} {l0 l1 l2 l3 l4 : Option mw_V} {x : Int} {st : List mw_V} {σ : mw_S} {Q : Option mw_V → mw_S → Prop} : mw_WP d 143 5 [l0, l1, l2, l3, l4] (jI x :: st) σ Q ↔ (if x = 0 then mw_WP d 143 19 [l0, l1, l2, l3, l4] st σ Q else mw_WP d 143 8 [l0, l1, l2, l3, l4] st σ Q) := WP_if_eq mq143 dd143_5 (by decide)
theorem dd143_8 : decode cX11_odds 8 = .ok (.aload_n 0, 1) := by decide +kernel
theorem ww143_8 {d : Nat} {l1 l2 l3 l4 : Option mw_V} {x : Nat} {st : List mw_V} {σ : mw_S} {Q : Option mw_V → mw_S → Prop} : mw_WP d 143 8 [some (jR x), l1, l2, l3, l4] st σ Q ↔ mw_WP d 143 9 [some (jR x), l1, l2, l3, l4] (jR x :: st) σ Q := WP_aload_n mq143 dd143_8 rfl
theorem dd143_9 : decode cX11_odds 9 = .ok (.getfield 42, 3) := by decide +kernel
theorem ww143_9 {d : Nat} {l0 l1 l2 l3 l4 : Option mw_V} {st : List mw_V} {σ : mw_S} {Q : Option mw_V → mw_S → Prop} : mw_WP d 143 9 [l0, l1, l2, l3, l4] (jR 0 :: st) σ Q ↔ mw_WP d 143 12 [l0, l1, l2, l3, l4] (jR 37 :: st) σ Q := WP_getR (ci := 10) (k := 4) mq143 dd143_9 (by decide) rfl
theorem dd143_12 : decode cX11_odds 12 = .ok (.iload_n 2, 1) := by decide +kernel
theorem ww143_12 {d : Nat} {l0 l1 l3 l4 : Option mw_V} {x : Int} {st : List mw_V} {σ : mw_S} {Q : Option mw_V → mw_S → Prop} : mw_WP d 143 12 [l0, l1, some (jI x), l3, l4] st σ Q ↔ mw_WP d 143 13 [l0, l1, some (jI x), l3, l4] (jI x :: st) σ Q := WP_iload_n mq143 dd143_12 rfl
theorem dd143_13 : decode cX11_odds 13 = .ok (.invokevirtual 176, 3) := by decide +kernel
theorem ww143_13 {d : Nat} {l0 l1 l2 l3 l4 : Option mw_V} {v0 : mw_V} {a : Nat} {st : List mw_V} {σ : mw_S} {Q : Option mw_V → mw_S → Prop} (hr : mw_rc a = 10) (h8 : (st.map mw_cat).sum ≤ 8) : mw_WP d 143 13 [l0, l1, l2, l3, l4] (v0 :: jR a :: st) σ Q ↔ mw_Call d 112 [jR a, v0] σ (fun r1 s1 => mw_WP d 143 16 [l0, l1, l2, l3, l4] (r1.toList ++ st) s1 Q) := WP_inv (as := [v0]) mq143 dd143_13 (by decide) mq112 rfl hr h8
theorem dd143_16 : decode cX11_odds 16 = .ok (.ifCond .ne 7, 3) := by decide +kernel
theorem ww143_16 {d : Nat} {l0 l1 l2 l3 l4 : Option mw_V} {x : Int} {st : List mw_V} {σ : mw_S} {Q : Option mw_V → mw_S → Prop} : mw_WP d 143 16 [l0, l1, l2, l3, l4] (jI x :: st) σ Q ↔ (if ¬ x = 0 then mw_WP d 143 23 [l0, l1, l2, l3, l4] st σ Q else mw_WP d 143 19 [l0, l1, l2, l3, l4] st σ Q) := WP_if_ne mq143 dd143_16 (by decide)
theorem dd143_19 : decode cX11_odds 19 = .ok (.ldc2_w 291, 3) := by decide +kernel
theorem ww143_19 {d : Nat} {l0 l1 l2 l3 l4 : Option mw_V} {st : List mw_V} {σ : mw_S} {Q : Option mw_V → mw_S → Prop} : mw_WP d 143 19 [l0, l1, l2, l3, l4] st σ Q ↔ mw_WP d 143 22 [l0, l1, l2, l3, l4] (jL (-2) :: st) σ Q := WP_ldc2_w (v := -2) mq143 dd143_19 (by decide) (by decide)
theorem dd143_22 : decode cX11_odds 22 = .ok (.lreturn, 1) := by decide +kernel
theorem ww143_22 {d : Nat} {l0 l1 l2 l3 l4 : Option mw_V} {z : Int} {σ : mw_S} {Q : Option mw_V → mw_S → Prop} : mw_WP d 143 22 [l0, l1, l2, l3, l4] [jL z] σ Q ↔ Q (some (jL z)) σ := WP_lreturn mq143 dd143_22 rfl
theorem dd143_23 : decode cX11_odds 23 = .ok (.aload_n 0, 1) := by decide +kernel
theorem ww143_23 {d : Nat} {l1 l2 l3 l4 : Option mw_V} {x : Nat} {st : List mw_V} {σ : mw_S} {Q : Option mw_V → mw_S → Prop} : mw_WP d 143 23 [some (jR x), l1, l2, l3, l4] st σ Q ↔ mw_WP d 143 24 [some (jR x), l1, l2, l3, l4] (jR x :: st) σ Q := WP_aload_n mq143 dd143_23 rfl
theorem dd143_24 : decode cX11_odds 24 = .ok (.iload_n 2, 1) := by decide +kernel
theorem ww143_24 {d : Nat} {l0 l1 l3 l4 : Option mw_V} {x : Int} {st : List mw_V} {σ : mw_S} {Q : Option mw_V → mw_S → Prop} : mw_WP d 143 24 [l0, l1, some (jI x), l3, l4] st σ Q ↔ mw_WP d 143 25 [l0, l1, some (jI x), l3, l4] (jI x :: st) σ Q := WP_iload_n mq143 dd143_24 rfl
theorem dd143_25 : decode cX11_odds 25 = .ok (.bipush 8, 2) := by decide +kernel
theorem ww143_25 {d : Nat} {l0 l1 l2 l3 l4 : Option mw_V} {st : List mw_V} {σ : mw_S} {Q : Option mw_V → mw_S → Prop} : mw_WP d 143 25 [l0, l1, l2, l3, l4] st σ Q ↔ mw_WP d 143 27 [l0, l1, l2, l3, l4] (jI (8) :: st) σ Q := WP_bipush mq143 dd143_25 (by decide)
theorem dd143_27 : decode cX11_odds 27 = .ok (.invokevirtual 217, 3) := by decide +kernel
theorem ww143_27 {d : Nat} {l0 l1 l2 l3 l4 : Option mw_V} {v0 v1 : mw_V} {a : Nat} {st : List mw_V} {σ : mw_S} {Q : Option mw_V → mw_S → Prop} (hr : mw_rc a = 11) (h8 : (st.map mw_cat).sum ≤ 8) : mw_WP d 143 27 [l0, l1, l2, l3, l4] (v1 :: v0 :: jR a :: st) σ Q ↔ mw_Call d 165 [jR a, v0, v1] σ (fun r1 s1 => mw_WP d 143 30 [l0, l1, l2, l3, l4] (r1.toList ++ st) s1 Q) := WP_inv (as := [v1, v0]) mq143 dd143_27 (by decide) mq165 rfl hr h8
theorem dd143_30 : decode cX11_odds 30 = .ok (.istore 4, 2) := by decide +kernel
theorem ww143_30 {d : Nat} {l0 l1 l2 l3 l4 : Option mw_V} {x : Int} {st : List mw_V} {σ : mw_S} {Q : Option mw_V → mw_S → Prop} (h : mw_nlo l3 = true) : mw_WP d 143 30 [l0, l1, l2, l3, l4] (jI x :: st) σ Q ↔ mw_WP d 143 32 [l0, l1, l2, l3, some (jI x)] st σ Q := WP_istore mq143 dd143_30 (Nat.le_of_ble_eq_true rfl) (mw_nl_of (i := 3) rfl h) rfl
theorem dd143_32 : decode cX11_odds 32 = .ok (.iload 4, 2) := by decide +kernel
theorem ww143_32 {d : Nat} {l0 l1 l2 l3 : Option mw_V} {x : Int} {st : List mw_V} {σ : mw_S} {Q : Option mw_V → mw_S → Prop} : mw_WP d 143 32 [l0, l1, l2, l3, some (jI x)] st σ Q ↔ mw_WP d 143 34 [l0, l1, l2, l3, some (jI x)] (jI x :: st) σ Q := WP_iload mq143 dd143_32 rfl
theorem dd143_34 : decode cX11_odds 34 = .ok (.ifCond .eq 7, 3) := by decide +kernel
theorem ww143_34 {d : Nat} {l0 l1 l2 l3 l4 : Option mw_V} {x : Int} {st : List mw_V} {σ : mw_S} {Q : Option mw_V → mw_S → Prop} : mw_WP d 143 34 [l0, l1, l2, l3, l4] (jI x :: st) σ Q ↔ (if x = 0 then mw_WP d 143 41 [l0, l1, l2, l3, l4] st σ Q else mw_WP d 143 37 [l0, l1, l2, l3, l4] st σ Q) := WP_if_eq mq143 dd143_34 (by decide)
theorem dd143_37 : decode cX11_odds 37 = .ok (.iload 4, 2) := by decide +kernel
theorem ww143_37 {d : Nat} {l0 l1 l2 l3 : Option mw_V} {x : Int} {st : List mw_V} {σ : mw_S} {Q : Option mw_V → mw_S → Prop} : mw_WP d 143 37 [l0, l1, l2, l3, some (jI x)] st σ Q ↔ mw_WP d 143 39 [l0, l1, l2, l3, some (jI x)] (jI x :: st) σ Q := WP_iload mq143 dd143_37 rfl
theorem dd143_39 : decode cX11_odds 39 = .ok (.i2l, 1) := by decide +kernel
theorem ww143_39 {d : Nat} {l0 l1 l2 l3 l4 : Option mw_V} {x : Int} {st : List mw_V} {σ : mw_S} {Q : Option mw_V → mw_S → Prop} : mw_WP d 143 39 [l0, l1, l2, l3, l4] (jI x :: st) σ Q ↔ mw_WP d 143 40 [l0, l1, l2, l3, l4] (jL (yL x) :: st) σ Q := WP_i2l mq143 dd143_39
theorem dd143_40 : decode cX11_odds 40 = .ok (.lreturn, 1) := by decide +kernel
theorem ww143_40 {d : Nat} {l0 l1 l2 l3 l4 : Option mw_V} {z : Int} {σ : mw_S} {Q : Option mw_V → mw_S → Prop} : mw_WP d 143 40 [l0, l1, l2, l3, l4] [jL z] σ Q ↔ Q (some (jL z)) σ := WP_lreturn mq143 dd143_40 rfl
theorem dd143_41 : decode cX11_odds 41 = .ok (.aload_n 0, 1) := by decide +kernel
theorem ww143_41 {d : Nat} {l1 l2 l3 l4 : Option mw_V} {x : Nat} {st : List mw_V} {σ : mw_S} {Q : Option mw_V → mw_S → Prop} : mw_WP d 143 41 [some (jR x), l1, l2, l3, l4] st σ Q ↔ mw_WP d 143 42 [some (jR x), l1, l2, l3, l4] (jR x :: st) σ Q := WP_aload_n mq143 dd143_41 rfl
theorem dd143_42 : decode cX11_odds 42 = .ok (.iload_n 3, 1) := by decide +kernel
theorem ww143_42 {d : Nat} {l0 l1 l2 l4 : Option mw_V} {x : Int} {st : List mw_V} {σ : mw_S} {Q : Option mw_V → mw_S → Prop} : mw_WP d 143 42 [l0, l1, l2, some (jI x), l4] st σ Q ↔ mw_WP d 143 43 [l0, l1, l2, some (jI x), l4] (jI x :: st) σ Q := WP_iload_n mq143 dd143_42 rfl
theorem dd143_43 : decode cX11_odds 43 = .ok (.i2l, 1) := by decide +kernel
theorem ww143_43 {d : Nat} {l0 l1 l2 l3 l4 : Option mw_V} {x : Int} {st : List mw_V} {σ : mw_S} {Q : Option mw_V → mw_S → Prop} : mw_WP d 143 43 [l0, l1, l2, l3, l4] (jI x :: st) σ Q ↔ mw_WP d 143 44 [l0, l1, l2, l3, l4] (jL (yL x) :: st) σ Q := WP_i2l mq143 dd143_43
theorem dd143_44 : decode cX11_odds 44 = .ok (.invokevirtual 293, 3) := by decide +kernel
theorem ww143_44 {d : Nat} {l0 l1 l2 l3 l4 : Option mw_V} {v0 : mw_V} {a : Nat} {st : List mw_V} {σ : mw_S} {Q : Option mw_V → mw_S → Prop} (hr : mw_rc a = 11) (h8 : (st.map mw_cat).sum ≤ 8) : mw_WP d 143 44 [l0, l1, l2, l3, l4] (v0 :: jR a :: st) σ Q ↔ mw_Call d 160 [jR a, v0] σ (fun r1 s1 => mw_WP d 143 47 [l0, l1, l2, l3, l4] (r1.toList ++ st) s1 Q) := WP_inv (as := [v0]) mq143 dd143_44 (by decide) mq160 rfl hr h8
theorem dd143_47 : decode cX11_odds 47 = .ok (.ifCond .eq 24, 3) := by decide +kernel
theorem ww143_47 {d : Nat} {l0 l1 l2 l3 l4 : Option mw_V} {x : Int} {st : List mw_V} {σ : mw_S} {Q : Option mw_V → mw_S → Prop} : mw_WP d 143 47 [l0, l1, l2, l3, l4] (jI x :: st) σ Q ↔ (if x = 0 then mw_WP d 143 71 [l0, l1, l2, l3, l4] st σ Q else mw_WP d 143 50 [l0, l1, l2, l3, l4] st σ Q) := WP_if_eq mq143 dd143_47 (by decide)
theorem dd143_50 : decode cX11_odds 50 = .ok (.aload_n 0, 1) := by decide +kernel
theorem ww143_50 {d : Nat} {l1 l2 l3 l4 : Option mw_V} {x : Nat} {st : List mw_V} {σ : mw_S} {Q : Option mw_V → mw_S → Prop} : mw_WP d 143 50 [some (jR x), l1, l2, l3, l4] st σ Q ↔ mw_WP d 143 51 [some (jR x), l1, l2, l3, l4] (jR x :: st) σ Q := WP_aload_n mq143 dd143_50 rfl
theorem dd143_51 : decode cX11_odds 51 = .ok (.getfield 58, 3) := by decide +kernel
theorem ww143_51 {d : Nat} {l0 l1 l2 l3 l4 : Option mw_V} {st : List mw_V} {σ : mw_S} {Q : Option mw_V → mw_S → Prop} : mw_WP d 143 51 [l0, l1, l2, l3, l4] (jR 0 :: st) σ Q ↔ mw_WP d 143 54 [l0, l1, l2, l3, l4] (jR 55 :: st) σ Q := WP_getR (ci := 10) (k := 6) mq143 dd143_51 (by decide) rfl
theorem dd143_54 : decode cX11_odds 54 = .ok (.aload_n 0, 1) := by decide +kernel
theorem ww143_54 {d : Nat} {l1 l2 l3 l4 : Option mw_V} {x : Nat} {st : List mw_V} {σ : mw_S} {Q : Option mw_V → mw_S → Prop} : mw_WP d 143 54 [some (jR x), l1, l2, l3, l4] st σ Q ↔ mw_WP d 143 55 [some (jR x), l1, l2, l3, l4] (jR x :: st) σ Q := WP_aload_n mq143 dd143_54 rfl
theorem dd143_55 : decode cX11_odds 55 = .ok (.getfield 86, 3) := by decide +kernel
theorem ww143_55 {d : Nat} {l0 l1 l2 l3 l4 : Option mw_V} {st : List mw_V} {σ : mw_S} {Q : Option mw_V → mw_S → Prop} : mw_WP d 143 55 [l0, l1, l2, l3, l4] (jR 0 :: st) σ Q ↔ mw_WP d 143 58 [l0, l1, l2, l3, l4] (jR 98 :: st) σ Q := WP_getR (ci := 10) (k := 11) mq143 dd143_55 (by decide) rfl
theorem dd143_58 : decode cX11_odds 58 = .ok (.iload_n 1, 1) := by decide +kernel
theorem ww143_58 {d : Nat} {l0 l2 l3 l4 : Option mw_V} {x : Int} {st : List mw_V} {σ : mw_S} {Q : Option mw_V → mw_S → Prop} : mw_WP d 143 58 [l0, some (jI x), l2, l3, l4] st σ Q ↔ mw_WP d 143 59 [l0, some (jI x), l2, l3, l4] (jI x :: st) σ Q := WP_iload_n mq143 dd143_58 rfl
theorem dd143_59 : decode cX11_odds 59 = .ok (.aload_n 0, 1) := by decide +kernel
theorem ww143_59 {d : Nat} {l1 l2 l3 l4 : Option mw_V} {x : Nat} {st : List mw_V} {σ : mw_S} {Q : Option mw_V → mw_S → Prop} : mw_WP d 143 59 [some (jR x), l1, l2, l3, l4] st σ Q ↔ mw_WP d 143 60 [some (jR x), l1, l2, l3, l4] (jR x :: st) σ Q := WP_aload_n mq143 dd143_59 rfl
theorem dd143_60 : decode cX11_odds 60 = .ok (.getfield 42, 3) := by decide +kernel
theorem ww143_60 {d : Nat} {l0 l1 l2 l3 l4 : Option mw_V} {st : List mw_V} {σ : mw_S} {Q : Option mw_V → mw_S → Prop} : mw_WP d 143 60 [l0, l1, l2, l3, l4] (jR 0 :: st) σ Q ↔ mw_WP d 143 63 [l0, l1, l2, l3, l4] (jR 37 :: st) σ Q := WP_getR (ci := 10) (k := 4) mq143 dd143_60 (by decide) rfl
theorem dd143_63 : decode cX11_odds 63 = .ok (.iload_n 2, 1) := by decide +kernel
theorem ww143_63 {d : Nat} {l0 l1 l3 l4 : Option mw_V} {x : Int} {st : List mw_V} {σ : mw_S} {Q : Option mw_V → mw_S → Prop} : mw_WP d 143 63 [l0, l1, some (jI x), l3, l4] st σ Q ↔ mw_WP d 143 64 [l0, l1, some (jI x), l3, l4] (jI x :: st) σ Q := WP_iload_n mq143 dd143_63 rfl
theorem dd143_64 : decode cX11_odds 64 = .ok (.iload_n 3, 1) := by decide +kernel
theorem ww143_64 {d : Nat} {l0 l1 l2 l4 : Option mw_V} {x : Int} {st : List mw_V} {σ : mw_S} {Q : Option mw_V → mw_S → Prop} : mw_WP d 143 64 [l0, l1, l2, some (jI x), l4] st σ Q ↔ mw_WP d 143 65 [l0, l1, l2, some (jI x), l4] (jI x :: st) σ Q := WP_iload_n mq143 dd143_64 rfl
theorem dd143_65 : decode cX11_odds 65 = .ok (.invokevirtual 296, 3) := by decide +kernel
theorem ww143_65 {d : Nat} {l0 l1 l2 l3 l4 : Option mw_V} {v0 v1 v2 v3 v4 : mw_V} {a : Nat} {st : List mw_V} {σ : mw_S} {Q : Option mw_V → mw_S → Prop} (hr : mw_rc a = 3) (h8 : (st.map mw_cat).sum ≤ 8) : mw_WP d 143 65 [l0, l1, l2, l3, l4] (v4 :: v3 :: v2 :: v1 :: v0 :: jR a :: st) σ Q ↔ mw_Call d 25 [jR a, v0, v1, v2, v3, v4] σ (fun r1 s1 => mw_WP d 143 68 [l0, l1, l2, l3, l4] (r1.toList ++ st) s1 Q) := WP_inv (as := [v4, v3, v2, v1, v0]) mq143 dd143_65 (by decide) mq25 rfl hr h8
theorem dd143_68 : decode cX11_odds 68 = .ok (.goto 6, 3) := by decide +kernel
theorem ww143_68 {d : Nat} {l0 l1 l2 l3 l4 : Option mw_V} {st : List mw_V} {σ : mw_S} {Q : Option mw_V → mw_S → Prop} : mw_WP d 143 68 [l0, l1, l2, l3, l4] st σ Q ↔ mw_WP d 143 74 [l0, l1, l2, l3, l4] st σ Q := WP_goto mq143 dd143_68 (by decide)
theorem dd143_71 : decode cX11_odds 71 = .ok (.ldc2_w 300, 3) := by decide +kernel
theorem ww143_71 {d : Nat} {l0 l1 l2 l3 l4 : Option mw_V} {st : List mw_V} {σ : mw_S} {Q : Option mw_V → mw_S → Prop} : mw_WP d 143 71 [l0, l1, l2, l3, l4] st σ Q ↔ mw_WP d 143 74 [l0, l1, l2, l3, l4] (jL (-3) :: st) σ Q := WP_ldc2_w (v := -3) mq143 dd143_71 (by decide) (by decide)
theorem dd143_74 : decode cX11_odds 74 = .ok (.lreturn, 1) := by decide +kernel
theorem ww143_74 {d : Nat} {l0 l1 l2 l3 l4 : Option mw_V} {z : Int} {σ : mw_S} {Q : Option mw_V → mw_S → Prop} : mw_WP d 143 74 [l0, l1, l2, l3, l4] [jL z] σ Q ↔ Q (some (jL z)) σ := WP_lreturn mq143 dd143_74 rfl
theorem ee144 {d : Nat} {a : Nat} {z0 : Int} {z1 : Int} {z2 : Int} {σ : mw_S} {Q : Option mw_V → mw_S → Prop} : mw_Call (d + 1) 144 [jR a, jI z0, jI z1, jI z2] σ Q ↔ mw_WP d 144 0 [some (jR a), some (jI z0), some (jI z1), some (jI z2)] [] σ Q := CL_u mq144 (Nat.le_of_ble_eq_true rfl) rfl
theorem dd144_0 : decode cX11_win 0 = .ok (.iload_n 1, 1) := by decide +kernel
theorem ww144_0 {d : Nat} {l0 l2 l3 : Option mw_V} {x : Int} {st : List mw_V} {σ : mw_S} {Q : Option mw_V → mw_S → Prop} : mw_WP d 144 0 [l0, some (jI x), l2, l3] st σ Q ↔ mw_WP d 144 1 [l0, some (jI x), l2, l3] (jI x :: st) σ Q := WP_iload_n mq144 dd144_0 rfl
theorem dd144_1 : decode cX11_win 1 = .ok (.ifCond .lt 17, 3) := by decide +kernel
theorem ww144_1 {d : Nat} {l0 l1 l2 l3 : Option mw_V} {x : Int} {st : List mw_V} {σ : mw_S} {Q : Option mw_V → mw_S → Prop} : mw_WP d 144 1 [l0, l1, l2, l3] (jI x :: st) σ Q ↔ (if x < 0 then mw_WP d 144 18 [l0, l1, l2, l3] st σ Q else mw_WP d 144 4 [l0, l1, l2, l3] st σ Q) := WP_if_lt mq144 dd144_1 (by decide)
theorem dd144_4 : decode cX11_win 4 = .ok (.iload_n 1, 1) := by decide +kernel
theorem ww144_4 {d : Nat} {l0 l2 l3 : Option mw_V} {x : Int} {st : List mw_V} {σ : mw_S} {Q : Option mw_V → mw_S → Prop} : mw_WP d 144 4 [l0, some (jI x), l2, l3] st σ Q ↔ mw_WP d 144 5 [l0, some (jI x), l2, l3] (jI x :: st) σ Q := WP_iload_n mq144 dd144_4 rfl
theorem dd144_5 : decode cX11_win 5 = .ok (.bipush 60, 2) := by decide +kernel
theorem ww144_5 {d : Nat} {l0 l1 l2 l3 : Option mw_V} {st : List mw_V} {σ : mw_S} {Q : Option mw_V → mw_S → Prop} : mw_WP d 144 5 [l0, l1, l2, l3] st σ Q ↔ mw_WP d 144 7 [l0, l1, l2, l3] (jI (60) :: st) σ Q := WP_bipush mq144 dd144_5 (by decide)
theorem dd144_7 : decode cX11_win 7 = .ok (.if_icmp .gt 11, 3) := by decide +kernel
theorem ww144_7 {d : Nat} {l0 l1 l2 l3 : Option mw_V} {x y : Int} {st : List mw_V} {σ : mw_S} {Q : Option mw_V → mw_S → Prop} : mw_WP d 144 7 [l0, l1, l2, l3] (jI y :: jI x :: st) σ Q ↔ (if y < x then mw_WP d 144 18 [l0, l1, l2, l3] st σ Q else mw_WP d 144 10 [l0, l1, l2, l3] st σ Q) := WP_icmp_gt mq144 dd144_7 (by decide)
theorem dd144_10 : decode cX11_win 10 = .ok (.iload_n 2, 1) := by decide +kernel
theorem ww144_10 {d : Nat} {l0 l1 l3 : Option mw_V} {x : Int} {st : List mw_V} {σ : mw_S} {Q : Option mw_V → mw_S → Prop} : mw_WP d 144 10 [l0, l1, some (jI x), l3] st σ Q ↔ mw_WP d 144 11 [l0, l1, some (jI x), l3] (jI x :: st) σ Q := WP_iload_n mq144 dd144_10 rfl
theorem dd144_11 : decode cX11_win 11 = .ok (.iload_n 3, 1) := by decide +kernel
theorem ww144_11 {d : Nat} {l0 l1 l2 : Option mw_V} {x : Int} {st : List mw_V} {σ : mw_S} {Q : Option mw_V → mw_S → Prop} : mw_WP d 144 11 [l0, l1, l2, some (jI x)] st σ Q ↔ mw_WP d 144 12 [l0, l1, l2, some (jI x)] (jI x :: st) σ Q := WP_iload_n mq144 dd144_11 rfl
theorem dd144_12 : decode cX11_win 12 = .ok (.invokestatic 302, 3) := by decide +kernel
theorem ww144_12 {d : Nat} {l0 l1 l2 l3 : Option mw_V} {v0 v1 : mw_V} {st : List mw_V} {σ : mw_S} {Q : Option mw_V → mw_S → Prop} (h8 : (st.map mw_cat).sum ≤ 8) : mw_WP d 144 12 [l0, l1, l2, l3] (v1 :: v0 :: st) σ Q ↔ mw_Call d 164 [v0, v1] σ (fun r1 s1 => mw_WP d 144 15 [l0, l1, l2, l3] (r1.toList ++ st) s1 Q) := WP_invs (as := [v1, v0]) mq144 dd144_12 (by decide) mq164 rfl rfl h8
theorem dd144_15 : decode cX11_win 15 = .ok (.ifCond .ne 6, 3) := by decide +kernel
theorem ww144_15 {d : Nat} {l0 l1 l2 l3 : Option mw_V} {x : Int} {st : List mw_V} {σ : mw_S} {Q : Option mw_V → mw_S → Prop} : mw_WP d 144 15 [l0, l1, l2, l3] (jI x :: st) σ Q ↔ (if ¬ x = 0 then mw_WP d 144 21 [l0, l1, l2, l3] st σ Q else mw_WP d 144 18 [l0, l1, l2, l3] st σ Q) := WP_if_ne mq144 dd144_15 (by decide)
theorem dd144_18 : decode cX11_win 18 = .ok (.bipush (-3), 2) := by decide +kernel
theorem ww144_18 {d : Nat} {l0 l1 l2 l3 : Option mw_V} {st : List mw_V} {σ : mw_S} {Q : Option mw_V → mw_S → Prop} : mw_WP d 144 18 [l0, l1, l2, l3] st σ Q ↔ mw_WP d 144 20 [l0, l1, l2, l3] (jI (-3) :: st) σ Q := WP_bipush mq144 dd144_18 (by decide)
theorem dd144_20 : decode cX11_win 20 = .ok (.ireturn, 1) := by decide +kernel
theorem ww144_20 {d : Nat} {l0 l1 l2 l3 : Option mw_V} {z : Int} {σ : mw_S} {Q : Option mw_V → mw_S → Prop} : mw_WP d 144 20 [l0, l1, l2, l3] [jI z] σ Q ↔ Q (some (jI z)) σ := WP_ireturn (ty := .int) mq144 dd144_20 rfl rfl
theorem dd144_21 : decode cX11_win 21 = .ok (.aload_n 0, 1) := by decide +kernel
theorem ww144_21 {d : Nat} {l1 l2 l3 : Option mw_V} {x : Nat} {st : List mw_V} {σ : mw_S} {Q : Option mw_V → mw_S → Prop} : mw_WP d 144 21 [some (jR x), l1, l2, l3] st σ Q ↔ mw_WP d 144 22 [some (jR x), l1, l2, l3] (jR x :: st) σ Q := WP_aload_n mq144 dd144_21 rfl
theorem dd144_22 : decode cX11_win 22 = .ok (.getfield 72, 3) := by decide +kernel
theorem ww144_22 {d : Nat} {l0 l1 l2 l3 : Option mw_V} {st : List mw_V} {σ : mw_S} {Q : Option mw_V → mw_S → Prop} : mw_WP d 144 22 [l0, l1, l2, l3] (jR 0 :: st) σ Q ↔ mw_WP d 144 25 [l0, l1, l2, l3] (jR 74 :: st) σ Q := WP_getR (ci := 10) (k := 8) mq144 dd144_22 (by decide) rfl
theorem dd144_25 : decode cX11_win 25 = .ok (.iload_n 2, 1) := by decide +kernel
theorem ww144_25 {d : Nat} {l0 l1 l3 : Option mw_V} {x : Int} {st : List mw_V} {σ : mw_S} {Q : Option mw_V → mw_S → Prop} : mw_WP d 144 25 [l0, l1, some (jI x), l3] st σ Q ↔ mw_WP d 144 26 [l0, l1, some (jI x), l3] (jI x :: st) σ Q := WP_iload_n mq144 dd144_25 rfl
theorem dd144_26 : decode cX11_win 26 = .ok (.iload_n 3, 1) := by decide +kernel
theorem ww144_26 {d : Nat} {l0 l1 l2 : Option mw_V} {x : Int} {st : List mw_V} {σ : mw_S} {Q : Option mw_V → mw_S → Prop} : mw_WP d 144 26 [l0, l1, l2, some (jI x)] st σ Q ↔ mw_WP d 144 27 [l0, l1, l2, some (jI x)] (jI x :: st) σ Q := WP_iload_n mq144 dd144_26 rfl
theorem dd144_27 : decode cX11_win 27 = .ok (.invokevirtual 306, 3) := by decide +kernel
theorem ww144_27 {d : Nat} {l0 l1 l2 l3 : Option mw_V} {v0 v1 : mw_V} {a : Nat} {st : List mw_V} {σ : mw_S} {Q : Option mw_V → mw_S → Prop} (hr : mw_rc a = 2) (h8 : (st.map mw_cat).sum ≤ 8) : mw_WP d 144 27 [l0, l1, l2, l3] (v1 :: v0 :: jR a :: st) σ Q ↔ mw_Call d 14 [jR a, v0, v1] σ (fun r1 s1 => mw_WP d 144 30 [l0, l1, l2, l3] (r1.toList ++ st) s1 Q) := WP_inv (as := [v1, v0]) mq144 dd144_27 (by decide) mq14 rfl hr h8
theorem dd144_30 : decode cX11_win 30 = .ok (.aload_n 0, 1) := by decide +kernel
theorem ww144_30 {d : Nat} {l1 l2 l3 : Option mw_V} {x : Nat} {st : List mw_V} {σ : mw_S} {Q : Option mw_V → mw_S → Prop} : mw_WP d 144 30 [some (jR x), l1, l2, l3] st σ Q ↔ mw_WP d 144 31 [some (jR x), l1, l2, l3] (jR x :: st) σ Q := WP_aload_n mq144 dd144_30 rfl
theorem dd144_31 : decode cX11_win 31 = .ok (.getfield 72, 3) := by decide +kernel
theorem ww144_31 {d : Nat} {l0 l1 l2 l3 : Option mw_V} {st : List mw_V} {σ : mw_S} {Q : Option mw_V → mw_S → Prop} : mw_WP d 144 31 [l0, l1, l2, l3] (jR 0 :: st) σ Q ↔ mw_WP d 144 34 [l0, l1, l2, l3] (jR 74 :: st) σ Q := WP_getR (ci := 10) (k := 8) mq144 dd144_31 (by decide) rfl
theorem dd144_34 : decode cX11_win 34 = .ok (.iload_n 1, 1) := by decide +kernel
theorem ww144_34 {d : Nat} {l0 l2 l3 : Option mw_V} {x : Int} {st : List mw_V} {σ : mw_S} {Q : Option mw_V → mw_S → Prop} : mw_WP d 144 34 [l0, some (jI x), l2, l3] st σ Q ↔ mw_WP d 144 35 [l0, some (jI x), l2, l3] (jI x :: st) σ Q := WP_iload_n mq144 dd144_34 rfl
theorem dd144_35 : decode cX11_win 35 = .ok (.invokevirtual 310, 3) := by decide +kernel
theorem ww144_35 {d : Nat} {l0 l1 l2 l3 : Option mw_V} {v0 : mw_V} {a : Nat} {st : List mw_V} {σ : mw_S} {Q : Option mw_V → mw_S → Prop} (hr : mw_rc a = 2) (h8 : (st.map mw_cat).sum ≤ 8) : mw_WP d 144 35 [l0, l1, l2, l3] (v0 :: jR a :: st) σ Q ↔ mw_Call d 15 [jR a, v0] σ (fun r1 s1 => mw_WP d 144 38 [l0, l1, l2, l3] (r1.toList ++ st) s1 Q) := WP_inv (as := [v0]) mq144 dd144_35 (by decide) mq15 rfl hr h8
theorem dd144_38 : decode cX11_win 38 = .ok (.ireturn, 1) := by decide +kernel
theorem ww144_38 {d : Nat} {l0 l1 l2 l3 : Option mw_V} {z : Int} {σ : mw_S} {Q : Option mw_V → mw_S → Prop} : mw_WP d 144 38 [l0, l1, l2, l3] [jI z] σ Q ↔ Q (some (jI z)) σ := WP_ireturn (ty := .int) mq144 dd144_38 rfl rfl
theorem ee145 {d : Nat} {a : Nat} {z0 : Int} {z1 : Int} {σ : mw_S} {Q : Option mw_V → mw_S → Prop} : mw_Call (d + 1) 145 [jR a, jI z0, jI z1] σ Q ↔ mw_WP d 145 0 [some (jR a), some (jI z0), some (jI z1)] [] σ Q := CL_u mq145 (Nat.le_of_ble_eq_true rfl) rfl
theorem dd145_0 : decode cX11_wins 0 = .ok (.iload_n 1, 1) := by decide +kernel
theorem ww145_0 {d : Nat} {l0 l2 : Option mw_V} {x : Int} {st : List mw_V} {σ : mw_S} {Q : Option mw_V → mw_S → Prop} : mw_WP d 145 0 [l0, some (jI x), l2] st σ Q ↔ mw_WP d 145 1 [l0, some (jI x), l2] (jI x :: st) σ Q := WP_iload_n mq145 dd145_0 rfl
theorem dd145_1 : decode cX11_wins 1 = .ok (.iload_n 2, 1) := by decide +kernel
theorem ww145_1 {d : Nat} {l0 l1 : Option mw_V} {x : Int} {st : List mw_V} {σ : mw_S} {Q : Option mw_V → mw_S → Prop} : mw_WP d 145 1 [l0, l1, some (jI x)] st σ Q ↔ mw_WP d 145 2 [l0, l1, some (jI x)] (jI x :: st) σ Q := WP_iload_n mq145 dd145_1 rfl
theorem dd145_2 : decode cX11_wins 2 = .ok (.invokestatic 302, 3) := by decide +kernel
theorem ww145_2 {d : Nat} {l0 l1 l2 : Option mw_V} {v0 v1 : mw_V} {st : List mw_V} {σ : mw_S} {Q : Option mw_V → mw_S → Prop} (h8 : (st.map mw_cat).sum ≤ 8) : mw_WP d 145 2 [l0, l1, l2] (v1 :: v0 :: st) σ Q ↔ mw_Call d 164 [v0, v1] σ (fun r1 s1 => mw_WP d 145 5 [l0, l1, l2] (r1.toList ++ st) s1 Q) := WP_invs (as := [v1, v0]) mq145 dd145_2 (by decide) mq164 rfl rfl h8
theorem dd145_5 : decode cX11_wins 5 = .ok (.ifCond .ne 6, 3) := by decide +kernel
theorem ww145_5 {d : Nat} {l0 l1 l2 : Option mw_V} {x : Int} {st : List mw_V} {σ : mw_S} {Q : Option mw_V → mw_S → Prop} : mw_WP d 145 5 [l0, l1, l2] (jI x :: st) σ Q ↔ (if ¬ x = 0 then mw_WP d 145 11 [l0, l1, l2] st σ Q else mw_WP d 145 8 [l0, l1, l2] st σ Q) := WP_if_ne mq145 dd145_5 (by decide)
theorem dd145_8 : decode cX11_wins 8 = .ok (.bipush (-3), 2) := by decide +kernel
theorem ww145_8 {d : Nat} {l0 l1 l2 : Option mw_V} {st : List mw_V} {σ : mw_S} {Q : Option mw_V → mw_S → Prop} : mw_WP d 145 8 [l0, l1, l2] st σ Q ↔ mw_WP d 145 10 [l0, l1, l2] (jI (-3) :: st) σ Q := WP_bipush mq145 dd145_8 (by decide)
theorem dd145_10 : decode cX11_wins 10 = .ok (.ireturn, 1) := by decide +kernel
theorem ww145_10 {d : Nat} {l0 l1 l2 : Option mw_V} {z : Int} {σ : mw_S} {Q : Option mw_V → mw_S → Prop} : mw_WP d 145 10 [l0, l1, l2] [jI z] σ Q ↔ Q (some (jI z)) σ := WP_ireturn (ty := .int) mq145 dd145_10 rfl rfl
theorem dd145_11 : decode cX11_wins 11 = .ok (.aload_n 0, 1) := by decide +kernel
theorem ww145_11 {d : Nat} {l1 l2 : Option mw_V} {x : Nat} {st : List mw_V} {σ : mw_S} {Q : Option mw_V → mw_S → Prop} : mw_WP d 145 11 [some (jR x), l1, l2] st σ Q ↔ mw_WP d 145 12 [some (jR x), l1, l2] (jR x :: st) σ Q := WP_aload_n mq145 dd145_11 rfl
theorem dd145_12 : decode cX11_wins 12 = .ok (.getfield 72, 3) := by decide +kernel
theorem ww145_12 {d : Nat} {l0 l1 l2 : Option mw_V} {st : List mw_V} {σ : mw_S} {Q : Option mw_V → mw_S → Prop} : mw_WP d 145 12 [l0, l1, l2] (jR 0 :: st) σ Q ↔ mw_WP d 145 15 [l0, l1, l2] (jR 74 :: st) σ Q := WP_getR (ci := 10) (k := 8) mq145 dd145_12 (by decide) rfl
theorem dd145_15 : decode cX11_wins 15 = .ok (.iload_n 1, 1) := by decide +kernel
theorem ww145_15 {d : Nat} {l0 l2 : Option mw_V} {x : Int} {st : List mw_V} {σ : mw_S} {Q : Option mw_V → mw_S → Prop} : mw_WP d 145 15 [l0, some (jI x), l2] st σ Q ↔ mw_WP d 145 16 [l0, some (jI x), l2] (jI x :: st) σ Q := WP_iload_n mq145 dd145_15 rfl
theorem dd145_16 : decode cX11_wins 16 = .ok (.iload_n 2, 1) := by decide +kernel
theorem ww145_16 {d : Nat} {l0 l1 : Option mw_V} {x : Int} {st : List mw_V} {σ : mw_S} {Q : Option mw_V → mw_S → Prop} : mw_WP d 145 16 [l0, l1, some (jI x)] st σ Q ↔ mw_WP d 145 17 [l0, l1, some (jI x)] (jI x :: st) σ Q := WP_iload_n mq145 dd145_16 rfl
theorem dd145_17 : decode cX11_wins 17 = .ok (.invokevirtual 306, 3) := by decide +kernel
theorem ww145_17 {d : Nat} {l0 l1 l2 : Option mw_V} {v0 v1 : mw_V} {a : Nat} {st : List mw_V} {σ : mw_S} {Q : Option mw_V → mw_S → Prop} (hr : mw_rc a = 2) (h8 : (st.map mw_cat).sum ≤ 8) : mw_WP d 145 17 [l0, l1, l2] (v1 :: v0 :: jR a :: st) σ Q ↔ mw_Call d 14 [jR a, v0, v1] σ (fun r1 s1 => mw_WP d 145 20 [l0, l1, l2] (r1.toList ++ st) s1 Q) := WP_inv (as := [v1, v0]) mq145 dd145_17 (by decide) mq14 rfl hr h8
theorem dd145_20 : decode cX11_wins 20 = .ok (.aload_n 0, 1) := by decide +kernel
theorem ww145_20 {d : Nat} {l1 l2 : Option mw_V} {x : Nat} {st : List mw_V} {σ : mw_S} {Q : Option mw_V → mw_S → Prop} : mw_WP d 145 20 [some (jR x), l1, l2] st σ Q ↔ mw_WP d 145 21 [some (jR x), l1, l2] (jR x :: st) σ Q := WP_aload_n mq145 dd145_20 rfl
theorem dd145_21 : decode cX11_wins 21 = .ok (.getfield 72, 3) := by decide +kernel
theorem ww145_21 {d : Nat} {l0 l1 l2 : Option mw_V} {st : List mw_V} {σ : mw_S} {Q : Option mw_V → mw_S → Prop} : mw_WP d 145 21 [l0, l1, l2] (jR 0 :: st) σ Q ↔ mw_WP d 145 24 [l0, l1, l2] (jR 74 :: st) σ Q := WP_getR (ci := 10) (k := 8) mq145 dd145_21 (by decide) rfl
theorem dd145_24 : decode cX11_wins 24 = .ok (.invokevirtual 313, 3) := by decide +kernel
theorem ww145_24 {d : Nat} {l0 l1 l2 : Option mw_V} {a : Nat} {st : List mw_V} {σ : mw_S} {Q : Option mw_V → mw_S → Prop} (hr : mw_rc a = 2) (h8 : (st.map mw_cat).sum ≤ 8) : mw_WP d 145 24 [l0, l1, l2] (jR a :: st) σ Q ↔ mw_Call d 16 [jR a] σ (fun r1 s1 => mw_WP d 145 27 [l0, l1, l2] (r1.toList ++ st) s1 Q) := WP_inv (as := []) mq145 dd145_24 (by decide) mq16 rfl hr h8
theorem dd145_27 : decode cX11_wins 27 = .ok (.ireturn, 1) := by decide +kernel
theorem ww145_27 {d : Nat} {l0 l1 l2 : Option mw_V} {z : Int} {σ : mw_S} {Q : Option mw_V → mw_S → Prop} : mw_WP d 145 27 [l0, l1, l2] [jI z] σ Q ↔ Q (some (jI z)) σ := WP_ireturn (ty := .int) mq145 dd145_27 rfl rfl
theorem ee146 {d : Nat} {a : Nat} {z0 : Int} {z1 : Int} {z2 : Int} {σ : mw_S} {Q : Option mw_V → mw_S → Prop} : mw_Call (d + 1) 146 [jR a, jI z0, jI z1, jI z2] σ Q ↔ mw_WP d 146 0 [some (jR a), some (jI z0), some (jI z1), some (jI z2), none] [] σ Q := CL_u mq146 (Nat.le_of_ble_eq_true rfl) rfl
theorem dd146_0 : decode cX11_lends 0 = .ok (.aload_n 0, 1) := by decide +kernel
theorem ww146_0 {d : Nat} {l1 l2 l3 l4 : Option mw_V} {x : Nat} {st : List mw_V} {σ : mw_S} {Q : Option mw_V → mw_S → Prop} : mw_WP d 146 0 [some (jR x), l1, l2, l3, l4] st σ Q ↔ mw_WP d 146 1 [some (jR x), l1, l2, l3, l4] (jR x :: st) σ Q := WP_aload_n mq146 dd146_0 rfl
theorem dd146_1 : decode cX11_lends 1 = .ok (.iload_n 1, 1) := by decide +kernel
theorem ww146_1 {d : Nat} {l0 l2 l3 l4 : Option mw_V} {x : Int} {st : List mw_V} {σ : mw_S} {Q : Option mw_V → mw_S → Prop} : mw_WP d 146 1 [l0, some (jI x), l2, l3, l4] st σ Q ↔ mw_WP d 146 2 [l0, some (jI x), l2, l3, l4] (jI x :: st) σ Q := WP_iload_n mq146 dd146_1 rfl
theorem dd146_2 : decode cX11_lends 2 = .ok (.iload_n 2, 1) := by decide +kernel
theorem ww146_2 {d : Nat} {l0 l1 l3 l4 : Option mw_V} {x : Int} {st : List mw_V} {σ : mw_S} {Q : Option mw_V → mw_S → Prop} : mw_WP d 146 2 [l0, l1, some (jI x), l3, l4] st σ Q ↔ mw_WP d 146 3 [l0, l1, some (jI x), l3, l4] (jI x :: st) σ Q := WP_iload_n mq146 dd146_2 rfl
theorem dd146_3 : decode cX11_lends 3 = .ok (.invokevirtual 316, 3) := by decide +kernel
theorem ww146_3 {d : Nat} {l0 l1 l2 l3 l4 : Option mw_V} {v0 v1 : mw_V} {a : Nat} {st : List mw_V} {σ : mw_S} {Q : Option mw_V → mw_S → Prop} (hr : mw_rc a = 11) (h8 : (st.map mw_cat).sum ≤ 8) : mw_WP d 146 3 [l0, l1, l2, l3, l4] (v1 :: v0 :: jR a :: st) σ Q ↔ mw_Call d 158 [jR a, v0, v1] σ (fun r1 s1 => mw_WP d 146 6 [l0, l1, l2, l3, l4] (r1.toList ++ st) s1 Q) := WP_inv (as := [v1, v0]) mq146 dd146_3 (by decide) mq158 rfl hr h8
theorem dd146_6 : decode cX11_lends 6 = .ok (.ifCond .ne 6, 3) := by decide +kernel
theorem ww146_6 {d : Nat} {l0 l1 l2 l3 l4 : Option mw_V} {x : Int} {st : List mw_V} {σ : mw_S} {Q : Option mw_V → mw_S → Prop} : mw_WP d 146 6 [l0, l1, l2, l3, l4] (jI x :: st) σ Q ↔ (if ¬ x = 0 then mw_WP d 146 12 [l0, l1, l2, l3, l4] st σ Q else mw_WP d 146 9 [l0, l1, l2, l3, l4] st σ Q) := WP_if_ne mq146 dd146_6 (by decide)
theorem dd146_9 : decode cX11_lends 9 = .ok (.bipush (-2), 2) := by decide +kernel
theorem ww146_9 {d : Nat} {l0 l1 l2 l3 l4 : Option mw_V} {st : List mw_V} {σ : mw_S} {Q : Option mw_V → mw_S → Prop} : mw_WP d 146 9 [l0, l1, l2, l3, l4] st σ Q ↔ mw_WP d 146 11 [l0, l1, l2, l3, l4] (jI (-2) :: st) σ Q := WP_bipush mq146 dd146_9 (by decide)
theorem dd146_11 : decode cX11_lends 11 = .ok (.ireturn, 1) := by decide +kernel
theorem ww146_11 {d : Nat} {l0 l1 l2 l3 l4 : Option mw_V} {z : Int} {σ : mw_S} {Q : Option mw_V → mw_S → Prop} : mw_WP d 146 11 [l0, l1, l2, l3, l4] [jI z] σ Q ↔ Q (some (jI z)) σ := WP_ireturn (ty := .int) mq146 dd146_11 rfl rfl
theorem dd146_12 : decode cX11_lends 12 = .ok (.iload_n 3, 1) := by decide +kernel
theorem ww146_12 {d : Nat} {l0 l1 l2 l4 : Option mw_V} {x : Int} {st : List mw_V} {σ : mw_S} {Q : Option mw_V → mw_S → Prop} : mw_WP d 146 12 [l0, l1, l2, some (jI x), l4] st σ Q ↔ mw_WP d 146 13 [l0, l1, l2, some (jI x), l4] (jI x :: st) σ Q := WP_iload_n mq146 dd146_12 rfl
theorem dd146_13 : decode cX11_lends 13 = .ok (.iconst 1, 1) := by decide +kernel
theorem ww146_13 {d : Nat} {l0 l1 l2 l3 l4 : Option mw_V} {st : List mw_V} {σ : mw_S} {Q : Option mw_V → mw_S → Prop} : mw_WP d 146 13 [l0, l1, l2, l3, l4] st σ Q ↔ mw_WP d 146 14 [l0, l1, l2, l3, l4] (jI (1) :: st) σ Q := WP_iconst mq146 dd146_13 (by decide)
theorem dd146_14 : decode cX11_lends 14 = .ok (.if_icmp .lt 10, 3) := by decide +kernel
theorem ww146_14 {d : Nat} {l0 l1 l2 l3 l4 : Option mw_V} {x y : Int} {st : List mw_V} {σ : mw_S} {Q : Option mw_V → mw_S → Prop} : mw_WP d 146 14 [l0, l1, l2, l3, l4] (jI y :: jI x :: st) σ Q ↔ (if x < y then mw_WP d 146 24 [l0, l1, l2, l3, l4] st σ Q else mw_WP d 146 17 [l0, l1, l2, l3, l4] st σ Q) := WP_icmp_lt mq146 dd146_14 (by decide)
theorem dd146_17 : decode cX11_lends 17 = .ok (.iload_n 3, 1) := by decide +kernel
theorem ww146_17 {d : Nat} {l0 l1 l2 l4 : Option mw_V} {x : Int} {st : List mw_V} {σ : mw_S} {Q : Option mw_V → mw_S → Prop} : mw_WP d 146 17 [l0, l1, l2, some (jI x), l4] st σ Q ↔ mw_WP d 146 18 [l0, l1, l2, some (jI x), l4] (jI x :: st) σ Q := WP_iload_n mq146 dd146_17 rfl
theorem dd146_18 : decode cX11_lends 18 = .ok (.sipush 999, 3) := by decide +kernel
theorem ww146_18 {d : Nat} {l0 l1 l2 l3 l4 : Option mw_V} {st : List mw_V} {σ : mw_S} {Q : Option mw_V → mw_S → Prop} : mw_WP d 146 18 [l0, l1, l2, l3, l4] st σ Q ↔ mw_WP d 146 21 [l0, l1, l2, l3, l4] (jI (999) :: st) σ Q := WP_sipush mq146 dd146_18 (by decide)
theorem dd146_21 : decode cX11_lends 21 = .ok (.if_icmp .le 6, 3) := by decide +kernel
theorem ww146_21 {d : Nat} {l0 l1 l2 l3 l4 : Option mw_V} {x y : Int} {st : List mw_V} {σ : mw_S} {Q : Option mw_V → mw_S → Prop} : mw_WP d 146 21 [l0, l1, l2, l3, l4] (jI y :: jI x :: st) σ Q ↔ (if x ≤ y then mw_WP d 146 27 [l0, l1, l2, l3, l4] st σ Q else mw_WP d 146 24 [l0, l1, l2, l3, l4] st σ Q) := WP_icmp_le mq146 dd146_21 (by decide)
theorem dd146_24 : decode cX11_lends 24 = .ok (.bipush (-3), 2) := by decide +kernel
theorem ww146_24 {d : Nat} {l0 l1 l2 l3 l4 : Option mw_V} {st : List mw_V} {σ : mw_S} {Q : Option mw_V → mw_S → Prop} : mw_WP d 146 24 [l0, l1, l2, l3, l4] st σ Q ↔ mw_WP d 146 26 [l0, l1, l2, l3, l4] (jI (-3) :: st) σ Q := WP_bipush mq146 dd146_24 (by decide)
theorem dd146_26 : decode cX11_lends 26 = .ok (.ireturn, 1) := by decide +kernel
theorem ww146_26 {d : Nat} {l0 l1 l2 l3 l4 : Option mw_V} {z : Int} {σ : mw_S} {Q : Option mw_V → mw_S → Prop} : mw_WP d 146 26 [l0, l1, l2, l3, l4] [jI z] σ Q ↔ Q (some (jI z)) σ := WP_ireturn (ty := .int) mq146 dd146_26 rfl rfl
theorem dd146_27 : decode cX11_lends 27 = .ok (.aload_n 0, 1) := by decide +kernel
theorem ww146_27 {d : Nat} {l1 l2 l3 l4 : Option mw_V} {x : Nat} {st : List mw_V} {σ : mw_S} {Q : Option mw_V → mw_S → Prop} : mw_WP d 146 27 [some (jR x), l1, l2, l3, l4] st σ Q ↔ mw_WP d 146 28 [some (jR x), l1, l2, l3, l4] (jR x :: st) σ Q := WP_aload_n mq146 dd146_27 rfl
theorem dd146_28 : decode cX11_lends 28 = .ok (.getfield 86, 3) := by decide +kernel
theorem ww146_28 {d : Nat} {l0 l1 l2 l3 l4 : Option mw_V} {st : List mw_V} {σ : mw_S} {Q : Option mw_V → mw_S → Prop} : mw_WP d 146 28 [l0, l1, l2, l3, l4] (jR 0 :: st) σ Q ↔ mw_WP d 146 31 [l0, l1, l2, l3, l4] (jR 98 :: st) σ Q := WP_getR (ci := 10) (k := 11) mq146 dd146_28 (by decide) rfl
theorem dd146_31 : decode cX11_lends 31 = .ok (.iload_n 1, 1) := by decide +kernel
theorem ww146_31 {d : Nat} {l0 l2 l3 l4 : Option mw_V} {x : Int} {st : List mw_V} {σ : mw_S} {Q : Option mw_V → mw_S → Prop} : mw_WP d 146 31 [l0, some (jI x), l2, l3, l4] st σ Q ↔ mw_WP d 146 32 [l0, some (jI x), l2, l3, l4] (jI x :: st) σ Q := WP_iload_n mq146 dd146_31 rfl
theorem dd146_32 : decode cX11_lends 32 = .ok (.iload_n 2, 1) := by decide +kernel
theorem ww146_32 {d : Nat} {l0 l1 l3 l4 : Option mw_V} {x : Int} {st : List mw_V} {σ : mw_S} {Q : Option mw_V → mw_S → Prop} : mw_WP d 146 32 [l0, l1, some (jI x), l3, l4] st σ Q ↔ mw_WP d 146 33 [l0, l1, some (jI x), l3, l4] (jI x :: st) σ Q := WP_iload_n mq146 dd146_32 rfl
theorem dd146_33 : decode cX11_lends 33 = .ok (.invokestatic 319, 3) := by decide +kernel
theorem ww146_33 {d : Nat} {l0 l1 l2 l3 l4 : Option mw_V} {v0 v1 v2 : mw_V} {st : List mw_V} {σ : mw_S} {Q : Option mw_V → mw_S → Prop} (h8 : (st.map mw_cat).sum ≤ 8) : mw_WP d 146 33 [l0, l1, l2, l3, l4] (v2 :: v1 :: v0 :: st) σ Q ↔ mw_Call d 7 [v0, v1, v2] σ (fun r1 s1 => mw_WP d 146 36 [l0, l1, l2, l3, l4] (r1.toList ++ st) s1 Q) := WP_invs (as := [v2, v1, v0]) mq146 dd146_33 (by decide) mq7 rfl rfl h8
theorem dd146_36 : decode cX11_lends 36 = .ok (.iload_n 3, 1) := by decide +kernel
theorem ww146_36 {d : Nat} {l0 l1 l2 l4 : Option mw_V} {x : Int} {st : List mw_V} {σ : mw_S} {Q : Option mw_V → mw_S → Prop} : mw_WP d 146 36 [l0, l1, l2, some (jI x), l4] st σ Q ↔ mw_WP d 146 37 [l0, l1, l2, some (jI x), l4] (jI x :: st) σ Q := WP_iload_n mq146 dd146_36 rfl
theorem dd146_37 : decode cX11_lends 37 = .ok (.iadd, 1) := by decide +kernel
theorem ww146_37 {d : Nat} {l0 l1 l2 l3 l4 : Option mw_V} {x y : Int} {st : List mw_V} {σ : mw_S} {Q : Option mw_V → mw_S → Prop} : mw_WP d 146 37 [l0, l1, l2, l3, l4] (jI y :: jI x :: st) σ Q ↔ mw_WP d 146 38 [l0, l1, l2, l3, l4] (jI (w32 (x + y)) :: st) σ Q := WP_iadd mq146 dd146_37
theorem dd146_38 : decode cX11_lends 38 = .ok (.istore 4, 2) := by decide +kernel
theorem ww146_38 {d : Nat} {l0 l1 l2 l3 l4 : Option mw_V} {x : Int} {st : List mw_V} {σ : mw_S} {Q : Option mw_V → mw_S → Prop} (h : mw_nlo l3 = true) : mw_WP d 146 38 [l0, l1, l2, l3, l4] (jI x :: st) σ Q ↔ mw_WP d 146 40 [l0, l1, l2, l3, some (jI x)] st σ Q := WP_istore mq146 dd146_38 (Nat.le_of_ble_eq_true rfl) (mw_nl_of (i := 3) rfl h) rfl
theorem dd146_40 : decode cX11_lends 40 = .ok (.iload 4, 2) := by decide +kernel
theorem ww146_40 {d : Nat} {l0 l1 l2 l3 : Option mw_V} {x : Int} {st : List mw_V} {σ : mw_S} {Q : Option mw_V → mw_S → Prop} : mw_WP d 146 40 [l0, l1, l2, l3, some (jI x)] st σ Q ↔ mw_WP d 146 42 [l0, l1, l2, l3, some (jI x)] (jI x :: st) σ Q := WP_iload mq146 dd146_40 rfl
theorem dd146_42 : decode cX11_lends 42 = .ok (.ldc_w 324, 3) := by decide +kernel
theorem ww146_42 {d : Nat} {l0 l1 l2 l3 l4 : Option mw_V} {st : List mw_V} {σ : mw_S} {Q : Option mw_V → mw_S → Prop} : mw_WP d 146 42 [l0, l1, l2, l3, l4] st σ Q ↔ mw_WP d 146 45 [l0, l1, l2, l3, l4] (jI (99999) :: st) σ Q := WP_ldc_w (v := 99999) mq146 dd146_42 (by decide) (by decide)
theorem dd146_45 : decode cX11_lends 45 = .ok (.if_icmp .le 6, 3) := by decide +kernel
theorem ww146_45 {d : Nat} {l0 l1 l2 l3 l4 : Option mw_V} {x y : Int} {st : List mw_V} {σ : mw_S} {Q : Option mw_V → mw_S → Prop} : mw_WP d 146 45 [l0, l1, l2, l3, l4] (jI y :: jI x :: st) σ Q ↔ (if x ≤ y then mw_WP d 146 51 [l0, l1, l2, l3, l4] st σ Q else mw_WP d 146 48 [l0, l1, l2, l3, l4] st σ Q) := WP_icmp_le mq146 dd146_45 (by decide)
theorem dd146_48 : decode cX11_lends 48 = .ok (.bipush (-4), 2) := by decide +kernel
theorem ww146_48 {d : Nat} {l0 l1 l2 l3 l4 : Option mw_V} {st : List mw_V} {σ : mw_S} {Q : Option mw_V → mw_S → Prop} : mw_WP d 146 48 [l0, l1, l2, l3, l4] st σ Q ↔ mw_WP d 146 50 [l0, l1, l2, l3, l4] (jI (-4) :: st) σ Q := WP_bipush mq146 dd146_48 (by decide)
theorem dd146_50 : decode cX11_lends 50 = .ok (.ireturn, 1) := by decide +kernel
theorem ww146_50 {d : Nat} {l0 l1 l2 l3 l4 : Option mw_V} {z : Int} {σ : mw_S} {Q : Option mw_V → mw_S → Prop} : mw_WP d 146 50 [l0, l1, l2, l3, l4] [jI z] σ Q ↔ Q (some (jI z)) σ := WP_ireturn (ty := .int) mq146 dd146_50 rfl rfl
theorem dd146_51 : decode cX11_lends 51 = .ok (.aload_n 0, 1) := by decide +kernel
theorem ww146_51 {d : Nat} {l1 l2 l3 l4 : Option mw_V} {x : Nat} {st : List mw_V} {σ : mw_S} {Q : Option mw_V → mw_S → Prop} : mw_WP d 146 51 [some (jR x), l1, l2, l3, l4] st σ Q ↔ mw_WP d 146 52 [some (jR x), l1, l2, l3, l4] (jR x :: st) σ Q := WP_aload_n mq146 dd146_51 rfl
theorem dd146_52 : decode cX11_lends 52 = .ok (.getfield 35, 3) := by decide +kernel
theorem ww146_52 {d : Nat} {l0 l1 l2 l3 l4 : Option mw_V} {st : List mw_V} {σ : mw_S} {Q : Option mw_V → mw_S → Prop} : mw_WP d 146 52 [l0, l1, l2, l3, l4] (jR 0 :: st) σ Q ↔ mw_WP d 146 55 [l0, l1, l2, l3, l4] (jR 25 :: st) σ Q := WP_getR (ci := 10) (k := 3) mq146 dd146_52 (by decide) rfl
theorem dd146_55 : decode cX11_lends 55 = .ok (.aload_n 0, 1) := by decide +kernel
theorem ww146_55 {d : Nat} {l1 l2 l3 l4 : Option mw_V} {x : Nat} {st : List mw_V} {σ : mw_S} {Q : Option mw_V → mw_S → Prop} : mw_WP d 146 55 [some (jR x), l1, l2, l3, l4] st σ Q ↔ mw_WP d 146 56 [some (jR x), l1, l2, l3, l4] (jR x :: st) σ Q := WP_aload_n mq146 dd146_55 rfl
theorem dd146_56 : decode cX11_lends 56 = .ok (.getfield 86, 3) := by decide +kernel
theorem ww146_56 {d : Nat} {l0 l1 l2 l3 l4 : Option mw_V} {st : List mw_V} {σ : mw_S} {Q : Option mw_V → mw_S → Prop} : mw_WP d 146 56 [l0, l1, l2, l3, l4] (jR 0 :: st) σ Q ↔ mw_WP d 146 59 [l0, l1, l2, l3, l4] (jR 98 :: st) σ Q := WP_getR (ci := 10) (k := 11) mq146 dd146_56 (by decide) rfl
theorem dd146_59 : decode cX11_lends 59 = .ok (.invokevirtual 163, 3) := by decide +kernel
theorem ww146_59 {d : Nat} {l0 l1 l2 l3 l4 : Option mw_V} {v0 : mw_V} {a : Nat} {st : List mw_V} {σ : mw_S} {Q : Option mw_V → mw_S → Prop} (hr : mw_rc a = 6) (h8 : (st.map mw_cat).sum ≤ 8) : mw_WP d 146 59 [l0, l1, l2, l3, l4] (v0 :: jR a :: st) σ Q ↔ mw_Call d 41 [jR a, v0] σ (fun r1 s1 => mw_WP d 146 62 [l0, l1, l2, l3, l4] (r1.toList ++ st) s1 Q) := WP_inv (as := [v0]) mq146 dd146_59 (by decide) mq41 rfl hr h8
theorem dd146_62 : decode cX11_lends 62 = .ok (.aload_n 0, 1) := by decide +kernel
theorem ww146_62 {d : Nat} {l1 l2 l3 l4 : Option mw_V} {x : Nat} {st : List mw_V} {σ : mw_S} {Q : Option mw_V → mw_S → Prop} : mw_WP d 146 62 [some (jR x), l1, l2, l3, l4] st σ Q ↔ mw_WP d 146 63 [some (jR x), l1, l2, l3, l4] (jR x :: st) σ Q := WP_aload_n mq146 dd146_62 rfl
theorem dd146_63 : decode cX11_lends 63 = .ok (.getfield 86, 3) := by decide +kernel
theorem ww146_63 {d : Nat} {l0 l1 l2 l3 l4 : Option mw_V} {st : List mw_V} {σ : mw_S} {Q : Option mw_V → mw_S → Prop} : mw_WP d 146 63 [l0, l1, l2, l3, l4] (jR 0 :: st) σ Q ↔ mw_WP d 146 66 [l0, l1, l2, l3, l4] (jR 98 :: st) σ Q := WP_getR (ci := 10) (k := 11) mq146 dd146_63 (by decide) rfl
theorem dd146_66 : decode cX11_lends 66 = .ok (.iload_n 1, 1) := by decide +kernel
theorem ww146_66 {d : Nat} {l0 l2 l3 l4 : Option mw_V} {x : Int} {st : List mw_V} {σ : mw_S} {Q : Option mw_V → mw_S → Prop} : mw_WP d 146 66 [l0, some (jI x), l2, l3, l4] st σ Q ↔ mw_WP d 146 67 [l0, some (jI x), l2, l3, l4] (jI x :: st) σ Q := WP_iload_n mq146 dd146_66 rfl
theorem dd146_67 : decode cX11_lends 67 = .ok (.iload_n 2, 1) := by decide +kernel
theorem ww146_67 {d : Nat} {l0 l1 l3 l4 : Option mw_V} {x : Int} {st : List mw_V} {σ : mw_S} {Q : Option mw_V → mw_S → Prop} : mw_WP d 146 67 [l0, l1, some (jI x), l3, l4] st σ Q ↔ mw_WP d 146 68 [l0, l1, some (jI x), l3, l4] (jI x :: st) σ Q := WP_iload_n mq146 dd146_67 rfl
theorem dd146_68 : decode cX11_lends 68 = .ok (.iload_n 3, 1) := by decide +kernel
theorem ww146_68 {d : Nat} {l0 l1 l2 l4 : Option mw_V} {x : Int} {st : List mw_V} {σ : mw_S} {Q : Option mw_V → mw_S → Prop} : mw_WP d 146 68 [l0, l1, l2, some (jI x), l4] st σ Q ↔ mw_WP d 146 69 [l0, l1, l2, some (jI x), l4] (jI x :: st) σ Q := WP_iload_n mq146 dd146_68 rfl
theorem dd146_69 : decode cX11_lends 69 = .ok (.invokestatic 325, 3) := by decide +kernel
theorem ww146_69 {d : Nat} {l0 l1 l2 l3 l4 : Option mw_V} {v0 v1 v2 v3 : mw_V} {st : List mw_V} {σ : mw_S} {Q : Option mw_V → mw_S → Prop} (h8 : (st.map mw_cat).sum ≤ 8) : mw_WP d 146 69 [l0, l1, l2, l3, l4] (v3 :: v2 :: v1 :: v0 :: st) σ Q ↔ mw_Call d 8 [v0, v1, v2, v3] σ (fun r1 s1 => mw_WP d 146 72 [l0, l1, l2, l3, l4] (r1.toList ++ st) s1 Q) := WP_invs (as := [v3, v2, v1, v0]) mq146 dd146_69 (by decide) mq8 rfl rfl h8
theorem dd146_72 : decode cX11_lends 72 = .ok (.iload 4, 2) := by decide +kernel
theorem ww146_72 {d : Nat} {l0 l1 l2 l3 : Option mw_V} {x : Int} {st : List mw_V} {σ : mw_S} {Q : Option mw_V → mw_S → Prop} : mw_WP d 146 72 [l0, l1, l2, l3, some (jI x)] st σ Q ↔ mw_WP d 146 74 [l0, l1, l2, l3, some (jI x)] (jI x :: st) σ Q := WP_iload mq146 dd146_72 rfl
theorem dd146_74 : decode cX11_lends 74 = .ok (.ireturn, 1) := by decide +kernel
theorem ww146_74 {d : Nat} {l0 l1 l2 l3 l4 : Option mw_V} {z : Int} {σ : mw_S} {Q : Option mw_V → mw_S → Prop} : mw_WP d 146 74 [l0, l1, l2, l3, l4] [jI z] σ Q ↔ Q (some (jI z)) σ := WP_ireturn (ty := .int) mq146 dd146_74 rfl rfl
theorem ee147 {d : Nat} {a : Nat} {z0 : Int} {z1 : Int} {z2 : Int} {σ : mw_S} {Q : Option mw_V → mw_S → Prop} : mw_Call (d + 1) 147 [jR a, jI z0, jI z1, jI z2] σ Q ↔ mw_WP d 147 0 [some (jR a), some (jI z0), some (jI z1), some (jI z2)] [] σ Q := CL_u mq147 (Nat.le_of_ble_eq_true rfl) rfl
theorem dd147_0 : decode cX11_owes 0 = .ok (.aload_n 0, 1) := by decide +kernel
theorem ww147_0 {d : Nat} {l1 l2 l3 : Option mw_V} {x : Nat} {st : List mw_V} {σ : mw_S} {Q : Option mw_V → mw_S → Prop} : mw_WP d 147 0 [some (jR x), l1, l2, l3] st σ Q ↔ mw_WP d 147 1 [some (jR x), l1, l2, l3] (jR x :: st) σ Q := WP_aload_n mq147 dd147_0 rfl
theorem dd147_1 : decode cX11_owes 1 = .ok (.iload_n 1, 1) := by decide +kernel
theorem ww147_1 {d : Nat} {l0 l2 l3 : Option mw_V} {x : Int} {st : List mw_V} {σ : mw_S} {Q : Option mw_V → mw_S → Prop} : mw_WP d 147 1 [l0, some (jI x), l2, l3] st σ Q ↔ mw_WP d 147 2 [l0, some (jI x), l2, l3] (jI x :: st) σ Q := WP_iload_n mq147 dd147_1 rfl
theorem dd147_2 : decode cX11_owes 2 = .ok (.iload_n 2, 1) := by decide +kernel
theorem ww147_2 {d : Nat} {l0 l1 l3 : Option mw_V} {x : Int} {st : List mw_V} {σ : mw_S} {Q : Option mw_V → mw_S → Prop} : mw_WP d 147 2 [l0, l1, some (jI x), l3] st σ Q ↔ mw_WP d 147 3 [l0, l1, some (jI x), l3] (jI x :: st) σ Q := WP_iload_n mq147 dd147_2 rfl
theorem dd147_3 : decode cX11_owes 3 = .ok (.invokevirtual 316, 3) := by decide +kernel
theorem ww147_3 {d : Nat} {l0 l1 l2 l3 : Option mw_V} {v0 v1 : mw_V} {a : Nat} {st : List mw_V} {σ : mw_S} {Q : Option mw_V → mw_S → Prop} (hr : mw_rc a = 11) (h8 : (st.map mw_cat).sum ≤ 8) : mw_WP d 147 3 [l0, l1, l2, l3] (v1 :: v0 :: jR a :: st) σ Q ↔ mw_Call d 158 [jR a, v0, v1] σ (fun r1 s1 => mw_WP d 147 6 [l0, l1, l2, l3] (r1.toList ++ st) s1 Q) := WP_inv (as := [v1, v0]) mq147 dd147_3 (by decide) mq158 rfl hr h8
theorem dd147_6 : decode cX11_owes 6 = .ok (.ifCond .ne 6, 3) := by decide +kernel
theorem ww147_6 {d : Nat} {l0 l1 l2 l3 : Option mw_V} {x : Int} {st : List mw_V} {σ : mw_S} {Q : Option mw_V → mw_S → Prop} : mw_WP d 147 6 [l0, l1, l2, l3] (jI x :: st) σ Q ↔ (if ¬ x = 0 then mw_WP d 147 12 [l0, l1, l2, l3] st σ Q else mw_WP d 147 9 [l0, l1, l2, l3] st σ Q) := WP_if_ne mq147 dd147_6 (by decide)
theorem dd147_9 : decode cX11_owes 9 = .ok (.bipush (-2), 2) := by decide +kernel
theorem ww147_9 {d : Nat} {l0 l1 l2 l3 : Option mw_V} {st : List mw_V} {σ : mw_S} {Q : Option mw_V → mw_S → Prop} : mw_WP d 147 9 [l0, l1, l2, l3] st σ Q ↔ mw_WP d 147 11 [l0, l1, l2, l3] (jI (-2) :: st) σ Q := WP_bipush mq147 dd147_9 (by decide)
theorem dd147_11 : decode cX11_owes 11 = .ok (.ireturn, 1) := by decide +kernel
theorem ww147_11 {d : Nat} {l0 l1 l2 l3 : Option mw_V} {z : Int} {σ : mw_S} {Q : Option mw_V → mw_S → Prop} : mw_WP d 147 11 [l0, l1, l2, l3] [jI z] σ Q ↔ Q (some (jI z)) σ := WP_ireturn (ty := .int) mq147 dd147_11 rfl rfl
theorem dd147_12 : decode cX11_owes 12 = .ok (.iload_n 3, 1) := by decide +kernel
theorem ww147_12 {d : Nat} {l0 l1 l2 : Option mw_V} {x : Int} {st : List mw_V} {σ : mw_S} {Q : Option mw_V → mw_S → Prop} : mw_WP d 147 12 [l0, l1, l2, some (jI x)] st σ Q ↔ mw_WP d 147 13 [l0, l1, l2, some (jI x)] (jI x :: st) σ Q := WP_iload_n mq147 dd147_12 rfl
theorem dd147_13 : decode cX11_owes 13 = .ok (.ifCond .eq 15, 3) := by decide +kernel
theorem ww147_13 {d : Nat} {l0 l1 l2 l3 : Option mw_V} {x : Int} {st : List mw_V} {σ : mw_S} {Q : Option mw_V → mw_S → Prop} : mw_WP d 147 13 [l0, l1, l2, l3] (jI x :: st) σ Q ↔ (if x = 0 then mw_WP d 147 28 [l0, l1, l2, l3] st σ Q else mw_WP d 147 16 [l0, l1, l2, l3] st σ Q) := WP_if_eq mq147 dd147_13 (by decide)
theorem dd147_16 : decode cX11_owes 16 = .ok (.aload_n 0, 1) := by decide +kernel
theorem ww147_16 {d : Nat} {l1 l2 l3 : Option mw_V} {x : Nat} {st : List mw_V} {σ : mw_S} {Q : Option mw_V → mw_S → Prop} : mw_WP d 147 16 [some (jR x), l1, l2, l3] st σ Q ↔ mw_WP d 147 17 [some (jR x), l1, l2, l3] (jR x :: st) σ Q := WP_aload_n mq147 dd147_16 rfl
theorem dd147_17 : decode cX11_owes 17 = .ok (.getfield 86, 3) := by decide +kernel
theorem ww147_17 {d : Nat} {l0 l1 l2 l3 : Option mw_V} {st : List mw_V} {σ : mw_S} {Q : Option mw_V → mw_S → Prop} : mw_WP d 147 17 [l0, l1, l2, l3] (jR 0 :: st) σ Q ↔ mw_WP d 147 20 [l0, l1, l2, l3] (jR 98 :: st) σ Q := WP_getR (ci := 10) (k := 11) mq147 dd147_17 (by decide) rfl
theorem dd147_20 : decode cX11_owes 20 = .ok (.iload_n 2, 1) := by decide +kernel
theorem ww147_20 {d : Nat} {l0 l1 l3 : Option mw_V} {x : Int} {st : List mw_V} {σ : mw_S} {Q : Option mw_V → mw_S → Prop} : mw_WP d 147 20 [l0, l1, some (jI x), l3] st σ Q ↔ mw_WP d 147 21 [l0, l1, some (jI x), l3] (jI x :: st) σ Q := WP_iload_n mq147 dd147_20 rfl
theorem dd147_21 : decode cX11_owes 21 = .ok (.iload_n 1, 1) := by decide +kernel
theorem ww147_21 {d : Nat} {l0 l2 l3 : Option mw_V} {x : Int} {st : List mw_V} {σ : mw_S} {Q : Option mw_V → mw_S → Prop} : mw_WP d 147 21 [l0, some (jI x), l2, l3] st σ Q ↔ mw_WP d 147 22 [l0, some (jI x), l2, l3] (jI x :: st) σ Q := WP_iload_n mq147 dd147_21 rfl
theorem dd147_22 : decode cX11_owes 22 = .ok (.invokestatic 319, 3) := by decide +kernel
theorem ww147_22 {d : Nat} {l0 l1 l2 l3 : Option mw_V} {v0 v1 v2 : mw_V} {st : List mw_V} {σ : mw_S} {Q : Option mw_V → mw_S → Prop} (h8 : (st.map mw_cat).sum ≤ 8) : mw_WP d 147 22 [l0, l1, l2, l3] (v2 :: v1 :: v0 :: st) σ Q ↔ mw_Call d 7 [v0, v1, v2] σ (fun r1 s1 => mw_WP d 147 25 [l0, l1, l2, l3] (r1.toList ++ st) s1 Q) := WP_invs (as := [v2, v1, v0]) mq147 dd147_22 (by decide) mq7 rfl rfl h8
theorem dd147_25 : decode cX11_owes 25 = .ok (.goto 12, 3) := by decide +kernel
theorem ww147_25 {d : Nat} {l0 l1 l2 l3 : Option mw_V} {st : List mw_V} {σ : mw_S} {Q : Option mw_V → mw_S → Prop} : mw_WP d 147 25 [l0, l1, l2, l3] st σ Q ↔ mw_WP d 147 37 [l0, l1, l2, l3] st σ Q := WP_goto mq147 dd147_25 (by decide)
theorem dd147_28 : decode cX11_owes 28 = .ok (.aload_n 0, 1) := by decide +kernel
theorem ww147_28 {d : Nat} {l1 l2 l3 : Option mw_V} {x : Nat} {st : List mw_V} {σ : mw_S} {Q : Option mw_V → mw_S → Prop} : mw_WP d 147 28 [some (jR x), l1, l2, l3] st σ Q ↔ mw_WP d 147 29 [some (jR x), l1, l2, l3] (jR x :: st) σ Q := WP_aload_n mq147 dd147_28 rfl
theorem dd147_29 : decode cX11_owes 29 = .ok (.getfield 86, 3) := by decide +kernel
theorem ww147_29 {d : Nat} {l0 l1 l2 l3 : Option mw_V} {st : List mw_V} {σ : mw_S} {Q : Option mw_V → mw_S → Prop} : mw_WP d 147 29 [l0, l1, l2, l3] (jR 0 :: st) σ Q ↔ mw_WP d 147 32 [l0, l1, l2, l3] (jR 98 :: st) σ Q := WP_getR (ci := 10) (k := 11) mq147 dd147_29 (by decide) rfl
theorem dd147_32 : decode cX11_owes 32 = .ok (.iload_n 1, 1) := by decide +kernel
theorem ww147_32 {d : Nat} {l0 l2 l3 : Option mw_V} {x : Int} {st : List mw_V} {σ : mw_S} {Q : Option mw_V → mw_S → Prop} : mw_WP d 147 32 [l0, some (jI x), l2, l3] st σ Q ↔ mw_WP d 147 33 [l0, some (jI x), l2, l3] (jI x :: st) σ Q := WP_iload_n mq147 dd147_32 rfl
theorem dd147_33 : decode cX11_owes 33 = .ok (.iload_n 2, 1) := by decide +kernel
theorem ww147_33 {d : Nat} {l0 l1 l3 : Option mw_V} {x : Int} {st : List mw_V} {σ : mw_S} {Q : Option mw_V → mw_S → Prop} : mw_WP d 147 33 [l0, l1, some (jI x), l3] st σ Q ↔ mw_WP d 147 34 [l0, l1, some (jI x), l3] (jI x :: st) σ Q := WP_iload_n mq147 dd147_33 rfl
theorem dd147_34 : decode cX11_owes 34 = .ok (.invokestatic 319, 3) := by decide +kernel
theorem ww147_34 {d : Nat} {l0 l1 l2 l3 : Option mw_V} {v0 v1 v2 : mw_V} {st : List mw_V} {σ : mw_S} {Q : Option mw_V → mw_S → Prop} (h8 : (st.map mw_cat).sum ≤ 8) : mw_WP d 147 34 [l0, l1, l2, l3] (v2 :: v1 :: v0 :: st) σ Q ↔ mw_Call d 7 [v0, v1, v2] σ (fun r1 s1 => mw_WP d 147 37 [l0, l1, l2, l3] (r1.toList ++ st) s1 Q) := WP_invs (as := [v2, v1, v0]) mq147 dd147_34 (by decide) mq7 rfl rfl h8
theorem dd147_37 : decode cX11_owes 37 = .ok (.ireturn, 1) := by decide +kernel
theorem ww147_37 {d : Nat} {l0 l1 l2 l3 : Option mw_V} {z : Int} {σ : mw_S} {Q : Option mw_V → mw_S → Prop} : mw_WP d 147 37 [l0, l1, l2, l3] [jI z] σ Q ↔ Q (some (jI z)) σ := WP_ireturn (ty := .int) mq147 dd147_37 rfl rfl
theorem ee148 {d : Nat} {a : Nat} {z0 : Int} {z1 : Int} {σ : mw_S} {Q : Option mw_V → mw_S → Prop} : mw_Call (d + 1) 148 [jR a, jI z0, jI z1] σ Q ↔ mw_WP d 148 0 [some (jR a), some (jI z0), some (jI z1), none] [] σ Q := CL_u mq148 (Nat.le_of_ble_eq_true rfl) rfl
theorem dd148_0 : decode cX11_balance 0 = .ok (.aload_n 0, 1) := by decide +kernel
theorem ww148_0 {d : Nat} {l1 l2 l3 : Option mw_V} {x : Nat} {st : List mw_V} {σ : mw_S} {Q : Option mw_V → mw_S → Prop} : mw_WP d 148 0 [some (jR x), l1, l2, l3] st σ Q ↔ mw_WP d 148 1 [some (jR x), l1, l2, l3] (jR x :: st) σ Q := WP_aload_n mq148 dd148_0 rfl
theorem dd148_1 : decode cX11_balance 1 = .ok (.iload_n 1, 1) := by decide +kernel
theorem ww148_1 {d : Nat} {l0 l2 l3 : Option mw_V} {x : Int} {st : List mw_V} {σ : mw_S} {Q : Option mw_V → mw_S → Prop} : mw_WP d 148 1 [l0, some (jI x), l2, l3] st σ Q ↔ mw_WP d 148 2 [l0, some (jI x), l2, l3] (jI x :: st) σ Q := WP_iload_n mq148 dd148_1 rfl
theorem dd148_2 : decode cX11_balance 2 = .ok (.invokevirtual 131, 3) := by decide +kernel
theorem ww148_2 {d : Nat} {l0 l1 l2 l3 : Option mw_V} {v0 : mw_V} {a : Nat} {st : List mw_V} {σ : mw_S} {Q : Option mw_V → mw_S → Prop} (hr : mw_rc a = 11) (h8 : (st.map mw_cat).sum ≤ 8) : mw_WP d 148 2 [l0, l1, l2, l3] (v0 :: jR a :: st) σ Q ↔ mw_Call d 157 [jR a, v0] σ (fun r1 s1 => mw_WP d 148 5 [l0, l1, l2, l3] (r1.toList ++ st) s1 Q) := WP_inv (as := [v0]) mq148 dd148_2 (by decide) mq157 rfl hr h8
theorem dd148_5 : decode cX11_balance 5 = .ok (.ifCond .ne 6, 3) := by decide +kernel
theorem ww148_5 {d : Nat} {l0 l1 l2 l3 : Option mw_V} {x : Int} {st : List mw_V} {σ : mw_S} {Q : Option mw_V → mw_S → Prop} : mw_WP d 148 5 [l0, l1, l2, l3] (jI x :: st) σ Q ↔ (if ¬ x = 0 then mw_WP d 148 11 [l0, l1, l2, l3] st σ Q else mw_WP d 148 8 [l0, l1, l2, l3] st σ Q) := WP_if_ne mq148 dd148_5 (by decide)
theorem dd148_8 : decode cX11_balance 8 = .ok (.bipush (-2), 2) := by decide +kernel
theorem ww148_8 {d : Nat} {l0 l1 l2 l3 : Option mw_V} {st : List mw_V} {σ : mw_S} {Q : Option mw_V → mw_S → Prop} : mw_WP d 148 8 [l0, l1, l2, l3] st σ Q ↔ mw_WP d 148 10 [l0, l1, l2, l3] (jI (-2) :: st) σ Q := WP_bipush mq148 dd148_8 (by decide)
theorem dd148_10 : decode cX11_balance 10 = .ok (.ireturn, 1) := by decide +kernel
theorem ww148_10 {d : Nat} {l0 l1 l2 l3 : Option mw_V} {z : Int} {σ : mw_S} {Q : Option mw_V → mw_S → Prop} : mw_WP d 148 10 [l0, l1, l2, l3] [jI z] σ Q ↔ Q (some (jI z)) σ := WP_ireturn (ty := .int) mq148 dd148_10 rfl rfl
theorem dd148_11 : decode cX11_balance 11 = .ok (.aload_n 0, 1) := by decide +kernel
theorem ww148_11 {d : Nat} {l1 l2 l3 : Option mw_V} {x : Nat} {st : List mw_V} {σ : mw_S} {Q : Option mw_V → mw_S → Prop} : mw_WP d 148 11 [some (jR x), l1, l2, l3] st σ Q ↔ mw_WP d 148 12 [some (jR x), l1, l2, l3] (jR x :: st) σ Q := WP_aload_n mq148 dd148_11 rfl
theorem dd148_12 : decode cX11_balance 12 = .ok (.getfield 86, 3) := by decide +kernel
theorem ww148_12 {d : Nat} {l0 l1 l2 l3 : Option mw_V} {st : List mw_V} {σ : mw_S} {Q : Option mw_V → mw_S → Prop} : mw_WP d 148 12 [l0, l1, l2, l3] (jR 0 :: st) σ Q ↔ mw_WP d 148 15 [l0, l1, l2, l3] (jR 98 :: st) σ Q := WP_getR (ci := 10) (k := 11) mq148 dd148_12 (by decide) rfl
theorem dd148_15 : decode cX11_balance 15 = .ok (.iload_n 1, 1) := by decide +kernel
theorem ww148_15 {d : Nat} {l0 l2 l3 : Option mw_V} {x : Int} {st : List mw_V} {σ : mw_S} {Q : Option mw_V → mw_S → Prop} : mw_WP d 148 15 [l0, some (jI x), l2, l3] st σ Q ↔ mw_WP d 148 16 [l0, some (jI x), l2, l3] (jI x :: st) σ Q := WP_iload_n mq148 dd148_15 rfl
theorem dd148_16 : decode cX11_balance 16 = .ok (.invokestatic 328, 3) := by decide +kernel
theorem ww148_16 {d : Nat} {l0 l1 l2 l3 : Option mw_V} {v0 v1 : mw_V} {st : List mw_V} {σ : mw_S} {Q : Option mw_V → mw_S → Prop} (h8 : (st.map mw_cat).sum ≤ 8) : mw_WP d 148 16 [l0, l1, l2, l3] (v1 :: v0 :: st) σ Q ↔ mw_Call d 9 [v0, v1] σ (fun r1 s1 => mw_WP d 148 19 [l0, l1, l2, l3] (r1.toList ++ st) s1 Q) := WP_invs (as := [v1, v0]) mq148 dd148_16 (by decide) mq9 rfl rfl h8
theorem dd148_19 : decode cX11_balance 19 = .ok (.istore_n 3, 1) := by decide +kernel
theorem ww148_19 {d : Nat} {l0 l1 l2 l3 : Option mw_V} {x : Int} {st : List mw_V} {σ : mw_S} {Q : Option mw_V → mw_S → Prop} (h : mw_nlo l2 = true) : mw_WP d 148 19 [l0, l1, l2, l3] (jI x :: st) σ Q ↔ mw_WP d 148 20 [l0, l1, l2, some (jI x)] st σ Q := WP_istore_n mq148 dd148_19 (Nat.le_of_ble_eq_true rfl) (mw_nl_of (i := 2) rfl h) rfl
theorem dd148_20 : decode cX11_balance 20 = .ok (.iload_n 2, 1) := by decide +kernel
theorem ww148_20 {d : Nat} {l0 l1 l3 : Option mw_V} {x : Int} {st : List mw_V} {σ : mw_S} {Q : Option mw_V → mw_S → Prop} : mw_WP d 148 20 [l0, l1, some (jI x), l3] st σ Q ↔ mw_WP d 148 21 [l0, l1, some (jI x), l3] (jI x :: st) σ Q := WP_iload_n mq148 dd148_20 rfl
theorem dd148_21 : decode cX11_balance 21 = .ok (.ifCond .eq 8, 3) := by decide +kernel
theorem ww148_21 {d : Nat} {l0 l1 l2 l3 : Option mw_V} {x : Int} {st : List mw_V} {σ : mw_S} {Q : Option mw_V → mw_S → Prop} : mw_WP d 148 21 [l0, l1, l2, l3] (jI x :: st) σ Q ↔ (if x = 0 then mw_WP d 148 29 [l0, l1, l2, l3] st σ Q else mw_WP d 148 24 [l0, l1, l2, l3] st σ Q) := WP_if_eq mq148 dd148_21 (by decide)
theorem dd148_24 : decode cX11_balance 24 = .ok (.iload_n 3, 1) := by decide +kernel
theorem ww148_24 {d : Nat} {l0 l1 l2 : Option mw_V} {x : Int} {st : List mw_V} {σ : mw_S} {Q : Option mw_V → mw_S → Prop} : mw_WP d 148 24 [l0, l1, l2, some (jI x)] st σ Q ↔ mw_WP d 148 25 [l0, l1, l2, some (jI x)] (jI x :: st) σ Q := WP_iload_n mq148 dd148_24 rfl
theorem dd148_25 : decode cX11_balance 25 = .ok (.ineg, 1) := by decide +kernel
theorem ww148_25 {d : Nat} {l0 l1 l2 l3 : Option mw_V} {x : Int} {st : List mw_V} {σ : mw_S} {Q : Option mw_V → mw_S → Prop} : mw_WP d 148 25 [l0, l1, l2, l3] (jI x :: st) σ Q ↔ mw_WP d 148 26 [l0, l1, l2, l3] (jI (w32 (-x)) :: st) σ Q := WP_ineg mq148 dd148_25
theorem dd148_26 : decode cX11_balance 26 = .ok (.goto 4, 3) := by decide +kernel
theorem ww148_26 {d : Nat} {l0 l1 l2 l3 : Option mw_V} {st : List mw_V} {σ : mw_S} {Q : Option mw_V → mw_S → Prop} : mw_WP d 148 26 [l0, l1, l2, l3] st σ Q ↔ mw_WP d 148 30 [l0, l1, l2, l3] st σ Q := WP_goto mq148 dd148_26 (by decide)
theorem dd148_29 : decode cX11_balance 29 = .ok (.iload_n 3, 1) := by decide +kernel
theorem ww148_29 {d : Nat} {l0 l1 l2 : Option mw_V} {x : Int} {st : List mw_V} {σ : mw_S} {Q : Option mw_V → mw_S → Prop} : mw_WP d 148 29 [l0, l1, l2, some (jI x)] st σ Q ↔ mw_WP d 148 30 [l0, l1, l2, some (jI x)] (jI x :: st) σ Q := WP_iload_n mq148 dd148_29 rfl
theorem dd148_30 : decode cX11_balance 30 = .ok (.ireturn, 1) := by decide +kernel
theorem ww148_30 {d : Nat} {l0 l1 l2 l3 : Option mw_V} {z : Int} {σ : mw_S} {Q : Option mw_V → mw_S → Prop} : mw_WP d 148 30 [l0, l1, l2, l3] [jI z] σ Q ↔ Q (some (jI z)) σ := WP_ireturn (ty := .int) mq148 dd148_30 rfl rfl
theorem ee149 {d : Nat} {a : Nat} {σ : mw_S} {Q : Option mw_V → mw_S → Prop} : mw_Call (d + 1) 149 [jR a] σ Q ↔ mw_WP d 149 0 [some (jR a), none] [] σ Q := CL_u mq149 (Nat.le_of_ble_eq_true rfl) rfl
theorem dd149_0 : decode cX11_clear 0 = .ok (.aload_n 0, 1) := by decide +kernel
theorem ww149_0 {d : Nat} {l1 : Option mw_V} {x : Nat} {st : List mw_V} {σ : mw_S} {Q : Option mw_V → mw_S → Prop} : mw_WP d 149 0 [some (jR x), l1] st σ Q ↔ mw_WP d 149 1 [some (jR x), l1] (jR x :: st) σ Q := WP_aload_n mq149 dd149_0 rfl
theorem dd149_1 : decode cX11_clear 1 = .ok (.getfield 86, 3) := by decide +kernel
theorem ww149_1 {d : Nat} {l0 l1 : Option mw_V} {st : List mw_V} {σ : mw_S} {Q : Option mw_V → mw_S → Prop} : mw_WP d 149 1 [l0, l1] (jR 0 :: st) σ Q ↔ mw_WP d 149 4 [l0, l1] (jR 98 :: st) σ Q := WP_getR (ci := 10) (k := 11) mq149 dd149_1 (by decide) rfl
theorem dd149_4 : decode cX11_clear 4 = .ok (.aload_n 0, 1) := by decide +kernel
theorem ww149_4 {d : Nat} {l1 : Option mw_V} {x : Nat} {st : List mw_V} {σ : mw_S} {Q : Option mw_V → mw_S → Prop} : mw_WP d 149 4 [some (jR x), l1] st σ Q ↔ mw_WP d 149 5 [some (jR x), l1] (jR x :: st) σ Q := WP_aload_n mq149 dd149_4 rfl
theorem dd149_5 : decode cX11_clear 5 = .ok (.getfield 90, 3) := by decide +kernel
theorem ww149_5 {d : Nat} {l0 l1 : Option mw_V} {st : List mw_V} {σ : mw_S} {Q : Option mw_V → mw_S → Prop} : mw_WP d 149 5 [l0, l1] (jR 0 :: st) σ Q ↔ mw_WP d 149 8 [l0, l1] (jR 99 :: st) σ Q := WP_getR (ci := 10) (k := 12) mq149 dd149_5 (by decide) rfl
theorem dd149_8 : decode cX11_clear 8 = .ok (.invokestatic 198, 3) := by decide +kernel
theorem ww149_8 {d : Nat} {l0 l1 : Option mw_V} {v0 v1 : mw_V} {st : List mw_V} {σ : mw_S} {Q : Option mw_V → mw_S → Prop} (h8 : (st.map mw_cat).sum ≤ 8) : mw_WP d 149 8 [l0, l1] (v1 :: v0 :: st) σ Q ↔ mw_Call d 169 [v0, v1] σ (fun r1 s1 => mw_WP d 149 11 [l0, l1] (r1.toList ++ st) s1 Q) := WP_invs (as := [v1, v0]) mq149 dd149_8 (by decide) mq169 rfl rfl h8
theorem dd149_11 : decode cX11_clear 11 = .ok (.aload_n 0, 1) := by decide +kernel
theorem ww149_11 {d : Nat} {l1 : Option mw_V} {x : Nat} {st : List mw_V} {σ : mw_S} {Q : Option mw_V → mw_S → Prop} : mw_WP d 149 11 [some (jR x), l1] st σ Q ↔ mw_WP d 149 12 [some (jR x), l1] (jR x :: st) σ Q := WP_aload_n mq149 dd149_11 rfl
theorem dd149_12 : decode cX11_clear 12 = .ok (.getfield 86, 3) := by decide +kernel
theorem ww149_12 {d : Nat} {l0 l1 : Option mw_V} {st : List mw_V} {σ : mw_S} {Q : Option mw_V → mw_S → Prop} : mw_WP d 149 12 [l0, l1] (jR 0 :: st) σ Q ↔ mw_WP d 149 15 [l0, l1] (jR 98 :: st) σ Q := WP_getR (ci := 10) (k := 11) mq149 dd149_12 (by decide) rfl
theorem dd149_15 : decode cX11_clear 15 = .ok (.aload_n 0, 1) := by decide +kernel
theorem ww149_15 {d : Nat} {l1 : Option mw_V} {x : Nat} {st : List mw_V} {σ : mw_S} {Q : Option mw_V → mw_S → Prop} : mw_WP d 149 15 [some (jR x), l1] st σ Q ↔ mw_WP d 149 16 [some (jR x), l1] (jR x :: st) σ Q := WP_aload_n mq149 dd149_15 rfl
theorem dd149_16 : decode cX11_clear 16 = .ok (.getfield 19, 3) := by decide +kernel
theorem ww149_16 {d : Nat} {l0 l1 : Option mw_V} {st : List mw_V} {σ : mw_S} {Q : Option mw_V → mw_S → Prop} : mw_WP d 149 16 [l0, l1] (jR 0 :: st) σ Q ↔ mw_WP d 149 19 [l0, l1] (jR 13 :: st) σ Q := WP_getR (ci := 10) (k := 1) mq149 dd149_16 (by decide) rfl
theorem dd149_19 : decode cX11_clear 19 = .ok (.getfield 202, 3) := by decide +kernel
theorem ww149_19i3 {d : Nat} {l0 l1 : Option mw_V} {st : List mw_V} {σ : mw_S} {Q : Option mw_V → mw_S → Prop} : mw_WP d 149 19 [l0, l1] (jR 3 :: st) σ Q ↔ mw_WP d 149 22 [l0, l1] (jI (σ 3 1) :: st) σ Q := WP_getI (ci := 0) (k := 1) mq149 dd149_19 (by decide) (Or.inl rfl)
theorem ww149_19i13 {d : Nat} {l0 l1 : Option mw_V} {st : List mw_V} {σ : mw_S} {Q : Option mw_V → mw_S → Prop} : mw_WP d 149 19 [l0, l1] (jR 13 :: st) σ Q ↔ mw_WP d 149 22 [l0, l1] (jI (σ 13 1) :: st) σ Q := WP_getI (ci := 0) (k := 1) mq149 dd149_19 (by decide) (Or.inl rfl)
theorem ww149_19i77 {d : Nat} {l0 l1 : Option mw_V} {st : List mw_V} {σ : mw_S} {Q : Option mw_V → mw_S → Prop} : mw_WP d 149 19 [l0, l1] (jR 77 :: st) σ Q ↔ mw_WP d 149 22 [l0, l1] (jI (σ 77 1) :: st) σ Q := WP_getI (ci := 0) (k := 1) mq149 dd149_19 (by decide) (Or.inl rfl)
theorem ww149_19i88 {d : Nat} {l0 l1 : Option mw_V} {st : List mw_V} {σ : mw_S} {Q : Option mw_V → mw_S → Prop} : mw_WP d 149 19 [l0, l1] (jR 88 :: st) σ Q ↔ mw_WP d 149 22 [l0, l1] (jI (σ 88 1) :: st) σ Q := WP_getI (ci := 0) (k := 1) mq149 dd149_19 (by decide) (Or.inl rfl)
theorem dd149_22 : decode cX11_clear 22 = .ok (.invokestatic 331, 3) := by decide +kernel
theorem ww149_22 {d : Nat} {l0 l1 : Option mw_V} {v0 v1 : mw_V} {st : List mw_V} {σ : mw_S} {Q : Option mw_V → mw_S → Prop} (h8 : (st.map mw_cat).sum ≤ 8) : mw_WP d 149 22 [l0, l1] (v1 :: v0 :: st) σ Q ↔ mw_Call d 10 [v0, v1] σ (fun r1 s1 => mw_WP d 149 25 [l0, l1] (r1.toList ++ st) s1 Q) := WP_invs (as := [v1, v0]) mq149 dd149_22 (by decide) mq10 rfl rfl h8
theorem dd149_25 : decode cX11_clear 25 = .ok (.istore_n 1, 1) := by decide +kernel
theorem ww149_25 {d : Nat} {l0 l1 : Option mw_V} {x : Int} {st : List mw_V} {σ : mw_S} {Q : Option mw_V → mw_S → Prop} (h : mw_nlo l0 = true) : mw_WP d 149 25 [l0, l1] (jI x :: st) σ Q ↔ mw_WP d 149 26 [l0, some (jI x)] st σ Q := WP_istore_n mq149 dd149_25 (Nat.le_of_ble_eq_true rfl) (mw_nl_of (i := 0) rfl h) rfl
theorem dd149_26 : decode cX11_clear 26 = .ok (.iload_n 1, 1) := by decide +kernel
theorem ww149_26 {d : Nat} {l0 : Option mw_V} {x : Int} {st : List mw_V} {σ : mw_S} {Q : Option mw_V → mw_S → Prop} : mw_WP d 149 26 [l0, some (jI x)] st σ Q ↔ mw_WP d 149 27 [l0, some (jI x)] (jI x :: st) σ Q := WP_iload_n mq149 dd149_26 rfl
theorem dd149_27 : decode cX11_clear 27 = .ok (.ifCond .le 14, 3) := by decide +kernel
theorem ww149_27 {d : Nat} {l0 l1 : Option mw_V} {x : Int} {st : List mw_V} {σ : mw_S} {Q : Option mw_V → mw_S → Prop} : mw_WP d 149 27 [l0, l1] (jI x :: st) σ Q ↔ (if x ≤ 0 then mw_WP d 149 41 [l0, l1] st σ Q else mw_WP d 149 30 [l0, l1] st σ Q) := WP_if_le mq149 dd149_27 (by decide)
theorem dd149_30 : decode cX11_clear 30 = .ok (.aload_n 0, 1) := by decide +kernel
theorem ww149_30 {d : Nat} {l1 : Option mw_V} {x : Nat} {st : List mw_V} {σ : mw_S} {Q : Option mw_V → mw_S → Prop} : mw_WP d 149 30 [some (jR x), l1] st σ Q ↔ mw_WP d 149 31 [some (jR x), l1] (jR x :: st) σ Q := WP_aload_n mq149 dd149_30 rfl
theorem dd149_31 : decode cX11_clear 31 = .ok (.getfield 35, 3) := by decide +kernel
theorem ww149_31 {d : Nat} {l0 l1 : Option mw_V} {st : List mw_V} {σ : mw_S} {Q : Option mw_V → mw_S → Prop} : mw_WP d 149 31 [l0, l1] (jR 0 :: st) σ Q ↔ mw_WP d 149 34 [l0, l1] (jR 25 :: st) σ Q := WP_getR (ci := 10) (k := 3) mq149 dd149_31 (by decide) rfl
theorem dd149_34 : decode cX11_clear 34 = .ok (.aload_n 0, 1) := by decide +kernel
theorem ww149_34 {d : Nat} {l1 : Option mw_V} {x : Nat} {st : List mw_V} {σ : mw_S} {Q : Option mw_V → mw_S → Prop} : mw_WP d 149 34 [some (jR x), l1] st σ Q ↔ mw_WP d 149 35 [some (jR x), l1] (jR x :: st) σ Q := WP_aload_n mq149 dd149_34 rfl
theorem dd149_35 : decode cX11_clear 35 = .ok (.getfield 90, 3) := by decide +kernel
theorem ww149_35 {d : Nat} {l0 l1 : Option mw_V} {st : List mw_V} {σ : mw_S} {Q : Option mw_V → mw_S → Prop} : mw_WP d 149 35 [l0, l1] (jR 0 :: st) σ Q ↔ mw_WP d 149 38 [l0, l1] (jR 99 :: st) σ Q := WP_getR (ci := 10) (k := 12) mq149 dd149_35 (by decide) rfl
theorem dd149_38 : decode cX11_clear 38 = .ok (.invokevirtual 163, 3) := by decide +kernel
theorem ww149_38 {d : Nat} {l0 l1 : Option mw_V} {v0 : mw_V} {a : Nat} {st : List mw_V} {σ : mw_S} {Q : Option mw_V → mw_S → Prop} (hr : mw_rc a = 6) (h8 : (st.map mw_cat).sum ≤ 8) : mw_WP d 149 38 [l0, l1] (v0 :: jR a :: st) σ Q ↔ mw_Call d 41 [jR a, v0] σ (fun r1 s1 => mw_WP d 149 41 [l0, l1] (r1.toList ++ st) s1 Q) := WP_inv (as := [v0]) mq149 dd149_38 (by decide) mq41 rfl hr h8
theorem dd149_41 : decode cX11_clear 41 = .ok (.iload_n 1, 1) := by decide +kernel
theorem ww149_41 {d : Nat} {l0 : Option mw_V} {x : Int} {st : List mw_V} {σ : mw_S} {Q : Option mw_V → mw_S → Prop} : mw_WP d 149 41 [l0, some (jI x)] st σ Q ↔ mw_WP d 149 42 [l0, some (jI x)] (jI x :: st) σ Q := WP_iload_n mq149 dd149_41 rfl
theorem dd149_42 : decode cX11_clear 42 = .ok (.ireturn, 1) := by decide +kernel
theorem ww149_42 {d : Nat} {l0 l1 : Option mw_V} {z : Int} {σ : mw_S} {Q : Option mw_V → mw_S → Prop} : mw_WP d 149 42 [l0, l1] [jI z] σ Q ↔ Q (some (jI z)) σ := WP_ireturn (ty := .int) mq149 dd149_42 rfl rfl
theorem ee150 {d : Nat} {a : Nat} {σ : mw_S} {Q : Option mw_V → mw_S → Prop} : mw_Call (d + 1) 150 [jR a] σ Q ↔ mw_WP d 150 0 [some (jR a)] [] σ Q := CL_u mq150 (Nat.le_of_ble_eq_true rfl) rfl
theorem dd150_0 : decode cX11_payments 0 = .ok (.aload_n 0, 1) := by decide +kernel
theorem ww150_0 {d : Nat} {x : Nat} {st : List mw_V} {σ : mw_S} {Q : Option mw_V → mw_S → Prop} : mw_WP d 150 0 [some (jR x)] st σ Q ↔ mw_WP d 150 1 [some (jR x)] (jR x :: st) σ Q := WP_aload_n mq150 dd150_0 rfl
theorem dd150_1 : decode cX11_payments 1 = .ok (.getfield 86, 3) := by decide +kernel
theorem ww150_1 {d : Nat} {l0 : Option mw_V} {st : List mw_V} {σ : mw_S} {Q : Option mw_V → mw_S → Prop} : mw_WP d 150 1 [l0] (jR 0 :: st) σ Q ↔ mw_WP d 150 4 [l0] (jR 98 :: st) σ Q := WP_getR (ci := 10) (k := 11) mq150 dd150_1 (by decide) rfl
theorem dd150_4 : decode cX11_payments 4 = .ok (.aload_n 0, 1) := by decide +kernel
theorem ww150_4 {d : Nat} {x : Nat} {st : List mw_V} {σ : mw_S} {Q : Option mw_V → mw_S → Prop} : mw_WP d 150 4 [some (jR x)] st σ Q ↔ mw_WP d 150 5 [some (jR x)] (jR x :: st) σ Q := WP_aload_n mq150 dd150_4 rfl
theorem dd150_5 : decode cX11_payments 5 = .ok (.getfield 19, 3) := by decide +kernel
theorem ww150_5 {d : Nat} {l0 : Option mw_V} {st : List mw_V} {σ : mw_S} {Q : Option mw_V → mw_S → Prop} : mw_WP d 150 5 [l0] (jR 0 :: st) σ Q ↔ mw_WP d 150 8 [l0] (jR 13 :: st) σ Q := WP_getR (ci := 10) (k := 1) mq150 dd150_5 (by decide) rfl
theorem dd150_8 : decode cX11_payments 8 = .ok (.getfield 202, 3) := by decide +kernel
theorem ww150_8i3 {d : Nat} {l0 : Option mw_V} {st : List mw_V} {σ : mw_S} {Q : Option mw_V → mw_S → Prop} : mw_WP d 150 8 [l0] (jR 3 :: st) σ Q ↔ mw_WP d 150 11 [l0] (jI (σ 3 1) :: st) σ Q := WP_getI (ci := 0) (k := 1) mq150 dd150_8 (by decide) (Or.inl rfl)
theorem ww150_8i13 {d : Nat} {l0 : Option mw_V} {st : List mw_V} {σ : mw_S} {Q : Option mw_V → mw_S → Prop} : mw_WP d 150 8 [l0] (jR 13 :: st) σ Q ↔ mw_WP d 150 11 [l0] (jI (σ 13 1) :: st) σ Q := WP_getI (ci := 0) (k := 1) mq150 dd150_8 (by decide) (Or.inl rfl)
theorem ww150_8i77 {d : Nat} {l0 : Option mw_V} {st : List mw_V} {σ : mw_S} {Q : Option mw_V → mw_S → Prop} : mw_WP d 150 8 [l0] (jR 77 :: st) σ Q ↔ mw_WP d 150 11 [l0] (jI (σ 77 1) :: st) σ Q := WP_getI (ci := 0) (k := 1) mq150 dd150_8 (by decide) (Or.inl rfl)
theorem ww150_8i88 {d : Nat} {l0 : Option mw_V} {st : List mw_V} {σ : mw_S} {Q : Option mw_V → mw_S → Prop} : mw_WP d 150 8 [l0] (jR 88 :: st) σ Q ↔ mw_WP d 150 11 [l0] (jI (σ 88 1) :: st) σ Q := WP_getI (ci := 0) (k := 1) mq150 dd150_8 (by decide) (Or.inl rfl)
theorem dd150_11 : decode cX11_payments 11 = .ok (.invokestatic 334, 3) := by decide +kernel
theorem ww150_11 {d : Nat} {l0 : Option mw_V} {v0 v1 : mw_V} {st : List mw_V} {σ : mw_S} {Q : Option mw_V → mw_S → Prop} (h8 : (st.map mw_cat).sum ≤ 8) : mw_WP d 150 11 [l0] (v1 :: v0 :: st) σ Q ↔ mw_Call d 13 [v0, v1] σ (fun r1 s1 => mw_WP d 150 14 [l0] (r1.toList ++ st) s1 Q) := WP_invs (as := [v1, v0]) mq150 dd150_11 (by decide) mq13 rfl rfl h8
theorem dd150_14 : decode cX11_payments 14 = .ok (.ireturn, 1) := by decide +kernel
theorem ww150_14 {d : Nat} {l0 : Option mw_V} {z : Int} {σ : mw_S} {Q : Option mw_V → mw_S → Prop} : mw_WP d 150 14 [l0] [jI z] σ Q ↔ Q (some (jI z)) σ := WP_ireturn (ty := .int) mq150 dd150_14 rfl rfl
theorem ee151 {d : Nat} {a : Nat} {z0 : Int} {z1 : Int} {z2 : Int} {σ : mw_S} {Q : Option mw_V → mw_S → Prop} : mw_Call (d + 1) 151 [jR a, jI z0, jI z1, jI z2] σ Q ↔ mw_WP d 151 0 [some (jR a), some (jI z0), some (jI z1), some (jI z2)] [] σ Q := CL_u mq151 (Nat.le_of_ble_eq_true rfl) rfl
theorem dd151_0 : decode cX11_numbers 0 = .ok (.aload_n 0, 1) := by decide +kernel
theorem ww151_0 {d : Nat} {l1 l2 l3 : Option mw_V} {x : Nat} {st : List mw_V} {σ : mw_S} {Q : Option mw_V → mw_S → Prop} : mw_WP d 151 0 [some (jR x), l1, l2, l3] st σ Q ↔ mw_WP d 151 1 [some (jR x), l1, l2, l3] (jR x :: st) σ Q := WP_aload_n mq151 dd151_0 rfl
theorem dd151_1 : decode cX11_numbers 1 = .ok (.getfield 42, 3) := by decide +kernel
theorem ww151_1 {d : Nat} {l0 l1 l2 l3 : Option mw_V} {st : List mw_V} {σ : mw_S} {Q : Option mw_V → mw_S → Prop} : mw_WP d 151 1 [l0, l1, l2, l3] (jR 0 :: st) σ Q ↔ mw_WP d 151 4 [l0, l1, l2, l3] (jR 37 :: st) σ Q := WP_getR (ci := 10) (k := 4) mq151 dd151_1 (by decide) rfl
theorem dd151_4 : decode cX11_numbers 4 = .ok (.iload_n 1, 1) := by decide +kernel
theorem ww151_4 {d : Nat} {l0 l2 l3 : Option mw_V} {x : Int} {st : List mw_V} {σ : mw_S} {Q : Option mw_V → mw_S → Prop} : mw_WP d 151 4 [l0, some (jI x), l2, l3] st σ Q ↔ mw_WP d 151 5 [l0, some (jI x), l2, l3] (jI x :: st) σ Q := WP_iload_n mq151 dd151_4 rfl
theorem dd151_5 : decode cX11_numbers 5 = .ok (.invokevirtual 176, 3) := by decide +kernel
theorem ww151_5 {d : Nat} {l0 l1 l2 l3 : Option mw_V} {v0 : mw_V} {a : Nat} {st : List mw_V} {σ : mw_S} {Q : Option mw_V → mw_S → Prop} (hr : mw_rc a = 10) (h8 : (st.map mw_cat).sum ≤ 8) : mw_WP d 151 5 [l0, l1, l2, l3] (v0 :: jR a :: st) σ Q ↔ mw_Call d 112 [jR a, v0] σ (fun r1 s1 => mw_WP d 151 8 [l0, l1, l2, l3] (r1.toList ++ st) s1 Q) := WP_inv (as := [v0]) mq151 dd151_5 (by decide) mq112 rfl hr h8
theorem dd151_8 : decode cX11_numbers 8 = .ok (.ifCond .eq 12, 3) := by decide +kernel
theorem ww151_8 {d : Nat} {l0 l1 l2 l3 : Option mw_V} {x : Int} {st : List mw_V} {σ : mw_S} {Q : Option mw_V → mw_S → Prop} : mw_WP d 151 8 [l0, l1, l2, l3] (jI x :: st) σ Q ↔ (if x = 0 then mw_WP d 151 20 [l0, l1, l2, l3] st σ Q else mw_WP d 151 11 [l0, l1, l2, l3] st σ Q) := WP_if_eq mq151 dd151_8 (by decide)
theorem dd151_11 : decode cX11_numbers 11 = .ok (.iload_n 2, 1) := by decide +kernel
theorem ww151_11 {d : Nat} {l0 l1 l3 : Option mw_V} {x : Int} {st : List mw_V} {σ : mw_S} {Q : Option mw_V → mw_S → Prop} : mw_WP d 151 11 [l0, l1, some (jI x), l3] st σ Q ↔ mw_WP d 151 12 [l0, l1, some (jI x), l3] (jI x :: st) σ Q := WP_iload_n mq151 dd151_11 rfl
theorem dd151_12 : decode cX11_numbers 12 = .ok (.ifCond .lt 8, 3) := by decide +kernel
theorem ww151_12 {d : Nat} {l0 l1 l2 l3 : Option mw_V} {x : Int} {st : List mw_V} {σ : mw_S} {Q : Option mw_V → mw_S → Prop} : mw_WP d 151 12 [l0, l1, l2, l3] (jI x :: st) σ Q ↔ (if x < 0 then mw_WP d 151 20 [l0, l1, l2, l3] st σ Q else mw_WP d 151 15 [l0, l1, l2, l3] st σ Q) := WP_if_lt mq151 dd151_12 (by decide)
theorem dd151_15 : decode cX11_numbers 15 = .ok (.iload_n 2, 1) := by decide +kernel
theorem ww151_15 {d : Nat} {l0 l1 l3 : Option mw_V} {x : Int} {st : List mw_V} {σ : mw_S} {Q : Option mw_V → mw_S → Prop} : mw_WP d 151 15 [l0, l1, some (jI x), l3] st σ Q ↔ mw_WP d 151 16 [l0, l1, some (jI x), l3] (jI x :: st) σ Q := WP_iload_n mq151 dd151_15 rfl
theorem dd151_16 : decode cX11_numbers 16 = .ok (.iconst 3, 1) := by decide +kernel
theorem ww151_16 {d : Nat} {l0 l1 l2 l3 : Option mw_V} {st : List mw_V} {σ : mw_S} {Q : Option mw_V → mw_S → Prop} : mw_WP d 151 16 [l0, l1, l2, l3] st σ Q ↔ mw_WP d 151 17 [l0, l1, l2, l3] (jI (3) :: st) σ Q := WP_iconst mq151 dd151_16 (by decide)
theorem dd151_17 : decode cX11_numbers 17 = .ok (.if_icmp .le 6, 3) := by decide +kernel
theorem ww151_17 {d : Nat} {l0 l1 l2 l3 : Option mw_V} {x y : Int} {st : List mw_V} {σ : mw_S} {Q : Option mw_V → mw_S → Prop} : mw_WP d 151 17 [l0, l1, l2, l3] (jI y :: jI x :: st) σ Q ↔ (if x ≤ y then mw_WP d 151 23 [l0, l1, l2, l3] st σ Q else mw_WP d 151 20 [l0, l1, l2, l3] st σ Q) := WP_icmp_le mq151 dd151_17 (by decide)
theorem dd151_20 : decode cX11_numbers 20 = .ok (.bipush (-2), 2) := by decide +kernel
theorem ww151_20 {d : Nat} {l0 l1 l2 l3 : Option mw_V} {st : List mw_V} {σ : mw_S} {Q : Option mw_V → mw_S → Prop} : mw_WP d 151 20 [l0, l1, l2, l3] st σ Q ↔ mw_WP d 151 22 [l0, l1, l2, l3] (jI (-2) :: st) σ Q := WP_bipush mq151 dd151_20 (by decide)
theorem dd151_22 : decode cX11_numbers 22 = .ok (.ireturn, 1) := by decide +kernel
theorem ww151_22 {d : Nat} {l0 l1 l2 l3 : Option mw_V} {z : Int} {σ : mw_S} {Q : Option mw_V → mw_S → Prop} : mw_WP d 151 22 [l0, l1, l2, l3] [jI z] σ Q ↔ Q (some (jI z)) σ := WP_ireturn (ty := .int) mq151 dd151_22 rfl rfl
theorem dd151_23 : decode cX11_numbers 23 = .ok (.iload_n 3, 1) := by decide +kernel
theorem ww151_23 {d : Nat} {l0 l1 l2 : Option mw_V} {x : Int} {st : List mw_V} {σ : mw_S} {Q : Option mw_V → mw_S → Prop} : mw_WP d 151 23 [l0, l1, l2, some (jI x)] st σ Q ↔ mw_WP d 151 24 [l0, l1, l2, some (jI x)] (jI x :: st) σ Q := WP_iload_n mq151 dd151_23 rfl
theorem dd151_24 : decode cX11_numbers 24 = .ok (.ifCond .lt 9, 3) := by decide +kernel
theorem ww151_24 {d : Nat} {l0 l1 l2 l3 : Option mw_V} {x : Int} {st : List mw_V} {σ : mw_S} {Q : Option mw_V → mw_S → Prop} : mw_WP d 151 24 [l0, l1, l2, l3] (jI x :: st) σ Q ↔ (if x < 0 then mw_WP d 151 33 [l0, l1, l2, l3] st σ Q else mw_WP d 151 27 [l0, l1, l2, l3] st σ Q) := WP_if_lt mq151 dd151_24 (by decide)
theorem dd151_27 : decode cX11_numbers 27 = .ok (.iload_n 3, 1) := by decide +kernel
theorem ww151_27 {d : Nat} {l0 l1 l2 : Option mw_V} {x : Int} {st : List mw_V} {σ : mw_S} {Q : Option mw_V → mw_S → Prop} : mw_WP d 151 27 [l0, l1, l2, some (jI x)] st σ Q ↔ mw_WP d 151 28 [l0, l1, l2, some (jI x)] (jI x :: st) σ Q := WP_iload_n mq151 dd151_27 rfl
theorem dd151_28 : decode cX11_numbers 28 = .ok (.bipush 40, 2) := by decide +kernel
theorem ww151_28 {d : Nat} {l0 l1 l2 l3 : Option mw_V} {st : List mw_V} {σ : mw_S} {Q : Option mw_V → mw_S → Prop} : mw_WP d 151 28 [l0, l1, l2, l3] st σ Q ↔ mw_WP d 151 30 [l0, l1, l2, l3] (jI (40) :: st) σ Q := WP_bipush mq151 dd151_28 (by decide)
theorem dd151_30 : decode cX11_numbers 30 = .ok (.if_icmp .le 6, 3) := by decide +kernel
theorem ww151_30 {d : Nat} {l0 l1 l2 l3 : Option mw_V} {x y : Int} {st : List mw_V} {σ : mw_S} {Q : Option mw_V → mw_S → Prop} : mw_WP d 151 30 [l0, l1, l2, l3] (jI y :: jI x :: st) σ Q ↔ (if x ≤ y then mw_WP d 151 36 [l0, l1, l2, l3] st σ Q else mw_WP d 151 33 [l0, l1, l2, l3] st σ Q) := WP_icmp_le mq151 dd151_30 (by decide)
theorem dd151_33 : decode cX11_numbers 33 = .ok (.bipush (-3), 2) := by decide +kernel
theorem ww151_33 {d : Nat} {l0 l1 l2 l3 : Option mw_V} {st : List mw_V} {σ : mw_S} {Q : Option mw_V → mw_S → Prop} : mw_WP d 151 33 [l0, l1, l2, l3] st σ Q ↔ mw_WP d 151 35 [l0, l1, l2, l3] (jI (-3) :: st) σ Q := WP_bipush mq151 dd151_33 (by decide)
theorem dd151_35 : decode cX11_numbers 35 = .ok (.ireturn, 1) := by decide +kernel
theorem ww151_35 {d : Nat} {l0 l1 l2 l3 : Option mw_V} {z : Int} {σ : mw_S} {Q : Option mw_V → mw_S → Prop} : mw_WP d 151 35 [l0, l1, l2, l3] [jI z] σ Q ↔ Q (some (jI z)) σ := WP_ireturn (ty := .int) mq151 dd151_35 rfl rfl
theorem dd151_36 : decode cX11_numbers 36 = .ok (.aload_n 0, 1) := by decide +kernel
theorem ww151_36 {d : Nat} {l1 l2 l3 : Option mw_V} {x : Nat} {st : List mw_V} {σ : mw_S} {Q : Option mw_V → mw_S → Prop} : mw_WP d 151 36 [some (jR x), l1, l2, l3] st σ Q ↔ mw_WP d 151 37 [some (jR x), l1, l2, l3] (jR x :: st) σ Q := WP_aload_n mq151 dd151_36 rfl
theorem dd151_37 : decode cX11_numbers 37 = .ok (.getfield 42, 3) := by decide +kernel
theorem ww151_37 {d : Nat} {l0 l1 l2 l3 : Option mw_V} {st : List mw_V} {σ : mw_S} {Q : Option mw_V → mw_S → Prop} : mw_WP d 151 37 [l0, l1, l2, l3] (jR 0 :: st) σ Q ↔ mw_WP d 151 40 [l0, l1, l2, l3] (jR 37 :: st) σ Q := WP_getR (ci := 10) (k := 4) mq151 dd151_37 (by decide) rfl
theorem dd151_40 : decode cX11_numbers 40 = .ok (.iload_n 1, 1) := by decide +kernel
theorem ww151_40 {d : Nat} {l0 l2 l3 : Option mw_V} {x : Int} {st : List mw_V} {σ : mw_S} {Q : Option mw_V → mw_S → Prop} : mw_WP d 151 40 [l0, some (jI x), l2, l3] st σ Q ↔ mw_WP d 151 41 [l0, some (jI x), l2, l3] (jI x :: st) σ Q := WP_iload_n mq151 dd151_40 rfl
theorem dd151_41 : decode cX11_numbers 41 = .ok (.iload_n 2, 1) := by decide +kernel
theorem ww151_41 {d : Nat} {l0 l1 l3 : Option mw_V} {x : Int} {st : List mw_V} {σ : mw_S} {Q : Option mw_V → mw_S → Prop} : mw_WP d 151 41 [l0, l1, some (jI x), l3] st σ Q ↔ mw_WP d 151 42 [l0, l1, some (jI x), l3] (jI x :: st) σ Q := WP_iload_n mq151 dd151_41 rfl
theorem dd151_42 : decode cX11_numbers 42 = .ok (.iload_n 3, 1) := by decide +kernel
theorem ww151_42 {d : Nat} {l0 l1 l2 : Option mw_V} {x : Int} {st : List mw_V} {σ : mw_S} {Q : Option mw_V → mw_S → Prop} : mw_WP d 151 42 [l0, l1, l2, some (jI x)] st σ Q ↔ mw_WP d 151 43 [l0, l1, l2, some (jI x)] (jI x :: st) σ Q := WP_iload_n mq151 dd151_42 rfl
theorem dd151_43 : decode cX11_numbers 43 = .ok (.invokevirtual 337, 3) := by decide +kernel
theorem ww151_43 {d : Nat} {l0 l1 l2 l3 : Option mw_V} {v0 v1 v2 : mw_V} {a : Nat} {st : List mw_V} {σ : mw_S} {Q : Option mw_V → mw_S → Prop} (hr : mw_rc a = 10) (h8 : (st.map mw_cat).sum ≤ 8) : mw_WP d 151 43 [l0, l1, l2, l3] (v2 :: v1 :: v0 :: jR a :: st) σ Q ↔ mw_Call d 116 [jR a, v0, v1, v2] σ (fun r1 s1 => mw_WP d 151 46 [l0, l1, l2, l3] (r1.toList ++ st) s1 Q) := WP_inv (as := [v2, v1, v0]) mq151 dd151_43 (by decide) mq116 rfl hr h8
theorem dd151_46 : decode cX11_numbers 46 = .ok (.iconst 0, 1) := by decide +kernel
theorem ww151_46 {d : Nat} {l0 l1 l2 l3 : Option mw_V} {st : List mw_V} {σ : mw_S} {Q : Option mw_V → mw_S → Prop} : mw_WP d 151 46 [l0, l1, l2, l3] st σ Q ↔ mw_WP d 151 47 [l0, l1, l2, l3] (jI (0) :: st) σ Q := WP_iconst mq151 dd151_46 (by decide)
theorem dd151_47 : decode cX11_numbers 47 = .ok (.ireturn, 1) := by decide +kernel
theorem ww151_47 {d : Nat} {l0 l1 l2 l3 : Option mw_V} {z : Int} {σ : mw_S} {Q : Option mw_V → mw_S → Prop} : mw_WP d 151 47 [l0, l1, l2, l3] [jI z] σ Q ↔ Q (some (jI z)) σ := WP_ireturn (ty := .int) mq151 dd151_47 rfl rfl
theorem ee152 {d : Nat} {a : Nat} {z0 : Int} {z1 : Int} {z2 : Int} {σ : mw_S} {Q : Option mw_V → mw_S → Prop} : mw_Call (d + 1) 152 [jR a, jI z0, jI z1, jL z2] σ Q ↔ mw_WP d 152 0 [some (jR a), some (jI z0), some (jI z1), some (jL z2), none] [] σ Q := CL_u mq152 (Nat.le_of_ble_eq_true rfl) rfl
theorem dd152_0 : decode cX11_write 0 = .ok (.aload_n 0, 1) := by decide +kernel
theorem ww152_0 {d : Nat} {l1 l2 l3 l4 : Option mw_V} {x : Nat} {st : List mw_V} {σ : mw_S} {Q : Option mw_V → mw_S → Prop} : mw_WP d 152 0 [some (jR x), l1, l2, l3, l4] st σ Q ↔ mw_WP d 152 1 [some (jR x), l1, l2, l3, l4] (jR x :: st) σ Q := WP_aload_n mq152 dd152_0 rfl
theorem dd152_1 : decode cX11_write 1 = .ok (.getfield 42, 3) := by decide +kernel
theorem ww152_1 {d : Nat} {l0 l1 l2 l3 l4 : Option mw_V} {st : List mw_V} {σ : mw_S} {Q : Option mw_V → mw_S → Prop} : mw_WP d 152 1 [l0, l1, l2, l3, l4] (jR 0 :: st) σ Q ↔ mw_WP d 152 4 [l0, l1, l2, l3, l4] (jR 37 :: st) σ Q := WP_getR (ci := 10) (k := 4) mq152 dd152_1 (by decide) rfl
theorem dd152_4 : decode cX11_write 4 = .ok (.iload_n 1, 1) := by decide +kernel
theorem ww152_4 {d : Nat} {l0 l2 l3 l4 : Option mw_V} {x : Int} {st : List mw_V} {σ : mw_S} {Q : Option mw_V → mw_S → Prop} : mw_WP d 152 4 [l0, some (jI x), l2, l3, l4] st σ Q ↔ mw_WP d 152 5 [l0, some (jI x), l2, l3, l4] (jI x :: st) σ Q := WP_iload_n mq152 dd152_4 rfl
theorem dd152_5 : decode cX11_write 5 = .ok (.invokevirtual 176, 3) := by decide +kernel
theorem ww152_5 {d : Nat} {l0 l1 l2 l3 l4 : Option mw_V} {v0 : mw_V} {a : Nat} {st : List mw_V} {σ : mw_S} {Q : Option mw_V → mw_S → Prop} (hr : mw_rc a = 10) (h8 : (st.map mw_cat).sum ≤ 8) : mw_WP d 152 5 [l0, l1, l2, l3, l4] (v0 :: jR a :: st) σ Q ↔ mw_Call d 112 [jR a, v0] σ (fun r1 s1 => mw_WP d 152 8 [l0, l1, l2, l3, l4] (r1.toList ++ st) s1 Q) := WP_inv (as := [v0]) mq152 dd152_5 (by decide) mq112 rfl hr h8
theorem dd152_8 : decode cX11_write 8 = .ok (.ifCond .ne 7, 3) := by decide +kernel
theorem ww152_8 {d : Nat} {l0 l1 l2 l3 l4 : Option mw_V} {x : Int} {st : List mw_V} {σ : mw_S} {Q : Option mw_V → mw_S → Prop} : mw_WP d 152 8 [l0, l1, l2, l3, l4] (jI x :: st) σ Q ↔ (if ¬ x = 0 then mw_WP d 152 15 [l0, l1, l2, l3, l4] st σ Q else mw_WP d 152 11 [l0, l1, l2, l3, l4] st σ Q) := WP_if_ne mq152 dd152_8 (by decide)
theorem dd152_11 : decode cX11_write 11 = .ok (.ldc2_w 291, 3) := by decide +kernel
theorem ww152_11 {d : Nat} {l0 l1 l2 l3 l4 : Option mw_V} {st : List mw_V} {σ : mw_S} {Q : Option mw_V → mw_S → Prop} : mw_WP d 152 11 [l0, l1, l2, l3, l4] st σ Q ↔ mw_WP d 152 14 [l0, l1, l2, l3, l4] (jL (-2) :: st) σ Q := WP_ldc2_w (v := -2) mq152 dd152_11 (by decide) (by decide)
theorem dd152_14 : decode cX11_write 14 = .ok (.lreturn, 1) := by decide +kernel
theorem ww152_14 {d : Nat} {l0 l1 l2 l3 l4 : Option mw_V} {z : Int} {σ : mw_S} {Q : Option mw_V → mw_S → Prop} : mw_WP d 152 14 [l0, l1, l2, l3, l4] [jL z] σ Q ↔ Q (some (jL z)) σ := WP_lreturn mq152 dd152_14 rfl
theorem dd152_15 : decode cX11_write 15 = .ok (.aload_n 0, 1) := by decide +kernel
theorem ww152_15 {d : Nat} {l1 l2 l3 l4 : Option mw_V} {x : Nat} {st : List mw_V} {σ : mw_S} {Q : Option mw_V → mw_S → Prop} : mw_WP d 152 15 [some (jR x), l1, l2, l3, l4] st σ Q ↔ mw_WP d 152 16 [some (jR x), l1, l2, l3, l4] (jR x :: st) σ Q := WP_aload_n mq152 dd152_15 rfl
theorem dd152_16 : decode cX11_write 16 = .ok (.getfield 42, 3) := by decide +kernel
theorem ww152_16 {d : Nat} {l0 l1 l2 l3 l4 : Option mw_V} {st : List mw_V} {σ : mw_S} {Q : Option mw_V → mw_S → Prop} : mw_WP d 152 16 [l0, l1, l2, l3, l4] (jR 0 :: st) σ Q ↔ mw_WP d 152 19 [l0, l1, l2, l3, l4] (jR 37 :: st) σ Q := WP_getR (ci := 10) (k := 4) mq152 dd152_16 (by decide) rfl
theorem dd152_19 : decode cX11_write 19 = .ok (.iload_n 1, 1) := by decide +kernel
theorem ww152_19 {d : Nat} {l0 l2 l3 l4 : Option mw_V} {x : Int} {st : List mw_V} {σ : mw_S} {Q : Option mw_V → mw_S → Prop} : mw_WP d 152 19 [l0, some (jI x), l2, l3, l4] st σ Q ↔ mw_WP d 152 20 [l0, some (jI x), l2, l3, l4] (jI x :: st) σ Q := WP_iload_n mq152 dd152_19 rfl
theorem dd152_20 : decode cX11_write 20 = .ok (.invokevirtual 179, 3) := by decide +kernel
theorem ww152_20 {d : Nat} {l0 l1 l2 l3 l4 : Option mw_V} {v0 : mw_V} {a : Nat} {st : List mw_V} {σ : mw_S} {Q : Option mw_V → mw_S → Prop} (hr : mw_rc a = 10) (h8 : (st.map mw_cat).sum ≤ 8) : mw_WP d 152 20 [l0, l1, l2, l3, l4] (v0 :: jR a :: st) σ Q ↔ mw_Call d 113 [jR a, v0] σ (fun r1 s1 => mw_WP d 152 23 [l0, l1, l2, l3, l4] (r1.toList ++ st) s1 Q) := WP_inv (as := [v0]) mq152 dd152_20 (by decide) mq113 rfl hr h8
theorem dd152_23 : decode cX11_write 23 = .ok (.ifCond .eq 7, 3) := by decide +kernel
theorem ww152_23 {d : Nat} {l0 l1 l2 l3 l4 : Option mw_V} {x : Int} {st : List mw_V} {σ : mw_S} {Q : Option mw_V → mw_S → Prop} : mw_WP d 152 23 [l0, l1, l2, l3, l4] (jI x :: st) σ Q ↔ (if x = 0 then mw_WP d 152 30 [l0, l1, l2, l3, l4] st σ Q else mw_WP d 152 26 [l0, l1, l2, l3, l4] st σ Q) := WP_if_eq mq152 dd152_23 (by decide)
theorem dd152_26 : decode cX11_write 26 = .ok (.ldc2_w 341, 3) := by decide +kernel
theorem ww152_26 {d : Nat} {l0 l1 l2 l3 l4 : Option mw_V} {st : List mw_V} {σ : mw_S} {Q : Option mw_V → mw_S → Prop} : mw_WP d 152 26 [l0, l1, l2, l3, l4] st σ Q ↔ mw_WP d 152 29 [l0, l1, l2, l3, l4] (jL (-6) :: st) σ Q := WP_ldc2_w (v := -6) mq152 dd152_26 (by decide) (by decide)
theorem dd152_29 : decode cX11_write 29 = .ok (.lreturn, 1) := by decide +kernel
theorem ww152_29 {d : Nat} {l0 l1 l2 l3 l4 : Option mw_V} {z : Int} {σ : mw_S} {Q : Option mw_V → mw_S → Prop} : mw_WP d 152 29 [l0, l1, l2, l3, l4] [jL z] σ Q ↔ Q (some (jL z)) σ := WP_lreturn mq152 dd152_29 rfl
theorem dd152_30 : decode cX11_write 30 = .ok (.iload_n 2, 1) := by decide +kernel
theorem ww152_30 {d : Nat} {l0 l1 l3 l4 : Option mw_V} {x : Int} {st : List mw_V} {σ : mw_S} {Q : Option mw_V → mw_S → Prop} : mw_WP d 152 30 [l0, l1, some (jI x), l3, l4] st σ Q ↔ mw_WP d 152 31 [l0, l1, some (jI x), l3, l4] (jI x :: st) σ Q := WP_iload_n mq152 dd152_30 rfl
theorem dd152_31 : decode cX11_write 31 = .ok (.ifCond .lt 15, 3) := by decide +kernel
theorem ww152_31 {d : Nat} {l0 l1 l2 l3 l4 : Option mw_V} {x : Int} {st : List mw_V} {σ : mw_S} {Q : Option mw_V → mw_S → Prop} : mw_WP d 152 31 [l0, l1, l2, l3, l4] (jI x :: st) σ Q ↔ (if x < 0 then mw_WP d 152 46 [l0, l1, l2, l3, l4] st σ Q else mw_WP d 152 34 [l0, l1, l2, l3, l4] st σ Q) := WP_if_lt mq152 dd152_31 (by decide)
theorem dd152_34 : decode cX11_write 34 = .ok (.iload_n 2, 1) := by decide +kernel
theorem ww152_34 {d : Nat} {l0 l1 l3 l4 : Option mw_V} {x : Int} {st : List mw_V} {σ : mw_S} {Q : Option mw_V → mw_S → Prop} : mw_WP d 152 34 [l0, l1, some (jI x), l3, l4] st σ Q ↔ mw_WP d 152 35 [l0, l1, some (jI x), l3, l4] (jI x :: st) σ Q := WP_iload_n mq152 dd152_34 rfl
theorem dd152_35 : decode cX11_write 35 = .ok (.aload_n 0, 1) := by decide +kernel
theorem ww152_35 {d : Nat} {l1 l2 l3 l4 : Option mw_V} {x : Nat} {st : List mw_V} {σ : mw_S} {Q : Option mw_V → mw_S → Prop} : mw_WP d 152 35 [some (jR x), l1, l2, l3, l4] st σ Q ↔ mw_WP d 152 36 [some (jR x), l1, l2, l3, l4] (jR x :: st) σ Q := WP_aload_n mq152 dd152_35 rfl
theorem dd152_36 : decode cX11_write 36 = .ok (.getfield 42, 3) := by decide +kernel
theorem ww152_36 {d : Nat} {l0 l1 l2 l3 l4 : Option mw_V} {st : List mw_V} {σ : mw_S} {Q : Option mw_V → mw_S → Prop} : mw_WP d 152 36 [l0, l1, l2, l3, l4] (jR 0 :: st) σ Q ↔ mw_WP d 152 39 [l0, l1, l2, l3, l4] (jR 37 :: st) σ Q := WP_getR (ci := 10) (k := 4) mq152 dd152_36 (by decide) rfl
theorem dd152_39 : decode cX11_write 39 = .ok (.iload_n 1, 1) := by decide +kernel
theorem ww152_39 {d : Nat} {l0 l2 l3 l4 : Option mw_V} {x : Int} {st : List mw_V} {σ : mw_S} {Q : Option mw_V → mw_S → Prop} : mw_WP d 152 39 [l0, some (jI x), l2, l3, l4] st σ Q ↔ mw_WP d 152 40 [l0, some (jI x), l2, l3, l4] (jI x :: st) σ Q := WP_iload_n mq152 dd152_39 rfl
theorem dd152_40 : decode cX11_write 40 = .ok (.invokevirtual 188, 3) := by decide +kernel
theorem ww152_40 {d : Nat} {l0 l1 l2 l3 l4 : Option mw_V} {v0 : mw_V} {a : Nat} {st : List mw_V} {σ : mw_S} {Q : Option mw_V → mw_S → Prop} (hr : mw_rc a = 10) (h8 : (st.map mw_cat).sum ≤ 8) : mw_WP d 152 40 [l0, l1, l2, l3, l4] (v0 :: jR a :: st) σ Q ↔ mw_Call d 114 [jR a, v0] σ (fun r1 s1 => mw_WP d 152 43 [l0, l1, l2, l3, l4] (r1.toList ++ st) s1 Q) := WP_inv (as := [v0]) mq152 dd152_40 (by decide) mq114 rfl hr h8
theorem dd152_43 : decode cX11_write 43 = .ok (.if_icmp .lt 7, 3) := by decide +kernel
theorem ww152_43 {d : Nat} {l0 l1 l2 l3 l4 : Option mw_V} {x y : Int} {st : List mw_V} {σ : mw_S} {Q : Option mw_V → mw_S → Prop} : mw_WP d 152 43 [l0, l1, l2, l3, l4] (jI y :: jI x :: st) σ Q ↔ (if x < y then mw_WP d 152 50 [l0, l1, l2, l3, l4] st σ Q else mw_WP d 152 46 [l0, l1, l2, l3, l4] st σ Q) := WP_icmp_lt mq152 dd152_43 (by decide)
theorem dd152_46 : decode cX11_write 46 = .ok (.ldc2_w 343, 3) := by decide +kernel
theorem ww152_46 {d : Nat} {l0 l1 l2 l3 l4 : Option mw_V} {st : List mw_V} {σ : mw_S} {Q : Option mw_V → mw_S → Prop} : mw_WP d 152 46 [l0, l1, l2, l3, l4] st σ Q ↔ mw_WP d 152 49 [l0, l1, l2, l3, l4] (jL (-7) :: st) σ Q := WP_ldc2_w (v := -7) mq152 dd152_46 (by decide) (by decide)
theorem dd152_49 : decode cX11_write 49 = .ok (.lreturn, 1) := by decide +kernel
theorem ww152_49 {d : Nat} {l0 l1 l2 l3 l4 : Option mw_V} {z : Int} {σ : mw_S} {Q : Option mw_V → mw_S → Prop} : mw_WP d 152 49 [l0, l1, l2, l3, l4] [jL z] σ Q ↔ Q (some (jL z)) σ := WP_lreturn mq152 dd152_49 rfl
theorem dd152_50 : decode cX11_write 50 = .ok (.aload_n 0, 1) := by decide +kernel
theorem ww152_50 {d : Nat} {l1 l2 l3 l4 : Option mw_V} {x : Nat} {st : List mw_V} {σ : mw_S} {Q : Option mw_V → mw_S → Prop} : mw_WP d 152 50 [some (jR x), l1, l2, l3, l4] st σ Q ↔ mw_WP d 152 51 [some (jR x), l1, l2, l3, l4] (jR x :: st) σ Q := WP_aload_n mq152 dd152_50 rfl
theorem dd152_51 : decode cX11_write 51 = .ok (.getfield 42, 3) := by decide +kernel
theorem ww152_51 {d : Nat} {l0 l1 l2 l3 l4 : Option mw_V} {st : List mw_V} {σ : mw_S} {Q : Option mw_V → mw_S → Prop} : mw_WP d 152 51 [l0, l1, l2, l3, l4] (jR 0 :: st) σ Q ↔ mw_WP d 152 54 [l0, l1, l2, l3, l4] (jR 37 :: st) σ Q := WP_getR (ci := 10) (k := 4) mq152 dd152_51 (by decide) rfl
theorem dd152_54 : decode cX11_write 54 = .ok (.iload_n 1, 1) := by decide +kernel
theorem ww152_54 {d : Nat} {l0 l2 l3 l4 : Option mw_V} {x : Int} {st : List mw_V} {σ : mw_S} {Q : Option mw_V → mw_S → Prop} : mw_WP d 152 54 [l0, some (jI x), l2, l3, l4] st σ Q ↔ mw_WP d 152 55 [l0, some (jI x), l2, l3, l4] (jI x :: st) σ Q := WP_iload_n mq152 dd152_54 rfl
theorem dd152_55 : decode cX11_write 55 = .ok (.iload_n 2, 1) := by decide +kernel
theorem ww152_55 {d : Nat} {l0 l1 l3 l4 : Option mw_V} {x : Int} {st : List mw_V} {σ : mw_S} {Q : Option mw_V → mw_S → Prop} : mw_WP d 152 55 [l0, l1, some (jI x), l3, l4] st σ Q ↔ mw_WP d 152 56 [l0, l1, some (jI x), l3, l4] (jI x :: st) σ Q := WP_iload_n mq152 dd152_55 rfl
theorem dd152_56 : decode cX11_write 56 = .ok (.lload_n 3, 1) := by decide +kernel
theorem ww152_56 {d : Nat} {l0 l1 l2 l4 : Option mw_V} {x : Int} {st : List mw_V} {σ : mw_S} {Q : Option mw_V → mw_S → Prop} : mw_WP d 152 56 [l0, l1, l2, some (jL x), l4] st σ Q ↔ mw_WP d 152 57 [l0, l1, l2, some (jL x), l4] (jL x :: st) σ Q := WP_lload_n mq152 dd152_56 rfl
theorem dd152_57 : decode cX11_write 57 = .ok (.invokevirtual 345, 3) := by decide +kernel
theorem ww152_57 {d : Nat} {l0 l1 l2 l3 l4 : Option mw_V} {v0 v1 v2 : mw_V} {a : Nat} {st : List mw_V} {σ : mw_S} {Q : Option mw_V → mw_S → Prop} (hr : mw_rc a = 10) (h8 : (st.map mw_cat).sum ≤ 8) : mw_WP d 152 57 [l0, l1, l2, l3, l4] (v2 :: v1 :: v0 :: jR a :: st) σ Q ↔ mw_Call d 117 [jR a, v0, v1, v2] σ (fun r1 s1 => mw_WP d 152 60 [l0, l1, l2, l3, l4] (r1.toList ++ st) s1 Q) := WP_inv (as := [v2, v1, v0]) mq152 dd152_57 (by decide) mq117 rfl hr h8
theorem dd152_60 : decode cX11_write 60 = .ok (.lreturn, 1) := by decide +kernel
theorem ww152_60 {d : Nat} {l0 l1 l2 l3 l4 : Option mw_V} {z : Int} {σ : mw_S} {Q : Option mw_V → mw_S → Prop} : mw_WP d 152 60 [l0, l1, l2, l3, l4] [jL z] σ Q ↔ Q (some (jL z)) σ := WP_lreturn mq152 dd152_60 rfl
theorem ee153 {d : Nat} {a : Nat} {z0 : Int} {σ : mw_S} {Q : Option mw_V → mw_S → Prop} : mw_Call (d + 1) 153 [jR a, jI z0] σ Q ↔ mw_WP d 153 0 [some (jR a), some (jI z0), none, none] [] σ Q := CL_u mq153 (Nat.le_of_ble_eq_true rfl) rfl
theorem dd153_0 : decode cX11_lists 0 = .ok (.aload_n 0, 1) := by decide +kernel
theorem ww153_0 {d : Nat} {l1 l2 l3 : Option mw_V} {x : Nat} {st : List mw_V} {σ : mw_S} {Q : Option mw_V → mw_S → Prop} : mw_WP d 153 0 [some (jR x), l1, l2, l3] st σ Q ↔ mw_WP d 153 1 [some (jR x), l1, l2, l3] (jR x :: st) σ Q := WP_aload_n mq153 dd153_0 rfl
theorem dd153_1 : decode cX11_lists 1 = .ok (.getfield 42, 3) := by decide +kernel
theorem ww153_1 {d : Nat} {l0 l1 l2 l3 : Option mw_V} {st : List mw_V} {σ : mw_S} {Q : Option mw_V → mw_S → Prop} : mw_WP d 153 1 [l0, l1, l2, l3] (jR 0 :: st) σ Q ↔ mw_WP d 153 4 [l0, l1, l2, l3] (jR 37 :: st) σ Q := WP_getR (ci := 10) (k := 4) mq153 dd153_1 (by decide) rfl
theorem dd153_4 : decode cX11_lists 4 = .ok (.iload_n 1, 1) := by decide +kernel
theorem ww153_4 {d : Nat} {l0 l2 l3 : Option mw_V} {x : Int} {st : List mw_V} {σ : mw_S} {Q : Option mw_V → mw_S → Prop} : mw_WP d 153 4 [l0, some (jI x), l2, l3] st σ Q ↔ mw_WP d 153 5 [l0, some (jI x), l2, l3] (jI x :: st) σ Q := WP_iload_n mq153 dd153_4 rfl
theorem dd153_5 : decode cX11_lists 5 = .ok (.invokevirtual 176, 3) := by decide +kernel
theorem ww153_5 {d : Nat} {l0 l1 l2 l3 : Option mw_V} {v0 : mw_V} {a : Nat} {st : List mw_V} {σ : mw_S} {Q : Option mw_V → mw_S → Prop} (hr : mw_rc a = 10) (h8 : (st.map mw_cat).sum ≤ 8) : mw_WP d 153 5 [l0, l1, l2, l3] (v0 :: jR a :: st) σ Q ↔ mw_Call d 112 [jR a, v0] σ (fun r1 s1 => mw_WP d 153 8 [l0, l1, l2, l3] (r1.toList ++ st) s1 Q) := WP_inv (as := [v0]) mq153 dd153_5 (by decide) mq112 rfl hr h8
theorem dd153_8 : decode cX11_lists 8 = .ok (.ifCond .ne 6, 3) := by decide +kernel
theorem ww153_8 {d : Nat} {l0 l1 l2 l3 : Option mw_V} {x : Int} {st : List mw_V} {σ : mw_S} {Q : Option mw_V → mw_S → Prop} : mw_WP d 153 8 [l0, l1, l2, l3] (jI x :: st) σ Q ↔ (if ¬ x = 0 then mw_WP d 153 14 [l0, l1, l2, l3] st σ Q else mw_WP d 153 11 [l0, l1, l2, l3] st σ Q) := WP_if_ne mq153 dd153_8 (by decide)
theorem dd153_11 : decode cX11_lists 11 = .ok (.bipush (-2), 2) := by decide +kernel
theorem ww153_11 {d : Nat} {l0 l1 l2 l3 : Option mw_V} {st : List mw_V} {σ : mw_S} {Q : Option mw_V → mw_S → Prop} : mw_WP d 153 11 [l0, l1, l2, l3] st σ Q ↔ mw_WP d 153 13 [l0, l1, l2, l3] (jI (-2) :: st) σ Q := WP_bipush mq153 dd153_11 (by decide)
theorem dd153_13 : decode cX11_lists 13 = .ok (.ireturn, 1) := by decide +kernel
theorem ww153_13 {d : Nat} {l0 l1 l2 l3 : Option mw_V} {z : Int} {σ : mw_S} {Q : Option mw_V → mw_S → Prop} : mw_WP d 153 13 [l0, l1, l2, l3] [jI z] σ Q ↔ Q (some (jI z)) σ := WP_ireturn (ty := .int) mq153 dd153_13 rfl rfl
theorem dd153_14 : decode cX11_lists 14 = .ok (.aload_n 0, 1) := by decide +kernel
theorem ww153_14 {d : Nat} {l1 l2 l3 : Option mw_V} {x : Nat} {st : List mw_V} {σ : mw_S} {Q : Option mw_V → mw_S → Prop} : mw_WP d 153 14 [some (jR x), l1, l2, l3] st σ Q ↔ mw_WP d 153 15 [some (jR x), l1, l2, l3] (jR x :: st) σ Q := WP_aload_n mq153 dd153_14 rfl
theorem dd153_15 : decode cX11_lists 15 = .ok (.getfield 42, 3) := by decide +kernel
theorem ww153_15 {d : Nat} {l0 l1 l2 l3 : Option mw_V} {st : List mw_V} {σ : mw_S} {Q : Option mw_V → mw_S → Prop} : mw_WP d 153 15 [l0, l1, l2, l3] (jR 0 :: st) σ Q ↔ mw_WP d 153 18 [l0, l1, l2, l3] (jR 37 :: st) σ Q := WP_getR (ci := 10) (k := 4) mq153 dd153_15 (by decide) rfl
theorem dd153_18 : decode cX11_lists 18 = .ok (.iload_n 1, 1) := by decide +kernel
theorem ww153_18 {d : Nat} {l0 l2 l3 : Option mw_V} {x : Int} {st : List mw_V} {σ : mw_S} {Q : Option mw_V → mw_S → Prop} : mw_WP d 153 18 [l0, some (jI x), l2, l3] st σ Q ↔ mw_WP d 153 19 [l0, some (jI x), l2, l3] (jI x :: st) σ Q := WP_iload_n mq153 dd153_18 rfl
theorem dd153_19 : decode cX11_lists 19 = .ok (.invokevirtual 179, 3) := by decide +kernel
theorem ww153_19 {d : Nat} {l0 l1 l2 l3 : Option mw_V} {v0 : mw_V} {a : Nat} {st : List mw_V} {σ : mw_S} {Q : Option mw_V → mw_S → Prop} (hr : mw_rc a = 10) (h8 : (st.map mw_cat).sum ≤ 8) : mw_WP d 153 19 [l0, l1, l2, l3] (v0 :: jR a :: st) σ Q ↔ mw_Call d 113 [jR a, v0] σ (fun r1 s1 => mw_WP d 153 22 [l0, l1, l2, l3] (r1.toList ++ st) s1 Q) := WP_inv (as := [v0]) mq153 dd153_19 (by decide) mq113 rfl hr h8
theorem dd153_22 : decode cX11_lists 22 = .ok (.ifCond .eq 6, 3) := by decide +kernel
theorem ww153_22 {d : Nat} {l0 l1 l2 l3 : Option mw_V} {x : Int} {st : List mw_V} {σ : mw_S} {Q : Option mw_V → mw_S → Prop} : mw_WP d 153 22 [l0, l1, l2, l3] (jI x :: st) σ Q ↔ (if x = 0 then mw_WP d 153 28 [l0, l1, l2, l3] st σ Q else mw_WP d 153 25 [l0, l1, l2, l3] st σ Q) := WP_if_eq mq153 dd153_22 (by decide)
theorem dd153_25 : decode cX11_lists 25 = .ok (.bipush (-6), 2) := by decide +kernel
theorem ww153_25 {d : Nat} {l0 l1 l2 l3 : Option mw_V} {st : List mw_V} {σ : mw_S} {Q : Option mw_V → mw_S → Prop} : mw_WP d 153 25 [l0, l1, l2, l3] st σ Q ↔ mw_WP d 153 27 [l0, l1, l2, l3] (jI (-6) :: st) σ Q := WP_bipush mq153 dd153_25 (by decide)
theorem dd153_27 : decode cX11_lists 27 = .ok (.ireturn, 1) := by decide +kernel
theorem ww153_27 {d : Nat} {l0 l1 l2 l3 : Option mw_V} {z : Int} {σ : mw_S} {Q : Option mw_V → mw_S → Prop} : mw_WP d 153 27 [l0, l1, l2, l3] [jI z] σ Q ↔ Q (some (jI z)) σ := WP_ireturn (ty := .int) mq153 dd153_27 rfl rfl
theorem dd153_28 : decode cX11_lists 28 = .ok (.aload_n 0, 1) := by decide +kernel
theorem ww153_28 {d : Nat} {l1 l2 l3 : Option mw_V} {x : Nat} {st : List mw_V} {σ : mw_S} {Q : Option mw_V → mw_S → Prop} : mw_WP d 153 28 [some (jR x), l1, l2, l3] st σ Q ↔ mw_WP d 153 29 [some (jR x), l1, l2, l3] (jR x :: st) σ Q := WP_aload_n mq153 dd153_28 rfl
theorem dd153_29 : decode cX11_lists 29 = .ok (.getfield 19, 3) := by decide +kernel
theorem ww153_29 {d : Nat} {l0 l1 l2 l3 : Option mw_V} {st : List mw_V} {σ : mw_S} {Q : Option mw_V → mw_S → Prop} : mw_WP d 153 29 [l0, l1, l2, l3] (jR 0 :: st) σ Q ↔ mw_WP d 153 32 [l0, l1, l2, l3] (jR 13 :: st) σ Q := WP_getR (ci := 10) (k := 1) mq153 dd153_29 (by decide) rfl
theorem dd153_32 : decode cX11_lists 32 = .ok (.getfield 349, 3) := by decide +kernel
theorem ww153_32i3 {d : Nat} {l0 l1 l2 l3 : Option mw_V} {st : List mw_V} {σ : mw_S} {Q : Option mw_V → mw_S → Prop} : mw_WP d 153 32 [l0, l1, l2, l3] (jR 3 :: st) σ Q ↔ mw_WP d 153 35 [l0, l1, l2, l3] (jI (σ 3 2) :: st) σ Q := WP_getI (ci := 0) (k := 2) mq153 dd153_32 (by decide) (Or.inl rfl)
theorem ww153_32i13 {d : Nat} {l0 l1 l2 l3 : Option mw_V} {st : List mw_V} {σ : mw_S} {Q : Option mw_V → mw_S → Prop} : mw_WP d 153 32 [l0, l1, l2, l3] (jR 13 :: st) σ Q ↔ mw_WP d 153 35 [l0, l1, l2, l3] (jI (σ 13 2) :: st) σ Q := WP_getI (ci := 0) (k := 2) mq153 dd153_32 (by decide) (Or.inl rfl)
theorem ww153_32i77 {d : Nat} {l0 l1 l2 l3 : Option mw_V} {st : List mw_V} {σ : mw_S} {Q : Option mw_V → mw_S → Prop} : mw_WP d 153 32 [l0, l1, l2, l3] (jR 77 :: st) σ Q ↔ mw_WP d 153 35 [l0, l1, l2, l3] (jI (σ 77 2) :: st) σ Q := WP_getI (ci := 0) (k := 2) mq153 dd153_32 (by decide) (Or.inl rfl)
theorem ww153_32i88 {d : Nat} {l0 l1 l2 l3 : Option mw_V} {st : List mw_V} {σ : mw_S} {Q : Option mw_V → mw_S → Prop} : mw_WP d 153 32 [l0, l1, l2, l3] (jR 88 :: st) σ Q ↔ mw_WP d 153 35 [l0, l1, l2, l3] (jI (σ 88 2) :: st) σ Q := WP_getI (ci := 0) (k := 2) mq153 dd153_32 (by decide) (Or.inl rfl)
theorem dd153_35 : decode cX11_lists 35 = .ok (.aload_n 0, 1) := by decide +kernel
theorem ww153_35 {d : Nat} {l1 l2 l3 : Option mw_V} {x : Nat} {st : List mw_V} {σ : mw_S} {Q : Option mw_V → mw_S → Prop} : mw_WP d 153 35 [some (jR x), l1, l2, l3] st σ Q ↔ mw_WP d 153 36 [some (jR x), l1, l2, l3] (jR x :: st) σ Q := WP_aload_n mq153 dd153_35 rfl
theorem dd153_36 : decode cX11_lists 36 = .ok (.getfield 42, 3) := by decide +kernel
theorem ww153_36 {d : Nat} {l0 l1 l2 l3 : Option mw_V} {st : List mw_V} {σ : mw_S} {Q : Option mw_V → mw_S → Prop} : mw_WP d 153 36 [l0, l1, l2, l3] (jR 0 :: st) σ Q ↔ mw_WP d 153 39 [l0, l1, l2, l3] (jR 37 :: st) σ Q := WP_getR (ci := 10) (k := 4) mq153 dd153_36 (by decide) rfl
theorem dd153_39 : decode cX11_lists 39 = .ok (.iload_n 1, 1) := by decide +kernel
theorem ww153_39 {d : Nat} {l0 l2 l3 : Option mw_V} {x : Int} {st : List mw_V} {σ : mw_S} {Q : Option mw_V → mw_S → Prop} : mw_WP d 153 39 [l0, some (jI x), l2, l3] st σ Q ↔ mw_WP d 153 40 [l0, some (jI x), l2, l3] (jI x :: st) σ Q := WP_iload_n mq153 dd153_39 rfl
theorem dd153_40 : decode cX11_lists 40 = .ok (.invokevirtual 188, 3) := by decide +kernel
theorem ww153_40 {d : Nat} {l0 l1 l2 l3 : Option mw_V} {v0 : mw_V} {a : Nat} {st : List mw_V} {σ : mw_S} {Q : Option mw_V → mw_S → Prop} (hr : mw_rc a = 10) (h8 : (st.map mw_cat).sum ≤ 8) : mw_WP d 153 40 [l0, l1, l2, l3] (v0 :: jR a :: st) σ Q ↔ mw_Call d 114 [jR a, v0] σ (fun r1 s1 => mw_WP d 153 43 [l0, l1, l2, l3] (r1.toList ++ st) s1 Q) := WP_inv (as := [v0]) mq153 dd153_40 (by decide) mq114 rfl hr h8
theorem dd153_43 : decode cX11_lists 43 = .ok (.invokestatic 352, 3) := by decide +kernel
theorem ww153_43 {d : Nat} {l0 l1 l2 l3 : Option mw_V} {v0 v1 : mw_V} {st : List mw_V} {σ : mw_S} {Q : Option mw_V → mw_S → Prop} (h8 : (st.map mw_cat).sum ≤ 8) : mw_WP d 153 43 [l0, l1, l2, l3] (v1 :: v0 :: st) σ Q ↔ mw_Call d 283 [v0, v1] σ (fun r1 s1 => mw_WP d 153 46 [l0, l1, l2, l3] (r1.toList ++ st) s1 Q) := WP_invs (as := [v1, v0]) mq153 dd153_43 (by decide) mq283 rfl rfl h8
theorem dd153_46 : decode cX11_lists 46 = .ok (.istore_n 2, 1) := by decide +kernel
theorem ww153_46 {d : Nat} {l0 l1 l2 l3 : Option mw_V} {x : Int} {st : List mw_V} {σ : mw_S} {Q : Option mw_V → mw_S → Prop} (h : mw_nlo l1 = true) : mw_WP d 153 46 [l0, l1, l2, l3] (jI x :: st) σ Q ↔ mw_WP d 153 47 [l0, l1, some (jI x), l3] st σ Q := WP_istore_n mq153 dd153_46 (Nat.le_of_ble_eq_true rfl) (mw_nl_of (i := 1) rfl h) rfl
theorem dd153_47 : decode cX11_lists 47 = .ok (.iconst 0, 1) := by decide +kernel
theorem ww153_47 {d : Nat} {l0 l1 l2 l3 : Option mw_V} {st : List mw_V} {σ : mw_S} {Q : Option mw_V → mw_S → Prop} : mw_WP d 153 47 [l0, l1, l2, l3] st σ Q ↔ mw_WP d 153 48 [l0, l1, l2, l3] (jI (0) :: st) σ Q := WP_iconst mq153 dd153_47 (by decide)
theorem dd153_48 : decode cX11_lists 48 = .ok (.istore_n 3, 1) := by decide +kernel
theorem ww153_48 {d : Nat} {l0 l1 l2 l3 : Option mw_V} {x : Int} {st : List mw_V} {σ : mw_S} {Q : Option mw_V → mw_S → Prop} (h : mw_nlo l2 = true) : mw_WP d 153 48 [l0, l1, l2, l3] (jI x :: st) σ Q ↔ mw_WP d 153 49 [l0, l1, l2, some (jI x)] st σ Q := WP_istore_n mq153 dd153_48 (Nat.le_of_ble_eq_true rfl) (mw_nl_of (i := 2) rfl h) rfl
theorem dd153_49 : decode cX11_lists 49 = .ok (.iload_n 3, 1) := by decide +kernel
theorem ww153_49 {d : Nat} {l0 l1 l2 : Option mw_V} {x : Int} {st : List mw_V} {σ : mw_S} {Q : Option mw_V → mw_S → Prop} : mw_WP d 153 49 [l0, l1, l2, some (jI x)] st σ Q ↔ mw_WP d 153 50 [l0, l1, l2, some (jI x)] (jI x :: st) σ Q := WP_iload_n mq153 dd153_49 rfl
theorem dd153_50 : decode cX11_lists 50 = .ok (.iload_n 2, 1) := by decide +kernel
theorem ww153_50 {d : Nat} {l0 l1 l3 : Option mw_V} {x : Int} {st : List mw_V} {σ : mw_S} {Q : Option mw_V → mw_S → Prop} : mw_WP d 153 50 [l0, l1, some (jI x), l3] st σ Q ↔ mw_WP d 153 51 [l0, l1, some (jI x), l3] (jI x :: st) σ Q := WP_iload_n mq153 dd153_50 rfl
theorem dd153_51 : decode cX11_lists 51 = .ok (.if_icmp .ge 29, 3) := by decide +kernel
theorem ww153_51 {d : Nat} {l0 l1 l2 l3 : Option mw_V} {x y : Int} {st : List mw_V} {σ : mw_S} {Q : Option mw_V → mw_S → Prop} : mw_WP d 153 51 [l0, l1, l2, l3] (jI y :: jI x :: st) σ Q ↔ (if y ≤ x then mw_WP d 153 80 [l0, l1, l2, l3] st σ Q else mw_WP d 153 54 [l0, l1, l2, l3] st σ Q) := WP_icmp_ge mq153 dd153_51 (by decide)
theorem dd153_54 : decode cX11_lists 54 = .ok (.aload_n 0, 1) := by decide +kernel
theorem ww153_54 {d : Nat} {l1 l2 l3 : Option mw_V} {x : Nat} {st : List mw_V} {σ : mw_S} {Q : Option mw_V → mw_S → Prop} : mw_WP d 153 54 [some (jR x), l1, l2, l3] st σ Q ↔ mw_WP d 153 55 [some (jR x), l1, l2, l3] (jR x :: st) σ Q := WP_aload_n mq153 dd153_54 rfl
theorem dd153_55 : decode cX11_lists 55 = .ok (.getfield 42, 3) := by decide +kernel
theorem ww153_55 {d : Nat} {l0 l1 l2 l3 : Option mw_V} {st : List mw_V} {σ : mw_S} {Q : Option mw_V → mw_S → Prop} : mw_WP d 153 55 [l0, l1, l2, l3] (jR 0 :: st) σ Q ↔ mw_WP d 153 58 [l0, l1, l2, l3] (jR 37 :: st) σ Q := WP_getR (ci := 10) (k := 4) mq153 dd153_55 (by decide) rfl
theorem dd153_58 : decode cX11_lists 58 = .ok (.iload_n 1, 1) := by decide +kernel
theorem ww153_58 {d : Nat} {l0 l2 l3 : Option mw_V} {x : Int} {st : List mw_V} {σ : mw_S} {Q : Option mw_V → mw_S → Prop} : mw_WP d 153 58 [l0, some (jI x), l2, l3] st σ Q ↔ mw_WP d 153 59 [l0, some (jI x), l2, l3] (jI x :: st) σ Q := WP_iload_n mq153 dd153_58 rfl
theorem dd153_59 : decode cX11_lists 59 = .ok (.iload_n 3, 1) := by decide +kernel
theorem ww153_59 {d : Nat} {l0 l1 l2 : Option mw_V} {x : Int} {st : List mw_V} {σ : mw_S} {Q : Option mw_V → mw_S → Prop} : mw_WP d 153 59 [l0, l1, l2, some (jI x)] st σ Q ↔ mw_WP d 153 60 [l0, l1, l2, some (jI x)] (jI x :: st) σ Q := WP_iload_n mq153 dd153_59 rfl
theorem dd153_60 : decode cX11_lists 60 = .ok (.aload_n 0, 1) := by decide +kernel
theorem ww153_60 {d : Nat} {l1 l2 l3 : Option mw_V} {x : Nat} {st : List mw_V} {σ : mw_S} {Q : Option mw_V → mw_S → Prop} : mw_WP d 153 60 [some (jR x), l1, l2, l3] st σ Q ↔ mw_WP d 153 61 [some (jR x), l1, l2, l3] (jR x :: st) σ Q := WP_aload_n mq153 dd153_60 rfl
theorem dd153_61 : decode cX11_lists 61 = .ok (.getfield 86, 3) := by decide +kernel
theorem ww153_61 {d : Nat} {l0 l1 l2 l3 : Option mw_V} {st : List mw_V} {σ : mw_S} {Q : Option mw_V → mw_S → Prop} : mw_WP d 153 61 [l0, l1, l2, l3] (jR 0 :: st) σ Q ↔ mw_WP d 153 64 [l0, l1, l2, l3] (jR 98 :: st) σ Q := WP_getR (ci := 10) (k := 11) mq153 dd153_61 (by decide) rfl
theorem dd153_64 : decode cX11_lists 64 = .ok (.bipush 6, 2) := by decide +kernel
theorem ww153_64 {d : Nat} {l0 l1 l2 l3 : Option mw_V} {st : List mw_V} {σ : mw_S} {Q : Option mw_V → mw_S → Prop} : mw_WP d 153 64 [l0, l1, l2, l3] st σ Q ↔ mw_WP d 153 66 [l0, l1, l2, l3] (jI (6) :: st) σ Q := WP_bipush mq153 dd153_64 (by decide)
theorem dd153_66 : decode cX11_lists 66 = .ok (.iload_n 3, 1) := by decide +kernel
theorem ww153_66 {d : Nat} {l0 l1 l2 : Option mw_V} {x : Int} {st : List mw_V} {σ : mw_S} {Q : Option mw_V → mw_S → Prop} : mw_WP d 153 66 [l0, l1, l2, some (jI x)] st σ Q ↔ mw_WP d 153 67 [l0, l1, l2, some (jI x)] (jI x :: st) σ Q := WP_iload_n mq153 dd153_66 rfl
theorem dd153_67 : decode cX11_lists 67 = .ok (.iadd, 1) := by decide +kernel
theorem ww153_67 {d : Nat} {l0 l1 l2 l3 : Option mw_V} {x y : Int} {st : List mw_V} {σ : mw_S} {Q : Option mw_V → mw_S → Prop} : mw_WP d 153 67 [l0, l1, l2, l3] (jI y :: jI x :: st) σ Q ↔ mw_WP d 153 68 [l0, l1, l2, l3] (jI (w32 (x + y)) :: st) σ Q := WP_iadd mq153 dd153_67
theorem dd153_68 : decode cX11_lists 68 = .ok (.iaload, 1) := by decide +kernel
theorem ww153_68 {d : Nat} {l0 l1 l2 l3 : Option mw_V} {z : Int} {a : Nat} {st : List mw_V} {σ : mw_S} {Q : Option mw_V → mw_S → Prop} : mw_WP d 153 68 [l0, l1, l2, l3] (jI z :: jR a :: st) σ Q ↔ ((0 ≤ z ∧ z < mw_lenI a) ∧ mw_WP d 153 69 [l0, l1, l2, l3] (jI (mw_rdI σ a z.toNat) :: st) σ Q) := WP_iaload mq153 dd153_68
theorem dd153_69 : decode cX11_lists 69 = .ok (.i2l, 1) := by decide +kernel
theorem ww153_69 {d : Nat} {l0 l1 l2 l3 : Option mw_V} {x : Int} {st : List mw_V} {σ : mw_S} {Q : Option mw_V → mw_S → Prop} : mw_WP d 153 69 [l0, l1, l2, l3] (jI x :: st) σ Q ↔ mw_WP d 153 70 [l0, l1, l2, l3] (jL (yL x) :: st) σ Q := WP_i2l mq153 dd153_69
theorem dd153_70 : decode cX11_lists 70 = .ok (.invokevirtual 345, 3) := by decide +kernel
theorem ww153_70 {d : Nat} {l0 l1 l2 l3 : Option mw_V} {v0 v1 v2 : mw_V} {a : Nat} {st : List mw_V} {σ : mw_S} {Q : Option mw_V → mw_S → Prop} (hr : mw_rc a = 10) (h8 : (st.map mw_cat).sum ≤ 8) : mw_WP d 153 70 [l0, l1, l2, l3] (v2 :: v1 :: v0 :: jR a :: st) σ Q ↔ mw_Call d 117 [jR a, v0, v1, v2] σ (fun r1 s1 => mw_WP d 153 73 [l0, l1, l2, l3] (r1.toList ++ st) s1 Q) := WP_inv (as := [v2, v1, v0]) mq153 dd153_70 (by decide) mq117 rfl hr h8
theorem dd153_73 : decode cX11_lists 73 = .ok (.pop2, 1) := by decide +kernel
theorem ww153_73 {d : Nat} {l0 l1 l2 l3 : Option mw_V} {x : Int} {st : List mw_V} {σ : mw_S} {Q : Option mw_V → mw_S → Prop} : mw_WP d 153 73 [l0, l1, l2, l3] (jL x :: st) σ Q ↔ mw_WP d 153 74 [l0, l1, l2, l3] st σ Q := WP_pop2 mq153 dd153_73
theorem dd153_74 : decode cX11_lists 74 = .ok (.iinc 3 1, 3) := by decide +kernel
theorem ww153_74 {d : Nat} {l0 l1 l2 : Option mw_V} {x : Int} {st : List mw_V} {σ : mw_S} {Q : Option mw_V → mw_S → Prop} (h : mw_nlo l2 = true) : mw_WP d 153 74 [l0, l1, l2, some (jI x)] st σ Q ↔ mw_WP d 153 77 [l0, l1, l2, some (jI (w32 (x + (1))))] st σ Q := WP_iinc mq153 dd153_74 rfl (Nat.le_of_ble_eq_true rfl) (mw_nl_of (i := 2) rfl h) rfl
theorem dd153_77 : decode cX11_lists 77 = .ok (.goto (-28), 3) := by decide +kernel
theorem ww153_77 {d : Nat} {l0 l1 l2 l3 : Option mw_V} {st : List mw_V} {σ : mw_S} {Q : Option mw_V → mw_S → Prop} : mw_WP d 153 77 [l0, l1, l2, l3] st σ Q ↔ mw_WP d 153 49 [l0, l1, l2, l3] st σ Q := WP_goto mq153 dd153_77 (by decide)
theorem dd153_80 : decode cX11_lists 80 = .ok (.iload_n 2, 1) := by decide +kernel
theorem ww153_80 {d : Nat} {l0 l1 l3 : Option mw_V} {x : Int} {st : List mw_V} {σ : mw_S} {Q : Option mw_V → mw_S → Prop} : mw_WP d 153 80 [l0, l1, some (jI x), l3] st σ Q ↔ mw_WP d 153 81 [l0, l1, some (jI x), l3] (jI x :: st) σ Q := WP_iload_n mq153 dd153_80 rfl
theorem dd153_81 : decode cX11_lists 81 = .ok (.ireturn, 1) := by decide +kernel
theorem ww153_81 {d : Nat} {l0 l1 l2 l3 : Option mw_V} {z : Int} {σ : mw_S} {Q : Option mw_V → mw_S → Prop} : mw_WP d 153 81 [l0, l1, l2, l3] [jI z] σ Q ↔ Q (some (jI z)) σ := WP_ireturn (ty := .int) mq153 dd153_81 rfl rfl
theorem ee154 {d : Nat} {a : Nat} {z0 : Int} {σ : mw_S} {Q : Option mw_V → mw_S → Prop} : mw_Call (d + 1) 154 [jR a, jI z0] σ Q ↔ mw_WP d 154 0 [some (jR a), some (jI z0), none] [] σ Q := CL_u mq154 (Nat.le_of_ble_eq_true rfl) rfl
theorem dd154_0 : decode cX11_image 0 = .ok (.iload_n 1, 1) := by decide +kernel
theorem ww154_0 {d : Nat} {l0 l2 : Option mw_V} {x : Int} {st : List mw_V} {σ : mw_S} {Q : Option mw_V → mw_S → Prop} : mw_WP d 154 0 [l0, some (jI x), l2] st σ Q ↔ mw_WP d 154 1 [l0, some (jI x), l2] (jI x :: st) σ Q := WP_iload_n mq154 dd154_0 rfl
theorem dd154_1 : decode cX11_image 1 = .ok (.invokestatic 208, 3) := by decide +kernel
theorem ww154_1 {d : Nat} {l0 l1 l2 : Option mw_V} {v0 : mw_V} {st : List mw_V} {σ : mw_S} {Q : Option mw_V → mw_S → Prop} (h8 : (st.map mw_cat).sum ≤ 8) : mw_WP d 154 1 [l0, l1, l2] (v0 :: st) σ Q ↔ mw_Call d 163 [v0] σ (fun r1 s1 => mw_WP d 154 4 [l0, l1, l2] (r1.toList ++ st) s1 Q) := WP_invs (as := [v0]) mq154 dd154_1 (by decide) mq163 rfl rfl h8
theorem dd154_4 : decode cX11_image 4 = .ok (.ifCond .ne 6, 3) := by decide +kernel
theorem ww154_4 {d : Nat} {l0 l1 l2 : Option mw_V} {x : Int} {st : List mw_V} {σ : mw_S} {Q : Option mw_V → mw_S → Prop} : mw_WP d 154 4 [l0, l1, l2] (jI x :: st) σ Q ↔ (if ¬ x = 0 then mw_WP d 154 10 [l0, l1, l2] st σ Q else mw_WP d 154 7 [l0, l1, l2] st σ Q) := WP_if_ne mq154 dd154_4 (by decide)
theorem dd154_7 : decode cX11_image 7 = .ok (.bipush (-2), 2) := by decide +kernel
theorem ww154_7 {d : Nat} {l0 l1 l2 : Option mw_V} {st : List mw_V} {σ : mw_S} {Q : Option mw_V → mw_S → Prop} : mw_WP d 154 7 [l0, l1, l2] st σ Q ↔ mw_WP d 154 9 [l0, l1, l2] (jI (-2) :: st) σ Q := WP_bipush mq154 dd154_7 (by decide)
theorem dd154_9 : decode cX11_image 9 = .ok (.ireturn, 1) := by decide +kernel
theorem ww154_9 {d : Nat} {l0 l1 l2 : Option mw_V} {z : Int} {σ : mw_S} {Q : Option mw_V → mw_S → Prop} : mw_WP d 154 9 [l0, l1, l2] [jI z] σ Q ↔ Q (some (jI z)) σ := WP_ireturn (ty := .int) mq154 dd154_9 rfl rfl
theorem dd154_10 : decode cX11_image 10 = .ok (.iload_n 1, 1) := by decide +kernel
theorem ww154_10 {d : Nat} {l0 l2 : Option mw_V} {x : Int} {st : List mw_V} {σ : mw_S} {Q : Option mw_V → mw_S → Prop} : mw_WP d 154 10 [l0, some (jI x), l2] st σ Q ↔ mw_WP d 154 11 [l0, some (jI x), l2] (jI x :: st) σ Q := WP_iload_n mq154 dd154_10 rfl
theorem dd154_11 : decode cX11_image 11 = .ok (.ifCond .ne 10, 3) := by decide +kernel
theorem ww154_11 {d : Nat} {l0 l1 l2 : Option mw_V} {x : Int} {st : List mw_V} {σ : mw_S} {Q : Option mw_V → mw_S → Prop} : mw_WP d 154 11 [l0, l1, l2] (jI x :: st) σ Q ↔ (if ¬ x = 0 then mw_WP d 154 21 [l0, l1, l2] st σ Q else mw_WP d 154 14 [l0, l1, l2] st σ Q) := WP_if_ne mq154 dd154_11 (by decide)
theorem dd154_14 : decode cX11_image 14 = .ok (.aload_n 0, 1) := by decide +kernel
theorem ww154_14 {d : Nat} {l1 l2 : Option mw_V} {x : Nat} {st : List mw_V} {σ : mw_S} {Q : Option mw_V → mw_S → Prop} : mw_WP d 154 14 [some (jR x), l1, l2] st σ Q ↔ mw_WP d 154 15 [some (jR x), l1, l2] (jR x :: st) σ Q := WP_aload_n mq154 dd154_14 rfl
theorem dd154_15 : decode cX11_image 15 = .ok (.getfield 79, 3) := by decide +kernel
theorem ww154_15 {d : Nat} {l0 l1 l2 : Option mw_V} {st : List mw_V} {σ : mw_S} {Q : Option mw_V → mw_S → Prop} : mw_WP d 154 15 [l0, l1, l2] (jR 0 :: st) σ Q ↔ mw_WP d 154 18 [l0, l1, l2] (jR 76 :: st) σ Q := WP_getR (ci := 10) (k := 9) mq154 dd154_15 (by decide) rfl
theorem dd154_18 : decode cX11_image 18 = .ok (.goto 7, 3) := by decide +kernel
theorem ww154_18 {d : Nat} {l0 l1 l2 : Option mw_V} {st : List mw_V} {σ : mw_S} {Q : Option mw_V → mw_S → Prop} : mw_WP d 154 18 [l0, l1, l2] st σ Q ↔ mw_WP d 154 25 [l0, l1, l2] st σ Q := WP_goto mq154 dd154_18 (by decide)
theorem dd154_21 : decode cX11_image 21 = .ok (.aload_n 0, 1) := by decide +kernel
theorem ww154_21 {d : Nat} {l1 l2 : Option mw_V} {x : Nat} {st : List mw_V} {σ : mw_S} {Q : Option mw_V → mw_S → Prop} : mw_WP d 154 21 [some (jR x), l1, l2] st σ Q ↔ mw_WP d 154 22 [some (jR x), l1, l2] (jR x :: st) σ Q := WP_aload_n mq154 dd154_21 rfl
theorem dd154_22 : decode cX11_image 22 = .ok (.getfield 83, 3) := by decide +kernel
theorem ww154_22 {d : Nat} {l0 l1 l2 : Option mw_V} {st : List mw_V} {σ : mw_S} {Q : Option mw_V → mw_S → Prop} : mw_WP d 154 22 [l0, l1, l2] (jR 0 :: st) σ Q ↔ mw_WP d 154 25 [l0, l1, l2] (jR 87 :: st) σ Q := WP_getR (ci := 10) (k := 10) mq154 dd154_22 (by decide) rfl
theorem dd154_25 : decode cX11_image 25 = .ok (.astore_n 2, 1) := by decide +kernel
theorem ww154_25 {d : Nat} {l0 l1 l2 : Option mw_V} {x : Nat} {st : List mw_V} {σ : mw_S} {Q : Option mw_V → mw_S → Prop} (h : mw_nlo l1 = true) : mw_WP d 154 25 [l0, l1, l2] (jR x :: st) σ Q ↔ mw_WP d 154 26 [l0, l1, some (jR x)] st σ Q := WP_astore_n mq154 dd154_25 (Nat.le_of_ble_eq_true rfl) (mw_nl_of (i := 1) rfl h) rfl
theorem dd154_26 : decode cX11_image 26 = .ok (.aload_n 2, 1) := by decide +kernel
theorem ww154_26 {d : Nat} {l0 l1 : Option mw_V} {x : Nat} {st : List mw_V} {σ : mw_S} {Q : Option mw_V → mw_S → Prop} : mw_WP d 154 26 [l0, l1, some (jR x)] st σ Q ↔ mw_WP d 154 27 [l0, l1, some (jR x)] (jR x :: st) σ Q := WP_aload_n mq154 dd154_26 rfl
theorem dd154_27 : decode cX11_image 27 = .ok (.aload_n 0, 1) := by decide +kernel
theorem ww154_27 {d : Nat} {l1 l2 : Option mw_V} {x : Nat} {st : List mw_V} {σ : mw_S} {Q : Option mw_V → mw_S → Prop} : mw_WP d 154 27 [some (jR x), l1, l2] st σ Q ↔ mw_WP d 154 28 [some (jR x), l1, l2] (jR x :: st) σ Q := WP_aload_n mq154 dd154_27 rfl
theorem dd154_28 : decode cX11_image 28 = .ok (.getfield 19, 3) := by decide +kernel
theorem ww154_28 {d : Nat} {l0 l1 l2 : Option mw_V} {st : List mw_V} {σ : mw_S} {Q : Option mw_V → mw_S → Prop} : mw_WP d 154 28 [l0, l1, l2] (jR 0 :: st) σ Q ↔ mw_WP d 154 31 [l0, l1, l2] (jR 13 :: st) σ Q := WP_getR (ci := 10) (k := 1) mq154 dd154_28 (by decide) rfl
theorem dd154_31 : decode cX11_image 31 = .ok (.aload_n 0, 1) := by decide +kernel
theorem ww154_31 {d : Nat} {l1 l2 : Option mw_V} {x : Nat} {st : List mw_V} {σ : mw_S} {Q : Option mw_V → mw_S → Prop} : mw_WP d 154 31 [some (jR x), l1, l2] st σ Q ↔ mw_WP d 154 32 [some (jR x), l1, l2] (jR x :: st) σ Q := WP_aload_n mq154 dd154_31 rfl
theorem dd154_32 : decode cX11_image 32 = .ok (.getfield 86, 3) := by decide +kernel
theorem ww154_32 {d : Nat} {l0 l1 l2 : Option mw_V} {st : List mw_V} {σ : mw_S} {Q : Option mw_V → mw_S → Prop} : mw_WP d 154 32 [l0, l1, l2] (jR 0 :: st) σ Q ↔ mw_WP d 154 35 [l0, l1, l2] (jR 98 :: st) σ Q := WP_getR (ci := 10) (k := 11) mq154 dd154_32 (by decide) rfl
theorem dd154_35 : decode cX11_image 35 = .ok (.invokevirtual 357, 3) := by decide +kernel
theorem ww154_35 {d : Nat} {l0 l1 l2 : Option mw_V} {v0 v1 : mw_V} {a : Nat} {st : List mw_V} {σ : mw_S} {Q : Option mw_V → mw_S → Prop} (hr : mw_rc a = 4) (h8 : (st.map mw_cat).sum ≤ 8) : mw_WP d 154 35 [l0, l1, l2] (v1 :: v0 :: jR a :: st) σ Q ↔ mw_Call d 27 [jR a, v0, v1] σ (fun r1 s1 => mw_WP d 154 38 [l0, l1, l2] (r1.toList ++ st) s1 Q) := WP_inv (as := [v1, v0]) mq154 dd154_35 (by decide) mq27 rfl hr h8
theorem dd154_38 : decode cX11_image 38 = .ok (.iconst 0, 1) := by decide +kernel
theorem ww154_38 {d : Nat} {l0 l1 l2 : Option mw_V} {st : List mw_V} {σ : mw_S} {Q : Option mw_V → mw_S → Prop} : mw_WP d 154 38 [l0, l1, l2] st σ Q ↔ mw_WP d 154 39 [l0, l1, l2] (jI (0) :: st) σ Q := WP_iconst mq154 dd154_38 (by decide)
theorem dd154_39 : decode cX11_image 39 = .ok (.ireturn, 1) := by decide +kernel
theorem ww154_39 {d : Nat} {l0 l1 l2 : Option mw_V} {z : Int} {σ : mw_S} {Q : Option mw_V → mw_S → Prop} : mw_WP d 154 39 [l0, l1, l2] [jI z] σ Q ↔ Q (some (jI z)) σ := WP_ireturn (ty := .int) mq154 dd154_39 rfl rfl
theorem ee155 {d : Nat} {a : Nat} {z0 : Int} {σ : mw_S} {Q : Option mw_V → mw_S → Prop} : mw_Call (d + 1) 155 [jR a, jI z0] σ Q ↔ mw_WP d 155 0 [some (jR a), some (jI z0), none] [] σ Q := CL_u mq155 (Nat.le_of_ble_eq_true rfl) rfl
theorem dd155_0 : decode cX11_restore 0 = .ok (.iload_n 1, 1) := by decide +kernel
theorem ww155_0 {d : Nat} {l0 l2 : Option mw_V} {x : Int} {st : List mw_V} {σ : mw_S} {Q : Option mw_V → mw_S → Prop} : mw_WP d 155 0 [l0, some (jI x), l2] st σ Q ↔ mw_WP d 155 1 [l0, some (jI x), l2] (jI x :: st) σ Q := WP_iload_n mq155 dd155_0 rfl
theorem dd155_1 : decode cX11_restore 1 = .ok (.invokestatic 208, 3) := by decide +kernel
theorem ww155_1 {d : Nat} {l0 l1 l2 : Option mw_V} {v0 : mw_V} {st : List mw_V} {σ : mw_S} {Q : Option mw_V → mw_S → Prop} (h8 : (st.map mw_cat).sum ≤ 8) : mw_WP d 155 1 [l0, l1, l2] (v0 :: st) σ Q ↔ mw_Call d 163 [v0] σ (fun r1 s1 => mw_WP d 155 4 [l0, l1, l2] (r1.toList ++ st) s1 Q) := WP_invs (as := [v0]) mq155 dd155_1 (by decide) mq163 rfl rfl h8
theorem dd155_4 : decode cX11_restore 4 = .ok (.ifCond .ne 6, 3) := by decide +kernel
theorem ww155_4 {d : Nat} {l0 l1 l2 : Option mw_V} {x : Int} {st : List mw_V} {σ : mw_S} {Q : Option mw_V → mw_S → Prop} : mw_WP d 155 4 [l0, l1, l2] (jI x :: st) σ Q ↔ (if ¬ x = 0 then mw_WP d 155 10 [l0, l1, l2] st σ Q else mw_WP d 155 7 [l0, l1, l2] st σ Q) := WP_if_ne mq155 dd155_4 (by decide)
theorem dd155_7 : decode cX11_restore 7 = .ok (.bipush (-2), 2) := by decide +kernel
theorem ww155_7 {d : Nat} {l0 l1 l2 : Option mw_V} {st : List mw_V} {σ : mw_S} {Q : Option mw_V → mw_S → Prop} : mw_WP d 155 7 [l0, l1, l2] st σ Q ↔ mw_WP d 155 9 [l0, l1, l2] (jI (-2) :: st) σ Q := WP_bipush mq155 dd155_7 (by decide)
theorem dd155_9 : decode cX11_restore 9 = .ok (.ireturn, 1) := by decide +kernel
theorem ww155_9 {d : Nat} {l0 l1 l2 : Option mw_V} {z : Int} {σ : mw_S} {Q : Option mw_V → mw_S → Prop} : mw_WP d 155 9 [l0, l1, l2] [jI z] σ Q ↔ Q (some (jI z)) σ := WP_ireturn (ty := .int) mq155 dd155_9 rfl rfl
theorem dd155_10 : decode cX11_restore 10 = .ok (.iload_n 1, 1) := by decide +kernel
theorem ww155_10 {d : Nat} {l0 l2 : Option mw_V} {x : Int} {st : List mw_V} {σ : mw_S} {Q : Option mw_V → mw_S → Prop} : mw_WP d 155 10 [l0, some (jI x), l2] st σ Q ↔ mw_WP d 155 11 [l0, some (jI x), l2] (jI x :: st) σ Q := WP_iload_n mq155 dd155_10 rfl
theorem dd155_11 : decode cX11_restore 11 = .ok (.ifCond .ne 10, 3) := by decide +kernel
theorem ww155_11 {d : Nat} {l0 l1 l2 : Option mw_V} {x : Int} {st : List mw_V} {σ : mw_S} {Q : Option mw_V → mw_S → Prop} : mw_WP d 155 11 [l0, l1, l2] (jI x :: st) σ Q ↔ (if ¬ x = 0 then mw_WP d 155 21 [l0, l1, l2] st σ Q else mw_WP d 155 14 [l0, l1, l2] st σ Q) := WP_if_ne mq155 dd155_11 (by decide)
theorem dd155_14 : decode cX11_restore 14 = .ok (.aload_n 0, 1) := by decide +kernel
theorem ww155_14 {d : Nat} {l1 l2 : Option mw_V} {x : Nat} {st : List mw_V} {σ : mw_S} {Q : Option mw_V → mw_S → Prop} : mw_WP d 155 14 [some (jR x), l1, l2] st σ Q ↔ mw_WP d 155 15 [some (jR x), l1, l2] (jR x :: st) σ Q := WP_aload_n mq155 dd155_14 rfl
theorem dd155_15 : decode cX11_restore 15 = .ok (.getfield 79, 3) := by decide +kernel
theorem ww155_15 {d : Nat} {l0 l1 l2 : Option mw_V} {st : List mw_V} {σ : mw_S} {Q : Option mw_V → mw_S → Prop} : mw_WP d 155 15 [l0, l1, l2] (jR 0 :: st) σ Q ↔ mw_WP d 155 18 [l0, l1, l2] (jR 76 :: st) σ Q := WP_getR (ci := 10) (k := 9) mq155 dd155_15 (by decide) rfl
theorem dd155_18 : decode cX11_restore 18 = .ok (.goto 7, 3) := by decide +kernel
theorem ww155_18 {d : Nat} {l0 l1 l2 : Option mw_V} {st : List mw_V} {σ : mw_S} {Q : Option mw_V → mw_S → Prop} : mw_WP d 155 18 [l0, l1, l2] st σ Q ↔ mw_WP d 155 25 [l0, l1, l2] st σ Q := WP_goto mq155 dd155_18 (by decide)
theorem dd155_21 : decode cX11_restore 21 = .ok (.aload_n 0, 1) := by decide +kernel
theorem ww155_21 {d : Nat} {l1 l2 : Option mw_V} {x : Nat} {st : List mw_V} {σ : mw_S} {Q : Option mw_V → mw_S → Prop} : mw_WP d 155 21 [some (jR x), l1, l2] st σ Q ↔ mw_WP d 155 22 [some (jR x), l1, l2] (jR x :: st) σ Q := WP_aload_n mq155 dd155_21 rfl
theorem dd155_22 : decode cX11_restore 22 = .ok (.getfield 83, 3) := by decide +kernel
theorem ww155_22 {d : Nat} {l0 l1 l2 : Option mw_V} {st : List mw_V} {σ : mw_S} {Q : Option mw_V → mw_S → Prop} : mw_WP d 155 22 [l0, l1, l2] (jR 0 :: st) σ Q ↔ mw_WP d 155 25 [l0, l1, l2] (jR 87 :: st) σ Q := WP_getR (ci := 10) (k := 10) mq155 dd155_22 (by decide) rfl
theorem dd155_25 : decode cX11_restore 25 = .ok (.astore_n 2, 1) := by decide +kernel
theorem ww155_25 {d : Nat} {l0 l1 l2 : Option mw_V} {x : Nat} {st : List mw_V} {σ : mw_S} {Q : Option mw_V → mw_S → Prop} (h : mw_nlo l1 = true) : mw_WP d 155 25 [l0, l1, l2] (jR x :: st) σ Q ↔ mw_WP d 155 26 [l0, l1, some (jR x)] st σ Q := WP_astore_n mq155 dd155_25 (Nat.le_of_ble_eq_true rfl) (mw_nl_of (i := 1) rfl h) rfl
theorem dd155_26 : decode cX11_restore 26 = .ok (.aload_n 2, 1) := by decide +kernel
theorem ww155_26 {d : Nat} {l0 l1 : Option mw_V} {x : Nat} {st : List mw_V} {σ : mw_S} {Q : Option mw_V → mw_S → Prop} : mw_WP d 155 26 [l0, l1, some (jR x)] st σ Q ↔ mw_WP d 155 27 [l0, l1, some (jR x)] (jR x :: st) σ Q := WP_aload_n mq155 dd155_26 rfl
theorem dd155_27 : decode cX11_restore 27 = .ok (.getfield 361, 3) := by decide +kernel
theorem ww155_27i76 {d : Nat} {l0 l1 l2 : Option mw_V} {st : List mw_V} {σ : mw_S} {Q : Option mw_V → mw_S → Prop} : mw_WP d 155 27 [l0, l1, l2] (jR 76 :: st) σ Q ↔ mw_WP d 155 30 [l0, l1, l2] (jI (σ 76 0) :: st) σ Q := WP_getI (ci := 3) (k := 0) mq155 dd155_27 (by decide) (Or.inr rfl)
theorem ww155_27i87 {d : Nat} {l0 l1 l2 : Option mw_V} {st : List mw_V} {σ : mw_S} {Q : Option mw_V → mw_S → Prop} : mw_WP d 155 27 [l0, l1, l2] (jR 87 :: st) σ Q ↔ mw_WP d 155 30 [l0, l1, l2] (jI (σ 87 0) :: st) σ Q := WP_getI (ci := 3) (k := 0) mq155 dd155_27 (by decide) (Or.inr rfl)
theorem dd155_30 : decode cX11_restore 30 = .ok (.ifCond .ne 6, 3) := by decide +kernel
theorem ww155_30 {d : Nat} {l0 l1 l2 : Option mw_V} {x : Int} {st : List mw_V} {σ : mw_S} {Q : Option mw_V → mw_S → Prop} : mw_WP d 155 30 [l0, l1, l2] (jI x :: st) σ Q ↔ (if ¬ x = 0 then mw_WP d 155 36 [l0, l1, l2] st σ Q else mw_WP d 155 33 [l0, l1, l2] st σ Q) := WP_if_ne mq155 dd155_30 (by decide)
theorem dd155_33 : decode cX11_restore 33 = .ok (.bipush (-5), 2) := by decide +kernel
theorem ww155_33 {d : Nat} {l0 l1 l2 : Option mw_V} {st : List mw_V} {σ : mw_S} {Q : Option mw_V → mw_S → Prop} : mw_WP d 155 33 [l0, l1, l2] st σ Q ↔ mw_WP d 155 35 [l0, l1, l2] (jI (-5) :: st) σ Q := WP_bipush mq155 dd155_33 (by decide)
theorem dd155_35 : decode cX11_restore 35 = .ok (.ireturn, 1) := by decide +kernel
theorem ww155_35 {d : Nat} {l0 l1 l2 : Option mw_V} {z : Int} {σ : mw_S} {Q : Option mw_V → mw_S → Prop} : mw_WP d 155 35 [l0, l1, l2] [jI z] σ Q ↔ Q (some (jI z)) σ := WP_ireturn (ty := .int) mq155 dd155_35 rfl rfl
theorem dd155_36 : decode cX11_restore 36 = .ok (.aload_n 0, 1) := by decide +kernel
theorem ww155_36 {d : Nat} {l1 l2 : Option mw_V} {x : Nat} {st : List mw_V} {σ : mw_S} {Q : Option mw_V → mw_S → Prop} : mw_WP d 155 36 [some (jR x), l1, l2] st σ Q ↔ mw_WP d 155 37 [some (jR x), l1, l2] (jR x :: st) σ Q := WP_aload_n mq155 dd155_36 rfl
theorem dd155_37 : decode cX11_restore 37 = .ok (.getfield 19, 3) := by decide +kernel
theorem ww155_37 {d : Nat} {l0 l1 l2 : Option mw_V} {st : List mw_V} {σ : mw_S} {Q : Option mw_V → mw_S → Prop} : mw_WP d 155 37 [l0, l1, l2] (jR 0 :: st) σ Q ↔ mw_WP d 155 40 [l0, l1, l2] (jR 13 :: st) σ Q := WP_getR (ci := 10) (k := 1) mq155 dd155_37 (by decide) rfl
theorem dd155_40 : decode cX11_restore 40 = .ok (.aload_n 2, 1) := by decide +kernel
theorem ww155_40 {d : Nat} {l0 l1 : Option mw_V} {x : Nat} {st : List mw_V} {σ : mw_S} {Q : Option mw_V → mw_S → Prop} : mw_WP d 155 40 [l0, l1, some (jR x)] st σ Q ↔ mw_WP d 155 41 [l0, l1, some (jR x)] (jR x :: st) σ Q := WP_aload_n mq155 dd155_40 rfl
theorem dd155_41 : decode cX11_restore 41 = .ok (.getfield 365, 3) := by decide +kernel
theorem ww155_41i76 {d : Nat} {l0 l1 l2 : Option mw_V} {st : List mw_V} {σ : mw_S} {Q : Option mw_V → mw_S → Prop} : mw_WP d 155 41 [l0, l1, l2] (jR 76 :: st) σ Q ↔ mw_WP d 155 44 [l0, l1, l2] (jR 77 :: st) σ Q := WP_getR (ci := 3) (k := 1) mq155 dd155_41 (by decide) rfl
theorem ww155_41i87 {d : Nat} {l0 l1 l2 : Option mw_V} {st : List mw_V} {σ : mw_S} {Q : Option mw_V → mw_S → Prop} : mw_WP d 155 41 [l0, l1, l2] (jR 87 :: st) σ Q ↔ mw_WP d 155 44 [l0, l1, l2] (jR 88 :: st) σ Q := WP_getR (ci := 3) (k := 1) mq155 dd155_41 (by decide) rfl
theorem dd155_44 : decode cX11_restore 44 = .ok (.invokevirtual 115, 3) := by decide +kernel
theorem ww155_44 {d : Nat} {l0 l1 l2 : Option mw_V} {v0 : mw_V} {a : Nat} {st : List mw_V} {σ : mw_S} {Q : Option mw_V → mw_S → Prop} (hr : mw_rc a = 1) (h8 : (st.map mw_cat).sum ≤ 8) : mw_WP d 155 44 [l0, l1, l2] (v0 :: jR a :: st) σ Q ↔ mw_Call d 1 [jR a, v0] σ (fun r1 s1 => mw_WP d 155 47 [l0, l1, l2] (r1.toList ++ st) s1 Q) := WP_inv (as := [v0]) mq155 dd155_44 (by decide) mq1 rfl hr h8
theorem dd155_47 : decode cX11_restore 47 = .ok (.aload_n 2, 1) := by decide +kernel
theorem ww155_47 {d : Nat} {l0 l1 : Option mw_V} {x : Nat} {st : List mw_V} {σ : mw_S} {Q : Option mw_V → mw_S → Prop} : mw_WP d 155 47 [l0, l1, some (jR x)] st σ Q ↔ mw_WP d 155 48 [l0, l1, some (jR x)] (jR x :: st) σ Q := WP_aload_n mq155 dd155_47 rfl
theorem dd155_48 : decode cX11_restore 48 = .ok (.getfield 368, 3) := by decide +kernel
theorem ww155_48i76 {d : Nat} {l0 l1 l2 : Option mw_V} {st : List mw_V} {σ : mw_S} {Q : Option mw_V → mw_S → Prop} : mw_WP d 155 48 [l0, l1, l2] (jR 76 :: st) σ Q ↔ mw_WP d 155 51 [l0, l1, l2] (jR 86 :: st) σ Q := WP_getR (ci := 3) (k := 2) mq155 dd155_48 (by decide) rfl
theorem ww155_48i87 {d : Nat} {l0 l1 l2 : Option mw_V} {st : List mw_V} {σ : mw_S} {Q : Option mw_V → mw_S → Prop} : mw_WP d 155 48 [l0, l1, l2] (jR 87 :: st) σ Q ↔ mw_WP d 155 51 [l0, l1, l2] (jR 97 :: st) σ Q := WP_getR (ci := 3) (k := 2) mq155 dd155_48 (by decide) rfl
theorem dd155_51 : decode cX11_restore 51 = .ok (.aload_n 0, 1) := by decide +kernel
theorem ww155_51 {d : Nat} {l1 l2 : Option mw_V} {x : Nat} {st : List mw_V} {σ : mw_S} {Q : Option mw_V → mw_S → Prop} : mw_WP d 155 51 [some (jR x), l1, l2] st σ Q ↔ mw_WP d 155 52 [some (jR x), l1, l2] (jR x :: st) σ Q := WP_aload_n mq155 dd155_51 rfl
theorem dd155_52 : decode cX11_restore 52 = .ok (.getfield 86, 3) := by decide +kernel
theorem ww155_52 {d : Nat} {l0 l1 l2 : Option mw_V} {st : List mw_V} {σ : mw_S} {Q : Option mw_V → mw_S → Prop} : mw_WP d 155 52 [l0, l1, l2] (jR 0 :: st) σ Q ↔ mw_WP d 155 55 [l0, l1, l2] (jR 98 :: st) σ Q := WP_getR (ci := 10) (k := 11) mq155 dd155_52 (by decide) rfl
theorem dd155_55 : decode cX11_restore 55 = .ok (.invokestatic 198, 3) := by decide +kernel
theorem ww155_55 {d : Nat} {l0 l1 l2 : Option mw_V} {v0 v1 : mw_V} {st : List mw_V} {σ : mw_S} {Q : Option mw_V → mw_S → Prop} (h8 : (st.map mw_cat).sum ≤ 8) : mw_WP d 155 55 [l0, l1, l2] (v1 :: v0 :: st) σ Q ↔ mw_Call d 169 [v0, v1] σ (fun r1 s1 => mw_WP d 155 58 [l0, l1, l2] (r1.toList ++ st) s1 Q) := WP_invs (as := [v1, v0]) mq155 dd155_55 (by decide) mq169 rfl rfl h8
theorem dd155_58 : decode cX11_restore 58 = .ok (.aload_n 0, 1) := by decide +kernel
theorem ww155_58 {d : Nat} {l1 l2 : Option mw_V} {x : Nat} {st : List mw_V} {σ : mw_S} {Q : Option mw_V → mw_S → Prop} : mw_WP d 155 58 [some (jR x), l1, l2] st σ Q ↔ mw_WP d 155 59 [some (jR x), l1, l2] (jR x :: st) σ Q := WP_aload_n mq155 dd155_58 rfl
theorem dd155_59 : decode cX11_restore 59 = .ok (.getfield 35, 3) := by decide +kernel
theorem ww155_59 {d : Nat} {l0 l1 l2 : Option mw_V} {st : List mw_V} {σ : mw_S} {Q : Option mw_V → mw_S → Prop} : mw_WP d 155 59 [l0, l1, l2] (jR 0 :: st) σ Q ↔ mw_WP d 155 62 [l0, l1, l2] (jR 25 :: st) σ Q := WP_getR (ci := 10) (k := 3) mq155 dd155_59 (by decide) rfl
theorem dd155_62 : decode cX11_restore 62 = .ok (.invokevirtual 122, 3) := by decide +kernel
theorem ww155_62 {d : Nat} {l0 l1 l2 : Option mw_V} {a : Nat} {st : List mw_V} {σ : mw_S} {Q : Option mw_V → mw_S → Prop} (hr : mw_rc a = 6) (h8 : (st.map mw_cat).sum ≤ 8) : mw_WP d 155 62 [l0, l1, l2] (jR a :: st) σ Q ↔ mw_Call d 40 [jR a] σ (fun r1 s1 => mw_WP d 155 65 [l0, l1, l2] (r1.toList ++ st) s1 Q) := WP_inv (as := []) mq155 dd155_62 (by decide) mq40 rfl hr h8
theorem dd155_65 : decode cX11_restore 65 = .ok (.iconst 0, 1) := by decide +kernel
theorem ww155_65 {d : Nat} {l0 l1 l2 : Option mw_V} {st : List mw_V} {σ : mw_S} {Q : Option mw_V → mw_S → Prop} : mw_WP d 155 65 [l0, l1, l2] st σ Q ↔ mw_WP d 155 66 [l0, l1, l2] (jI (0) :: st) σ Q := WP_iconst mq155 dd155_65 (by decide)
theorem dd155_66 : decode cX11_restore 66 = .ok (.ireturn, 1) := by decide +kernel
theorem ww155_66 {d : Nat} {l0 l1 l2 : Option mw_V} {z : Int} {σ : mw_S} {Q : Option mw_V → mw_S → Prop} : mw_WP d 155 66 [l0, l1, l2] [jI z] σ Q ↔ Q (some (jI z)) σ := WP_ireturn (ty := .int) mq155 dd155_66 rfl rfl
theorem ee156 {d : Nat} {a : Nat} {z0 : Int} {σ : mw_S} {Q : Option mw_V → mw_S → Prop} : mw_Call (d + 1) 156 [jR a, jI z0] σ Q ↔ mw_WP d 156 0 [some (jR a), some (jI z0)] [] σ Q := CL_u mq156 (Nat.le_of_ble_eq_true rfl) rfl
theorem dd156_0 : decode cX11_count 0 = .ok (.iload_n 1, 1) := by decide +kernel
theorem ww156_0 {d : Nat} {l0 : Option mw_V} {x : Int} {st : List mw_V} {σ : mw_S} {Q : Option mw_V → mw_S → Prop} : mw_WP d 156 0 [l0, some (jI x)] st σ Q ↔ mw_WP d 156 1 [l0, some (jI x)] (jI x :: st) σ Q := WP_iload_n mq156 dd156_0 rfl
theorem dd156_1 : decode cX11_count 1 = .ok (.tableswitch 123 0 8 #[51, 59, 67, 75, 83, 91, 99, 107, 115], 51) := by decide +kernel
theorem ww156_1k0 {d : Nat} {l0 l1 : Option mw_V} {st : List mw_V} {σ : mw_S} {Q : Option mw_V → mw_S → Prop} : mw_WP d 156 1 [l0, l1] (jI (0) :: st) σ Q ↔ mw_WP d 156 52 [l0, l1] st σ Q := WP_k mq156 dd156_1 rfl (fun _ _ => by simp [mw_stp, mw_b1, mw_go])
theorem ww156_1k1 {d : Nat} {l0 l1 : Option mw_V} {st : List mw_V} {σ : mw_S} {Q : Option mw_V → mw_S → Prop} : mw_WP d 156 1 [l0, l1] (jI (1) :: st) σ Q ↔ mw_WP d 156 60 [l0, l1] st σ Q := WP_k mq156 dd156_1 rfl (fun _ _ => by simp [mw_stp, mw_b1, mw_go])
theorem ww156_1k2 {d : Nat} {l0 l1 : Option mw_V} {st : List mw_V} {σ : mw_S} {Q : Option mw_V → mw_S → Prop} : mw_WP d 156 1 [l0, l1] (jI (2) :: st) σ Q ↔ mw_WP d 156 68 [l0, l1] st σ Q := WP_k mq156 dd156_1 rfl (fun _ _ => by simp [mw_stp, mw_b1, mw_go])
theorem ww156_1k3 {d : Nat} {l0 l1 : Option mw_V} {st : List mw_V} {σ : mw_S} {Q : Option mw_V → mw_S → Prop} : mw_WP d 156 1 [l0, l1] (jI (3) :: st) σ Q ↔ mw_WP d 156 76 [l0, l1] st σ Q := WP_k mq156 dd156_1 rfl (fun _ _ => by simp [mw_stp, mw_b1, mw_go])
theorem ww156_1k4 {d : Nat} {l0 l1 : Option mw_V} {st : List mw_V} {σ : mw_S} {Q : Option mw_V → mw_S → Prop} : mw_WP d 156 1 [l0, l1] (jI (4) :: st) σ Q ↔ mw_WP d 156 84 [l0, l1] st σ Q := WP_k mq156 dd156_1 rfl (fun _ _ => by simp [mw_stp, mw_b1, mw_go])
theorem ww156_1k5 {d : Nat} {l0 l1 : Option mw_V} {st : List mw_V} {σ : mw_S} {Q : Option mw_V → mw_S → Prop} : mw_WP d 156 1 [l0, l1] (jI (5) :: st) σ Q ↔ mw_WP d 156 92 [l0, l1] st σ Q := WP_k mq156 dd156_1 rfl (fun _ _ => by simp [mw_stp, mw_b1, mw_go])
theorem ww156_1k6 {d : Nat} {l0 l1 : Option mw_V} {st : List mw_V} {σ : mw_S} {Q : Option mw_V → mw_S → Prop} : mw_WP d 156 1 [l0, l1] (jI (6) :: st) σ Q ↔ mw_WP d 156 100 [l0, l1] st σ Q := WP_k mq156 dd156_1 rfl (fun _ _ => by simp [mw_stp, mw_b1, mw_go])
theorem ww156_1k7 {d : Nat} {l0 l1 : Option mw_V} {st : List mw_V} {σ : mw_S} {Q : Option mw_V → mw_S → Prop} : mw_WP d 156 1 [l0, l1] (jI (7) :: st) σ Q ↔ mw_WP d 156 108 [l0, l1] st σ Q := WP_k mq156 dd156_1 rfl (fun _ _ => by simp [mw_stp, mw_b1, mw_go])
theorem ww156_1k8 {d : Nat} {l0 l1 : Option mw_V} {st : List mw_V} {σ : mw_S} {Q : Option mw_V → mw_S → Prop} : mw_WP d 156 1 [l0, l1] (jI (8) :: st) σ Q ↔ mw_WP d 156 116 [l0, l1] st σ Q := WP_k mq156 dd156_1 rfl (fun _ _ => by simp [mw_stp, mw_b1, mw_go])
theorem ww156_1kd {d : Nat} {l0 l1 : Option mw_V} {x : Int} {st : List mw_V} {σ : mw_S} {Q : Option mw_V → mw_S → Prop} (h : x < 0 ∨ 8 < x) : mw_WP d 156 1 [l0, l1] (jI x :: st) σ Q ↔ mw_WP d 156 124 [l0, l1] st σ Q := WP_k mq156 dd156_1 rfl (fun _ _ => by simp [mw_stp, mw_b1, mw_go, h])
theorem dd156_52 : decode cX11_count 52 = .ok (.aload_n 0, 1) := by decide +kernel
theorem ww156_52 {d : Nat} {l1 : Option mw_V} {x : Nat} {st : List mw_V} {σ : mw_S} {Q : Option mw_V → mw_S → Prop} : mw_WP d 156 52 [some (jR x), l1] st σ Q ↔ mw_WP d 156 53 [some (jR x), l1] (jR x :: st) σ Q := WP_aload_n mq156 dd156_52 rfl
theorem dd156_53 : decode cX11_count 53 = .ok (.getfield 19, 3) := by decide +kernel
theorem ww156_53 {d : Nat} {l0 l1 : Option mw_V} {st : List mw_V} {σ : mw_S} {Q : Option mw_V → mw_S → Prop} : mw_WP d 156 53 [l0, l1] (jR 0 :: st) σ Q ↔ mw_WP d 156 56 [l0, l1] (jR 13 :: st) σ Q := WP_getR (ci := 10) (k := 1) mq156 dd156_53 (by decide) rfl
theorem dd156_56 : decode cX11_count 56 = .ok (.getfield 371, 3) := by decide +kernel
theorem ww156_56i3 {d : Nat} {l0 l1 : Option mw_V} {st : List mw_V} {σ : mw_S} {Q : Option mw_V → mw_S → Prop} : mw_WP d 156 56 [l0, l1] (jR 3 :: st) σ Q ↔ mw_WP d 156 59 [l0, l1] (jI (σ 3 0) :: st) σ Q := WP_getI (ci := 0) (k := 0) mq156 dd156_56 (by decide) (Or.inl rfl)
theorem ww156_56i13 {d : Nat} {l0 l1 : Option mw_V} {st : List mw_V} {σ : mw_S} {Q : Option mw_V → mw_S → Prop} : mw_WP d 156 56 [l0, l1] (jR 13 :: st) σ Q ↔ mw_WP d 156 59 [l0, l1] (jI (σ 13 0) :: st) σ Q := WP_getI (ci := 0) (k := 0) mq156 dd156_56 (by decide) (Or.inl rfl)
theorem ww156_56i77 {d : Nat} {l0 l1 : Option mw_V} {st : List mw_V} {σ : mw_S} {Q : Option mw_V → mw_S → Prop} : mw_WP d 156 56 [l0, l1] (jR 77 :: st) σ Q ↔ mw_WP d 156 59 [l0, l1] (jI (σ 77 0) :: st) σ Q := WP_getI (ci := 0) (k := 0) mq156 dd156_56 (by decide) (Or.inl rfl)
theorem ww156_56i88 {d : Nat} {l0 l1 : Option mw_V} {st : List mw_V} {σ : mw_S} {Q : Option mw_V → mw_S → Prop} : mw_WP d 156 56 [l0, l1] (jR 88 :: st) σ Q ↔ mw_WP d 156 59 [l0, l1] (jI (σ 88 0) :: st) σ Q := WP_getI (ci := 0) (k := 0) mq156 dd156_56 (by decide) (Or.inl rfl)
theorem dd156_59 : decode cX11_count 59 = .ok (.ireturn, 1) := by decide +kernel
theorem ww156_59 {d : Nat} {l0 l1 : Option mw_V} {z : Int} {σ : mw_S} {Q : Option mw_V → mw_S → Prop} : mw_WP d 156 59 [l0, l1] [jI z] σ Q ↔ Q (some (jI z)) σ := WP_ireturn (ty := .int) mq156 dd156_59 rfl rfl
theorem dd156_60 : decode cX11_count 60 = .ok (.aload_n 0, 1) := by decide +kernel
theorem ww156_60 {d : Nat} {l1 : Option mw_V} {x : Nat} {st : List mw_V} {σ : mw_S} {Q : Option mw_V → mw_S → Prop} : mw_WP d 156 60 [some (jR x), l1] st σ Q ↔ mw_WP d 156 61 [some (jR x), l1] (jR x :: st) σ Q := WP_aload_n mq156 dd156_60 rfl
theorem dd156_61 : decode cX11_count 61 = .ok (.getfield 19, 3) := by decide +kernel
theorem ww156_61 {d : Nat} {l0 l1 : Option mw_V} {st : List mw_V} {σ : mw_S} {Q : Option mw_V → mw_S → Prop} : mw_WP d 156 61 [l0, l1] (jR 0 :: st) σ Q ↔ mw_WP d 156 64 [l0, l1] (jR 13 :: st) σ Q := WP_getR (ci := 10) (k := 1) mq156 dd156_61 (by decide) rfl
theorem dd156_64 : decode cX11_count 64 = .ok (.getfield 202, 3) := by decide +kernel
theorem ww156_64i3 {d : Nat} {l0 l1 : Option mw_V} {st : List mw_V} {σ : mw_S} {Q : Option mw_V → mw_S → Prop} : mw_WP d 156 64 [l0, l1] (jR 3 :: st) σ Q ↔ mw_WP d 156 67 [l0, l1] (jI (σ 3 1) :: st) σ Q := WP_getI (ci := 0) (k := 1) mq156 dd156_64 (by decide) (Or.inl rfl)
theorem ww156_64i13 {d : Nat} {l0 l1 : Option mw_V} {st : List mw_V} {σ : mw_S} {Q : Option mw_V → mw_S → Prop} : mw_WP d 156 64 [l0, l1] (jR 13 :: st) σ Q ↔ mw_WP d 156 67 [l0, l1] (jI (σ 13 1) :: st) σ Q := WP_getI (ci := 0) (k := 1) mq156 dd156_64 (by decide) (Or.inl rfl)
theorem ww156_64i77 {d : Nat} {l0 l1 : Option mw_V} {st : List mw_V} {σ : mw_S} {Q : Option mw_V → mw_S → Prop} : mw_WP d 156 64 [l0, l1] (jR 77 :: st) σ Q ↔ mw_WP d 156 67 [l0, l1] (jI (σ 77 1) :: st) σ Q := WP_getI (ci := 0) (k := 1) mq156 dd156_64 (by decide) (Or.inl rfl)
theorem ww156_64i88 {d : Nat} {l0 l1 : Option mw_V} {st : List mw_V} {σ : mw_S} {Q : Option mw_V → mw_S → Prop} : mw_WP d 156 64 [l0, l1] (jR 88 :: st) σ Q ↔ mw_WP d 156 67 [l0, l1] (jI (σ 88 1) :: st) σ Q := WP_getI (ci := 0) (k := 1) mq156 dd156_64 (by decide) (Or.inl rfl)
theorem dd156_67 : decode cX11_count 67 = .ok (.ireturn, 1) := by decide +kernel
theorem ww156_67 {d : Nat} {l0 l1 : Option mw_V} {z : Int} {σ : mw_S} {Q : Option mw_V → mw_S → Prop} : mw_WP d 156 67 [l0, l1] [jI z] σ Q ↔ Q (some (jI z)) σ := WP_ireturn (ty := .int) mq156 dd156_67 rfl rfl
theorem dd156_68 : decode cX11_count 68 = .ok (.aload_n 0, 1) := by decide +kernel
theorem ww156_68 {d : Nat} {l1 : Option mw_V} {x : Nat} {st : List mw_V} {σ : mw_S} {Q : Option mw_V → mw_S → Prop} : mw_WP d 156 68 [some (jR x), l1] st σ Q ↔ mw_WP d 156 69 [some (jR x), l1] (jR x :: st) σ Q := WP_aload_n mq156 dd156_68 rfl
theorem dd156_69 : decode cX11_count 69 = .ok (.getfield 19, 3) := by decide +kernel
theorem ww156_69 {d : Nat} {l0 l1 : Option mw_V} {st : List mw_V} {σ : mw_S} {Q : Option mw_V → mw_S → Prop} : mw_WP d 156 69 [l0, l1] (jR 0 :: st) σ Q ↔ mw_WP d 156 72 [l0, l1] (jR 13 :: st) σ Q := WP_getR (ci := 10) (k := 1) mq156 dd156_69 (by decide) rfl
theorem dd156_72 : decode cX11_count 72 = .ok (.getfield 349, 3) := by decide +kernel
theorem ww156_72i3 {d : Nat} {l0 l1 : Option mw_V} {st : List mw_V} {σ : mw_S} {Q : Option mw_V → mw_S → Prop} : mw_WP d 156 72 [l0, l1] (jR 3 :: st) σ Q ↔ mw_WP d 156 75 [l0, l1] (jI (σ 3 2) :: st) σ Q := WP_getI (ci := 0) (k := 2) mq156 dd156_72 (by decide) (Or.inl rfl)
theorem ww156_72i13 {d : Nat} {l0 l1 : Option mw_V} {st : List mw_V} {σ : mw_S} {Q : Option mw_V → mw_S → Prop} : mw_WP d 156 72 [l0, l1] (jR 13 :: st) σ Q ↔ mw_WP d 156 75 [l0, l1] (jI (σ 13 2) :: st) σ Q := WP_getI (ci := 0) (k := 2) mq156 dd156_72 (by decide) (Or.inl rfl)
theorem ww156_72i77 {d : Nat} {l0 l1 : Option mw_V} {st : List mw_V} {σ : mw_S} {Q : Option mw_V → mw_S → Prop} : mw_WP d 156 72 [l0, l1] (jR 77 :: st) σ Q ↔ mw_WP d 156 75 [l0, l1] (jI (σ 77 2) :: st) σ Q := WP_getI (ci := 0) (k := 2) mq156 dd156_72 (by decide) (Or.inl rfl)
theorem ww156_72i88 {d : Nat} {l0 l1 : Option mw_V} {st : List mw_V} {σ : mw_S} {Q : Option mw_V → mw_S → Prop} : mw_WP d 156 72 [l0, l1] (jR 88 :: st) σ Q ↔ mw_WP d 156 75 [l0, l1] (jI (σ 88 2) :: st) σ Q := WP_getI (ci := 0) (k := 2) mq156 dd156_72 (by decide) (Or.inl rfl)
theorem dd156_75 : decode cX11_count 75 = .ok (.ireturn, 1) := by decide +kernel
theorem ww156_75 {d : Nat} {l0 l1 : Option mw_V} {z : Int} {σ : mw_S} {Q : Option mw_V → mw_S → Prop} : mw_WP d 156 75 [l0, l1] [jI z] σ Q ↔ Q (some (jI z)) σ := WP_ireturn (ty := .int) mq156 dd156_75 rfl rfl
theorem dd156_76 : decode cX11_count 76 = .ok (.aload_n 0, 1) := by decide +kernel
theorem ww156_76 {d : Nat} {l1 : Option mw_V} {x : Nat} {st : List mw_V} {σ : mw_S} {Q : Option mw_V → mw_S → Prop} : mw_WP d 156 76 [some (jR x), l1] st σ Q ↔ mw_WP d 156 77 [some (jR x), l1] (jR x :: st) σ Q := WP_aload_n mq156 dd156_76 rfl
theorem dd156_77 : decode cX11_count 77 = .ok (.getfield 19, 3) := by decide +kernel
theorem ww156_77 {d : Nat} {l0 l1 : Option mw_V} {st : List mw_V} {σ : mw_S} {Q : Option mw_V → mw_S → Prop} : mw_WP d 156 77 [l0, l1] (jR 0 :: st) σ Q ↔ mw_WP d 156 80 [l0, l1] (jR 13 :: st) σ Q := WP_getR (ci := 10) (k := 1) mq156 dd156_77 (by decide) rfl
theorem dd156_80 : decode cX11_count 80 = .ok (.getfield 374, 3) := by decide +kernel
theorem ww156_80i3 {d : Nat} {l0 l1 : Option mw_V} {st : List mw_V} {σ : mw_S} {Q : Option mw_V → mw_S → Prop} : mw_WP d 156 80 [l0, l1] (jR 3 :: st) σ Q ↔ mw_WP d 156 83 [l0, l1] (jI (σ 3 3) :: st) σ Q := WP_getI (ci := 0) (k := 3) mq156 dd156_80 (by decide) (Or.inl rfl)
theorem ww156_80i13 {d : Nat} {l0 l1 : Option mw_V} {st : List mw_V} {σ : mw_S} {Q : Option mw_V → mw_S → Prop} : mw_WP d 156 80 [l0, l1] (jR 13 :: st) σ Q ↔ mw_WP d 156 83 [l0, l1] (jI (σ 13 3) :: st) σ Q := WP_getI (ci := 0) (k := 3) mq156 dd156_80 (by decide) (Or.inl rfl)
theorem ww156_80i77 {d : Nat} {l0 l1 : Option mw_V} {st : List mw_V} {σ : mw_S} {Q : Option mw_V → mw_S → Prop} : mw_WP d 156 80 [l0, l1] (jR 77 :: st) σ Q ↔ mw_WP d 156 83 [l0, l1] (jI (σ 77 3) :: st) σ Q := WP_getI (ci := 0) (k := 3) mq156 dd156_80 (by decide) (Or.inl rfl)
theorem ww156_80i88 {d : Nat} {l0 l1 : Option mw_V} {st : List mw_V} {σ : mw_S} {Q : Option mw_V → mw_S → Prop} : mw_WP d 156 80 [l0, l1] (jR 88 :: st) σ Q ↔ mw_WP d 156 83 [l0, l1] (jI (σ 88 3) :: st) σ Q := WP_getI (ci := 0) (k := 3) mq156 dd156_80 (by decide) (Or.inl rfl)
theorem dd156_83 : decode cX11_count 83 = .ok (.ireturn, 1) := by decide +kernel
theorem ww156_83 {d : Nat} {l0 l1 : Option mw_V} {z : Int} {σ : mw_S} {Q : Option mw_V → mw_S → Prop} : mw_WP d 156 83 [l0, l1] [jI z] σ Q ↔ Q (some (jI z)) σ := WP_ireturn (ty := .int) mq156 dd156_83 rfl rfl
theorem dd156_84 : decode cX11_count 84 = .ok (.aload_n 0, 1) := by decide +kernel
theorem ww156_84 {d : Nat} {l1 : Option mw_V} {x : Nat} {st : List mw_V} {σ : mw_S} {Q : Option mw_V → mw_S → Prop} : mw_WP d 156 84 [some (jR x), l1] st σ Q ↔ mw_WP d 156 85 [some (jR x), l1] (jR x :: st) σ Q := WP_aload_n mq156 dd156_84 rfl
theorem dd156_85 : decode cX11_count 85 = .ok (.getfield 19, 3) := by decide +kernel
theorem ww156_85 {d : Nat} {l0 l1 : Option mw_V} {st : List mw_V} {σ : mw_S} {Q : Option mw_V → mw_S → Prop} : mw_WP d 156 85 [l0, l1] (jR 0 :: st) σ Q ↔ mw_WP d 156 88 [l0, l1] (jR 13 :: st) σ Q := WP_getR (ci := 10) (k := 1) mq156 dd156_85 (by decide) rfl
theorem dd156_88 : decode cX11_count 88 = .ok (.getfield 377, 3) := by decide +kernel
theorem ww156_88i3 {d : Nat} {l0 l1 : Option mw_V} {st : List mw_V} {σ : mw_S} {Q : Option mw_V → mw_S → Prop} : mw_WP d 156 88 [l0, l1] (jR 3 :: st) σ Q ↔ mw_WP d 156 91 [l0, l1] (jI (σ 3 4) :: st) σ Q := WP_getI (ci := 0) (k := 4) mq156 dd156_88 (by decide) (Or.inl rfl)
theorem ww156_88i13 {d : Nat} {l0 l1 : Option mw_V} {st : List mw_V} {σ : mw_S} {Q : Option mw_V → mw_S → Prop} : mw_WP d 156 88 [l0, l1] (jR 13 :: st) σ Q ↔ mw_WP d 156 91 [l0, l1] (jI (σ 13 4) :: st) σ Q := WP_getI (ci := 0) (k := 4) mq156 dd156_88 (by decide) (Or.inl rfl)
theorem ww156_88i77 {d : Nat} {l0 l1 : Option mw_V} {st : List mw_V} {σ : mw_S} {Q : Option mw_V → mw_S → Prop} : mw_WP d 156 88 [l0, l1] (jR 77 :: st) σ Q ↔ mw_WP d 156 91 [l0, l1] (jI (σ 77 4) :: st) σ Q := WP_getI (ci := 0) (k := 4) mq156 dd156_88 (by decide) (Or.inl rfl)
theorem ww156_88i88 {d : Nat} {l0 l1 : Option mw_V} {st : List mw_V} {σ : mw_S} {Q : Option mw_V → mw_S → Prop} : mw_WP d 156 88 [l0, l1] (jR 88 :: st) σ Q ↔ mw_WP d 156 91 [l0, l1] (jI (σ 88 4) :: st) σ Q := WP_getI (ci := 0) (k := 4) mq156 dd156_88 (by decide) (Or.inl rfl)
theorem dd156_91 : decode cX11_count 91 = .ok (.ireturn, 1) := by decide +kernel
theorem ww156_91 {d : Nat} {l0 l1 : Option mw_V} {z : Int} {σ : mw_S} {Q : Option mw_V → mw_S → Prop} : mw_WP d 156 91 [l0, l1] [jI z] σ Q ↔ Q (some (jI z)) σ := WP_ireturn (ty := .int) mq156 dd156_91 rfl rfl
theorem dd156_92 : decode cX11_count 92 = .ok (.aload_n 0, 1) := by decide +kernel
theorem ww156_92 {d : Nat} {l1 : Option mw_V} {x : Nat} {st : List mw_V} {σ : mw_S} {Q : Option mw_V → mw_S → Prop} : mw_WP d 156 92 [some (jR x), l1] st σ Q ↔ mw_WP d 156 93 [some (jR x), l1] (jR x :: st) σ Q := WP_aload_n mq156 dd156_92 rfl
theorem dd156_93 : decode cX11_count 93 = .ok (.getfield 86, 3) := by decide +kernel
theorem ww156_93 {d : Nat} {l0 l1 : Option mw_V} {st : List mw_V} {σ : mw_S} {Q : Option mw_V → mw_S → Prop} : mw_WP d 156 93 [l0, l1] (jR 0 :: st) σ Q ↔ mw_WP d 156 96 [l0, l1] (jR 98 :: st) σ Q := WP_getR (ci := 10) (k := 11) mq156 dd156_93 (by decide) rfl
theorem dd156_96 : decode cX11_count 96 = .ok (.bipush 34, 2) := by decide +kernel
theorem ww156_96 {d : Nat} {l0 l1 : Option mw_V} {st : List mw_V} {σ : mw_S} {Q : Option mw_V → mw_S → Prop} : mw_WP d 156 96 [l0, l1] st σ Q ↔ mw_WP d 156 98 [l0, l1] (jI (34) :: st) σ Q := WP_bipush mq156 dd156_96 (by decide)
theorem dd156_98 : decode cX11_count 98 = .ok (.iaload, 1) := by decide +kernel
theorem ww156_98 {d : Nat} {l0 l1 : Option mw_V} {z : Int} {a : Nat} {st : List mw_V} {σ : mw_S} {Q : Option mw_V → mw_S → Prop} : mw_WP d 156 98 [l0, l1] (jI z :: jR a :: st) σ Q ↔ ((0 ≤ z ∧ z < mw_lenI a) ∧ mw_WP d 156 99 [l0, l1] (jI (mw_rdI σ a z.toNat) :: st) σ Q) := WP_iaload mq156 dd156_98
theorem dd156_99 : decode cX11_count 99 = .ok (.ireturn, 1) := by decide +kernel
theorem ww156_99 {d : Nat} {l0 l1 : Option mw_V} {z : Int} {σ : mw_S} {Q : Option mw_V → mw_S → Prop} : mw_WP d 156 99 [l0, l1] [jI z] σ Q ↔ Q (some (jI z)) σ := WP_ireturn (ty := .int) mq156 dd156_99 rfl rfl
theorem dd156_100 : decode cX11_count 100 = .ok (.aload_n 0, 1) := by decide +kernel
theorem ww156_100 {d : Nat} {l1 : Option mw_V} {x : Nat} {st : List mw_V} {σ : mw_S} {Q : Option mw_V → mw_S → Prop} : mw_WP d 156 100 [some (jR x), l1] st σ Q ↔ mw_WP d 156 101 [some (jR x), l1] (jR x :: st) σ Q := WP_aload_n mq156 dd156_100 rfl
theorem dd156_101 : decode cX11_count 101 = .ok (.getfield 35, 3) := by decide +kernel
theorem ww156_101 {d : Nat} {l0 l1 : Option mw_V} {st : List mw_V} {σ : mw_S} {Q : Option mw_V → mw_S → Prop} : mw_WP d 156 101 [l0, l1] (jR 0 :: st) σ Q ↔ mw_WP d 156 104 [l0, l1] (jR 25 :: st) σ Q := WP_getR (ci := 10) (k := 3) mq156 dd156_101 (by decide) rfl
theorem dd156_104 : decode cX11_count 104 = .ok (.getfield 169, 3) := by decide +kernel
theorem ww156_104 {d : Nat} {l0 l1 : Option mw_V} {st : List mw_V} {σ : mw_S} {Q : Option mw_V → mw_S → Prop} : mw_WP d 156 104 [l0, l1] (jR 25 :: st) σ Q ↔ mw_WP d 156 107 [l0, l1] (jI (σ 25 0) :: st) σ Q := WP_getI (ci := 5) (k := 0) mq156 dd156_104 (by decide) (Or.inl rfl)
theorem dd156_107 : decode cX11_count 107 = .ok (.ireturn, 1) := by decide +kernel
theorem ww156_107 {d : Nat} {l0 l1 : Option mw_V} {z : Int} {σ : mw_S} {Q : Option mw_V → mw_S → Prop} : mw_WP d 156 107 [l0, l1] [jI z] σ Q ↔ Q (some (jI z)) σ := WP_ireturn (ty := .int) mq156 dd156_107 rfl rfl
theorem dd156_108 : decode cX11_count 108 = .ok (.aload_n 0, 1) := by decide +kernel
theorem ww156_108 {d : Nat} {l1 : Option mw_V} {x : Nat} {st : List mw_V} {σ : mw_S} {Q : Option mw_V → mw_S → Prop} : mw_WP d 156 108 [some (jR x), l1] st σ Q ↔ mw_WP d 156 109 [some (jR x), l1] (jR x :: st) σ Q := WP_aload_n mq156 dd156_108 rfl
theorem dd156_109 : decode cX11_count 109 = .ok (.getfield 12, 3) := by decide +kernel
theorem ww156_109 {d : Nat} {l0 l1 : Option mw_V} {st : List mw_V} {σ : mw_S} {Q : Option mw_V → mw_S → Prop} : mw_WP d 156 109 [l0, l1] (jR 0 :: st) σ Q ↔ mw_WP d 156 112 [l0, l1] (jR 1 :: st) σ Q := WP_getR (ci := 10) (k := 0) mq156 dd156_109 (by decide) rfl
theorem dd156_112 : decode cX11_count 112 = .ok (.getfield 101, 3) := by decide +kernel
theorem ww156_112 {d : Nat} {l0 l1 : Option mw_V} {st : List mw_V} {σ : mw_S} {Q : Option mw_V → mw_S → Prop} : mw_WP d 156 112 [l0, l1] (jR 1 :: st) σ Q ↔ mw_WP d 156 115 [l0, l1] (jI (σ 1 2) :: st) σ Q := WP_getI (ci := 6) (k := 2) mq156 dd156_112 (by decide) (Or.inl rfl)
theorem dd156_115 : decode cX11_count 115 = .ok (.ireturn, 1) := by decide +kernel
theorem ww156_115 {d : Nat} {l0 l1 : Option mw_V} {z : Int} {σ : mw_S} {Q : Option mw_V → mw_S → Prop} : mw_WP d 156 115 [l0, l1] [jI z] σ Q ↔ Q (some (jI z)) σ := WP_ireturn (ty := .int) mq156 dd156_115 rfl rfl
theorem dd156_116 : decode cX11_count 116 = .ok (.aload_n 0, 1) := by decide +kernel
theorem ww156_116 {d : Nat} {l1 : Option mw_V} {x : Nat} {st : List mw_V} {σ : mw_S} {Q : Option mw_V → mw_S → Prop} : mw_WP d 156 116 [some (jR x), l1] st σ Q ↔ mw_WP d 156 117 [some (jR x), l1] (jR x :: st) σ Q := WP_aload_n mq156 dd156_116 rfl
theorem dd156_117 : decode cX11_count 117 = .ok (.getfield 19, 3) := by decide +kernel
theorem ww156_117 {d : Nat} {l0 l1 : Option mw_V} {st : List mw_V} {σ : mw_S} {Q : Option mw_V → mw_S → Prop} : mw_WP d 156 117 [l0, l1] (jR 0 :: st) σ Q ↔ mw_WP d 156 120 [l0, l1] (jR 13 :: st) σ Q := WP_getR (ci := 10) (k := 1) mq156 dd156_117 (by decide) rfl
theorem dd156_120 : decode cX11_count 120 = .ok (.getfield 125, 3) := by decide +kernel
theorem ww156_120i3 {d : Nat} {l0 l1 : Option mw_V} {st : List mw_V} {σ : mw_S} {Q : Option mw_V → mw_S → Prop} : mw_WP d 156 120 [l0, l1] (jR 3 :: st) σ Q ↔ mw_WP d 156 123 [l0, l1] (jI (σ 3 5) :: st) σ Q := WP_getI (ci := 0) (k := 5) mq156 dd156_120 (by decide) (Or.inl rfl)
theorem ww156_120i13 {d : Nat} {l0 l1 : Option mw_V} {st : List mw_V} {σ : mw_S} {Q : Option mw_V → mw_S → Prop} : mw_WP d 156 120 [l0, l1] (jR 13 :: st) σ Q ↔ mw_WP d 156 123 [l0, l1] (jI (σ 13 5) :: st) σ Q := WP_getI (ci := 0) (k := 5) mq156 dd156_120 (by decide) (Or.inl rfl)
theorem ww156_120i77 {d : Nat} {l0 l1 : Option mw_V} {st : List mw_V} {σ : mw_S} {Q : Option mw_V → mw_S → Prop} : mw_WP d 156 120 [l0, l1] (jR 77 :: st) σ Q ↔ mw_WP d 156 123 [l0, l1] (jI (σ 77 5) :: st) σ Q := WP_getI (ci := 0) (k := 5) mq156 dd156_120 (by decide) (Or.inl rfl)
theorem ww156_120i88 {d : Nat} {l0 l1 : Option mw_V} {st : List mw_V} {σ : mw_S} {Q : Option mw_V → mw_S → Prop} : mw_WP d 156 120 [l0, l1] (jR 88 :: st) σ Q ↔ mw_WP d 156 123 [l0, l1] (jI (σ 88 5) :: st) σ Q := WP_getI (ci := 0) (k := 5) mq156 dd156_120 (by decide) (Or.inl rfl)
theorem dd156_123 : decode cX11_count 123 = .ok (.ireturn, 1) := by decide +kernel
theorem ww156_123 {d : Nat} {l0 l1 : Option mw_V} {z : Int} {σ : mw_S} {Q : Option mw_V → mw_S → Prop} : mw_WP d 156 123 [l0, l1] [jI z] σ Q ↔ Q (some (jI z)) σ := WP_ireturn (ty := .int) mq156 dd156_123 rfl rfl
theorem dd156_124 : decode cX11_count 124 = .ok (.iconst (-1), 1) := by decide +kernel
theorem ww156_124 {d : Nat} {l0 l1 : Option mw_V} {st : List mw_V} {σ : mw_S} {Q : Option mw_V → mw_S → Prop} : mw_WP d 156 124 [l0, l1] st σ Q ↔ mw_WP d 156 125 [l0, l1] (jI (-1) :: st) σ Q := WP_iconst mq156 dd156_124 (by decide)
theorem dd156_125 : decode cX11_count 125 = .ok (.ireturn, 1) := by decide +kernel
theorem ww156_125 {d : Nat} {l0 l1 : Option mw_V} {z : Int} {σ : mw_S} {Q : Option mw_V → mw_S → Prop} : mw_WP d 156 125 [l0, l1] [jI z] σ Q ↔ Q (some (jI z)) σ := WP_ireturn (ty := .int) mq156 dd156_125 rfl rfl
theorem ee157 {d : Nat} {a : Nat} {z0 : Int} {σ : mw_S} {Q : Option mw_V → mw_S → Prop} : mw_Call (d + 1) 157 [jR a, jI z0] σ Q ↔ mw_WP d 157 0 [some (jR a), some (jI z0)] [] σ Q := CL_u mq157 (Nat.le_of_ble_eq_true rfl) rfl
theorem dd157_0 : decode cX11_isPerson 0 = .ok (.iload_n 1, 1) := by decide +kernel
theorem ww157_0 {d : Nat} {l0 : Option mw_V} {x : Int} {st : List mw_V} {σ : mw_S} {Q : Option mw_V → mw_S → Prop} : mw_WP d 157 0 [l0, some (jI x)] st σ Q ↔ mw_WP d 157 1 [l0, some (jI x)] (jI x :: st) σ Q := WP_iload_n mq157 dd157_0 rfl
theorem dd157_1 : decode cX11_isPerson 1 = .ok (.ifCond .lt 18, 3) := by decide +kernel
theorem ww157_1 {d : Nat} {l0 l1 : Option mw_V} {x : Int} {st : List mw_V} {σ : mw_S} {Q : Option mw_V → mw_S → Prop} : mw_WP d 157 1 [l0, l1] (jI x :: st) σ Q ↔ (if x < 0 then mw_WP d 157 19 [l0, l1] st σ Q else mw_WP d 157 4 [l0, l1] st σ Q) := WP_if_lt mq157 dd157_1 (by decide)
theorem dd157_4 : decode cX11_isPerson 4 = .ok (.iload_n 1, 1) := by decide +kernel
theorem ww157_4 {d : Nat} {l0 : Option mw_V} {x : Int} {st : List mw_V} {σ : mw_S} {Q : Option mw_V → mw_S → Prop} : mw_WP d 157 4 [l0, some (jI x)] st σ Q ↔ mw_WP d 157 5 [l0, some (jI x)] (jI x :: st) σ Q := WP_iload_n mq157 dd157_4 rfl
theorem dd157_5 : decode cX11_isPerson 5 = .ok (.aload_n 0, 1) := by decide +kernel
theorem ww157_5 {d : Nat} {l1 : Option mw_V} {x : Nat} {st : List mw_V} {σ : mw_S} {Q : Option mw_V → mw_S → Prop} : mw_WP d 157 5 [some (jR x), l1] st σ Q ↔ mw_WP d 157 6 [some (jR x), l1] (jR x :: st) σ Q := WP_aload_n mq157 dd157_5 rfl
theorem dd157_6 : decode cX11_isPerson 6 = .ok (.getfield 19, 3) := by decide +kernel
theorem ww157_6 {d : Nat} {l0 l1 : Option mw_V} {st : List mw_V} {σ : mw_S} {Q : Option mw_V → mw_S → Prop} : mw_WP d 157 6 [l0, l1] (jR 0 :: st) σ Q ↔ mw_WP d 157 9 [l0, l1] (jR 13 :: st) σ Q := WP_getR (ci := 10) (k := 1) mq157 dd157_6 (by decide) rfl
theorem dd157_9 : decode cX11_isPerson 9 = .ok (.getfield 202, 3) := by decide +kernel
theorem ww157_9i3 {d : Nat} {l0 l1 : Option mw_V} {st : List mw_V} {σ : mw_S} {Q : Option mw_V → mw_S → Prop} : mw_WP d 157 9 [l0, l1] (jR 3 :: st) σ Q ↔ mw_WP d 157 12 [l0, l1] (jI (σ 3 1) :: st) σ Q := WP_getI (ci := 0) (k := 1) mq157 dd157_9 (by decide) (Or.inl rfl)
theorem ww157_9i13 {d : Nat} {l0 l1 : Option mw_V} {st : List mw_V} {σ : mw_S} {Q : Option mw_V → mw_S → Prop} : mw_WP d 157 9 [l0, l1] (jR 13 :: st) σ Q ↔ mw_WP d 157 12 [l0, l1] (jI (σ 13 1) :: st) σ Q := WP_getI (ci := 0) (k := 1) mq157 dd157_9 (by decide) (Or.inl rfl)
theorem ww157_9i77 {d : Nat} {l0 l1 : Option mw_V} {st : List mw_V} {σ : mw_S} {Q : Option mw_V → mw_S → Prop} : mw_WP d 157 9 [l0, l1] (jR 77 :: st) σ Q ↔ mw_WP d 157 12 [l0, l1] (jI (σ 77 1) :: st) σ Q := WP_getI (ci := 0) (k := 1) mq157 dd157_9 (by decide) (Or.inl rfl)
theorem ww157_9i88 {d : Nat} {l0 l1 : Option mw_V} {st : List mw_V} {σ : mw_S} {Q : Option mw_V → mw_S → Prop} : mw_WP d 157 9 [l0, l1] (jR 88 :: st) σ Q ↔ mw_WP d 157 12 [l0, l1] (jI (σ 88 1) :: st) σ Q := WP_getI (ci := 0) (k := 1) mq157 dd157_9 (by decide) (Or.inl rfl)
theorem dd157_12 : decode cX11_isPerson 12 = .ok (.if_icmp .ge 7, 3) := by decide +kernel
theorem ww157_12 {d : Nat} {l0 l1 : Option mw_V} {x y : Int} {st : List mw_V} {σ : mw_S} {Q : Option mw_V → mw_S → Prop} : mw_WP d 157 12 [l0, l1] (jI y :: jI x :: st) σ Q ↔ (if y ≤ x then mw_WP d 157 19 [l0, l1] st σ Q else mw_WP d 157 15 [l0, l1] st σ Q) := WP_icmp_ge mq157 dd157_12 (by decide)
theorem dd157_15 : decode cX11_isPerson 15 = .ok (.iconst 1, 1) := by decide +kernel
theorem ww157_15 {d : Nat} {l0 l1 : Option mw_V} {st : List mw_V} {σ : mw_S} {Q : Option mw_V → mw_S → Prop} : mw_WP d 157 15 [l0, l1] st σ Q ↔ mw_WP d 157 16 [l0, l1] (jI (1) :: st) σ Q := WP_iconst mq157 dd157_15 (by decide)
theorem dd157_16 : decode cX11_isPerson 16 = .ok (.goto 4, 3) := by decide +kernel
theorem ww157_16 {d : Nat} {l0 l1 : Option mw_V} {st : List mw_V} {σ : mw_S} {Q : Option mw_V → mw_S → Prop} : mw_WP d 157 16 [l0, l1] st σ Q ↔ mw_WP d 157 20 [l0, l1] st σ Q := WP_goto mq157 dd157_16 (by decide)
theorem dd157_19 : decode cX11_isPerson 19 = .ok (.iconst 0, 1) := by decide +kernel
theorem ww157_19 {d : Nat} {l0 l1 : Option mw_V} {st : List mw_V} {σ : mw_S} {Q : Option mw_V → mw_S → Prop} : mw_WP d 157 19 [l0, l1] st σ Q ↔ mw_WP d 157 20 [l0, l1] (jI (0) :: st) σ Q := WP_iconst mq157 dd157_19 (by decide)
theorem dd157_20 : decode cX11_isPerson 20 = .ok (.ireturn, 1) := by decide +kernel
theorem ww157_20 {d : Nat} {l0 l1 : Option mw_V} {z : Int} {σ : mw_S} {Q : Option mw_V → mw_S → Prop} (h : z = 0 ∨ z = 1) : mw_WP d 157 20 [l0, l1] [jI z] σ Q ↔ Q (some (jI z)) σ := WP_ireturn (ty := .boolean) mq157 dd157_20 rfl (by rcases h with rfl | rfl <;> decide)
theorem ee158 {d : Nat} {a : Nat} {z0 : Int} {z1 : Int} {σ : mw_S} {Q : Option mw_V → mw_S → Prop} : mw_Call (d + 1) 158 [jR a, jI z0, jI z1] σ Q ↔ mw_WP d 158 0 [some (jR a), some (jI z0), some (jI z1)] [] σ Q := CL_u mq158 (Nat.le_of_ble_eq_true rfl) rfl
theorem dd158_0 : decode cX11_areTwoPeople 0 = .ok (.aload_n 0, 1) := by decide +kernel
theorem ww158_0 {d : Nat} {l1 l2 : Option mw_V} {x : Nat} {st : List mw_V} {σ : mw_S} {Q : Option mw_V → mw_S → Prop} : mw_WP d 158 0 [some (jR x), l1, l2] st σ Q ↔ mw_WP d 158 1 [some (jR x), l1, l2] (jR x :: st) σ Q := WP_aload_n mq158 dd158_0 rfl
theorem dd158_1 : decode cX11_areTwoPeople 1 = .ok (.iload_n 1, 1) := by decide +kernel
theorem ww158_1 {d : Nat} {l0 l2 : Option mw_V} {x : Int} {st : List mw_V} {σ : mw_S} {Q : Option mw_V → mw_S → Prop} : mw_WP d 158 1 [l0, some (jI x), l2] st σ Q ↔ mw_WP d 158 2 [l0, some (jI x), l2] (jI x :: st) σ Q := WP_iload_n mq158 dd158_1 rfl
theorem dd158_2 : decode cX11_areTwoPeople 2 = .ok (.invokevirtual 131, 3) := by decide +kernel
theorem ww158_2 {d : Nat} {l0 l1 l2 : Option mw_V} {v0 : mw_V} {a : Nat} {st : List mw_V} {σ : mw_S} {Q : Option mw_V → mw_S → Prop} (hr : mw_rc a = 11) (h8 : (st.map mw_cat).sum ≤ 8) : mw_WP d 158 2 [l0, l1, l2] (v0 :: jR a :: st) σ Q ↔ mw_Call d 157 [jR a, v0] σ (fun r1 s1 => mw_WP d 158 5 [l0, l1, l2] (r1.toList ++ st) s1 Q) := WP_inv (as := [v0]) mq158 dd158_2 (by decide) mq157 rfl hr h8
theorem dd158_5 : decode cX11_areTwoPeople 5 = .ok (.ifCond .eq 20, 3) := by decide +kernel
theorem ww158_5 {d : Nat} {l0 l1 l2 : Option mw_V} {x : Int} {st : List mw_V} {σ : mw_S} {Q : Option mw_V → mw_S → Prop} : mw_WP d 158 5 [l0, l1, l2] (jI x :: st) σ Q ↔ (if x = 0 then mw_WP d 158 25 [l0, l1, l2] st σ Q else mw_WP d 158 8 [l0, l1, l2] st σ Q) := WP_if_eq mq158 dd158_5 (by decide)
theorem dd158_8 : decode cX11_areTwoPeople 8 = .ok (.aload_n 0, 1) := by decide +kernel
theorem ww158_8 {d : Nat} {l1 l2 : Option mw_V} {x : Nat} {st : List mw_V} {σ : mw_S} {Q : Option mw_V → mw_S → Prop} : mw_WP d 158 8 [some (jR x), l1, l2] st σ Q ↔ mw_WP d 158 9 [some (jR x), l1, l2] (jR x :: st) σ Q := WP_aload_n mq158 dd158_8 rfl
theorem dd158_9 : decode cX11_areTwoPeople 9 = .ok (.iload_n 2, 1) := by decide +kernel
theorem ww158_9 {d : Nat} {l0 l1 : Option mw_V} {x : Int} {st : List mw_V} {σ : mw_S} {Q : Option mw_V → mw_S → Prop} : mw_WP d 158 9 [l0, l1, some (jI x)] st σ Q ↔ mw_WP d 158 10 [l0, l1, some (jI x)] (jI x :: st) σ Q := WP_iload_n mq158 dd158_9 rfl
theorem dd158_10 : decode cX11_areTwoPeople 10 = .ok (.invokevirtual 131, 3) := by decide +kernel
theorem ww158_10 {d : Nat} {l0 l1 l2 : Option mw_V} {v0 : mw_V} {a : Nat} {st : List mw_V} {σ : mw_S} {Q : Option mw_V → mw_S → Prop} (hr : mw_rc a = 11) (h8 : (st.map mw_cat).sum ≤ 8) : mw_WP d 158 10 [l0, l1, l2] (v0 :: jR a :: st) σ Q ↔ mw_Call d 157 [jR a, v0] σ (fun r1 s1 => mw_WP d 158 13 [l0, l1, l2] (r1.toList ++ st) s1 Q) := WP_inv (as := [v0]) mq158 dd158_10 (by decide) mq157 rfl hr h8
theorem dd158_13 : decode cX11_areTwoPeople 13 = .ok (.ifCond .eq 12, 3) := by decide +kernel
theorem ww158_13 {d : Nat} {l0 l1 l2 : Option mw_V} {x : Int} {st : List mw_V} {σ : mw_S} {Q : Option mw_V → mw_S → Prop} : mw_WP d 158 13 [l0, l1, l2] (jI x :: st) σ Q ↔ (if x = 0 then mw_WP d 158 25 [l0, l1, l2] st σ Q else mw_WP d 158 16 [l0, l1, l2] st σ Q) := WP_if_eq mq158 dd158_13 (by decide)
theorem dd158_16 : decode cX11_areTwoPeople 16 = .ok (.iload_n 1, 1) := by decide +kernel
theorem ww158_16 {d : Nat} {l0 l2 : Option mw_V} {x : Int} {st : List mw_V} {σ : mw_S} {Q : Option mw_V → mw_S → Prop} : mw_WP d 158 16 [l0, some (jI x), l2] st σ Q ↔ mw_WP d 158 17 [l0, some (jI x), l2] (jI x :: st) σ Q := WP_iload_n mq158 dd158_16 rfl
theorem dd158_17 : decode cX11_areTwoPeople 17 = .ok (.iload_n 2, 1) := by decide +kernel
theorem ww158_17 {d : Nat} {l0 l1 : Option mw_V} {x : Int} {st : List mw_V} {σ : mw_S} {Q : Option mw_V → mw_S → Prop} : mw_WP d 158 17 [l0, l1, some (jI x)] st σ Q ↔ mw_WP d 158 18 [l0, l1, some (jI x)] (jI x :: st) σ Q := WP_iload_n mq158 dd158_17 rfl
theorem dd158_18 : decode cX11_areTwoPeople 18 = .ok (.if_icmp .eq 7, 3) := by decide +kernel
theorem ww158_18 {d : Nat} {l0 l1 l2 : Option mw_V} {x y : Int} {st : List mw_V} {σ : mw_S} {Q : Option mw_V → mw_S → Prop} : mw_WP d 158 18 [l0, l1, l2] (jI y :: jI x :: st) σ Q ↔ (if x = y then mw_WP d 158 25 [l0, l1, l2] st σ Q else mw_WP d 158 21 [l0, l1, l2] st σ Q) := WP_icmp_eq mq158 dd158_18 (by decide)
theorem dd158_21 : decode cX11_areTwoPeople 21 = .ok (.iconst 1, 1) := by decide +kernel
theorem ww158_21 {d : Nat} {l0 l1 l2 : Option mw_V} {st : List mw_V} {σ : mw_S} {Q : Option mw_V → mw_S → Prop} : mw_WP d 158 21 [l0, l1, l2] st σ Q ↔ mw_WP d 158 22 [l0, l1, l2] (jI (1) :: st) σ Q := WP_iconst mq158 dd158_21 (by decide)
theorem dd158_22 : decode cX11_areTwoPeople 22 = .ok (.goto 4, 3) := by decide +kernel
theorem ww158_22 {d : Nat} {l0 l1 l2 : Option mw_V} {st : List mw_V} {σ : mw_S} {Q : Option mw_V → mw_S → Prop} : mw_WP d 158 22 [l0, l1, l2] st σ Q ↔ mw_WP d 158 26 [l0, l1, l2] st σ Q := WP_goto mq158 dd158_22 (by decide)
theorem dd158_25 : decode cX11_areTwoPeople 25 = .ok (.iconst 0, 1) := by decide +kernel
theorem ww158_25 {d : Nat} {l0 l1 l2 : Option mw_V} {st : List mw_V} {σ : mw_S} {Q : Option mw_V → mw_S → Prop} : mw_WP d 158 25 [l0, l1, l2] st σ Q ↔ mw_WP d 158 26 [l0, l1, l2] (jI (0) :: st) σ Q := WP_iconst mq158 dd158_25 (by decide)
theorem dd158_26 : decode cX11_areTwoPeople 26 = .ok (.ireturn, 1) := by decide +kernel
theorem ww158_26 {d : Nat} {l0 l1 l2 : Option mw_V} {z : Int} {σ : mw_S} {Q : Option mw_V → mw_S → Prop} (h : z = 0 ∨ z = 1) : mw_WP d 158 26 [l0, l1, l2] [jI z] σ Q ↔ Q (some (jI z)) σ := WP_ireturn (ty := .boolean) mq158 dd158_26 rfl (by rcases h with rfl | rfl <;> decide)
theorem ee159 {d : Nat} {a : Nat} {z0 : Int} {σ : mw_S} {Q : Option mw_V → mw_S → Prop} : mw_Call (d + 1) 159 [jR a, jI z0] σ Q ↔ mw_WP d 159 0 [some (jR a), some (jI z0)] [] σ Q := CL_u mq159 (Nat.le_of_ble_eq_true rfl) rfl
theorem dd159_0 : decode cX11_isThing 0 = .ok (.iload_n 1, 1) := by decide +kernel
theorem ww159_0 {d : Nat} {l0 : Option mw_V} {x : Int} {st : List mw_V} {σ : mw_S} {Q : Option mw_V → mw_S → Prop} : mw_WP d 159 0 [l0, some (jI x)] st σ Q ↔ mw_WP d 159 1 [l0, some (jI x)] (jI x :: st) σ Q := WP_iload_n mq159 dd159_0 rfl
theorem dd159_1 : decode cX11_isThing 1 = .ok (.ifCond .lt 18, 3) := by decide +kernel
theorem ww159_1 {d : Nat} {l0 l1 : Option mw_V} {x : Int} {st : List mw_V} {σ : mw_S} {Q : Option mw_V → mw_S → Prop} : mw_WP d 159 1 [l0, l1] (jI x :: st) σ Q ↔ (if x < 0 then mw_WP d 159 19 [l0, l1] st σ Q else mw_WP d 159 4 [l0, l1] st σ Q) := WP_if_lt mq159 dd159_1 (by decide)
theorem dd159_4 : decode cX11_isThing 4 = .ok (.iload_n 1, 1) := by decide +kernel
theorem ww159_4 {d : Nat} {l0 : Option mw_V} {x : Int} {st : List mw_V} {σ : mw_S} {Q : Option mw_V → mw_S → Prop} : mw_WP d 159 4 [l0, some (jI x)] st σ Q ↔ mw_WP d 159 5 [l0, some (jI x)] (jI x :: st) σ Q := WP_iload_n mq159 dd159_4 rfl
theorem dd159_5 : decode cX11_isThing 5 = .ok (.aload_n 0, 1) := by decide +kernel
theorem ww159_5 {d : Nat} {l1 : Option mw_V} {x : Nat} {st : List mw_V} {σ : mw_S} {Q : Option mw_V → mw_S → Prop} : mw_WP d 159 5 [some (jR x), l1] st σ Q ↔ mw_WP d 159 6 [some (jR x), l1] (jR x :: st) σ Q := WP_aload_n mq159 dd159_5 rfl
theorem dd159_6 : decode cX11_isThing 6 = .ok (.getfield 19, 3) := by decide +kernel
theorem ww159_6 {d : Nat} {l0 l1 : Option mw_V} {st : List mw_V} {σ : mw_S} {Q : Option mw_V → mw_S → Prop} : mw_WP d 159 6 [l0, l1] (jR 0 :: st) σ Q ↔ mw_WP d 159 9 [l0, l1] (jR 13 :: st) σ Q := WP_getR (ci := 10) (k := 1) mq159 dd159_6 (by decide) rfl
theorem dd159_9 : decode cX11_isThing 9 = .ok (.getfield 349, 3) := by decide +kernel
theorem ww159_9i3 {d : Nat} {l0 l1 : Option mw_V} {st : List mw_V} {σ : mw_S} {Q : Option mw_V → mw_S → Prop} : mw_WP d 159 9 [l0, l1] (jR 3 :: st) σ Q ↔ mw_WP d 159 12 [l0, l1] (jI (σ 3 2) :: st) σ Q := WP_getI (ci := 0) (k := 2) mq159 dd159_9 (by decide) (Or.inl rfl)
theorem ww159_9i13 {d : Nat} {l0 l1 : Option mw_V} {st : List mw_V} {σ : mw_S} {Q : Option mw_V → mw_S → Prop} : mw_WP d 159 9 [l0, l1] (jR 13 :: st) σ Q ↔ mw_WP d 159 12 [l0, l1] (jI (σ 13 2) :: st) σ Q := WP_getI (ci := 0) (k := 2) mq159 dd159_9 (by decide) (Or.inl rfl)
theorem ww159_9i77 {d : Nat} {l0 l1 : Option mw_V} {st : List mw_V} {σ : mw_S} {Q : Option mw_V → mw_S → Prop} : mw_WP d 159 9 [l0, l1] (jR 77 :: st) σ Q ↔ mw_WP d 159 12 [l0, l1] (jI (σ 77 2) :: st) σ Q := WP_getI (ci := 0) (k := 2) mq159 dd159_9 (by decide) (Or.inl rfl)
theorem ww159_9i88 {d : Nat} {l0 l1 : Option mw_V} {st : List mw_V} {σ : mw_S} {Q : Option mw_V → mw_S → Prop} : mw_WP d 159 9 [l0, l1] (jR 88 :: st) σ Q ↔ mw_WP d 159 12 [l0, l1] (jI (σ 88 2) :: st) σ Q := WP_getI (ci := 0) (k := 2) mq159 dd159_9 (by decide) (Or.inl rfl)
theorem dd159_12 : decode cX11_isThing 12 = .ok (.if_icmp .ge 7, 3) := by decide +kernel
theorem ww159_12 {d : Nat} {l0 l1 : Option mw_V} {x y : Int} {st : List mw_V} {σ : mw_S} {Q : Option mw_V → mw_S → Prop} : mw_WP d 159 12 [l0, l1] (jI y :: jI x :: st) σ Q ↔ (if y ≤ x then mw_WP d 159 19 [l0, l1] st σ Q else mw_WP d 159 15 [l0, l1] st σ Q) := WP_icmp_ge mq159 dd159_12 (by decide)
theorem dd159_15 : decode cX11_isThing 15 = .ok (.iconst 1, 1) := by decide +kernel
theorem ww159_15 {d : Nat} {l0 l1 : Option mw_V} {st : List mw_V} {σ : mw_S} {Q : Option mw_V → mw_S → Prop} : mw_WP d 159 15 [l0, l1] st σ Q ↔ mw_WP d 159 16 [l0, l1] (jI (1) :: st) σ Q := WP_iconst mq159 dd159_15 (by decide)
theorem dd159_16 : decode cX11_isThing 16 = .ok (.goto 4, 3) := by decide +kernel
theorem ww159_16 {d : Nat} {l0 l1 : Option mw_V} {st : List mw_V} {σ : mw_S} {Q : Option mw_V → mw_S → Prop} : mw_WP d 159 16 [l0, l1] st σ Q ↔ mw_WP d 159 20 [l0, l1] st σ Q := WP_goto mq159 dd159_16 (by decide)
theorem dd159_19 : decode cX11_isThing 19 = .ok (.iconst 0, 1) := by decide +kernel
theorem ww159_19 {d : Nat} {l0 l1 : Option mw_V} {st : List mw_V} {σ : mw_S} {Q : Option mw_V → mw_S → Prop} : mw_WP d 159 19 [l0, l1] st σ Q ↔ mw_WP d 159 20 [l0, l1] (jI (0) :: st) σ Q := WP_iconst mq159 dd159_19 (by decide)
theorem dd159_20 : decode cX11_isThing 20 = .ok (.ireturn, 1) := by decide +kernel
theorem ww159_20 {d : Nat} {l0 l1 : Option mw_V} {z : Int} {σ : mw_S} {Q : Option mw_V → mw_S → Prop} (h : z = 0 ∨ z = 1) : mw_WP d 159 20 [l0, l1] [jI z] σ Q ↔ Q (some (jI z)) σ := WP_ireturn (ty := .boolean) mq159 dd159_20 rfl (by rcases h with rfl | rfl <;> decide)
theorem ee160 {d : Nat} {a : Nat} {z0 : Int} {σ : mw_S} {Q : Option mw_V → mw_S → Prop} : mw_Call (d + 1) 160 [jR a, jL z0] σ Q ↔ mw_WP d 160 0 [some (jR a), some (jL z0), none] [] σ Q := CL_u mq160 (Nat.le_of_ble_eq_true rfl) rfl
theorem dd160_0 : decode cX11_isCell 0 = .ok (.lload_n 1, 1) := by decide +kernel
theorem ww160_0 {d : Nat} {l0 l2 : Option mw_V} {x : Int} {st : List mw_V} {σ : mw_S} {Q : Option mw_V → mw_S → Prop} : mw_WP d 160 0 [l0, some (jL x), l2] st σ Q ↔ mw_WP d 160 1 [l0, some (jL x), l2] (jL x :: st) σ Q := WP_lload_n mq160 dd160_0 rfl
theorem dd160_1 : decode cX11_isCell 1 = .ok (.lconst 0, 1) := by decide +kernel
theorem ww160_1 {d : Nat} {l0 l1 l2 : Option mw_V} {st : List mw_V} {σ : mw_S} {Q : Option mw_V → mw_S → Prop} : mw_WP d 160 1 [l0, l1, l2] st σ Q ↔ mw_WP d 160 2 [l0, l1, l2] (jL (0) :: st) σ Q := WP_lconst mq160 dd160_1 (by decide)
theorem dd160_2 : decode cX11_isCell 2 = .ok (.lcmp, 1) := by decide +kernel
theorem ww160_2 {d : Nat} {l0 l1 l2 : Option mw_V} {x y : Int} {st : List mw_V} {σ : mw_S} {Q : Option mw_V → mw_S → Prop} : mw_WP d 160 2 [l0, l1, l2] (jL y :: jL x :: st) σ Q ↔ mw_WP d 160 3 [l0, l1, l2] (jI (yCmp x y) :: st) σ Q := WP_lcmp mq160 dd160_2
theorem dd160_3 : decode cX11_isCell 3 = .ok (.ifCond .lt 20, 3) := by decide +kernel
theorem ww160_3 {d : Nat} {l0 l1 l2 : Option mw_V} {x : Int} {st : List mw_V} {σ : mw_S} {Q : Option mw_V → mw_S → Prop} : mw_WP d 160 3 [l0, l1, l2] (jI x :: st) σ Q ↔ (if x < 0 then mw_WP d 160 23 [l0, l1, l2] st σ Q else mw_WP d 160 6 [l0, l1, l2] st σ Q) := WP_if_lt mq160 dd160_3 (by decide)
theorem dd160_6 : decode cX11_isCell 6 = .ok (.lload_n 1, 1) := by decide +kernel
theorem ww160_6 {d : Nat} {l0 l2 : Option mw_V} {x : Int} {st : List mw_V} {σ : mw_S} {Q : Option mw_V → mw_S → Prop} : mw_WP d 160 6 [l0, some (jL x), l2] st σ Q ↔ mw_WP d 160 7 [l0, some (jL x), l2] (jL x :: st) σ Q := WP_lload_n mq160 dd160_6 rfl
theorem dd160_7 : decode cX11_isCell 7 = .ok (.aload_n 0, 1) := by decide +kernel
theorem ww160_7 {d : Nat} {l1 l2 : Option mw_V} {x : Nat} {st : List mw_V} {σ : mw_S} {Q : Option mw_V → mw_S → Prop} : mw_WP d 160 7 [some (jR x), l1, l2] st σ Q ↔ mw_WP d 160 8 [some (jR x), l1, l2] (jR x :: st) σ Q := WP_aload_n mq160 dd160_7 rfl
theorem dd160_8 : decode cX11_isCell 8 = .ok (.getfield 19, 3) := by decide +kernel
theorem ww160_8 {d : Nat} {l0 l1 l2 : Option mw_V} {st : List mw_V} {σ : mw_S} {Q : Option mw_V → mw_S → Prop} : mw_WP d 160 8 [l0, l1, l2] (jR 0 :: st) σ Q ↔ mw_WP d 160 11 [l0, l1, l2] (jR 13 :: st) σ Q := WP_getR (ci := 10) (k := 1) mq160 dd160_8 (by decide) rfl
theorem dd160_11 : decode cX11_isCell 11 = .ok (.getfield 371, 3) := by decide +kernel
theorem ww160_11i3 {d : Nat} {l0 l1 l2 : Option mw_V} {st : List mw_V} {σ : mw_S} {Q : Option mw_V → mw_S → Prop} : mw_WP d 160 11 [l0, l1, l2] (jR 3 :: st) σ Q ↔ mw_WP d 160 14 [l0, l1, l2] (jI (σ 3 0) :: st) σ Q := WP_getI (ci := 0) (k := 0) mq160 dd160_11 (by decide) (Or.inl rfl)
theorem ww160_11i13 {d : Nat} {l0 l1 l2 : Option mw_V} {st : List mw_V} {σ : mw_S} {Q : Option mw_V → mw_S → Prop} : mw_WP d 160 11 [l0, l1, l2] (jR 13 :: st) σ Q ↔ mw_WP d 160 14 [l0, l1, l2] (jI (σ 13 0) :: st) σ Q := WP_getI (ci := 0) (k := 0) mq160 dd160_11 (by decide) (Or.inl rfl)
theorem ww160_11i77 {d : Nat} {l0 l1 l2 : Option mw_V} {st : List mw_V} {σ : mw_S} {Q : Option mw_V → mw_S → Prop} : mw_WP d 160 11 [l0, l1, l2] (jR 77 :: st) σ Q ↔ mw_WP d 160 14 [l0, l1, l2] (jI (σ 77 0) :: st) σ Q := WP_getI (ci := 0) (k := 0) mq160 dd160_11 (by decide) (Or.inl rfl)
theorem ww160_11i88 {d : Nat} {l0 l1 l2 : Option mw_V} {st : List mw_V} {σ : mw_S} {Q : Option mw_V → mw_S → Prop} : mw_WP d 160 11 [l0, l1, l2] (jR 88 :: st) σ Q ↔ mw_WP d 160 14 [l0, l1, l2] (jI (σ 88 0) :: st) σ Q := WP_getI (ci := 0) (k := 0) mq160 dd160_11 (by decide) (Or.inl rfl)
theorem dd160_14 : decode cX11_isCell 14 = .ok (.i2l, 1) := by decide +kernel
theorem ww160_14 {d : Nat} {l0 l1 l2 : Option mw_V} {x : Int} {st : List mw_V} {σ : mw_S} {Q : Option mw_V → mw_S → Prop} : mw_WP d 160 14 [l0, l1, l2] (jI x :: st) σ Q ↔ mw_WP d 160 15 [l0, l1, l2] (jL (yL x) :: st) σ Q := WP_i2l mq160 dd160_14
theorem dd160_15 : decode cX11_isCell 15 = .ok (.lcmp, 1) := by decide +kernel
theorem ww160_15 {d : Nat} {l0 l1 l2 : Option mw_V} {x y : Int} {st : List mw_V} {σ : mw_S} {Q : Option mw_V → mw_S → Prop} : mw_WP d 160 15 [l0, l1, l2] (jL y :: jL x :: st) σ Q ↔ mw_WP d 160 16 [l0, l1, l2] (jI (yCmp x y) :: st) σ Q := WP_lcmp mq160 dd160_15
theorem dd160_16 : decode cX11_isCell 16 = .ok (.ifCond .ge 7, 3) := by decide +kernel
theorem ww160_16 {d : Nat} {l0 l1 l2 : Option mw_V} {x : Int} {st : List mw_V} {σ : mw_S} {Q : Option mw_V → mw_S → Prop} : mw_WP d 160 16 [l0, l1, l2] (jI x :: st) σ Q ↔ (if 0 ≤ x then mw_WP d 160 23 [l0, l1, l2] st σ Q else mw_WP d 160 19 [l0, l1, l2] st σ Q) := WP_if_ge mq160 dd160_16 (by decide)
theorem dd160_19 : decode cX11_isCell 19 = .ok (.iconst 1, 1) := by decide +kernel
theorem ww160_19 {d : Nat} {l0 l1 l2 : Option mw_V} {st : List mw_V} {σ : mw_S} {Q : Option mw_V → mw_S → Prop} : mw_WP d 160 19 [l0, l1, l2] st σ Q ↔ mw_WP d 160 20 [l0, l1, l2] (jI (1) :: st) σ Q := WP_iconst mq160 dd160_19 (by decide)
theorem dd160_20 : decode cX11_isCell 20 = .ok (.goto 4, 3) := by decide +kernel
theorem ww160_20 {d : Nat} {l0 l1 l2 : Option mw_V} {st : List mw_V} {σ : mw_S} {Q : Option mw_V → mw_S → Prop} : mw_WP d 160 20 [l0, l1, l2] st σ Q ↔ mw_WP d 160 24 [l0, l1, l2] st σ Q := WP_goto mq160 dd160_20 (by decide)
theorem dd160_23 : decode cX11_isCell 23 = .ok (.iconst 0, 1) := by decide +kernel
theorem ww160_23 {d : Nat} {l0 l1 l2 : Option mw_V} {st : List mw_V} {σ : mw_S} {Q : Option mw_V → mw_S → Prop} : mw_WP d 160 23 [l0, l1, l2] st σ Q ↔ mw_WP d 160 24 [l0, l1, l2] (jI (0) :: st) σ Q := WP_iconst mq160 dd160_23 (by decide)
theorem dd160_24 : decode cX11_isCell 24 = .ok (.ireturn, 1) := by decide +kernel
theorem ww160_24 {d : Nat} {l0 l1 l2 : Option mw_V} {z : Int} {σ : mw_S} {Q : Option mw_V → mw_S → Prop} (h : z = 0 ∨ z = 1) : mw_WP d 160 24 [l0, l1, l2] [jI z] σ Q ↔ Q (some (jI z)) σ := WP_ireturn (ty := .boolean) mq160 dd160_24 rfl (by rcases h with rfl | rfl <;> decide)
theorem ee161 {d : Nat} {a : Nat} {z0 : Int} {σ : mw_S} {Q : Option mw_V → mw_S → Prop} : mw_Call (d + 1) 161 [jR a, jI z0] σ Q ↔ mw_WP d 161 0 [some (jR a), some (jI z0), none] [] σ Q := CL_u mq161 (Nat.le_of_ble_eq_true rfl) rfl
theorem dd161_0 : decode cX11_isPlace 0 = .ok (.iconst 2, 1) := by decide +kernel
theorem ww161_0 {d : Nat} {l0 l1 l2 : Option mw_V} {st : List mw_V} {σ : mw_S} {Q : Option mw_V → mw_S → Prop} : mw_WP d 161 0 [l0, l1, l2] st σ Q ↔ mw_WP d 161 1 [l0, l1, l2] (jI (2) :: st) σ Q := WP_iconst mq161 dd161_0 (by decide)
theorem dd161_1 : decode cX11_isPlace 1 = .ok (.aload_n 0, 1) := by decide +kernel
theorem ww161_1 {d : Nat} {l1 l2 : Option mw_V} {x : Nat} {st : List mw_V} {σ : mw_S} {Q : Option mw_V → mw_S → Prop} : mw_WP d 161 1 [some (jR x), l1, l2] st σ Q ↔ mw_WP d 161 2 [some (jR x), l1, l2] (jR x :: st) σ Q := WP_aload_n mq161 dd161_1 rfl
theorem dd161_2 : decode cX11_isPlace 2 = .ok (.getfield 19, 3) := by decide +kernel
theorem ww161_2 {d : Nat} {l0 l1 l2 : Option mw_V} {st : List mw_V} {σ : mw_S} {Q : Option mw_V → mw_S → Prop} : mw_WP d 161 2 [l0, l1, l2] (jR 0 :: st) σ Q ↔ mw_WP d 161 5 [l0, l1, l2] (jR 13 :: st) σ Q := WP_getR (ci := 10) (k := 1) mq161 dd161_2 (by decide) rfl
theorem dd161_5 : decode cX11_isPlace 5 = .ok (.getfield 202, 3) := by decide +kernel
theorem ww161_5i3 {d : Nat} {l0 l1 l2 : Option mw_V} {st : List mw_V} {σ : mw_S} {Q : Option mw_V → mw_S → Prop} : mw_WP d 161 5 [l0, l1, l2] (jR 3 :: st) σ Q ↔ mw_WP d 161 8 [l0, l1, l2] (jI (σ 3 1) :: st) σ Q := WP_getI (ci := 0) (k := 1) mq161 dd161_5 (by decide) (Or.inl rfl)
theorem ww161_5i13 {d : Nat} {l0 l1 l2 : Option mw_V} {st : List mw_V} {σ : mw_S} {Q : Option mw_V → mw_S → Prop} : mw_WP d 161 5 [l0, l1, l2] (jR 13 :: st) σ Q ↔ mw_WP d 161 8 [l0, l1, l2] (jI (σ 13 1) :: st) σ Q := WP_getI (ci := 0) (k := 1) mq161 dd161_5 (by decide) (Or.inl rfl)
theorem ww161_5i77 {d : Nat} {l0 l1 l2 : Option mw_V} {st : List mw_V} {σ : mw_S} {Q : Option mw_V → mw_S → Prop} : mw_WP d 161 5 [l0, l1, l2] (jR 77 :: st) σ Q ↔ mw_WP d 161 8 [l0, l1, l2] (jI (σ 77 1) :: st) σ Q := WP_getI (ci := 0) (k := 1) mq161 dd161_5 (by decide) (Or.inl rfl)
theorem ww161_5i88 {d : Nat} {l0 l1 l2 : Option mw_V} {st : List mw_V} {σ : mw_S} {Q : Option mw_V → mw_S → Prop} : mw_WP d 161 5 [l0, l1, l2] (jR 88 :: st) σ Q ↔ mw_WP d 161 8 [l0, l1, l2] (jI (σ 88 1) :: st) σ Q := WP_getI (ci := 0) (k := 1) mq161 dd161_5 (by decide) (Or.inl rfl)
theorem dd161_8 : decode cX11_isPlace 8 = .ok (.imul, 1) := by decide +kernel
theorem ww161_8 {d : Nat} {l0 l1 l2 : Option mw_V} {x y : Int} {st : List mw_V} {σ : mw_S} {Q : Option mw_V → mw_S → Prop} : mw_WP d 161 8 [l0, l1, l2] (jI y :: jI x :: st) σ Q ↔ mw_WP d 161 9 [l0, l1, l2] (jI (w32 (x * y)) :: st) σ Q := WP_imul mq161 dd161_8
theorem dd161_9 : decode cX11_isPlace 9 = .ok (.istore_n 2, 1) := by decide +kernel
theorem ww161_9 {d : Nat} {l0 l1 l2 : Option mw_V} {x : Int} {st : List mw_V} {σ : mw_S} {Q : Option mw_V → mw_S → Prop} (h : mw_nlo l1 = true) : mw_WP d 161 9 [l0, l1, l2] (jI x :: st) σ Q ↔ mw_WP d 161 10 [l0, l1, some (jI x)] st σ Q := WP_istore_n mq161 dd161_9 (Nat.le_of_ble_eq_true rfl) (mw_nl_of (i := 1) rfl h) rfl
theorem dd161_10 : decode cX11_isPlace 10 = .ok (.aload_n 0, 1) := by decide +kernel
theorem ww161_10 {d : Nat} {l1 l2 : Option mw_V} {x : Nat} {st : List mw_V} {σ : mw_S} {Q : Option mw_V → mw_S → Prop} : mw_WP d 161 10 [some (jR x), l1, l2] st σ Q ↔ mw_WP d 161 11 [some (jR x), l1, l2] (jR x :: st) σ Q := WP_aload_n mq161 dd161_10 rfl
theorem dd161_11 : decode cX11_isPlace 11 = .ok (.iload_n 1, 1) := by decide +kernel
theorem ww161_11 {d : Nat} {l0 l2 : Option mw_V} {x : Int} {st : List mw_V} {σ : mw_S} {Q : Option mw_V → mw_S → Prop} : mw_WP d 161 11 [l0, some (jI x), l2] st σ Q ↔ mw_WP d 161 12 [l0, some (jI x), l2] (jI x :: st) σ Q := WP_iload_n mq161 dd161_11 rfl
theorem dd161_12 : decode cX11_isPlace 12 = .ok (.i2l, 1) := by decide +kernel
theorem ww161_12 {d : Nat} {l0 l1 l2 : Option mw_V} {x : Int} {st : List mw_V} {σ : mw_S} {Q : Option mw_V → mw_S → Prop} : mw_WP d 161 12 [l0, l1, l2] (jI x :: st) σ Q ↔ mw_WP d 161 13 [l0, l1, l2] (jL (yL x) :: st) σ Q := WP_i2l mq161 dd161_12
theorem dd161_13 : decode cX11_isPlace 13 = .ok (.invokevirtual 293, 3) := by decide +kernel
theorem ww161_13 {d : Nat} {l0 l1 l2 : Option mw_V} {v0 : mw_V} {a : Nat} {st : List mw_V} {σ : mw_S} {Q : Option mw_V → mw_S → Prop} (hr : mw_rc a = 11) (h8 : (st.map mw_cat).sum ≤ 8) : mw_WP d 161 13 [l0, l1, l2] (v0 :: jR a :: st) σ Q ↔ mw_Call d 160 [jR a, v0] σ (fun r1 s1 => mw_WP d 161 16 [l0, l1, l2] (r1.toList ++ st) s1 Q) := WP_inv (as := [v0]) mq161 dd161_13 (by decide) mq160 rfl hr h8
theorem dd161_16 : decode cX11_isPlace 16 = .ok (.ifCond .ne 44, 3) := by decide +kernel
theorem ww161_16 {d : Nat} {l0 l1 l2 : Option mw_V} {x : Int} {st : List mw_V} {σ : mw_S} {Q : Option mw_V → mw_S → Prop} : mw_WP d 161 16 [l0, l1, l2] (jI x :: st) σ Q ↔ (if ¬ x = 0 then mw_WP d 161 60 [l0, l1, l2] st σ Q else mw_WP d 161 19 [l0, l1, l2] st σ Q) := WP_if_ne mq161 dd161_16 (by decide)
theorem dd161_19 : decode cX11_isPlace 19 = .ok (.aload_n 0, 1) := by decide +kernel
theorem ww161_19 {d : Nat} {l1 l2 : Option mw_V} {x : Nat} {st : List mw_V} {σ : mw_S} {Q : Option mw_V → mw_S → Prop} : mw_WP d 161 19 [some (jR x), l1, l2] st σ Q ↔ mw_WP d 161 20 [some (jR x), l1, l2] (jR x :: st) σ Q := WP_aload_n mq161 dd161_19 rfl
theorem dd161_20 : decode cX11_isPlace 20 = .ok (.iload_n 1, 1) := by decide +kernel
theorem ww161_20 {d : Nat} {l0 l2 : Option mw_V} {x : Int} {st : List mw_V} {σ : mw_S} {Q : Option mw_V → mw_S → Prop} : mw_WP d 161 20 [l0, some (jI x), l2] st σ Q ↔ mw_WP d 161 21 [l0, some (jI x), l2] (jI x :: st) σ Q := WP_iload_n mq161 dd161_20 rfl
theorem dd161_21 : decode cX11_isPlace 21 = .ok (.i2l, 1) := by decide +kernel
theorem ww161_21 {d : Nat} {l0 l1 l2 : Option mw_V} {x : Int} {st : List mw_V} {σ : mw_S} {Q : Option mw_V → mw_S → Prop} : mw_WP d 161 21 [l0, l1, l2] (jI x :: st) σ Q ↔ mw_WP d 161 22 [l0, l1, l2] (jL (yL x) :: st) σ Q := WP_i2l mq161 dd161_21
theorem dd161_22 : decode cX11_isPlace 22 = .ok (.ldc2_w 380, 3) := by decide +kernel
theorem ww161_22 {d : Nat} {l0 l1 l2 : Option mw_V} {st : List mw_V} {σ : mw_S} {Q : Option mw_V → mw_S → Prop} : mw_WP d 161 22 [l0, l1, l2] st σ Q ↔ mw_WP d 161 25 [l0, l1, l2] (jL (10) :: st) σ Q := WP_ldc2_w (v := 10) mq161 dd161_22 (by decide) (by decide)
theorem dd161_25 : decode cX11_isPlace 25 = .ok (.lsub, 1) := by decide +kernel
theorem ww161_25 {d : Nat} {l0 l1 l2 : Option mw_V} {x y : Int} {st : List mw_V} {σ : mw_S} {Q : Option mw_V → mw_S → Prop} : mw_WP d 161 25 [l0, l1, l2] (jL y :: jL x :: st) σ Q ↔ mw_WP d 161 26 [l0, l1, l2] (jL (w64 (x - y)) :: st) σ Q := WP_lsub mq161 dd161_25
theorem dd161_26 : decode cX11_isPlace 26 = .ok (.invokevirtual 293, 3) := by decide +kernel
theorem ww161_26 {d : Nat} {l0 l1 l2 : Option mw_V} {v0 : mw_V} {a : Nat} {st : List mw_V} {σ : mw_S} {Q : Option mw_V → mw_S → Prop} (hr : mw_rc a = 11) (h8 : (st.map mw_cat).sum ≤ 8) : mw_WP d 161 26 [l0, l1, l2] (v0 :: jR a :: st) σ Q ↔ mw_Call d 160 [jR a, v0] σ (fun r1 s1 => mw_WP d 161 29 [l0, l1, l2] (r1.toList ++ st) s1 Q) := WP_inv (as := [v0]) mq161 dd161_26 (by decide) mq160 rfl hr h8
theorem dd161_29 : decode cX11_isPlace 29 = .ok (.ifCond .ne 31, 3) := by decide +kernel
theorem ww161_29 {d : Nat} {l0 l1 l2 : Option mw_V} {x : Int} {st : List mw_V} {σ : mw_S} {Q : Option mw_V → mw_S → Prop} : mw_WP d 161 29 [l0, l1, l2] (jI x :: st) σ Q ↔ (if ¬ x = 0 then mw_WP d 161 60 [l0, l1, l2] st σ Q else mw_WP d 161 32 [l0, l1, l2] st σ Q) := WP_if_ne mq161 dd161_29 (by decide)
theorem dd161_32 : decode cX11_isPlace 32 = .ok (.iload_n 1, 1) := by decide +kernel
theorem ww161_32 {d : Nat} {l0 l2 : Option mw_V} {x : Int} {st : List mw_V} {σ : mw_S} {Q : Option mw_V → mw_S → Prop} : mw_WP d 161 32 [l0, some (jI x), l2] st σ Q ↔ mw_WP d 161 33 [l0, some (jI x), l2] (jI x :: st) σ Q := WP_iload_n mq161 dd161_32 rfl
theorem dd161_33 : decode cX11_isPlace 33 = .ok (.bipush 20, 2) := by decide +kernel
theorem ww161_33 {d : Nat} {l0 l1 l2 : Option mw_V} {st : List mw_V} {σ : mw_S} {Q : Option mw_V → mw_S → Prop} : mw_WP d 161 33 [l0, l1, l2] st σ Q ↔ mw_WP d 161 35 [l0, l1, l2] (jI (20) :: st) σ Q := WP_bipush mq161 dd161_33 (by decide)
theorem dd161_35 : decode cX11_isPlace 35 = .ok (.if_icmp .lt 11, 3) := by decide +kernel
theorem ww161_35 {d : Nat} {l0 l1 l2 : Option mw_V} {x y : Int} {st : List mw_V} {σ : mw_S} {Q : Option mw_V → mw_S → Prop} : mw_WP d 161 35 [l0, l1, l2] (jI y :: jI x :: st) σ Q ↔ (if x < y then mw_WP d 161 46 [l0, l1, l2] st σ Q else mw_WP d 161 38 [l0, l1, l2] st σ Q) := WP_icmp_lt mq161 dd161_35 (by decide)
theorem dd161_38 : decode cX11_isPlace 38 = .ok (.iload_n 1, 1) := by decide +kernel
theorem ww161_38 {d : Nat} {l0 l2 : Option mw_V} {x : Int} {st : List mw_V} {σ : mw_S} {Q : Option mw_V → mw_S → Prop} : mw_WP d 161 38 [l0, some (jI x), l2] st σ Q ↔ mw_WP d 161 39 [l0, some (jI x), l2] (jI x :: st) σ Q := WP_iload_n mq161 dd161_38 rfl
theorem dd161_39 : decode cX11_isPlace 39 = .ok (.bipush 20, 2) := by decide +kernel
theorem ww161_39 {d : Nat} {l0 l1 l2 : Option mw_V} {st : List mw_V} {σ : mw_S} {Q : Option mw_V → mw_S → Prop} : mw_WP d 161 39 [l0, l1, l2] st σ Q ↔ mw_WP d 161 41 [l0, l1, l2] (jI (20) :: st) σ Q := WP_bipush mq161 dd161_39 (by decide)
theorem dd161_41 : decode cX11_isPlace 41 = .ok (.iload_n 2, 1) := by decide +kernel
theorem ww161_41 {d : Nat} {l0 l1 : Option mw_V} {x : Int} {st : List mw_V} {σ : mw_S} {Q : Option mw_V → mw_S → Prop} : mw_WP d 161 41 [l0, l1, some (jI x)] st σ Q ↔ mw_WP d 161 42 [l0, l1, some (jI x)] (jI x :: st) σ Q := WP_iload_n mq161 dd161_41 rfl
theorem dd161_42 : decode cX11_isPlace 42 = .ok (.iadd, 1) := by decide +kernel
theorem ww161_42 {d : Nat} {l0 l1 l2 : Option mw_V} {x y : Int} {st : List mw_V} {σ : mw_S} {Q : Option mw_V → mw_S → Prop} : mw_WP d 161 42 [l0, l1, l2] (jI y :: jI x :: st) σ Q ↔ mw_WP d 161 43 [l0, l1, l2] (jI (w32 (x + y)) :: st) σ Q := WP_iadd mq161 dd161_42
theorem dd161_43 : decode cX11_isPlace 43 = .ok (.if_icmp .lt 17, 3) := by decide +kernel
theorem ww161_43 {d : Nat} {l0 l1 l2 : Option mw_V} {x y : Int} {st : List mw_V} {σ : mw_S} {Q : Option mw_V → mw_S → Prop} : mw_WP d 161 43 [l0, l1, l2] (jI y :: jI x :: st) σ Q ↔ (if x < y then mw_WP d 161 60 [l0, l1, l2] st σ Q else mw_WP d 161 46 [l0, l1, l2] st σ Q) := WP_icmp_lt mq161 dd161_43 (by decide)
theorem dd161_46 : decode cX11_isPlace 46 = .ok (.iload_n 1, 1) := by decide +kernel
theorem ww161_46 {d : Nat} {l0 l2 : Option mw_V} {x : Int} {st : List mw_V} {σ : mw_S} {Q : Option mw_V → mw_S → Prop} : mw_WP d 161 46 [l0, some (jI x), l2] st σ Q ↔ mw_WP d 161 47 [l0, some (jI x), l2] (jI x :: st) σ Q := WP_iload_n mq161 dd161_46 rfl
theorem dd161_47 : decode cX11_isPlace 47 = .ok (.bipush 30, 2) := by decide +kernel
theorem ww161_47 {d : Nat} {l0 l1 l2 : Option mw_V} {st : List mw_V} {σ : mw_S} {Q : Option mw_V → mw_S → Prop} : mw_WP d 161 47 [l0, l1, l2] st σ Q ↔ mw_WP d 161 49 [l0, l1, l2] (jI (30) :: st) σ Q := WP_bipush mq161 dd161_47 (by decide)
theorem dd161_49 : decode cX11_isPlace 49 = .ok (.if_icmp .lt 15, 3) := by decide +kernel
theorem ww161_49 {d : Nat} {l0 l1 l2 : Option mw_V} {x y : Int} {st : List mw_V} {σ : mw_S} {Q : Option mw_V → mw_S → Prop} : mw_WP d 161 49 [l0, l1, l2] (jI y :: jI x :: st) σ Q ↔ (if x < y then mw_WP d 161 64 [l0, l1, l2] st σ Q else mw_WP d 161 52 [l0, l1, l2] st σ Q) := WP_icmp_lt mq161 dd161_49 (by decide)
theorem dd161_52 : decode cX11_isPlace 52 = .ok (.iload_n 1, 1) := by decide +kernel
theorem ww161_52 {d : Nat} {l0 l2 : Option mw_V} {x : Int} {st : List mw_V} {σ : mw_S} {Q : Option mw_V → mw_S → Prop} : mw_WP d 161 52 [l0, some (jI x), l2] st σ Q ↔ mw_WP d 161 53 [l0, some (jI x), l2] (jI x :: st) σ Q := WP_iload_n mq161 dd161_52 rfl
theorem dd161_53 : decode cX11_isPlace 53 = .ok (.bipush 30, 2) := by decide +kernel
theorem ww161_53 {d : Nat} {l0 l1 l2 : Option mw_V} {st : List mw_V} {σ : mw_S} {Q : Option mw_V → mw_S → Prop} : mw_WP d 161 53 [l0, l1, l2] st σ Q ↔ mw_WP d 161 55 [l0, l1, l2] (jI (30) :: st) σ Q := WP_bipush mq161 dd161_53 (by decide)
theorem dd161_55 : decode cX11_isPlace 55 = .ok (.iload_n 2, 1) := by decide +kernel
theorem ww161_55 {d : Nat} {l0 l1 : Option mw_V} {x : Int} {st : List mw_V} {σ : mw_S} {Q : Option mw_V → mw_S → Prop} : mw_WP d 161 55 [l0, l1, some (jI x)] st σ Q ↔ mw_WP d 161 56 [l0, l1, some (jI x)] (jI x :: st) σ Q := WP_iload_n mq161 dd161_55 rfl
theorem dd161_56 : decode cX11_isPlace 56 = .ok (.iadd, 1) := by decide +kernel
theorem ww161_56 {d : Nat} {l0 l1 l2 : Option mw_V} {x y : Int} {st : List mw_V} {σ : mw_S} {Q : Option mw_V → mw_S → Prop} : mw_WP d 161 56 [l0, l1, l2] (jI y :: jI x :: st) σ Q ↔ mw_WP d 161 57 [l0, l1, l2] (jI (w32 (x + y)) :: st) σ Q := WP_iadd mq161 dd161_56
theorem dd161_57 : decode cX11_isPlace 57 = .ok (.if_icmp .ge 7, 3) := by decide +kernel
theorem ww161_57 {d : Nat} {l0 l1 l2 : Option mw_V} {x y : Int} {st : List mw_V} {σ : mw_S} {Q : Option mw_V → mw_S → Prop} : mw_WP d 161 57 [l0, l1, l2] (jI y :: jI x :: st) σ Q ↔ (if y ≤ x then mw_WP d 161 64 [l0, l1, l2] st σ Q else mw_WP d 161 60 [l0, l1, l2] st σ Q) := WP_icmp_ge mq161 dd161_57 (by decide)
theorem dd161_60 : decode cX11_isPlace 60 = .ok (.iconst 1, 1) := by decide +kernel
theorem ww161_60 {d : Nat} {l0 l1 l2 : Option mw_V} {st : List mw_V} {σ : mw_S} {Q : Option mw_V → mw_S → Prop} : mw_WP d 161 60 [l0, l1, l2] st σ Q ↔ mw_WP d 161 61 [l0, l1, l2] (jI (1) :: st) σ Q := WP_iconst mq161 dd161_60 (by decide)
theorem dd161_61 : decode cX11_isPlace 61 = .ok (.goto 4, 3) := by decide +kernel
theorem ww161_61 {d : Nat} {l0 l1 l2 : Option mw_V} {st : List mw_V} {σ : mw_S} {Q : Option mw_V → mw_S → Prop} : mw_WP d 161 61 [l0, l1, l2] st σ Q ↔ mw_WP d 161 65 [l0, l1, l2] st σ Q := WP_goto mq161 dd161_61 (by decide)
theorem dd161_64 : decode cX11_isPlace 64 = .ok (.iconst 0, 1) := by decide +kernel
theorem ww161_64 {d : Nat} {l0 l1 l2 : Option mw_V} {st : List mw_V} {σ : mw_S} {Q : Option mw_V → mw_S → Prop} : mw_WP d 161 64 [l0, l1, l2] st σ Q ↔ mw_WP d 161 65 [l0, l1, l2] (jI (0) :: st) σ Q := WP_iconst mq161 dd161_64 (by decide)
theorem dd161_65 : decode cX11_isPlace 65 = .ok (.ireturn, 1) := by decide +kernel
theorem ww161_65 {d : Nat} {l0 l1 l2 : Option mw_V} {z : Int} {σ : mw_S} {Q : Option mw_V → mw_S → Prop} (h : z = 0 ∨ z = 1) : mw_WP d 161 65 [l0, l1, l2] [jI z] σ Q ↔ Q (some (jI z)) σ := WP_ireturn (ty := .boolean) mq161 dd161_65 rfl (by rcases h with rfl | rfl <;> decide)
theorem ee162 {d : Nat} {z0 : Int} {σ : mw_S} {Q : Option mw_V → mw_S → Prop} : mw_Call (d + 1) 162 [jI z0] σ Q ↔ mw_WP d 162 0 [some (jI z0)] [] σ Q := CL_u mq162 (Nat.le_of_ble_eq_true rfl) rfl
theorem dd162_0 : decode cX11_isDoing 0 = .ok (.iload_n 0, 1) := by decide +kernel
theorem ww162_0 {d : Nat} {x : Int} {st : List mw_V} {σ : mw_S} {Q : Option mw_V → mw_S → Prop} : mw_WP d 162 0 [some (jI x)] st σ Q ↔ mw_WP d 162 1 [some (jI x)] (jI x :: st) σ Q := WP_iload_n mq162 dd162_0 rfl
theorem dd162_1 : decode cX11_isDoing 1 = .ok (.ifCond .lt 13, 3) := by decide +kernel
theorem ww162_1 {d : Nat} {l0 : Option mw_V} {x : Int} {st : List mw_V} {σ : mw_S} {Q : Option mw_V → mw_S → Prop} : mw_WP d 162 1 [l0] (jI x :: st) σ Q ↔ (if x < 0 then mw_WP d 162 14 [l0] st σ Q else mw_WP d 162 4 [l0] st σ Q) := WP_if_lt mq162 dd162_1 (by decide)
theorem dd162_4 : decode cX11_isDoing 4 = .ok (.iload_n 0, 1) := by decide +kernel
theorem ww162_4 {d : Nat} {x : Int} {st : List mw_V} {σ : mw_S} {Q : Option mw_V → mw_S → Prop} : mw_WP d 162 4 [some (jI x)] st σ Q ↔ mw_WP d 162 5 [some (jI x)] (jI x :: st) σ Q := WP_iload_n mq162 dd162_4 rfl
theorem dd162_5 : decode cX11_isDoing 5 = .ok (.bipush 9, 2) := by decide +kernel
theorem ww162_5 {d : Nat} {l0 : Option mw_V} {st : List mw_V} {σ : mw_S} {Q : Option mw_V → mw_S → Prop} : mw_WP d 162 5 [l0] st σ Q ↔ mw_WP d 162 7 [l0] (jI (9) :: st) σ Q := WP_bipush mq162 dd162_5 (by decide)
theorem dd162_7 : decode cX11_isDoing 7 = .ok (.if_icmp .ge 7, 3) := by decide +kernel
theorem ww162_7 {d : Nat} {l0 : Option mw_V} {x y : Int} {st : List mw_V} {σ : mw_S} {Q : Option mw_V → mw_S → Prop} : mw_WP d 162 7 [l0] (jI y :: jI x :: st) σ Q ↔ (if y ≤ x then mw_WP d 162 14 [l0] st σ Q else mw_WP d 162 10 [l0] st σ Q) := WP_icmp_ge mq162 dd162_7 (by decide)
theorem dd162_10 : decode cX11_isDoing 10 = .ok (.iconst 1, 1) := by decide +kernel
theorem ww162_10 {d : Nat} {l0 : Option mw_V} {st : List mw_V} {σ : mw_S} {Q : Option mw_V → mw_S → Prop} : mw_WP d 162 10 [l0] st σ Q ↔ mw_WP d 162 11 [l0] (jI (1) :: st) σ Q := WP_iconst mq162 dd162_10 (by decide)
theorem dd162_11 : decode cX11_isDoing 11 = .ok (.goto 4, 3) := by decide +kernel
theorem ww162_11 {d : Nat} {l0 : Option mw_V} {st : List mw_V} {σ : mw_S} {Q : Option mw_V → mw_S → Prop} : mw_WP d 162 11 [l0] st σ Q ↔ mw_WP d 162 15 [l0] st σ Q := WP_goto mq162 dd162_11 (by decide)
theorem dd162_14 : decode cX11_isDoing 14 = .ok (.iconst 0, 1) := by decide +kernel
theorem ww162_14 {d : Nat} {l0 : Option mw_V} {st : List mw_V} {σ : mw_S} {Q : Option mw_V → mw_S → Prop} : mw_WP d 162 14 [l0] st σ Q ↔ mw_WP d 162 15 [l0] (jI (0) :: st) σ Q := WP_iconst mq162 dd162_14 (by decide)
theorem dd162_15 : decode cX11_isDoing 15 = .ok (.ireturn, 1) := by decide +kernel
theorem ww162_15 {d : Nat} {l0 : Option mw_V} {z : Int} {σ : mw_S} {Q : Option mw_V → mw_S → Prop} (h : z = 0 ∨ z = 1) : mw_WP d 162 15 [l0] [jI z] σ Q ↔ Q (some (jI z)) σ := WP_ireturn (ty := .boolean) mq162 dd162_15 rfl (by rcases h with rfl | rfl <;> decide)
theorem ee163 {d : Nat} {z0 : Int} {σ : mw_S} {Q : Option mw_V → mw_S → Prop} : mw_Call (d + 1) 163 [jI z0] σ Q ↔ mw_WP d 163 0 [some (jI z0)] [] σ Q := CL_u mq163 (Nat.le_of_ble_eq_true rfl) rfl
theorem dd163_0 : decode cX11_isFirstOrSecond 0 = .ok (.iload_n 0, 1) := by decide +kernel
theorem ww163_0 {d : Nat} {x : Int} {st : List mw_V} {σ : mw_S} {Q : Option mw_V → mw_S → Prop} : mw_WP d 163 0 [some (jI x)] st σ Q ↔ mw_WP d 163 1 [some (jI x)] (jI x :: st) σ Q := WP_iload_n mq163 dd163_0 rfl
theorem dd163_1 : decode cX11_isFirstOrSecond 1 = .ok (.ifCond .eq 8, 3) := by decide +kernel
theorem ww163_1 {d : Nat} {l0 : Option mw_V} {x : Int} {st : List mw_V} {σ : mw_S} {Q : Option mw_V → mw_S → Prop} : mw_WP d 163 1 [l0] (jI x :: st) σ Q ↔ (if x = 0 then mw_WP d 163 9 [l0] st σ Q else mw_WP d 163 4 [l0] st σ Q) := WP_if_eq mq163 dd163_1 (by decide)
theorem dd163_4 : decode cX11_isFirstOrSecond 4 = .ok (.iload_n 0, 1) := by decide +kernel
theorem ww163_4 {d : Nat} {x : Int} {st : List mw_V} {σ : mw_S} {Q : Option mw_V → mw_S → Prop} : mw_WP d 163 4 [some (jI x)] st σ Q ↔ mw_WP d 163 5 [some (jI x)] (jI x :: st) σ Q := WP_iload_n mq163 dd163_4 rfl
theorem dd163_5 : decode cX11_isFirstOrSecond 5 = .ok (.iconst 1, 1) := by decide +kernel
theorem ww163_5 {d : Nat} {l0 : Option mw_V} {st : List mw_V} {σ : mw_S} {Q : Option mw_V → mw_S → Prop} : mw_WP d 163 5 [l0] st σ Q ↔ mw_WP d 163 6 [l0] (jI (1) :: st) σ Q := WP_iconst mq163 dd163_5 (by decide)
theorem dd163_6 : decode cX11_isFirstOrSecond 6 = .ok (.if_icmp .ne 7, 3) := by decide +kernel
theorem ww163_6 {d : Nat} {l0 : Option mw_V} {x y : Int} {st : List mw_V} {σ : mw_S} {Q : Option mw_V → mw_S → Prop} : mw_WP d 163 6 [l0] (jI y :: jI x :: st) σ Q ↔ (if ¬ x = y then mw_WP d 163 13 [l0] st σ Q else mw_WP d 163 9 [l0] st σ Q) := WP_icmp_ne mq163 dd163_6 (by decide)
theorem dd163_9 : decode cX11_isFirstOrSecond 9 = .ok (.iconst 1, 1) := by decide +kernel
theorem ww163_9 {d : Nat} {l0 : Option mw_V} {st : List mw_V} {σ : mw_S} {Q : Option mw_V → mw_S → Prop} : mw_WP d 163 9 [l0] st σ Q ↔ mw_WP d 163 10 [l0] (jI (1) :: st) σ Q := WP_iconst mq163 dd163_9 (by decide)
theorem dd163_10 : decode cX11_isFirstOrSecond 10 = .ok (.goto 4, 3) := by decide +kernel
theorem ww163_10 {d : Nat} {l0 : Option mw_V} {st : List mw_V} {σ : mw_S} {Q : Option mw_V → mw_S → Prop} : mw_WP d 163 10 [l0] st σ Q ↔ mw_WP d 163 14 [l0] st σ Q := WP_goto mq163 dd163_10 (by decide)
theorem dd163_13 : decode cX11_isFirstOrSecond 13 = .ok (.iconst 0, 1) := by decide +kernel
theorem ww163_13 {d : Nat} {l0 : Option mw_V} {st : List mw_V} {σ : mw_S} {Q : Option mw_V → mw_S → Prop} : mw_WP d 163 13 [l0] st σ Q ↔ mw_WP d 163 14 [l0] (jI (0) :: st) σ Q := WP_iconst mq163 dd163_13 (by decide)
theorem dd163_14 : decode cX11_isFirstOrSecond 14 = .ok (.ireturn, 1) := by decide +kernel
theorem ww163_14 {d : Nat} {l0 : Option mw_V} {z : Int} {σ : mw_S} {Q : Option mw_V → mw_S → Prop} (h : z = 0 ∨ z = 1) : mw_WP d 163 14 [l0] [jI z] σ Q ↔ Q (some (jI z)) σ := WP_ireturn (ty := .boolean) mq163 dd163_14 rfl (by rcases h with rfl | rfl <;> decide)
theorem ee164 {d : Nat} {z0 : Int} {z1 : Int} {σ : mw_S} {Q : Option mw_V → mw_S → Prop} : mw_Call (d + 1) 164 [jI z0, jI z1] σ Q ↔ mw_WP d 164 0 [some (jI z0), some (jI z1)] [] σ Q := CL_u mq164 (Nat.le_of_ble_eq_true rfl) rfl
theorem dd164_0 : decode cX11_isGame 0 = .ok (.iload_n 0, 1) := by decide +kernel
theorem ww164_0 {d : Nat} {l1 : Option mw_V} {x : Int} {st : List mw_V} {σ : mw_S} {Q : Option mw_V → mw_S → Prop} : mw_WP d 164 0 [some (jI x), l1] st σ Q ↔ mw_WP d 164 1 [some (jI x), l1] (jI x :: st) σ Q := WP_iload_n mq164 dd164_0 rfl
theorem dd164_1 : decode cX11_isGame 1 = .ok (.iconst 1, 1) := by decide +kernel
theorem ww164_1 {d : Nat} {l0 l1 : Option mw_V} {st : List mw_V} {σ : mw_S} {Q : Option mw_V → mw_S → Prop} : mw_WP d 164 1 [l0, l1] st σ Q ↔ mw_WP d 164 2 [l0, l1] (jI (1) :: st) σ Q := WP_iconst mq164 dd164_1 (by decide)
theorem dd164_2 : decode cX11_isGame 2 = .ok (.if_icmp .lt 21, 3) := by decide +kernel
theorem ww164_2 {d : Nat} {l0 l1 : Option mw_V} {x y : Int} {st : List mw_V} {σ : mw_S} {Q : Option mw_V → mw_S → Prop} : mw_WP d 164 2 [l0, l1] (jI y :: jI x :: st) σ Q ↔ (if x < y then mw_WP d 164 23 [l0, l1] st σ Q else mw_WP d 164 5 [l0, l1] st σ Q) := WP_icmp_lt mq164 dd164_2 (by decide)
theorem dd164_5 : decode cX11_isGame 5 = .ok (.iload_n 0, 1) := by decide +kernel
theorem ww164_5 {d : Nat} {l1 : Option mw_V} {x : Int} {st : List mw_V} {σ : mw_S} {Q : Option mw_V → mw_S → Prop} : mw_WP d 164 5 [some (jI x), l1] st σ Q ↔ mw_WP d 164 6 [some (jI x), l1] (jI x :: st) σ Q := WP_iload_n mq164 dd164_5 rfl
theorem dd164_6 : decode cX11_isGame 6 = .ok (.iconst 4, 1) := by decide +kernel
theorem ww164_6 {d : Nat} {l0 l1 : Option mw_V} {st : List mw_V} {σ : mw_S} {Q : Option mw_V → mw_S → Prop} : mw_WP d 164 6 [l0, l1] st σ Q ↔ mw_WP d 164 7 [l0, l1] (jI (4) :: st) σ Q := WP_iconst mq164 dd164_6 (by decide)
theorem dd164_7 : decode cX11_isGame 7 = .ok (.if_icmp .gt 16, 3) := by decide +kernel
theorem ww164_7 {d : Nat} {l0 l1 : Option mw_V} {x y : Int} {st : List mw_V} {σ : mw_S} {Q : Option mw_V → mw_S → Prop} : mw_WP d 164 7 [l0, l1] (jI y :: jI x :: st) σ Q ↔ (if y < x then mw_WP d 164 23 [l0, l1] st σ Q else mw_WP d 164 10 [l0, l1] st σ Q) := WP_icmp_gt mq164 dd164_7 (by decide)
theorem dd164_10 : decode cX11_isGame 10 = .ok (.iload_n 1, 1) := by decide +kernel
theorem ww164_10 {d : Nat} {l0 : Option mw_V} {x : Int} {st : List mw_V} {σ : mw_S} {Q : Option mw_V → mw_S → Prop} : mw_WP d 164 10 [l0, some (jI x)] st σ Q ↔ mw_WP d 164 11 [l0, some (jI x)] (jI x :: st) σ Q := WP_iload_n mq164 dd164_10 rfl
theorem dd164_11 : decode cX11_isGame 11 = .ok (.ifCond .lt 12, 3) := by decide +kernel
theorem ww164_11 {d : Nat} {l0 l1 : Option mw_V} {x : Int} {st : List mw_V} {σ : mw_S} {Q : Option mw_V → mw_S → Prop} : mw_WP d 164 11 [l0, l1] (jI x :: st) σ Q ↔ (if x < 0 then mw_WP d 164 23 [l0, l1] st σ Q else mw_WP d 164 14 [l0, l1] st σ Q) := WP_if_lt mq164 dd164_11 (by decide)
theorem dd164_14 : decode cX11_isGame 14 = .ok (.iload_n 1, 1) := by decide +kernel
theorem ww164_14 {d : Nat} {l0 : Option mw_V} {x : Int} {st : List mw_V} {σ : mw_S} {Q : Option mw_V → mw_S → Prop} : mw_WP d 164 14 [l0, some (jI x)] st σ Q ↔ mw_WP d 164 15 [l0, some (jI x)] (jI x :: st) σ Q := WP_iload_n mq164 dd164_14 rfl
theorem dd164_15 : decode cX11_isGame 15 = .ok (.iconst 3, 1) := by decide +kernel
theorem ww164_15 {d : Nat} {l0 l1 : Option mw_V} {st : List mw_V} {σ : mw_S} {Q : Option mw_V → mw_S → Prop} : mw_WP d 164 15 [l0, l1] st σ Q ↔ mw_WP d 164 16 [l0, l1] (jI (3) :: st) σ Q := WP_iconst mq164 dd164_15 (by decide)
theorem dd164_16 : decode cX11_isGame 16 = .ok (.if_icmp .gt 7, 3) := by decide +kernel
theorem ww164_16 {d : Nat} {l0 l1 : Option mw_V} {x y : Int} {st : List mw_V} {σ : mw_S} {Q : Option mw_V → mw_S → Prop} : mw_WP d 164 16 [l0, l1] (jI y :: jI x :: st) σ Q ↔ (if y < x then mw_WP d 164 23 [l0, l1] st σ Q else mw_WP d 164 19 [l0, l1] st σ Q) := WP_icmp_gt mq164 dd164_16 (by decide)
theorem dd164_19 : decode cX11_isGame 19 = .ok (.iconst 1, 1) := by decide +kernel
theorem ww164_19 {d : Nat} {l0 l1 : Option mw_V} {st : List mw_V} {σ : mw_S} {Q : Option mw_V → mw_S → Prop} : mw_WP d 164 19 [l0, l1] st σ Q ↔ mw_WP d 164 20 [l0, l1] (jI (1) :: st) σ Q := WP_iconst mq164 dd164_19 (by decide)
theorem dd164_20 : decode cX11_isGame 20 = .ok (.goto 4, 3) := by decide +kernel
theorem ww164_20 {d : Nat} {l0 l1 : Option mw_V} {st : List mw_V} {σ : mw_S} {Q : Option mw_V → mw_S → Prop} : mw_WP d 164 20 [l0, l1] st σ Q ↔ mw_WP d 164 24 [l0, l1] st σ Q := WP_goto mq164 dd164_20 (by decide)
theorem dd164_23 : decode cX11_isGame 23 = .ok (.iconst 0, 1) := by decide +kernel
theorem ww164_23 {d : Nat} {l0 l1 : Option mw_V} {st : List mw_V} {σ : mw_S} {Q : Option mw_V → mw_S → Prop} : mw_WP d 164 23 [l0, l1] st σ Q ↔ mw_WP d 164 24 [l0, l1] (jI (0) :: st) σ Q := WP_iconst mq164 dd164_23 (by decide)
theorem dd164_24 : decode cX11_isGame 24 = .ok (.ireturn, 1) := by decide +kernel
theorem ww164_24 {d : Nat} {l0 l1 : Option mw_V} {z : Int} {σ : mw_S} {Q : Option mw_V → mw_S → Prop} (h : z = 0 ∨ z = 1) : mw_WP d 164 24 [l0, l1] [jI z] σ Q ↔ Q (some (jI z)) σ := WP_ireturn (ty := .boolean) mq164 dd164_24 rfl (by rcases h with rfl | rfl <;> decide)
theorem ee165 {d : Nat} {a : Nat} {z0 : Int} {z1 : Int} {σ : mw_S} {Q : Option mw_V → mw_S → Prop} : mw_Call (d + 1) 165 [jR a, jI z0, jI z1] σ Q ↔ mw_WP d 165 0 [some (jR a), some (jI z0), some (jI z1), none, none] [] σ Q := CL_u mq165 (Nat.le_of_ble_eq_true rfl) rfl
theorem dd165_0 : decode cX11_hoursRefusal 0 = .ok (.aload_n 0, 1) := by decide +kernel
theorem ww165_0 {d : Nat} {l1 l2 l3 l4 : Option mw_V} {x : Nat} {st : List mw_V} {σ : mw_S} {Q : Option mw_V → mw_S → Prop} : mw_WP d 165 0 [some (jR x), l1, l2, l3, l4] st σ Q ↔ mw_WP d 165 1 [some (jR x), l1, l2, l3, l4] (jR x :: st) σ Q := WP_aload_n mq165 dd165_0 rfl
theorem dd165_1 : decode cX11_hoursRefusal 1 = .ok (.getfield 42, 3) := by decide +kernel
theorem ww165_1 {d : Nat} {l0 l1 l2 l3 l4 : Option mw_V} {st : List mw_V} {σ : mw_S} {Q : Option mw_V → mw_S → Prop} : mw_WP d 165 1 [l0, l1, l2, l3, l4] (jR 0 :: st) σ Q ↔ mw_WP d 165 4 [l0, l1, l2, l3, l4] (jR 37 :: st) σ Q := WP_getR (ci := 10) (k := 4) mq165 dd165_1 (by decide) rfl
theorem dd165_4 : decode cX11_hoursRefusal 4 = .ok (.iload_n 1, 1) := by decide +kernel
theorem ww165_4 {d : Nat} {l0 l2 l3 l4 : Option mw_V} {x : Int} {st : List mw_V} {σ : mw_S} {Q : Option mw_V → mw_S → Prop} : mw_WP d 165 4 [l0, some (jI x), l2, l3, l4] st σ Q ↔ mw_WP d 165 5 [l0, some (jI x), l2, l3, l4] (jI x :: st) σ Q := WP_iload_n mq165 dd165_4 rfl
theorem dd165_5 : decode cX11_hoursRefusal 5 = .ok (.invokevirtual 179, 3) := by decide +kernel
theorem ww165_5 {d : Nat} {l0 l1 l2 l3 l4 : Option mw_V} {v0 : mw_V} {a : Nat} {st : List mw_V} {σ : mw_S} {Q : Option mw_V → mw_S → Prop} (hr : mw_rc a = 10) (h8 : (st.map mw_cat).sum ≤ 8) : mw_WP d 165 5 [l0, l1, l2, l3, l4] (v0 :: jR a :: st) σ Q ↔ mw_Call d 113 [jR a, v0] σ (fun r1 s1 => mw_WP d 165 8 [l0, l1, l2, l3, l4] (r1.toList ++ st) s1 Q) := WP_inv (as := [v0]) mq165 dd165_5 (by decide) mq113 rfl hr h8
theorem dd165_8 : decode cX11_hoursRefusal 8 = .ok (.ifCond .eq 6, 3) := by decide +kernel
theorem ww165_8 {d : Nat} {l0 l1 l2 l3 l4 : Option mw_V} {x : Int} {st : List mw_V} {σ : mw_S} {Q : Option mw_V → mw_S → Prop} : mw_WP d 165 8 [l0, l1, l2, l3, l4] (jI x :: st) σ Q ↔ (if x = 0 then mw_WP d 165 14 [l0, l1, l2, l3, l4] st σ Q else mw_WP d 165 11 [l0, l1, l2, l3, l4] st σ Q) := WP_if_eq mq165 dd165_8 (by decide)
theorem dd165_11 : decode cX11_hoursRefusal 11 = .ok (.bipush (-6), 2) := by decide +kernel
theorem ww165_11 {d : Nat} {l0 l1 l2 l3 l4 : Option mw_V} {st : List mw_V} {σ : mw_S} {Q : Option mw_V → mw_S → Prop} : mw_WP d 165 11 [l0, l1, l2, l3, l4] st σ Q ↔ mw_WP d 165 13 [l0, l1, l2, l3, l4] (jI (-6) :: st) σ Q := WP_bipush mq165 dd165_11 (by decide)
theorem dd165_13 : decode cX11_hoursRefusal 13 = .ok (.ireturn, 1) := by decide +kernel
theorem ww165_13 {d : Nat} {l0 l1 l2 l3 l4 : Option mw_V} {z : Int} {σ : mw_S} {Q : Option mw_V → mw_S → Prop} : mw_WP d 165 13 [l0, l1, l2, l3, l4] [jI z] σ Q ↔ Q (some (jI z)) σ := WP_ireturn (ty := .int) mq165 dd165_13 rfl rfl
theorem dd165_14 : decode cX11_hoursRefusal 14 = .ok (.aload_n 0, 1) := by decide +kernel
theorem ww165_14 {d : Nat} {l1 l2 l3 l4 : Option mw_V} {x : Nat} {st : List mw_V} {σ : mw_S} {Q : Option mw_V → mw_S → Prop} : mw_WP d 165 14 [some (jR x), l1, l2, l3, l4] st σ Q ↔ mw_WP d 165 15 [some (jR x), l1, l2, l3, l4] (jR x :: st) σ Q := WP_aload_n mq165 dd165_14 rfl
theorem dd165_15 : decode cX11_hoursRefusal 15 = .ok (.getfield 42, 3) := by decide +kernel
theorem ww165_15 {d : Nat} {l0 l1 l2 l3 l4 : Option mw_V} {st : List mw_V} {σ : mw_S} {Q : Option mw_V → mw_S → Prop} : mw_WP d 165 15 [l0, l1, l2, l3, l4] (jR 0 :: st) σ Q ↔ mw_WP d 165 18 [l0, l1, l2, l3, l4] (jR 37 :: st) σ Q := WP_getR (ci := 10) (k := 4) mq165 dd165_15 (by decide) rfl
theorem dd165_18 : decode cX11_hoursRefusal 18 = .ok (.iload_n 1, 1) := by decide +kernel
theorem ww165_18 {d : Nat} {l0 l2 l3 l4 : Option mw_V} {x : Int} {st : List mw_V} {σ : mw_S} {Q : Option mw_V → mw_S → Prop} : mw_WP d 165 18 [l0, some (jI x), l2, l3, l4] st σ Q ↔ mw_WP d 165 19 [l0, some (jI x), l2, l3, l4] (jI x :: st) σ Q := WP_iload_n mq165 dd165_18 rfl
theorem dd165_19 : decode cX11_hoursRefusal 19 = .ok (.invokevirtual 188, 3) := by decide +kernel
theorem ww165_19 {d : Nat} {l0 l1 l2 l3 l4 : Option mw_V} {v0 : mw_V} {a : Nat} {st : List mw_V} {σ : mw_S} {Q : Option mw_V → mw_S → Prop} (hr : mw_rc a = 10) (h8 : (st.map mw_cat).sum ≤ 8) : mw_WP d 165 19 [l0, l1, l2, l3, l4] (v0 :: jR a :: st) σ Q ↔ mw_Call d 114 [jR a, v0] σ (fun r1 s1 => mw_WP d 165 22 [l0, l1, l2, l3, l4] (r1.toList ++ st) s1 Q) := WP_inv (as := [v0]) mq165 dd165_19 (by decide) mq114 rfl hr h8
theorem dd165_22 : decode cX11_hoursRefusal 22 = .ok (.istore_n 3, 1) := by decide +kernel
theorem ww165_22 {d : Nat} {l0 l1 l2 l3 l4 : Option mw_V} {x : Int} {st : List mw_V} {σ : mw_S} {Q : Option mw_V → mw_S → Prop} (h : mw_nlo l2 = true) : mw_WP d 165 22 [l0, l1, l2, l3, l4] (jI x :: st) σ Q ↔ mw_WP d 165 23 [l0, l1, l2, some (jI x), l4] st σ Q := WP_istore_n mq165 dd165_22 (Nat.le_of_ble_eq_true rfl) (mw_nl_of (i := 2) rfl h) rfl
theorem dd165_23 : decode cX11_hoursRefusal 23 = .ok (.iload_n 3, 1) := by decide +kernel
theorem ww165_23 {d : Nat} {l0 l1 l2 l4 : Option mw_V} {x : Int} {st : List mw_V} {σ : mw_S} {Q : Option mw_V → mw_S → Prop} : mw_WP d 165 23 [l0, l1, l2, some (jI x), l4] st σ Q ↔ mw_WP d 165 24 [l0, l1, l2, some (jI x), l4] (jI x :: st) σ Q := WP_iload_n mq165 dd165_23 rfl
theorem dd165_24 : decode cX11_hoursRefusal 24 = .ok (.iconst 1, 1) := by decide +kernel
theorem ww165_24 {d : Nat} {l0 l1 l2 l3 l4 : Option mw_V} {st : List mw_V} {σ : mw_S} {Q : Option mw_V → mw_S → Prop} : mw_WP d 165 24 [l0, l1, l2, l3, l4] st σ Q ↔ mw_WP d 165 25 [l0, l1, l2, l3, l4] (jI (1) :: st) σ Q := WP_iconst mq165 dd165_24 (by decide)
theorem dd165_25 : decode cX11_hoursRefusal 25 = .ok (.if_icmp .lt 8, 3) := by decide +kernel
theorem ww165_25 {d : Nat} {l0 l1 l2 l3 l4 : Option mw_V} {x y : Int} {st : List mw_V} {σ : mw_S} {Q : Option mw_V → mw_S → Prop} : mw_WP d 165 25 [l0, l1, l2, l3, l4] (jI y :: jI x :: st) σ Q ↔ (if x < y then mw_WP d 165 33 [l0, l1, l2, l3, l4] st σ Q else mw_WP d 165 28 [l0, l1, l2, l3, l4] st σ Q) := WP_icmp_lt mq165 dd165_25 (by decide)
theorem dd165_28 : decode cX11_hoursRefusal 28 = .ok (.iload_n 3, 1) := by decide +kernel
theorem ww165_28 {d : Nat} {l0 l1 l2 l4 : Option mw_V} {x : Int} {st : List mw_V} {σ : mw_S} {Q : Option mw_V → mw_S → Prop} : mw_WP d 165 28 [l0, l1, l2, some (jI x), l4] st σ Q ↔ mw_WP d 165 29 [l0, l1, l2, some (jI x), l4] (jI x :: st) σ Q := WP_iload_n mq165 dd165_28 rfl
theorem dd165_29 : decode cX11_hoursRefusal 29 = .ok (.iload_n 2, 1) := by decide +kernel
theorem ww165_29 {d : Nat} {l0 l1 l3 l4 : Option mw_V} {x : Int} {st : List mw_V} {σ : mw_S} {Q : Option mw_V → mw_S → Prop} : mw_WP d 165 29 [l0, l1, some (jI x), l3, l4] st σ Q ↔ mw_WP d 165 30 [l0, l1, some (jI x), l3, l4] (jI x :: st) σ Q := WP_iload_n mq165 dd165_29 rfl
theorem dd165_30 : decode cX11_hoursRefusal 30 = .ok (.if_icmp .le 6, 3) := by decide +kernel
theorem ww165_30 {d : Nat} {l0 l1 l2 l3 l4 : Option mw_V} {x y : Int} {st : List mw_V} {σ : mw_S} {Q : Option mw_V → mw_S → Prop} : mw_WP d 165 30 [l0, l1, l2, l3, l4] (jI y :: jI x :: st) σ Q ↔ (if x ≤ y then mw_WP d 165 36 [l0, l1, l2, l3, l4] st σ Q else mw_WP d 165 33 [l0, l1, l2, l3, l4] st σ Q) := WP_icmp_le mq165 dd165_30 (by decide)
theorem dd165_33 : decode cX11_hoursRefusal 33 = .ok (.bipush (-4), 2) := by decide +kernel
theorem ww165_33 {d : Nat} {l0 l1 l2 l3 l4 : Option mw_V} {st : List mw_V} {σ : mw_S} {Q : Option mw_V → mw_S → Prop} : mw_WP d 165 33 [l0, l1, l2, l3, l4] st σ Q ↔ mw_WP d 165 35 [l0, l1, l2, l3, l4] (jI (-4) :: st) σ Q := WP_bipush mq165 dd165_33 (by decide)
theorem dd165_35 : decode cX11_hoursRefusal 35 = .ok (.ireturn, 1) := by decide +kernel
theorem ww165_35 {d : Nat} {l0 l1 l2 l3 l4 : Option mw_V} {z : Int} {σ : mw_S} {Q : Option mw_V → mw_S → Prop} : mw_WP d 165 35 [l0, l1, l2, l3, l4] [jI z] σ Q ↔ Q (some (jI z)) σ := WP_ireturn (ty := .int) mq165 dd165_35 rfl rfl
theorem dd165_36 : decode cX11_hoursRefusal 36 = .ok (.iconst 0, 1) := by decide +kernel
theorem ww165_36 {d : Nat} {l0 l1 l2 l3 l4 : Option mw_V} {st : List mw_V} {σ : mw_S} {Q : Option mw_V → mw_S → Prop} : mw_WP d 165 36 [l0, l1, l2, l3, l4] st σ Q ↔ mw_WP d 165 37 [l0, l1, l2, l3, l4] (jI (0) :: st) σ Q := WP_iconst mq165 dd165_36 (by decide)
theorem dd165_37 : decode cX11_hoursRefusal 37 = .ok (.istore 4, 2) := by decide +kernel
theorem ww165_37 {d : Nat} {l0 l1 l2 l3 l4 : Option mw_V} {x : Int} {st : List mw_V} {σ : mw_S} {Q : Option mw_V → mw_S → Prop} (h : mw_nlo l3 = true) : mw_WP d 165 37 [l0, l1, l2, l3, l4] (jI x :: st) σ Q ↔ mw_WP d 165 39 [l0, l1, l2, l3, some (jI x)] st σ Q := WP_istore mq165 dd165_37 (Nat.le_of_ble_eq_true rfl) (mw_nl_of (i := 3) rfl h) rfl
theorem dd165_39 : decode cX11_hoursRefusal 39 = .ok (.iload 4, 2) := by decide +kernel
theorem ww165_39 {d : Nat} {l0 l1 l2 l3 : Option mw_V} {x : Int} {st : List mw_V} {σ : mw_S} {Q : Option mw_V → mw_S → Prop} : mw_WP d 165 39 [l0, l1, l2, l3, some (jI x)] st σ Q ↔ mw_WP d 165 41 [l0, l1, l2, l3, some (jI x)] (jI x :: st) σ Q := WP_iload mq165 dd165_39 rfl
theorem dd165_41 : decode cX11_hoursRefusal 41 = .ok (.iload_n 3, 1) := by decide +kernel
theorem ww165_41 {d : Nat} {l0 l1 l2 l4 : Option mw_V} {x : Int} {st : List mw_V} {σ : mw_S} {Q : Option mw_V → mw_S → Prop} : mw_WP d 165 41 [l0, l1, l2, some (jI x), l4] st σ Q ↔ mw_WP d 165 42 [l0, l1, l2, some (jI x), l4] (jI x :: st) σ Q := WP_iload_n mq165 dd165_41 rfl
theorem dd165_42 : decode cX11_hoursRefusal 42 = .ok (.if_icmp .ge 32, 3) := by decide +kernel
theorem ww165_42 {d : Nat} {l0 l1 l2 l3 l4 : Option mw_V} {x y : Int} {st : List mw_V} {σ : mw_S} {Q : Option mw_V → mw_S → Prop} : mw_WP d 165 42 [l0, l1, l2, l3, l4] (jI y :: jI x :: st) σ Q ↔ (if y ≤ x then mw_WP d 165 74 [l0, l1, l2, l3, l4] st σ Q else mw_WP d 165 45 [l0, l1, l2, l3, l4] st σ Q) := WP_icmp_ge mq165 dd165_42 (by decide)
theorem dd165_45 : decode cX11_hoursRefusal 45 = .ok (.aload_n 0, 1) := by decide +kernel
theorem ww165_45 {d : Nat} {l1 l2 l3 l4 : Option mw_V} {x : Nat} {st : List mw_V} {σ : mw_S} {Q : Option mw_V → mw_S → Prop} : mw_WP d 165 45 [some (jR x), l1, l2, l3, l4] st σ Q ↔ mw_WP d 165 46 [some (jR x), l1, l2, l3, l4] (jR x :: st) σ Q := WP_aload_n mq165 dd165_45 rfl
theorem dd165_46 : decode cX11_hoursRefusal 46 = .ok (.getfield 28, 3) := by decide +kernel
theorem ww165_46 {d : Nat} {l0 l1 l2 l3 l4 : Option mw_V} {st : List mw_V} {σ : mw_S} {Q : Option mw_V → mw_S → Prop} : mw_WP d 165 46 [l0, l1, l2, l3, l4] (jR 0 :: st) σ Q ↔ mw_WP d 165 49 [l0, l1, l2, l3, l4] (jR 22 :: st) σ Q := WP_getR (ci := 10) (k := 2) mq165 dd165_46 (by decide) rfl
theorem dd165_49 : decode cX11_hoursRefusal 49 = .ok (.aload_n 0, 1) := by decide +kernel
theorem ww165_49 {d : Nat} {l1 l2 l3 l4 : Option mw_V} {x : Nat} {st : List mw_V} {σ : mw_S} {Q : Option mw_V → mw_S → Prop} : mw_WP d 165 49 [some (jR x), l1, l2, l3, l4] st σ Q ↔ mw_WP d 165 50 [some (jR x), l1, l2, l3, l4] (jR x :: st) σ Q := WP_aload_n mq165 dd165_49 rfl
theorem dd165_50 : decode cX11_hoursRefusal 50 = .ok (.getfield 42, 3) := by decide +kernel
theorem ww165_50 {d : Nat} {l0 l1 l2 l3 l4 : Option mw_V} {st : List mw_V} {σ : mw_S} {Q : Option mw_V → mw_S → Prop} : mw_WP d 165 50 [l0, l1, l2, l3, l4] (jR 0 :: st) σ Q ↔ mw_WP d 165 53 [l0, l1, l2, l3, l4] (jR 37 :: st) σ Q := WP_getR (ci := 10) (k := 4) mq165 dd165_50 (by decide) rfl
theorem dd165_53 : decode cX11_hoursRefusal 53 = .ok (.iload_n 1, 1) := by decide +kernel
theorem ww165_53 {d : Nat} {l0 l2 l3 l4 : Option mw_V} {x : Int} {st : List mw_V} {σ : mw_S} {Q : Option mw_V → mw_S → Prop} : mw_WP d 165 53 [l0, some (jI x), l2, l3, l4] st σ Q ↔ mw_WP d 165 54 [l0, some (jI x), l2, l3, l4] (jI x :: st) σ Q := WP_iload_n mq165 dd165_53 rfl
theorem dd165_54 : decode cX11_hoursRefusal 54 = .ok (.iload 4, 2) := by decide +kernel
theorem ww165_54 {d : Nat} {l0 l1 l2 l3 : Option mw_V} {x : Int} {st : List mw_V} {σ : mw_S} {Q : Option mw_V → mw_S → Prop} : mw_WP d 165 54 [l0, l1, l2, l3, some (jI x)] st σ Q ↔ mw_WP d 165 56 [l0, l1, l2, l3, some (jI x)] (jI x :: st) σ Q := WP_iload mq165 dd165_54 rfl
theorem dd165_56 : decode cX11_hoursRefusal 56 = .ok (.invokevirtual 382, 3) := by decide +kernel
theorem ww165_56 {d : Nat} {l0 l1 l2 l3 l4 : Option mw_V} {v0 v1 : mw_V} {a : Nat} {st : List mw_V} {σ : mw_S} {Q : Option mw_V → mw_S → Prop} (hr : mw_rc a = 10) (h8 : (st.map mw_cat).sum ≤ 8) : mw_WP d 165 56 [l0, l1, l2, l3, l4] (v1 :: v0 :: jR a :: st) σ Q ↔ mw_Call d 115 [jR a, v0, v1] σ (fun r1 s1 => mw_WP d 165 59 [l0, l1, l2, l3, l4] (r1.toList ++ st) s1 Q) := WP_inv (as := [v1, v0]) mq165 dd165_56 (by decide) mq115 rfl hr h8
theorem dd165_59 : decode cX11_hoursRefusal 59 = .ok (.invokevirtual 159, 3) := by decide +kernel
theorem ww165_59 {d : Nat} {l0 l1 l2 l3 l4 : Option mw_V} {v0 : mw_V} {a : Nat} {st : List mw_V} {σ : mw_S} {Q : Option mw_V → mw_S → Prop} (hr : mw_rc a = 9) (h8 : (st.map mw_cat).sum ≤ 8) : mw_WP d 165 59 [l0, l1, l2, l3, l4] (v0 :: jR a :: st) σ Q ↔ mw_Call d 87 [jR a, v0] σ (fun r1 s1 => mw_WP d 165 62 [l0, l1, l2, l3, l4] (r1.toList ++ st) s1 Q) := WP_inv (as := [v0]) mq165 dd165_59 (by decide) mq87 rfl hr h8
theorem dd165_62 : decode cX11_hoursRefusal 62 = .ok (.ifCond .ne 6, 3) := by decide +kernel
theorem ww165_62 {d : Nat} {l0 l1 l2 l3 l4 : Option mw_V} {x : Int} {st : List mw_V} {σ : mw_S} {Q : Option mw_V → mw_S → Prop} : mw_WP d 165 62 [l0, l1, l2, l3, l4] (jI x :: st) σ Q ↔ (if ¬ x = 0 then mw_WP d 165 68 [l0, l1, l2, l3, l4] st σ Q else mw_WP d 165 65 [l0, l1, l2, l3, l4] st σ Q) := WP_if_ne mq165 dd165_62 (by decide)
theorem dd165_65 : decode cX11_hoursRefusal 65 = .ok (.bipush (-3), 2) := by decide +kernel
theorem ww165_65 {d : Nat} {l0 l1 l2 l3 l4 : Option mw_V} {st : List mw_V} {σ : mw_S} {Q : Option mw_V → mw_S → Prop} : mw_WP d 165 65 [l0, l1, l2, l3, l4] st σ Q ↔ mw_WP d 165 67 [l0, l1, l2, l3, l4] (jI (-3) :: st) σ Q := WP_bipush mq165 dd165_65 (by decide)
theorem dd165_67 : decode cX11_hoursRefusal 67 = .ok (.ireturn, 1) := by decide +kernel
theorem ww165_67 {d : Nat} {l0 l1 l2 l3 l4 : Option mw_V} {z : Int} {σ : mw_S} {Q : Option mw_V → mw_S → Prop} : mw_WP d 165 67 [l0, l1, l2, l3, l4] [jI z] σ Q ↔ Q (some (jI z)) σ := WP_ireturn (ty := .int) mq165 dd165_67 rfl rfl
theorem dd165_68 : decode cX11_hoursRefusal 68 = .ok (.iinc 4 1, 3) := by decide +kernel
theorem ww165_68 {d : Nat} {l0 l1 l2 l3 : Option mw_V} {x : Int} {st : List mw_V} {σ : mw_S} {Q : Option mw_V → mw_S → Prop} (h : mw_nlo l3 = true) : mw_WP d 165 68 [l0, l1, l2, l3, some (jI x)] st σ Q ↔ mw_WP d 165 71 [l0, l1, l2, l3, some (jI (w32 (x + (1))))] st σ Q := WP_iinc mq165 dd165_68 rfl (Nat.le_of_ble_eq_true rfl) (mw_nl_of (i := 3) rfl h) rfl
theorem dd165_71 : decode cX11_hoursRefusal 71 = .ok (.goto (-32), 3) := by decide +kernel
theorem ww165_71 {d : Nat} {l0 l1 l2 l3 l4 : Option mw_V} {st : List mw_V} {σ : mw_S} {Q : Option mw_V → mw_S → Prop} : mw_WP d 165 71 [l0, l1, l2, l3, l4] st σ Q ↔ mw_WP d 165 39 [l0, l1, l2, l3, l4] st σ Q := WP_goto mq165 dd165_71 (by decide)
theorem dd165_74 : decode cX11_hoursRefusal 74 = .ok (.iconst 0, 1) := by decide +kernel
theorem ww165_74 {d : Nat} {l0 l1 l2 l3 l4 : Option mw_V} {st : List mw_V} {σ : mw_S} {Q : Option mw_V → mw_S → Prop} : mw_WP d 165 74 [l0, l1, l2, l3, l4] st σ Q ↔ mw_WP d 165 75 [l0, l1, l2, l3, l4] (jI (0) :: st) σ Q := WP_iconst mq165 dd165_74 (by decide)
theorem dd165_75 : decode cX11_hoursRefusal 75 = .ok (.ireturn, 1) := by decide +kernel
theorem ww165_75 {d : Nat} {l0 l1 l2 l3 l4 : Option mw_V} {z : Int} {σ : mw_S} {Q : Option mw_V → mw_S → Prop} : mw_WP d 165 75 [l0, l1, l2, l3, l4] [jI z] σ Q ↔ Q (some (jI z)) σ := WP_ireturn (ty := .int) mq165 dd165_75 rfl rfl
theorem ee166 {d : Nat} {a : Nat} {z0 : Int} {σ : mw_S} {Q : Option mw_V → mw_S → Prop} : mw_Call (d + 1) 166 [jR a, jI z0] σ Q ↔ mw_WP d 166 0 [some (jR a), some (jI z0), none, none, none, none] [] σ Q := CL_u mq166 (Nat.le_of_ble_eq_true rfl) rfl
theorem dd166_0 : decode cX11_seenRefusal 0 = .ok (.aload_n 0, 1) := by decide +kernel
theorem ww166_0 {d : Nat} {l1 l2 l3 l4 l5 : Option mw_V} {x : Nat} {st : List mw_V} {σ : mw_S} {Q : Option mw_V → mw_S → Prop} : mw_WP d 166 0 [some (jR x), l1, l2, l3, l4, l5] st σ Q ↔ mw_WP d 166 1 [some (jR x), l1, l2, l3, l4, l5] (jR x :: st) σ Q := WP_aload_n mq166 dd166_0 rfl
theorem dd166_1 : decode cX11_seenRefusal 1 = .ok (.getfield 42, 3) := by decide +kernel
theorem ww166_1 {d : Nat} {l0 l1 l2 l3 l4 l5 : Option mw_V} {st : List mw_V} {σ : mw_S} {Q : Option mw_V → mw_S → Prop} : mw_WP d 166 1 [l0, l1, l2, l3, l4, l5] (jR 0 :: st) σ Q ↔ mw_WP d 166 4 [l0, l1, l2, l3, l4, l5] (jR 37 :: st) σ Q := WP_getR (ci := 10) (k := 4) mq166 dd166_1 (by decide) rfl
theorem dd166_4 : decode cX11_seenRefusal 4 = .ok (.iload_n 1, 1) := by decide +kernel
theorem ww166_4 {d : Nat} {l0 l2 l3 l4 l5 : Option mw_V} {x : Int} {st : List mw_V} {σ : mw_S} {Q : Option mw_V → mw_S → Prop} : mw_WP d 166 4 [l0, some (jI x), l2, l3, l4, l5] st σ Q ↔ mw_WP d 166 5 [l0, some (jI x), l2, l3, l4, l5] (jI x :: st) σ Q := WP_iload_n mq166 dd166_4 rfl
theorem dd166_5 : decode cX11_seenRefusal 5 = .ok (.invokevirtual 176, 3) := by decide +kernel
theorem ww166_5 {d : Nat} {l0 l1 l2 l3 l4 l5 : Option mw_V} {v0 : mw_V} {a : Nat} {st : List mw_V} {σ : mw_S} {Q : Option mw_V → mw_S → Prop} (hr : mw_rc a = 10) (h8 : (st.map mw_cat).sum ≤ 8) : mw_WP d 166 5 [l0, l1, l2, l3, l4, l5] (v0 :: jR a :: st) σ Q ↔ mw_Call d 112 [jR a, v0] σ (fun r1 s1 => mw_WP d 166 8 [l0, l1, l2, l3, l4, l5] (r1.toList ++ st) s1 Q) := WP_inv (as := [v0]) mq166 dd166_5 (by decide) mq112 rfl hr h8
theorem dd166_8 : decode cX11_seenRefusal 8 = .ok (.ifCond .ne 6, 3) := by decide +kernel
theorem ww166_8 {d : Nat} {l0 l1 l2 l3 l4 l5 : Option mw_V} {x : Int} {st : List mw_V} {σ : mw_S} {Q : Option mw_V → mw_S → Prop} : mw_WP d 166 8 [l0, l1, l2, l3, l4, l5] (jI x :: st) σ Q ↔ (if ¬ x = 0 then mw_WP d 166 14 [l0, l1, l2, l3, l4, l5] st σ Q else mw_WP d 166 11 [l0, l1, l2, l3, l4, l5] st σ Q) := WP_if_ne mq166 dd166_8 (by decide)
theorem dd166_11 : decode cX11_seenRefusal 11 = .ok (.bipush (-2), 2) := by decide +kernel
theorem ww166_11 {d : Nat} {l0 l1 l2 l3 l4 l5 : Option mw_V} {st : List mw_V} {σ : mw_S} {Q : Option mw_V → mw_S → Prop} : mw_WP d 166 11 [l0, l1, l2, l3, l4, l5] st σ Q ↔ mw_WP d 166 13 [l0, l1, l2, l3, l4, l5] (jI (-2) :: st) σ Q := WP_bipush mq166 dd166_11 (by decide)
theorem dd166_13 : decode cX11_seenRefusal 13 = .ok (.ireturn, 1) := by decide +kernel
theorem ww166_13 {d : Nat} {l0 l1 l2 l3 l4 l5 : Option mw_V} {z : Int} {σ : mw_S} {Q : Option mw_V → mw_S → Prop} : mw_WP d 166 13 [l0, l1, l2, l3, l4, l5] [jI z] σ Q ↔ Q (some (jI z)) σ := WP_ireturn (ty := .int) mq166 dd166_13 rfl rfl
theorem dd166_14 : decode cX11_seenRefusal 14 = .ok (.aload_n 0, 1) := by decide +kernel
theorem ww166_14 {d : Nat} {l1 l2 l3 l4 l5 : Option mw_V} {x : Nat} {st : List mw_V} {σ : mw_S} {Q : Option mw_V → mw_S → Prop} : mw_WP d 166 14 [some (jR x), l1, l2, l3, l4, l5] st σ Q ↔ mw_WP d 166 15 [some (jR x), l1, l2, l3, l4, l5] (jR x :: st) σ Q := WP_aload_n mq166 dd166_14 rfl
theorem dd166_15 : decode cX11_seenRefusal 15 = .ok (.getfield 42, 3) := by decide +kernel
theorem ww166_15 {d : Nat} {l0 l1 l2 l3 l4 l5 : Option mw_V} {st : List mw_V} {σ : mw_S} {Q : Option mw_V → mw_S → Prop} : mw_WP d 166 15 [l0, l1, l2, l3, l4, l5] (jR 0 :: st) σ Q ↔ mw_WP d 166 18 [l0, l1, l2, l3, l4, l5] (jR 37 :: st) σ Q := WP_getR (ci := 10) (k := 4) mq166 dd166_15 (by decide) rfl
theorem dd166_18 : decode cX11_seenRefusal 18 = .ok (.iload_n 1, 1) := by decide +kernel
theorem ww166_18 {d : Nat} {l0 l2 l3 l4 l5 : Option mw_V} {x : Int} {st : List mw_V} {σ : mw_S} {Q : Option mw_V → mw_S → Prop} : mw_WP d 166 18 [l0, some (jI x), l2, l3, l4, l5] st σ Q ↔ mw_WP d 166 19 [l0, some (jI x), l2, l3, l4, l5] (jI x :: st) σ Q := WP_iload_n mq166 dd166_18 rfl
theorem dd166_19 : decode cX11_seenRefusal 19 = .ok (.invokevirtual 179, 3) := by decide +kernel
theorem ww166_19 {d : Nat} {l0 l1 l2 l3 l4 l5 : Option mw_V} {v0 : mw_V} {a : Nat} {st : List mw_V} {σ : mw_S} {Q : Option mw_V → mw_S → Prop} (hr : mw_rc a = 10) (h8 : (st.map mw_cat).sum ≤ 8) : mw_WP d 166 19 [l0, l1, l2, l3, l4, l5] (v0 :: jR a :: st) σ Q ↔ mw_Call d 113 [jR a, v0] σ (fun r1 s1 => mw_WP d 166 22 [l0, l1, l2, l3, l4, l5] (r1.toList ++ st) s1 Q) := WP_inv (as := [v0]) mq166 dd166_19 (by decide) mq113 rfl hr h8
theorem dd166_22 : decode cX11_seenRefusal 22 = .ok (.ifCond .eq 6, 3) := by decide +kernel
theorem ww166_22 {d : Nat} {l0 l1 l2 l3 l4 l5 : Option mw_V} {x : Int} {st : List mw_V} {σ : mw_S} {Q : Option mw_V → mw_S → Prop} : mw_WP d 166 22 [l0, l1, l2, l3, l4, l5] (jI x :: st) σ Q ↔ (if x = 0 then mw_WP d 166 28 [l0, l1, l2, l3, l4, l5] st σ Q else mw_WP d 166 25 [l0, l1, l2, l3, l4, l5] st σ Q) := WP_if_eq mq166 dd166_22 (by decide)
theorem dd166_25 : decode cX11_seenRefusal 25 = .ok (.bipush (-6), 2) := by decide +kernel
theorem ww166_25 {d : Nat} {l0 l1 l2 l3 l4 l5 : Option mw_V} {st : List mw_V} {σ : mw_S} {Q : Option mw_V → mw_S → Prop} : mw_WP d 166 25 [l0, l1, l2, l3, l4, l5] st σ Q ↔ mw_WP d 166 27 [l0, l1, l2, l3, l4, l5] (jI (-6) :: st) σ Q := WP_bipush mq166 dd166_25 (by decide)
theorem dd166_27 : decode cX11_seenRefusal 27 = .ok (.ireturn, 1) := by decide +kernel
theorem ww166_27 {d : Nat} {l0 l1 l2 l3 l4 l5 : Option mw_V} {z : Int} {σ : mw_S} {Q : Option mw_V → mw_S → Prop} : mw_WP d 166 27 [l0, l1, l2, l3, l4, l5] [jI z] σ Q ↔ Q (some (jI z)) σ := WP_ireturn (ty := .int) mq166 dd166_27 rfl rfl
theorem dd166_28 : decode cX11_seenRefusal 28 = .ok (.aload_n 0, 1) := by decide +kernel
theorem ww166_28 {d : Nat} {l1 l2 l3 l4 l5 : Option mw_V} {x : Nat} {st : List mw_V} {σ : mw_S} {Q : Option mw_V → mw_S → Prop} : mw_WP d 166 28 [some (jR x), l1, l2, l3, l4, l5] st σ Q ↔ mw_WP d 166 29 [some (jR x), l1, l2, l3, l4, l5] (jR x :: st) σ Q := WP_aload_n mq166 dd166_28 rfl
theorem dd166_29 : decode cX11_seenRefusal 29 = .ok (.getfield 42, 3) := by decide +kernel
theorem ww166_29 {d : Nat} {l0 l1 l2 l3 l4 l5 : Option mw_V} {st : List mw_V} {σ : mw_S} {Q : Option mw_V → mw_S → Prop} : mw_WP d 166 29 [l0, l1, l2, l3, l4, l5] (jR 0 :: st) σ Q ↔ mw_WP d 166 32 [l0, l1, l2, l3, l4, l5] (jR 37 :: st) σ Q := WP_getR (ci := 10) (k := 4) mq166 dd166_29 (by decide) rfl
theorem dd166_32 : decode cX11_seenRefusal 32 = .ok (.iload_n 1, 1) := by decide +kernel
theorem ww166_32 {d : Nat} {l0 l2 l3 l4 l5 : Option mw_V} {x : Int} {st : List mw_V} {σ : mw_S} {Q : Option mw_V → mw_S → Prop} : mw_WP d 166 32 [l0, some (jI x), l2, l3, l4, l5] st σ Q ↔ mw_WP d 166 33 [l0, some (jI x), l2, l3, l4, l5] (jI x :: st) σ Q := WP_iload_n mq166 dd166_32 rfl
theorem dd166_33 : decode cX11_seenRefusal 33 = .ok (.invokevirtual 188, 3) := by decide +kernel
theorem ww166_33 {d : Nat} {l0 l1 l2 l3 l4 l5 : Option mw_V} {v0 : mw_V} {a : Nat} {st : List mw_V} {σ : mw_S} {Q : Option mw_V → mw_S → Prop} (hr : mw_rc a = 10) (h8 : (st.map mw_cat).sum ≤ 8) : mw_WP d 166 33 [l0, l1, l2, l3, l4, l5] (v0 :: jR a :: st) σ Q ↔ mw_Call d 114 [jR a, v0] σ (fun r1 s1 => mw_WP d 166 36 [l0, l1, l2, l3, l4, l5] (r1.toList ++ st) s1 Q) := WP_inv (as := [v0]) mq166 dd166_33 (by decide) mq114 rfl hr h8
theorem dd166_36 : decode cX11_seenRefusal 36 = .ok (.istore_n 2, 1) := by decide +kernel
theorem ww166_36 {d : Nat} {l0 l1 l2 l3 l4 l5 : Option mw_V} {x : Int} {st : List mw_V} {σ : mw_S} {Q : Option mw_V → mw_S → Prop} (h : mw_nlo l1 = true) : mw_WP d 166 36 [l0, l1, l2, l3, l4, l5] (jI x :: st) σ Q ↔ mw_WP d 166 37 [l0, l1, some (jI x), l3, l4, l5] st σ Q := WP_istore_n mq166 dd166_36 (Nat.le_of_ble_eq_true rfl) (mw_nl_of (i := 1) rfl h) rfl
theorem dd166_37 : decode cX11_seenRefusal 37 = .ok (.iload_n 2, 1) := by decide +kernel
theorem ww166_37 {d : Nat} {l0 l1 l3 l4 l5 : Option mw_V} {x : Int} {st : List mw_V} {σ : mw_S} {Q : Option mw_V → mw_S → Prop} : mw_WP d 166 37 [l0, l1, some (jI x), l3, l4, l5] st σ Q ↔ mw_WP d 166 38 [l0, l1, some (jI x), l3, l4, l5] (jI x :: st) σ Q := WP_iload_n mq166 dd166_37 rfl
theorem dd166_38 : decode cX11_seenRefusal 38 = .ok (.iconst 1, 1) := by decide +kernel
theorem ww166_38 {d : Nat} {l0 l1 l2 l3 l4 l5 : Option mw_V} {st : List mw_V} {σ : mw_S} {Q : Option mw_V → mw_S → Prop} : mw_WP d 166 38 [l0, l1, l2, l3, l4, l5] st σ Q ↔ mw_WP d 166 39 [l0, l1, l2, l3, l4, l5] (jI (1) :: st) σ Q := WP_iconst mq166 dd166_38 (by decide)
theorem dd166_39 : decode cX11_seenRefusal 39 = .ok (.if_icmp .lt 9, 3) := by decide +kernel
theorem ww166_39 {d : Nat} {l0 l1 l2 l3 l4 l5 : Option mw_V} {x y : Int} {st : List mw_V} {σ : mw_S} {Q : Option mw_V → mw_S → Prop} : mw_WP d 166 39 [l0, l1, l2, l3, l4, l5] (jI y :: jI x :: st) σ Q ↔ (if x < y then mw_WP d 166 48 [l0, l1, l2, l3, l4, l5] st σ Q else mw_WP d 166 42 [l0, l1, l2, l3, l4, l5] st σ Q) := WP_icmp_lt mq166 dd166_39 (by decide)
theorem dd166_42 : decode cX11_seenRefusal 42 = .ok (.iload_n 2, 1) := by decide +kernel
theorem ww166_42 {d : Nat} {l0 l1 l3 l4 l5 : Option mw_V} {x : Int} {st : List mw_V} {σ : mw_S} {Q : Option mw_V → mw_S → Prop} : mw_WP d 166 42 [l0, l1, some (jI x), l3, l4, l5] st σ Q ↔ mw_WP d 166 43 [l0, l1, some (jI x), l3, l4, l5] (jI x :: st) σ Q := WP_iload_n mq166 dd166_42 rfl
theorem dd166_43 : decode cX11_seenRefusal 43 = .ok (.bipush 30, 2) := by decide +kernel
theorem ww166_43 {d : Nat} {l0 l1 l2 l3 l4 l5 : Option mw_V} {st : List mw_V} {σ : mw_S} {Q : Option mw_V → mw_S → Prop} : mw_WP d 166 43 [l0, l1, l2, l3, l4, l5] st σ Q ↔ mw_WP d 166 45 [l0, l1, l2, l3, l4, l5] (jI (30) :: st) σ Q := WP_bipush mq166 dd166_43 (by decide)
theorem dd166_45 : decode cX11_seenRefusal 45 = .ok (.if_icmp .le 6, 3) := by decide +kernel
theorem ww166_45 {d : Nat} {l0 l1 l2 l3 l4 l5 : Option mw_V} {x y : Int} {st : List mw_V} {σ : mw_S} {Q : Option mw_V → mw_S → Prop} : mw_WP d 166 45 [l0, l1, l2, l3, l4, l5] (jI y :: jI x :: st) σ Q ↔ (if x ≤ y then mw_WP d 166 51 [l0, l1, l2, l3, l4, l5] st σ Q else mw_WP d 166 48 [l0, l1, l2, l3, l4, l5] st σ Q) := WP_icmp_le mq166 dd166_45 (by decide)
theorem dd166_48 : decode cX11_seenRefusal 48 = .ok (.bipush (-4), 2) := by decide +kernel
theorem ww166_48 {d : Nat} {l0 l1 l2 l3 l4 l5 : Option mw_V} {st : List mw_V} {σ : mw_S} {Q : Option mw_V → mw_S → Prop} : mw_WP d 166 48 [l0, l1, l2, l3, l4, l5] st σ Q ↔ mw_WP d 166 50 [l0, l1, l2, l3, l4, l5] (jI (-4) :: st) σ Q := WP_bipush mq166 dd166_48 (by decide)
theorem dd166_50 : decode cX11_seenRefusal 50 = .ok (.ireturn, 1) := by decide +kernel
theorem ww166_50 {d : Nat} {l0 l1 l2 l3 l4 l5 : Option mw_V} {z : Int} {σ : mw_S} {Q : Option mw_V → mw_S → Prop} : mw_WP d 166 50 [l0, l1, l2, l3, l4, l5] [jI z] σ Q ↔ Q (some (jI z)) σ := WP_ireturn (ty := .int) mq166 dd166_50 rfl rfl
theorem dd166_51 : decode cX11_seenRefusal 51 = .ok (.iconst 0, 1) := by decide +kernel
theorem ww166_51 {d : Nat} {l0 l1 l2 l3 l4 l5 : Option mw_V} {st : List mw_V} {σ : mw_S} {Q : Option mw_V → mw_S → Prop} : mw_WP d 166 51 [l0, l1, l2, l3, l4, l5] st σ Q ↔ mw_WP d 166 52 [l0, l1, l2, l3, l4, l5] (jI (0) :: st) σ Q := WP_iconst mq166 dd166_51 (by decide)
theorem dd166_52 : decode cX11_seenRefusal 52 = .ok (.istore_n 3, 1) := by decide +kernel
theorem ww166_52 {d : Nat} {l0 l1 l2 l3 l4 l5 : Option mw_V} {x : Int} {st : List mw_V} {σ : mw_S} {Q : Option mw_V → mw_S → Prop} (h : mw_nlo l2 = true) : mw_WP d 166 52 [l0, l1, l2, l3, l4, l5] (jI x :: st) σ Q ↔ mw_WP d 166 53 [l0, l1, l2, some (jI x), l4, l5] st σ Q := WP_istore_n mq166 dd166_52 (Nat.le_of_ble_eq_true rfl) (mw_nl_of (i := 2) rfl h) rfl
theorem dd166_53 : decode cX11_seenRefusal 53 = .ok (.iload_n 3, 1) := by decide +kernel
theorem ww166_53 {d : Nat} {l0 l1 l2 l4 l5 : Option mw_V} {x : Int} {st : List mw_V} {σ : mw_S} {Q : Option mw_V → mw_S → Prop} : mw_WP d 166 53 [l0, l1, l2, some (jI x), l4, l5] st σ Q ↔ mw_WP d 166 54 [l0, l1, l2, some (jI x), l4, l5] (jI x :: st) σ Q := WP_iload_n mq166 dd166_53 rfl
theorem dd166_54 : decode cX11_seenRefusal 54 = .ok (.iload_n 2, 1) := by decide +kernel
theorem ww166_54 {d : Nat} {l0 l1 l3 l4 l5 : Option mw_V} {x : Int} {st : List mw_V} {σ : mw_S} {Q : Option mw_V → mw_S → Prop} : mw_WP d 166 54 [l0, l1, some (jI x), l3, l4, l5] st σ Q ↔ mw_WP d 166 55 [l0, l1, some (jI x), l3, l4, l5] (jI x :: st) σ Q := WP_iload_n mq166 dd166_54 rfl
theorem dd166_55 : decode cX11_seenRefusal 55 = .ok (.if_icmp .ge 39, 3) := by decide +kernel
theorem ww166_55 {d : Nat} {l0 l1 l2 l3 l4 l5 : Option mw_V} {x y : Int} {st : List mw_V} {σ : mw_S} {Q : Option mw_V → mw_S → Prop} : mw_WP d 166 55 [l0, l1, l2, l3, l4, l5] (jI y :: jI x :: st) σ Q ↔ (if y ≤ x then mw_WP d 166 94 [l0, l1, l2, l3, l4, l5] st σ Q else mw_WP d 166 58 [l0, l1, l2, l3, l4, l5] st σ Q) := WP_icmp_ge mq166 dd166_55 (by decide)
theorem dd166_58 : decode cX11_seenRefusal 58 = .ok (.aload_n 0, 1) := by decide +kernel
theorem ww166_58 {d : Nat} {l1 l2 l3 l4 l5 : Option mw_V} {x : Nat} {st : List mw_V} {σ : mw_S} {Q : Option mw_V → mw_S → Prop} : mw_WP d 166 58 [some (jR x), l1, l2, l3, l4, l5] st σ Q ↔ mw_WP d 166 59 [some (jR x), l1, l2, l3, l4, l5] (jR x :: st) σ Q := WP_aload_n mq166 dd166_58 rfl
theorem dd166_59 : decode cX11_seenRefusal 59 = .ok (.getfield 42, 3) := by decide +kernel
theorem ww166_59 {d : Nat} {l0 l1 l2 l3 l4 l5 : Option mw_V} {st : List mw_V} {σ : mw_S} {Q : Option mw_V → mw_S → Prop} : mw_WP d 166 59 [l0, l1, l2, l3, l4, l5] (jR 0 :: st) σ Q ↔ mw_WP d 166 62 [l0, l1, l2, l3, l4, l5] (jR 37 :: st) σ Q := WP_getR (ci := 10) (k := 4) mq166 dd166_59 (by decide) rfl
theorem dd166_62 : decode cX11_seenRefusal 62 = .ok (.iload_n 1, 1) := by decide +kernel
theorem ww166_62 {d : Nat} {l0 l2 l3 l4 l5 : Option mw_V} {x : Int} {st : List mw_V} {σ : mw_S} {Q : Option mw_V → mw_S → Prop} : mw_WP d 166 62 [l0, some (jI x), l2, l3, l4, l5] st σ Q ↔ mw_WP d 166 63 [l0, some (jI x), l2, l3, l4, l5] (jI x :: st) σ Q := WP_iload_n mq166 dd166_62 rfl
theorem dd166_63 : decode cX11_seenRefusal 63 = .ok (.iload_n 3, 1) := by decide +kernel
theorem ww166_63 {d : Nat} {l0 l1 l2 l4 l5 : Option mw_V} {x : Int} {st : List mw_V} {σ : mw_S} {Q : Option mw_V → mw_S → Prop} : mw_WP d 166 63 [l0, l1, l2, some (jI x), l4, l5] st σ Q ↔ mw_WP d 166 64 [l0, l1, l2, some (jI x), l4, l5] (jI x :: st) σ Q := WP_iload_n mq166 dd166_63 rfl
theorem dd166_64 : decode cX11_seenRefusal 64 = .ok (.invokevirtual 382, 3) := by decide +kernel
theorem ww166_64 {d : Nat} {l0 l1 l2 l3 l4 l5 : Option mw_V} {v0 v1 : mw_V} {a : Nat} {st : List mw_V} {σ : mw_S} {Q : Option mw_V → mw_S → Prop} (hr : mw_rc a = 10) (h8 : (st.map mw_cat).sum ≤ 8) : mw_WP d 166 64 [l0, l1, l2, l3, l4, l5] (v1 :: v0 :: jR a :: st) σ Q ↔ mw_Call d 115 [jR a, v0, v1] σ (fun r1 s1 => mw_WP d 166 67 [l0, l1, l2, l3, l4, l5] (r1.toList ++ st) s1 Q) := WP_inv (as := [v1, v0]) mq166 dd166_64 (by decide) mq115 rfl hr h8
theorem dd166_67 : decode cX11_seenRefusal 67 = .ok (.lstore 4, 2) := by decide +kernel
theorem ww166_67 {d : Nat} {l0 l1 l2 l3 l4 l5 : Option mw_V} {x : Int} {st : List mw_V} {σ : mw_S} {Q : Option mw_V → mw_S → Prop} (h : mw_nlo l3 = true) : mw_WP d 166 67 [l0, l1, l2, l3, l4, l5] (jL x :: st) σ Q ↔ mw_WP d 166 69 [l0, l1, l2, l3, some (jL x), none] st σ Q := WP_lstore mq166 dd166_67 (Nat.le_of_ble_eq_true rfl) (mw_nl_of (i := 3) rfl h) rfl
theorem dd166_69 : decode cX11_seenRefusal 69 = .ok (.lload 4, 2) := by decide +kernel
theorem ww166_69 {d : Nat} {l0 l1 l2 l3 l5 : Option mw_V} {x : Int} {st : List mw_V} {σ : mw_S} {Q : Option mw_V → mw_S → Prop} : mw_WP d 166 69 [l0, l1, l2, l3, some (jL x), l5] st σ Q ↔ mw_WP d 166 71 [l0, l1, l2, l3, some (jL x), l5] (jL x :: st) σ Q := WP_lload mq166 dd166_69 rfl
theorem dd166_71 : decode cX11_seenRefusal 71 = .ok (.lconst 0, 1) := by decide +kernel
theorem ww166_71 {d : Nat} {l0 l1 l2 l3 l4 l5 : Option mw_V} {st : List mw_V} {σ : mw_S} {Q : Option mw_V → mw_S → Prop} : mw_WP d 166 71 [l0, l1, l2, l3, l4, l5] st σ Q ↔ mw_WP d 166 72 [l0, l1, l2, l3, l4, l5] (jL (0) :: st) σ Q := WP_lconst mq166 dd166_71 (by decide)
theorem dd166_72 : decode cX11_seenRefusal 72 = .ok (.lcmp, 1) := by decide +kernel
theorem ww166_72 {d : Nat} {l0 l1 l2 l3 l4 l5 : Option mw_V} {x y : Int} {st : List mw_V} {σ : mw_S} {Q : Option mw_V → mw_S → Prop} : mw_WP d 166 72 [l0, l1, l2, l3, l4, l5] (jL y :: jL x :: st) σ Q ↔ mw_WP d 166 73 [l0, l1, l2, l3, l4, l5] (jI (yCmp x y) :: st) σ Q := WP_lcmp mq166 dd166_72
theorem dd166_73 : decode cX11_seenRefusal 73 = .ok (.ifCond .lt 12, 3) := by decide +kernel
theorem ww166_73 {d : Nat} {l0 l1 l2 l3 l4 l5 : Option mw_V} {x : Int} {st : List mw_V} {σ : mw_S} {Q : Option mw_V → mw_S → Prop} : mw_WP d 166 73 [l0, l1, l2, l3, l4, l5] (jI x :: st) σ Q ↔ (if x < 0 then mw_WP d 166 85 [l0, l1, l2, l3, l4, l5] st σ Q else mw_WP d 166 76 [l0, l1, l2, l3, l4, l5] st σ Q) := WP_if_lt mq166 dd166_73 (by decide)
theorem dd166_76 : decode cX11_seenRefusal 76 = .ok (.lload 4, 2) := by decide +kernel
theorem ww166_76 {d : Nat} {l0 l1 l2 l3 l5 : Option mw_V} {x : Int} {st : List mw_V} {σ : mw_S} {Q : Option mw_V → mw_S → Prop} : mw_WP d 166 76 [l0, l1, l2, l3, some (jL x), l5] st σ Q ↔ mw_WP d 166 78 [l0, l1, l2, l3, some (jL x), l5] (jL x :: st) σ Q := WP_lload mq166 dd166_76 rfl
theorem dd166_78 : decode cX11_seenRefusal 78 = .ok (.ldc2_w 386, 3) := by decide +kernel
theorem ww166_78 {d : Nat} {l0 l1 l2 l3 l4 l5 : Option mw_V} {st : List mw_V} {σ : mw_S} {Q : Option mw_V → mw_S → Prop} : mw_WP d 166 78 [l0, l1, l2, l3, l4, l5] st σ Q ↔ mw_WP d 166 81 [l0, l1, l2, l3, l4, l5] (jL (81) :: st) σ Q := WP_ldc2_w (v := 81) mq166 dd166_78 (by decide) (by decide)
theorem dd166_81 : decode cX11_seenRefusal 81 = .ok (.lcmp, 1) := by decide +kernel
theorem ww166_81 {d : Nat} {l0 l1 l2 l3 l4 l5 : Option mw_V} {x y : Int} {st : List mw_V} {σ : mw_S} {Q : Option mw_V → mw_S → Prop} : mw_WP d 166 81 [l0, l1, l2, l3, l4, l5] (jL y :: jL x :: st) σ Q ↔ mw_WP d 166 82 [l0, l1, l2, l3, l4, l5] (jI (yCmp x y) :: st) σ Q := WP_lcmp mq166 dd166_81
theorem dd166_82 : decode cX11_seenRefusal 82 = .ok (.ifCond .lt 6, 3) := by decide +kernel
theorem ww166_82 {d : Nat} {l0 l1 l2 l3 l4 l5 : Option mw_V} {x : Int} {st : List mw_V} {σ : mw_S} {Q : Option mw_V → mw_S → Prop} : mw_WP d 166 82 [l0, l1, l2, l3, l4, l5] (jI x :: st) σ Q ↔ (if x < 0 then mw_WP d 166 88 [l0, l1, l2, l3, l4, l5] st σ Q else mw_WP d 166 85 [l0, l1, l2, l3, l4, l5] st σ Q) := WP_if_lt mq166 dd166_82 (by decide)
theorem dd166_85 : decode cX11_seenRefusal 85 = .ok (.bipush (-3), 2) := by decide +kernel
theorem ww166_85 {d : Nat} {l0 l1 l2 l3 l4 l5 : Option mw_V} {st : List mw_V} {σ : mw_S} {Q : Option mw_V → mw_S → Prop} : mw_WP d 166 85 [l0, l1, l2, l3, l4, l5] st σ Q ↔ mw_WP d 166 87 [l0, l1, l2, l3, l4, l5] (jI (-3) :: st) σ Q := WP_bipush mq166 dd166_85 (by decide)
theorem dd166_87 : decode cX11_seenRefusal 87 = .ok (.ireturn, 1) := by decide +kernel
theorem ww166_87 {d : Nat} {l0 l1 l2 l3 l4 l5 : Option mw_V} {z : Int} {σ : mw_S} {Q : Option mw_V → mw_S → Prop} : mw_WP d 166 87 [l0, l1, l2, l3, l4, l5] [jI z] σ Q ↔ Q (some (jI z)) σ := WP_ireturn (ty := .int) mq166 dd166_87 rfl rfl
theorem dd166_88 : decode cX11_seenRefusal 88 = .ok (.iinc 3 1, 3) := by decide +kernel
theorem ww166_88 {d : Nat} {l0 l1 l2 l4 l5 : Option mw_V} {x : Int} {st : List mw_V} {σ : mw_S} {Q : Option mw_V → mw_S → Prop} (h : mw_nlo l2 = true) : mw_WP d 166 88 [l0, l1, l2, some (jI x), l4, l5] st σ Q ↔ mw_WP d 166 91 [l0, l1, l2, some (jI (w32 (x + (1)))), l4, l5] st σ Q := WP_iinc mq166 dd166_88 rfl (Nat.le_of_ble_eq_true rfl) (mw_nl_of (i := 2) rfl h) rfl
theorem dd166_91 : decode cX11_seenRefusal 91 = .ok (.goto (-38), 3) := by decide +kernel
theorem ww166_91 {d : Nat} {l0 l1 l2 l3 l4 l5 : Option mw_V} {st : List mw_V} {σ : mw_S} {Q : Option mw_V → mw_S → Prop} : mw_WP d 166 91 [l0, l1, l2, l3, l4, l5] st σ Q ↔ mw_WP d 166 53 [l0, l1, l2, l3, l4, l5] st σ Q := WP_goto mq166 dd166_91 (by decide)
theorem dd166_94 : decode cX11_seenRefusal 94 = .ok (.iconst 0, 1) := by decide +kernel
theorem ww166_94 {d : Nat} {l0 l1 l2 l3 l4 l5 : Option mw_V} {st : List mw_V} {σ : mw_S} {Q : Option mw_V → mw_S → Prop} : mw_WP d 166 94 [l0, l1, l2, l3, l4, l5] st σ Q ↔ mw_WP d 166 95 [l0, l1, l2, l3, l4, l5] (jI (0) :: st) σ Q := WP_iconst mq166 dd166_94 (by decide)
theorem dd166_95 : decode cX11_seenRefusal 95 = .ok (.ireturn, 1) := by decide +kernel
theorem ww166_95 {d : Nat} {l0 l1 l2 l3 l4 l5 : Option mw_V} {z : Int} {σ : mw_S} {Q : Option mw_V → mw_S → Prop} : mw_WP d 166 95 [l0, l1, l2, l3, l4, l5] [jI z] σ Q ↔ Q (some (jI z)) σ := WP_ireturn (ty := .int) mq166 dd166_95 rfl rfl
theorem ee167 {d : Nat} {a : Nat} {z0 : Int} {z1 : Int} {σ : mw_S} {Q : Option mw_V → mw_S → Prop} : mw_Call (d + 1) 167 [jR a, jI z0, jI z1] σ Q ↔ mw_WP d 167 0 [some (jR a), some (jI z0), some (jI z1), none, none, none, none] [] σ Q := CL_u mq167 (Nat.le_of_ble_eq_true rfl) rfl
theorem dd167_0 : decode cX11_meantRefusal 0 = .ok (.aload_n 0, 1) := by decide +kernel
theorem ww167_0 {d : Nat} {l1 l2 l3 l4 l5 l6 : Option mw_V} {x : Nat} {st : List mw_V} {σ : mw_S} {Q : Option mw_V → mw_S → Prop} : mw_WP d 167 0 [some (jR x), l1, l2, l3, l4, l5, l6] st σ Q ↔ mw_WP d 167 1 [some (jR x), l1, l2, l3, l4, l5, l6] (jR x :: st) σ Q := WP_aload_n mq167 dd167_0 rfl
theorem dd167_1 : decode cX11_meantRefusal 1 = .ok (.iload_n 1, 1) := by decide +kernel
theorem ww167_1 {d : Nat} {l0 l2 l3 l4 l5 l6 : Option mw_V} {x : Int} {st : List mw_V} {σ : mw_S} {Q : Option mw_V → mw_S → Prop} : mw_WP d 167 1 [l0, some (jI x), l2, l3, l4, l5, l6] st σ Q ↔ mw_WP d 167 2 [l0, some (jI x), l2, l3, l4, l5, l6] (jI x :: st) σ Q := WP_iload_n mq167 dd167_1 rfl
theorem dd167_2 : decode cX11_meantRefusal 2 = .ok (.invokevirtual 131, 3) := by decide +kernel
theorem ww167_2 {d : Nat} {l0 l1 l2 l3 l4 l5 l6 : Option mw_V} {v0 : mw_V} {a : Nat} {st : List mw_V} {σ : mw_S} {Q : Option mw_V → mw_S → Prop} (hr : mw_rc a = 11) (h8 : (st.map mw_cat).sum ≤ 8) : mw_WP d 167 2 [l0, l1, l2, l3, l4, l5, l6] (v0 :: jR a :: st) σ Q ↔ mw_Call d 157 [jR a, v0] σ (fun r1 s1 => mw_WP d 167 5 [l0, l1, l2, l3, l4, l5, l6] (r1.toList ++ st) s1 Q) := WP_inv (as := [v0]) mq167 dd167_2 (by decide) mq157 rfl hr h8
theorem dd167_5 : decode cX11_meantRefusal 5 = .ok (.ifCond .eq 14, 3) := by decide +kernel
theorem ww167_5 {d : Nat} {l0 l1 l2 l3 l4 l5 l6 : Option mw_V} {x : Int} {st : List mw_V} {σ : mw_S} {Q : Option mw_V → mw_S → Prop} : mw_WP d 167 5 [l0, l1, l2, l3, l4, l5, l6] (jI x :: st) σ Q ↔ (if x = 0 then mw_WP d 167 19 [l0, l1, l2, l3, l4, l5, l6] st σ Q else mw_WP d 167 8 [l0, l1, l2, l3, l4, l5, l6] st σ Q) := WP_if_eq mq167 dd167_5 (by decide)
theorem dd167_8 : decode cX11_meantRefusal 8 = .ok (.aload_n 0, 1) := by decide +kernel
theorem ww167_8 {d : Nat} {l1 l2 l3 l4 l5 l6 : Option mw_V} {x : Nat} {st : List mw_V} {σ : mw_S} {Q : Option mw_V → mw_S → Prop} : mw_WP d 167 8 [some (jR x), l1, l2, l3, l4, l5, l6] st σ Q ↔ mw_WP d 167 9 [some (jR x), l1, l2, l3, l4, l5, l6] (jR x :: st) σ Q := WP_aload_n mq167 dd167_8 rfl
theorem dd167_9 : decode cX11_meantRefusal 9 = .ok (.getfield 42, 3) := by decide +kernel
theorem ww167_9 {d : Nat} {l0 l1 l2 l3 l4 l5 l6 : Option mw_V} {st : List mw_V} {σ : mw_S} {Q : Option mw_V → mw_S → Prop} : mw_WP d 167 9 [l0, l1, l2, l3, l4, l5, l6] (jR 0 :: st) σ Q ↔ mw_WP d 167 12 [l0, l1, l2, l3, l4, l5, l6] (jR 37 :: st) σ Q := WP_getR (ci := 10) (k := 4) mq167 dd167_9 (by decide) rfl
theorem dd167_12 : decode cX11_meantRefusal 12 = .ok (.iload_n 2, 1) := by decide +kernel
theorem ww167_12 {d : Nat} {l0 l1 l3 l4 l5 l6 : Option mw_V} {x : Int} {st : List mw_V} {σ : mw_S} {Q : Option mw_V → mw_S → Prop} : mw_WP d 167 12 [l0, l1, some (jI x), l3, l4, l5, l6] st σ Q ↔ mw_WP d 167 13 [l0, l1, some (jI x), l3, l4, l5, l6] (jI x :: st) σ Q := WP_iload_n mq167 dd167_12 rfl
theorem dd167_13 : decode cX11_meantRefusal 13 = .ok (.invokevirtual 176, 3) := by decide +kernel
theorem ww167_13 {d : Nat} {l0 l1 l2 l3 l4 l5 l6 : Option mw_V} {v0 : mw_V} {a : Nat} {st : List mw_V} {σ : mw_S} {Q : Option mw_V → mw_S → Prop} (hr : mw_rc a = 10) (h8 : (st.map mw_cat).sum ≤ 8) : mw_WP d 167 13 [l0, l1, l2, l3, l4, l5, l6] (v0 :: jR a :: st) σ Q ↔ mw_Call d 112 [jR a, v0] σ (fun r1 s1 => mw_WP d 167 16 [l0, l1, l2, l3, l4, l5, l6] (r1.toList ++ st) s1 Q) := WP_inv (as := [v0]) mq167 dd167_13 (by decide) mq112 rfl hr h8
theorem dd167_16 : decode cX11_meantRefusal 16 = .ok (.ifCond .ne 6, 3) := by decide +kernel
theorem ww167_16 {d : Nat} {l0 l1 l2 l3 l4 l5 l6 : Option mw_V} {x : Int} {st : List mw_V} {σ : mw_S} {Q : Option mw_V → mw_S → Prop} : mw_WP d 167 16 [l0, l1, l2, l3, l4, l5, l6] (jI x :: st) σ Q ↔ (if ¬ x = 0 then mw_WP d 167 22 [l0, l1, l2, l3, l4, l5, l6] st σ Q else mw_WP d 167 19 [l0, l1, l2, l3, l4, l5, l6] st σ Q) := WP_if_ne mq167 dd167_16 (by decide)
theorem dd167_19 : decode cX11_meantRefusal 19 = .ok (.bipush (-2), 2) := by decide +kernel
theorem ww167_19 {d : Nat} {l0 l1 l2 l3 l4 l5 l6 : Option mw_V} {st : List mw_V} {σ : mw_S} {Q : Option mw_V → mw_S → Prop} : mw_WP d 167 19 [l0, l1, l2, l3, l4, l5, l6] st σ Q ↔ mw_WP d 167 21 [l0, l1, l2, l3, l4, l5, l6] (jI (-2) :: st) σ Q := WP_bipush mq167 dd167_19 (by decide)
theorem dd167_21 : decode cX11_meantRefusal 21 = .ok (.ireturn, 1) := by decide +kernel
theorem ww167_21 {d : Nat} {l0 l1 l2 l3 l4 l5 l6 : Option mw_V} {z : Int} {σ : mw_S} {Q : Option mw_V → mw_S → Prop} : mw_WP d 167 21 [l0, l1, l2, l3, l4, l5, l6] [jI z] σ Q ↔ Q (some (jI z)) σ := WP_ireturn (ty := .int) mq167 dd167_21 rfl rfl
theorem dd167_22 : decode cX11_meantRefusal 22 = .ok (.aload_n 0, 1) := by decide +kernel
theorem ww167_22 {d : Nat} {l1 l2 l3 l4 l5 l6 : Option mw_V} {x : Nat} {st : List mw_V} {σ : mw_S} {Q : Option mw_V → mw_S → Prop} : mw_WP d 167 22 [some (jR x), l1, l2, l3, l4, l5, l6] st σ Q ↔ mw_WP d 167 23 [some (jR x), l1, l2, l3, l4, l5, l6] (jR x :: st) σ Q := WP_aload_n mq167 dd167_22 rfl
theorem dd167_23 : decode cX11_meantRefusal 23 = .ok (.getfield 42, 3) := by decide +kernel
theorem ww167_23 {d : Nat} {l0 l1 l2 l3 l4 l5 l6 : Option mw_V} {st : List mw_V} {σ : mw_S} {Q : Option mw_V → mw_S → Prop} : mw_WP d 167 23 [l0, l1, l2, l3, l4, l5, l6] (jR 0 :: st) σ Q ↔ mw_WP d 167 26 [l0, l1, l2, l3, l4, l5, l6] (jR 37 :: st) σ Q := WP_getR (ci := 10) (k := 4) mq167 dd167_23 (by decide) rfl
theorem dd167_26 : decode cX11_meantRefusal 26 = .ok (.iload_n 2, 1) := by decide +kernel
theorem ww167_26 {d : Nat} {l0 l1 l3 l4 l5 l6 : Option mw_V} {x : Int} {st : List mw_V} {σ : mw_S} {Q : Option mw_V → mw_S → Prop} : mw_WP d 167 26 [l0, l1, some (jI x), l3, l4, l5, l6] st σ Q ↔ mw_WP d 167 27 [l0, l1, some (jI x), l3, l4, l5, l6] (jI x :: st) σ Q := WP_iload_n mq167 dd167_26 rfl
theorem dd167_27 : decode cX11_meantRefusal 27 = .ok (.invokevirtual 179, 3) := by decide +kernel
theorem ww167_27 {d : Nat} {l0 l1 l2 l3 l4 l5 l6 : Option mw_V} {v0 : mw_V} {a : Nat} {st : List mw_V} {σ : mw_S} {Q : Option mw_V → mw_S → Prop} (hr : mw_rc a = 10) (h8 : (st.map mw_cat).sum ≤ 8) : mw_WP d 167 27 [l0, l1, l2, l3, l4, l5, l6] (v0 :: jR a :: st) σ Q ↔ mw_Call d 113 [jR a, v0] σ (fun r1 s1 => mw_WP d 167 30 [l0, l1, l2, l3, l4, l5, l6] (r1.toList ++ st) s1 Q) := WP_inv (as := [v0]) mq167 dd167_27 (by decide) mq113 rfl hr h8
theorem dd167_30 : decode cX11_meantRefusal 30 = .ok (.ifCond .eq 6, 3) := by decide +kernel
theorem ww167_30 {d : Nat} {l0 l1 l2 l3 l4 l5 l6 : Option mw_V} {x : Int} {st : List mw_V} {σ : mw_S} {Q : Option mw_V → mw_S → Prop} : mw_WP d 167 30 [l0, l1, l2, l3, l4, l5, l6] (jI x :: st) σ Q ↔ (if x = 0 then mw_WP d 167 36 [l0, l1, l2, l3, l4, l5, l6] st σ Q else mw_WP d 167 33 [l0, l1, l2, l3, l4, l5, l6] st σ Q) := WP_if_eq mq167 dd167_30 (by decide)
theorem dd167_33 : decode cX11_meantRefusal 33 = .ok (.bipush (-6), 2) := by decide +kernel
theorem ww167_33 {d : Nat} {l0 l1 l2 l3 l4 l5 l6 : Option mw_V} {st : List mw_V} {σ : mw_S} {Q : Option mw_V → mw_S → Prop} : mw_WP d 167 33 [l0, l1, l2, l3, l4, l5, l6] st σ Q ↔ mw_WP d 167 35 [l0, l1, l2, l3, l4, l5, l6] (jI (-6) :: st) σ Q := WP_bipush mq167 dd167_33 (by decide)
theorem dd167_35 : decode cX11_meantRefusal 35 = .ok (.ireturn, 1) := by decide +kernel
theorem ww167_35 {d : Nat} {l0 l1 l2 l3 l4 l5 l6 : Option mw_V} {z : Int} {σ : mw_S} {Q : Option mw_V → mw_S → Prop} : mw_WP d 167 35 [l0, l1, l2, l3, l4, l5, l6] [jI z] σ Q ↔ Q (some (jI z)) σ := WP_ireturn (ty := .int) mq167 dd167_35 rfl rfl
theorem dd167_36 : decode cX11_meantRefusal 36 = .ok (.aload_n 0, 1) := by decide +kernel
theorem ww167_36 {d : Nat} {l1 l2 l3 l4 l5 l6 : Option mw_V} {x : Nat} {st : List mw_V} {σ : mw_S} {Q : Option mw_V → mw_S → Prop} : mw_WP d 167 36 [some (jR x), l1, l2, l3, l4, l5, l6] st σ Q ↔ mw_WP d 167 37 [some (jR x), l1, l2, l3, l4, l5, l6] (jR x :: st) σ Q := WP_aload_n mq167 dd167_36 rfl
theorem dd167_37 : decode cX11_meantRefusal 37 = .ok (.getfield 42, 3) := by decide +kernel
theorem ww167_37 {d : Nat} {l0 l1 l2 l3 l4 l5 l6 : Option mw_V} {st : List mw_V} {σ : mw_S} {Q : Option mw_V → mw_S → Prop} : mw_WP d 167 37 [l0, l1, l2, l3, l4, l5, l6] (jR 0 :: st) σ Q ↔ mw_WP d 167 40 [l0, l1, l2, l3, l4, l5, l6] (jR 37 :: st) σ Q := WP_getR (ci := 10) (k := 4) mq167 dd167_37 (by decide) rfl
theorem dd167_40 : decode cX11_meantRefusal 40 = .ok (.iload_n 2, 1) := by decide +kernel
theorem ww167_40 {d : Nat} {l0 l1 l3 l4 l5 l6 : Option mw_V} {x : Int} {st : List mw_V} {σ : mw_S} {Q : Option mw_V → mw_S → Prop} : mw_WP d 167 40 [l0, l1, some (jI x), l3, l4, l5, l6] st σ Q ↔ mw_WP d 167 41 [l0, l1, some (jI x), l3, l4, l5, l6] (jI x :: st) σ Q := WP_iload_n mq167 dd167_40 rfl
theorem dd167_41 : decode cX11_meantRefusal 41 = .ok (.invokevirtual 188, 3) := by decide +kernel
theorem ww167_41 {d : Nat} {l0 l1 l2 l3 l4 l5 l6 : Option mw_V} {v0 : mw_V} {a : Nat} {st : List mw_V} {σ : mw_S} {Q : Option mw_V → mw_S → Prop} (hr : mw_rc a = 10) (h8 : (st.map mw_cat).sum ≤ 8) : mw_WP d 167 41 [l0, l1, l2, l3, l4, l5, l6] (v0 :: jR a :: st) σ Q ↔ mw_Call d 114 [jR a, v0] σ (fun r1 s1 => mw_WP d 167 44 [l0, l1, l2, l3, l4, l5, l6] (r1.toList ++ st) s1 Q) := WP_inv (as := [v0]) mq167 dd167_41 (by decide) mq114 rfl hr h8
theorem dd167_44 : decode cX11_meantRefusal 44 = .ok (.istore_n 3, 1) := by decide +kernel
theorem ww167_44 {d : Nat} {l0 l1 l2 l3 l4 l5 l6 : Option mw_V} {x : Int} {st : List mw_V} {σ : mw_S} {Q : Option mw_V → mw_S → Prop} (h : mw_nlo l2 = true) : mw_WP d 167 44 [l0, l1, l2, l3, l4, l5, l6] (jI x :: st) σ Q ↔ mw_WP d 167 45 [l0, l1, l2, some (jI x), l4, l5, l6] st σ Q := WP_istore_n mq167 dd167_44 (Nat.le_of_ble_eq_true rfl) (mw_nl_of (i := 2) rfl h) rfl
theorem dd167_45 : decode cX11_meantRefusal 45 = .ok (.iload_n 3, 1) := by decide +kernel
theorem ww167_45 {d : Nat} {l0 l1 l2 l4 l5 l6 : Option mw_V} {x : Int} {st : List mw_V} {σ : mw_S} {Q : Option mw_V → mw_S → Prop} : mw_WP d 167 45 [l0, l1, l2, some (jI x), l4, l5, l6] st σ Q ↔ mw_WP d 167 46 [l0, l1, l2, some (jI x), l4, l5, l6] (jI x :: st) σ Q := WP_iload_n mq167 dd167_45 rfl
theorem dd167_46 : decode cX11_meantRefusal 46 = .ok (.iconst 1, 1) := by decide +kernel
theorem ww167_46 {d : Nat} {l0 l1 l2 l3 l4 l5 l6 : Option mw_V} {st : List mw_V} {σ : mw_S} {Q : Option mw_V → mw_S → Prop} : mw_WP d 167 46 [l0, l1, l2, l3, l4, l5, l6] st σ Q ↔ mw_WP d 167 47 [l0, l1, l2, l3, l4, l5, l6] (jI (1) :: st) σ Q := WP_iconst mq167 dd167_46 (by decide)
theorem dd167_47 : decode cX11_meantRefusal 47 = .ok (.if_icmp .lt 8, 3) := by decide +kernel
theorem ww167_47 {d : Nat} {l0 l1 l2 l3 l4 l5 l6 : Option mw_V} {x y : Int} {st : List mw_V} {σ : mw_S} {Q : Option mw_V → mw_S → Prop} : mw_WP d 167 47 [l0, l1, l2, l3, l4, l5, l6] (jI y :: jI x :: st) σ Q ↔ (if x < y then mw_WP d 167 55 [l0, l1, l2, l3, l4, l5, l6] st σ Q else mw_WP d 167 50 [l0, l1, l2, l3, l4, l5, l6] st σ Q) := WP_icmp_lt mq167 dd167_47 (by decide)
theorem dd167_50 : decode cX11_meantRefusal 50 = .ok (.iload_n 3, 1) := by decide +kernel
theorem ww167_50 {d : Nat} {l0 l1 l2 l4 l5 l6 : Option mw_V} {x : Int} {st : List mw_V} {σ : mw_S} {Q : Option mw_V → mw_S → Prop} : mw_WP d 167 50 [l0, l1, l2, some (jI x), l4, l5, l6] st σ Q ↔ mw_WP d 167 51 [l0, l1, l2, some (jI x), l4, l5, l6] (jI x :: st) σ Q := WP_iload_n mq167 dd167_50 rfl
theorem dd167_51 : decode cX11_meantRefusal 51 = .ok (.iconst 5, 1) := by decide +kernel
theorem ww167_51 {d : Nat} {l0 l1 l2 l3 l4 l5 l6 : Option mw_V} {st : List mw_V} {σ : mw_S} {Q : Option mw_V → mw_S → Prop} : mw_WP d 167 51 [l0, l1, l2, l3, l4, l5, l6] st σ Q ↔ mw_WP d 167 52 [l0, l1, l2, l3, l4, l5, l6] (jI (5) :: st) σ Q := WP_iconst mq167 dd167_51 (by decide)
theorem dd167_52 : decode cX11_meantRefusal 52 = .ok (.if_icmp .le 6, 3) := by decide +kernel
theorem ww167_52 {d : Nat} {l0 l1 l2 l3 l4 l5 l6 : Option mw_V} {x y : Int} {st : List mw_V} {σ : mw_S} {Q : Option mw_V → mw_S → Prop} : mw_WP d 167 52 [l0, l1, l2, l3, l4, l5, l6] (jI y :: jI x :: st) σ Q ↔ (if x ≤ y then mw_WP d 167 58 [l0, l1, l2, l3, l4, l5, l6] st σ Q else mw_WP d 167 55 [l0, l1, l2, l3, l4, l5, l6] st σ Q) := WP_icmp_le mq167 dd167_52 (by decide)
theorem dd167_55 : decode cX11_meantRefusal 55 = .ok (.bipush (-4), 2) := by decide +kernel
theorem ww167_55 {d : Nat} {l0 l1 l2 l3 l4 l5 l6 : Option mw_V} {st : List mw_V} {σ : mw_S} {Q : Option mw_V → mw_S → Prop} : mw_WP d 167 55 [l0, l1, l2, l3, l4, l5, l6] st σ Q ↔ mw_WP d 167 57 [l0, l1, l2, l3, l4, l5, l6] (jI (-4) :: st) σ Q := WP_bipush mq167 dd167_55 (by decide)
theorem dd167_57 : decode cX11_meantRefusal 57 = .ok (.ireturn, 1) := by decide +kernel
theorem ww167_57 {d : Nat} {l0 l1 l2 l3 l4 l5 l6 : Option mw_V} {z : Int} {σ : mw_S} {Q : Option mw_V → mw_S → Prop} : mw_WP d 167 57 [l0, l1, l2, l3, l4, l5, l6] [jI z] σ Q ↔ Q (some (jI z)) σ := WP_ireturn (ty := .int) mq167 dd167_57 rfl rfl
theorem dd167_58 : decode cX11_meantRefusal 58 = .ok (.aload_n 0, 1) := by decide +kernel
theorem ww167_58 {d : Nat} {l1 l2 l3 l4 l5 l6 : Option mw_V} {x : Nat} {st : List mw_V} {σ : mw_S} {Q : Option mw_V → mw_S → Prop} : mw_WP d 167 58 [some (jR x), l1, l2, l3, l4, l5, l6] st σ Q ↔ mw_WP d 167 59 [some (jR x), l1, l2, l3, l4, l5, l6] (jR x :: st) σ Q := WP_aload_n mq167 dd167_58 rfl
theorem dd167_59 : decode cX11_meantRefusal 59 = .ok (.getfield 58, 3) := by decide +kernel
theorem ww167_59 {d : Nat} {l0 l1 l2 l3 l4 l5 l6 : Option mw_V} {st : List mw_V} {σ : mw_S} {Q : Option mw_V → mw_S → Prop} : mw_WP d 167 59 [l0, l1, l2, l3, l4, l5, l6] (jR 0 :: st) σ Q ↔ mw_WP d 167 62 [l0, l1, l2, l3, l4, l5, l6] (jR 55 :: st) σ Q := WP_getR (ci := 10) (k := 6) mq167 dd167_59 (by decide) rfl
theorem dd167_62 : decode cX11_meantRefusal 62 = .ok (.invokevirtual 388, 3) := by decide +kernel
theorem ww167_62 {d : Nat} {l0 l1 l2 l3 l4 l5 l6 : Option mw_V} {a : Nat} {st : List mw_V} {σ : mw_S} {Q : Option mw_V → mw_S → Prop} (hr : mw_rc a = 3) (h8 : (st.map mw_cat).sum ≤ 8) : mw_WP d 167 62 [l0, l1, l2, l3, l4, l5, l6] (jR a :: st) σ Q ↔ mw_Call d 19 [jR a] σ (fun r1 s1 => mw_WP d 167 65 [l0, l1, l2, l3, l4, l5, l6] (r1.toList ++ st) s1 Q) := WP_inv (as := []) mq167 dd167_62 (by decide) mq19 rfl hr h8
theorem dd167_65 : decode cX11_meantRefusal 65 = .ok (.iconst 0, 1) := by decide +kernel
theorem ww167_65 {d : Nat} {l0 l1 l2 l3 l4 l5 l6 : Option mw_V} {st : List mw_V} {σ : mw_S} {Q : Option mw_V → mw_S → Prop} : mw_WP d 167 65 [l0, l1, l2, l3, l4, l5, l6] st σ Q ↔ mw_WP d 167 66 [l0, l1, l2, l3, l4, l5, l6] (jI (0) :: st) σ Q := WP_iconst mq167 dd167_65 (by decide)
theorem dd167_66 : decode cX11_meantRefusal 66 = .ok (.istore 4, 2) := by decide +kernel
theorem ww167_66 {d : Nat} {l0 l1 l2 l3 l4 l5 l6 : Option mw_V} {x : Int} {st : List mw_V} {σ : mw_S} {Q : Option mw_V → mw_S → Prop} (h : mw_nlo l3 = true) : mw_WP d 167 66 [l0, l1, l2, l3, l4, l5, l6] (jI x :: st) σ Q ↔ mw_WP d 167 68 [l0, l1, l2, l3, some (jI x), l5, l6] st σ Q := WP_istore mq167 dd167_66 (Nat.le_of_ble_eq_true rfl) (mw_nl_of (i := 3) rfl h) rfl
theorem dd167_68 : decode cX11_meantRefusal 68 = .ok (.iload 4, 2) := by decide +kernel
theorem ww167_68 {d : Nat} {l0 l1 l2 l3 l5 l6 : Option mw_V} {x : Int} {st : List mw_V} {σ : mw_S} {Q : Option mw_V → mw_S → Prop} : mw_WP d 167 68 [l0, l1, l2, l3, some (jI x), l5, l6] st σ Q ↔ mw_WP d 167 70 [l0, l1, l2, l3, some (jI x), l5, l6] (jI x :: st) σ Q := WP_iload mq167 dd167_68 rfl
theorem dd167_70 : decode cX11_meantRefusal 70 = .ok (.iload_n 3, 1) := by decide +kernel
theorem ww167_70 {d : Nat} {l0 l1 l2 l4 l5 l6 : Option mw_V} {x : Int} {st : List mw_V} {σ : mw_S} {Q : Option mw_V → mw_S → Prop} : mw_WP d 167 70 [l0, l1, l2, some (jI x), l4, l5, l6] st σ Q ↔ mw_WP d 167 71 [l0, l1, l2, some (jI x), l4, l5, l6] (jI x :: st) σ Q := WP_iload_n mq167 dd167_70 rfl
theorem dd167_71 : decode cX11_meantRefusal 71 = .ok (.if_icmp .ge 52, 3) := by decide +kernel
theorem ww167_71 {d : Nat} {l0 l1 l2 l3 l4 l5 l6 : Option mw_V} {x y : Int} {st : List mw_V} {σ : mw_S} {Q : Option mw_V → mw_S → Prop} : mw_WP d 167 71 [l0, l1, l2, l3, l4, l5, l6] (jI y :: jI x :: st) σ Q ↔ (if y ≤ x then mw_WP d 167 123 [l0, l1, l2, l3, l4, l5, l6] st σ Q else mw_WP d 167 74 [l0, l1, l2, l3, l4, l5, l6] st σ Q) := WP_icmp_ge mq167 dd167_71 (by decide)
theorem dd167_74 : decode cX11_meantRefusal 74 = .ok (.aload_n 0, 1) := by decide +kernel
theorem ww167_74 {d : Nat} {l1 l2 l3 l4 l5 l6 : Option mw_V} {x : Nat} {st : List mw_V} {σ : mw_S} {Q : Option mw_V → mw_S → Prop} : mw_WP d 167 74 [some (jR x), l1, l2, l3, l4, l5, l6] st σ Q ↔ mw_WP d 167 75 [some (jR x), l1, l2, l3, l4, l5, l6] (jR x :: st) σ Q := WP_aload_n mq167 dd167_74 rfl
theorem dd167_75 : decode cX11_meantRefusal 75 = .ok (.getfield 42, 3) := by decide +kernel
theorem ww167_75 {d : Nat} {l0 l1 l2 l3 l4 l5 l6 : Option mw_V} {st : List mw_V} {σ : mw_S} {Q : Option mw_V → mw_S → Prop} : mw_WP d 167 75 [l0, l1, l2, l3, l4, l5, l6] (jR 0 :: st) σ Q ↔ mw_WP d 167 78 [l0, l1, l2, l3, l4, l5, l6] (jR 37 :: st) σ Q := WP_getR (ci := 10) (k := 4) mq167 dd167_75 (by decide) rfl
theorem dd167_78 : decode cX11_meantRefusal 78 = .ok (.iload_n 2, 1) := by decide +kernel
theorem ww167_78 {d : Nat} {l0 l1 l3 l4 l5 l6 : Option mw_V} {x : Int} {st : List mw_V} {σ : mw_S} {Q : Option mw_V → mw_S → Prop} : mw_WP d 167 78 [l0, l1, some (jI x), l3, l4, l5, l6] st σ Q ↔ mw_WP d 167 79 [l0, l1, some (jI x), l3, l4, l5, l6] (jI x :: st) σ Q := WP_iload_n mq167 dd167_78 rfl
theorem dd167_79 : decode cX11_meantRefusal 79 = .ok (.iload 4, 2) := by decide +kernel
theorem ww167_79 {d : Nat} {l0 l1 l2 l3 l5 l6 : Option mw_V} {x : Int} {st : List mw_V} {σ : mw_S} {Q : Option mw_V → mw_S → Prop} : mw_WP d 167 79 [l0, l1, l2, l3, some (jI x), l5, l6] st σ Q ↔ mw_WP d 167 81 [l0, l1, l2, l3, some (jI x), l5, l6] (jI x :: st) σ Q := WP_iload mq167 dd167_79 rfl
theorem dd167_81 : decode cX11_meantRefusal 81 = .ok (.invokevirtual 382, 3) := by decide +kernel
theorem ww167_81 {d : Nat} {l0 l1 l2 l3 l4 l5 l6 : Option mw_V} {v0 v1 : mw_V} {a : Nat} {st : List mw_V} {σ : mw_S} {Q : Option mw_V → mw_S → Prop} (hr : mw_rc a = 10) (h8 : (st.map mw_cat).sum ≤ 8) : mw_WP d 167 81 [l0, l1, l2, l3, l4, l5, l6] (v1 :: v0 :: jR a :: st) σ Q ↔ mw_Call d 115 [jR a, v0, v1] σ (fun r1 s1 => mw_WP d 167 84 [l0, l1, l2, l3, l4, l5, l6] (r1.toList ++ st) s1 Q) := WP_inv (as := [v1, v0]) mq167 dd167_81 (by decide) mq115 rfl hr h8
theorem dd167_84 : decode cX11_meantRefusal 84 = .ok (.lstore 5, 2) := by decide +kernel
theorem ww167_84 {d : Nat} {l0 l1 l2 l3 l4 l5 l6 : Option mw_V} {x : Int} {st : List mw_V} {σ : mw_S} {Q : Option mw_V → mw_S → Prop} (h : mw_nlo l4 = true) : mw_WP d 167 84 [l0, l1, l2, l3, l4, l5, l6] (jL x :: st) σ Q ↔ mw_WP d 167 86 [l0, l1, l2, l3, l4, some (jL x), none] st σ Q := WP_lstore mq167 dd167_84 (Nat.le_of_ble_eq_true rfl) (mw_nl_of (i := 4) rfl h) rfl
theorem dd167_86 : decode cX11_meantRefusal 86 = .ok (.lload 5, 2) := by decide +kernel
theorem ww167_86 {d : Nat} {l0 l1 l2 l3 l4 l6 : Option mw_V} {x : Int} {st : List mw_V} {σ : mw_S} {Q : Option mw_V → mw_S → Prop} : mw_WP d 167 86 [l0, l1, l2, l3, l4, some (jL x), l6] st σ Q ↔ mw_WP d 167 88 [l0, l1, l2, l3, l4, some (jL x), l6] (jL x :: st) σ Q := WP_lload mq167 dd167_86 rfl
theorem dd167_88 : decode cX11_meantRefusal 88 = .ok (.ldc2_w 391, 3) := by decide +kernel
theorem ww167_88 {d : Nat} {l0 l1 l2 l3 l4 l5 l6 : Option mw_V} {st : List mw_V} {σ : mw_S} {Q : Option mw_V → mw_S → Prop} : mw_WP d 167 88 [l0, l1, l2, l3, l4, l5, l6] st σ Q ↔ mw_WP d 167 91 [l0, l1, l2, l3, l4, l5, l6] (jL (-1) :: st) σ Q := WP_ldc2_w (v := -1) mq167 dd167_88 (by decide) (by decide)
theorem dd167_91 : decode cX11_meantRefusal 91 = .ok (.lcmp, 1) := by decide +kernel
theorem ww167_91 {d : Nat} {l0 l1 l2 l3 l4 l5 l6 : Option mw_V} {x y : Int} {st : List mw_V} {σ : mw_S} {Q : Option mw_V → mw_S → Prop} : mw_WP d 167 91 [l0, l1, l2, l3, l4, l5, l6] (jL y :: jL x :: st) σ Q ↔ mw_WP d 167 92 [l0, l1, l2, l3, l4, l5, l6] (jI (yCmp x y) :: st) σ Q := WP_lcmp mq167 dd167_91
theorem dd167_92 : decode cX11_meantRefusal 92 = .ok (.ifCond .eq 15, 3) := by decide +kernel
theorem ww167_92 {d : Nat} {l0 l1 l2 l3 l4 l5 l6 : Option mw_V} {x : Int} {st : List mw_V} {σ : mw_S} {Q : Option mw_V → mw_S → Prop} : mw_WP d 167 92 [l0, l1, l2, l3, l4, l5, l6] (jI x :: st) σ Q ↔ (if x = 0 then mw_WP d 167 107 [l0, l1, l2, l3, l4, l5, l6] st σ Q else mw_WP d 167 95 [l0, l1, l2, l3, l4, l5, l6] st σ Q) := WP_if_eq mq167 dd167_92 (by decide)
theorem dd167_95 : decode cX11_meantRefusal 95 = .ok (.aload_n 0, 1) := by decide +kernel
theorem ww167_95 {d : Nat} {l1 l2 l3 l4 l5 l6 : Option mw_V} {x : Nat} {st : List mw_V} {σ : mw_S} {Q : Option mw_V → mw_S → Prop} : mw_WP d 167 95 [some (jR x), l1, l2, l3, l4, l5, l6] st σ Q ↔ mw_WP d 167 96 [some (jR x), l1, l2, l3, l4, l5, l6] (jR x :: st) σ Q := WP_aload_n mq167 dd167_95 rfl
theorem dd167_96 : decode cX11_meantRefusal 96 = .ok (.lload 5, 2) := by decide +kernel
theorem ww167_96 {d : Nat} {l0 l1 l2 l3 l4 l6 : Option mw_V} {x : Int} {st : List mw_V} {σ : mw_S} {Q : Option mw_V → mw_S → Prop} : mw_WP d 167 96 [l0, l1, l2, l3, l4, some (jL x), l6] st σ Q ↔ mw_WP d 167 98 [l0, l1, l2, l3, l4, some (jL x), l6] (jL x :: st) σ Q := WP_lload mq167 dd167_96 rfl
theorem dd167_98 : decode cX11_meantRefusal 98 = .ok (.invokevirtual 293, 3) := by decide +kernel
theorem ww167_98 {d : Nat} {l0 l1 l2 l3 l4 l5 l6 : Option mw_V} {v0 : mw_V} {a : Nat} {st : List mw_V} {σ : mw_S} {Q : Option mw_V → mw_S → Prop} (hr : mw_rc a = 11) (h8 : (st.map mw_cat).sum ≤ 8) : mw_WP d 167 98 [l0, l1, l2, l3, l4, l5, l6] (v0 :: jR a :: st) σ Q ↔ mw_Call d 160 [jR a, v0] σ (fun r1 s1 => mw_WP d 167 101 [l0, l1, l2, l3, l4, l5, l6] (r1.toList ++ st) s1 Q) := WP_inv (as := [v0]) mq167 dd167_98 (by decide) mq160 rfl hr h8
theorem dd167_101 : decode cX11_meantRefusal 101 = .ok (.ifCond .ne 6, 3) := by decide +kernel
theorem ww167_101 {d : Nat} {l0 l1 l2 l3 l4 l5 l6 : Option mw_V} {x : Int} {st : List mw_V} {σ : mw_S} {Q : Option mw_V → mw_S → Prop} : mw_WP d 167 101 [l0, l1, l2, l3, l4, l5, l6] (jI x :: st) σ Q ↔ (if ¬ x = 0 then mw_WP d 167 107 [l0, l1, l2, l3, l4, l5, l6] st σ Q else mw_WP d 167 104 [l0, l1, l2, l3, l4, l5, l6] st σ Q) := WP_if_ne mq167 dd167_101 (by decide)
theorem dd167_104 : decode cX11_meantRefusal 104 = .ok (.bipush (-3), 2) := by decide +kernel
theorem ww167_104 {d : Nat} {l0 l1 l2 l3 l4 l5 l6 : Option mw_V} {st : List mw_V} {σ : mw_S} {Q : Option mw_V → mw_S → Prop} : mw_WP d 167 104 [l0, l1, l2, l3, l4, l5, l6] st σ Q ↔ mw_WP d 167 106 [l0, l1, l2, l3, l4, l5, l6] (jI (-3) :: st) σ Q := WP_bipush mq167 dd167_104 (by decide)
theorem dd167_106 : decode cX11_meantRefusal 106 = .ok (.ireturn, 1) := by decide +kernel
theorem ww167_106 {d : Nat} {l0 l1 l2 l3 l4 l5 l6 : Option mw_V} {z : Int} {σ : mw_S} {Q : Option mw_V → mw_S → Prop} : mw_WP d 167 106 [l0, l1, l2, l3, l4, l5, l6] [jI z] σ Q ↔ Q (some (jI z)) σ := WP_ireturn (ty := .int) mq167 dd167_106 rfl rfl
theorem dd167_107 : decode cX11_meantRefusal 107 = .ok (.aload_n 0, 1) := by decide +kernel
theorem ww167_107 {d : Nat} {l1 l2 l3 l4 l5 l6 : Option mw_V} {x : Nat} {st : List mw_V} {σ : mw_S} {Q : Option mw_V → mw_S → Prop} : mw_WP d 167 107 [some (jR x), l1, l2, l3, l4, l5, l6] st σ Q ↔ mw_WP d 167 108 [some (jR x), l1, l2, l3, l4, l5, l6] (jR x :: st) σ Q := WP_aload_n mq167 dd167_107 rfl
theorem dd167_108 : decode cX11_meantRefusal 108 = .ok (.getfield 58, 3) := by decide +kernel
theorem ww167_108 {d : Nat} {l0 l1 l2 l3 l4 l5 l6 : Option mw_V} {st : List mw_V} {σ : mw_S} {Q : Option mw_V → mw_S → Prop} : mw_WP d 167 108 [l0, l1, l2, l3, l4, l5, l6] (jR 0 :: st) σ Q ↔ mw_WP d 167 111 [l0, l1, l2, l3, l4, l5, l6] (jR 55 :: st) σ Q := WP_getR (ci := 10) (k := 6) mq167 dd167_108 (by decide) rfl
theorem dd167_111 : decode cX11_meantRefusal 111 = .ok (.lload 5, 2) := by decide +kernel
theorem ww167_111 {d : Nat} {l0 l1 l2 l3 l4 l6 : Option mw_V} {x : Int} {st : List mw_V} {σ : mw_S} {Q : Option mw_V → mw_S → Prop} : mw_WP d 167 111 [l0, l1, l2, l3, l4, some (jL x), l6] st σ Q ↔ mw_WP d 167 113 [l0, l1, l2, l3, l4, some (jL x), l6] (jL x :: st) σ Q := WP_lload mq167 dd167_111 rfl
theorem dd167_113 : decode cX11_meantRefusal 113 = .ok (.l2i, 1) := by decide +kernel
theorem ww167_113 {d : Nat} {l0 l1 l2 l3 l4 l5 l6 : Option mw_V} {x : Int} {st : List mw_V} {σ : mw_S} {Q : Option mw_V → mw_S → Prop} : mw_WP d 167 113 [l0, l1, l2, l3, l4, l5, l6] (jL x :: st) σ Q ↔ mw_WP d 167 114 [l0, l1, l2, l3, l4, l5, l6] (jI (zI x) :: st) σ Q := WP_l2i mq167 dd167_113
theorem dd167_114 : decode cX11_meantRefusal 114 = .ok (.invokevirtual 393, 3) := by decide +kernel
theorem ww167_114 {d : Nat} {l0 l1 l2 l3 l4 l5 l6 : Option mw_V} {v0 : mw_V} {a : Nat} {st : List mw_V} {σ : mw_S} {Q : Option mw_V → mw_S → Prop} (hr : mw_rc a = 3) (h8 : (st.map mw_cat).sum ≤ 8) : mw_WP d 167 114 [l0, l1, l2, l3, l4, l5, l6] (v0 :: jR a :: st) σ Q ↔ mw_Call d 20 [jR a, v0] σ (fun r1 s1 => mw_WP d 167 117 [l0, l1, l2, l3, l4, l5, l6] (r1.toList ++ st) s1 Q) := WP_inv (as := [v0]) mq167 dd167_114 (by decide) mq20 rfl hr h8
theorem dd167_117 : decode cX11_meantRefusal 117 = .ok (.iinc 4 1, 3) := by decide +kernel
theorem ww167_117 {d : Nat} {l0 l1 l2 l3 l5 l6 : Option mw_V} {x : Int} {st : List mw_V} {σ : mw_S} {Q : Option mw_V → mw_S → Prop} (h : mw_nlo l3 = true) : mw_WP d 167 117 [l0, l1, l2, l3, some (jI x), l5, l6] st σ Q ↔ mw_WP d 167 120 [l0, l1, l2, l3, some (jI (w32 (x + (1)))), l5, l6] st σ Q := WP_iinc mq167 dd167_117 rfl (Nat.le_of_ble_eq_true rfl) (mw_nl_of (i := 3) rfl h) rfl
theorem dd167_120 : decode cX11_meantRefusal 120 = .ok (.goto (-52), 3) := by decide +kernel
theorem ww167_120 {d : Nat} {l0 l1 l2 l3 l4 l5 l6 : Option mw_V} {st : List mw_V} {σ : mw_S} {Q : Option mw_V → mw_S → Prop} : mw_WP d 167 120 [l0, l1, l2, l3, l4, l5, l6] st σ Q ↔ mw_WP d 167 68 [l0, l1, l2, l3, l4, l5, l6] st σ Q := WP_goto mq167 dd167_120 (by decide)
theorem dd167_123 : decode cX11_meantRefusal 123 = .ok (.iconst 0, 1) := by decide +kernel
theorem ww167_123 {d : Nat} {l0 l1 l2 l3 l4 l5 l6 : Option mw_V} {st : List mw_V} {σ : mw_S} {Q : Option mw_V → mw_S → Prop} : mw_WP d 167 123 [l0, l1, l2, l3, l4, l5, l6] st σ Q ↔ mw_WP d 167 124 [l0, l1, l2, l3, l4, l5, l6] (jI (0) :: st) σ Q := WP_iconst mq167 dd167_123 (by decide)
theorem dd167_124 : decode cX11_meantRefusal 124 = .ok (.ireturn, 1) := by decide +kernel
theorem ww167_124 {d : Nat} {l0 l1 l2 l3 l4 l5 l6 : Option mw_V} {z : Int} {σ : mw_S} {Q : Option mw_V → mw_S → Prop} : mw_WP d 167 124 [l0, l1, l2, l3, l4, l5, l6] [jI z] σ Q ↔ Q (some (jI z)) σ := WP_ireturn (ty := .int) mq167 dd167_124 rfl rfl
theorem ee168 {d : Nat} {a : Nat} {z0 : Int} {σ : mw_S} {Q : Option mw_V → mw_S → Prop} : mw_Call (d + 1) 168 [jR a, jI z0] σ Q ↔ mw_WP d 168 0 [some (jR a), some (jI z0)] [] σ Q := CL_u mq168 (Nat.le_of_ble_eq_true rfl) rfl
theorem dd168_0 : decode cX11_tryHours 0 = .ok (.aload_n 0, 1) := by decide +kernel
theorem ww168_0 {d : Nat} {l1 : Option mw_V} {x : Nat} {st : List mw_V} {σ : mw_S} {Q : Option mw_V → mw_S → Prop} : mw_WP d 168 0 [some (jR x), l1] st σ Q ↔ mw_WP d 168 1 [some (jR x), l1] (jR x :: st) σ Q := WP_aload_n mq168 dd168_0 rfl
theorem dd168_1 : decode cX11_tryHours 1 = .ok (.getfield 86, 3) := by decide +kernel
theorem ww168_1 {d : Nat} {l0 l1 : Option mw_V} {st : List mw_V} {σ : mw_S} {Q : Option mw_V → mw_S → Prop} : mw_WP d 168 1 [l0, l1] (jR 0 :: st) σ Q ↔ mw_WP d 168 4 [l0, l1] (jR 98 :: st) σ Q := WP_getR (ci := 10) (k := 11) mq168 dd168_1 (by decide) rfl
theorem dd168_4 : decode cX11_tryHours 4 = .ok (.aload_n 0, 1) := by decide +kernel
theorem ww168_4 {d : Nat} {l1 : Option mw_V} {x : Nat} {st : List mw_V} {σ : mw_S} {Q : Option mw_V → mw_S → Prop} : mw_WP d 168 4 [some (jR x), l1] st σ Q ↔ mw_WP d 168 5 [some (jR x), l1] (jR x :: st) σ Q := WP_aload_n mq168 dd168_4 rfl
theorem dd168_5 : decode cX11_tryHours 5 = .ok (.getfield 90, 3) := by decide +kernel
theorem ww168_5 {d : Nat} {l0 l1 : Option mw_V} {st : List mw_V} {σ : mw_S} {Q : Option mw_V → mw_S → Prop} : mw_WP d 168 5 [l0, l1] (jR 0 :: st) σ Q ↔ mw_WP d 168 8 [l0, l1] (jR 99 :: st) σ Q := WP_getR (ci := 10) (k := 12) mq168 dd168_5 (by decide) rfl
theorem dd168_8 : decode cX11_tryHours 8 = .ok (.invokestatic 198, 3) := by decide +kernel
theorem ww168_8 {d : Nat} {l0 l1 : Option mw_V} {v0 v1 : mw_V} {st : List mw_V} {σ : mw_S} {Q : Option mw_V → mw_S → Prop} (h8 : (st.map mw_cat).sum ≤ 8) : mw_WP d 168 8 [l0, l1] (v1 :: v0 :: st) σ Q ↔ mw_Call d 169 [v0, v1] σ (fun r1 s1 => mw_WP d 168 11 [l0, l1] (r1.toList ++ st) s1 Q) := WP_invs (as := [v1, v0]) mq168 dd168_8 (by decide) mq169 rfl rfl h8
theorem dd168_11 : decode cX11_tryHours 11 = .ok (.aload_n 0, 1) := by decide +kernel
theorem ww168_11 {d : Nat} {l1 : Option mw_V} {x : Nat} {st : List mw_V} {σ : mw_S} {Q : Option mw_V → mw_S → Prop} : mw_WP d 168 11 [some (jR x), l1] st σ Q ↔ mw_WP d 168 12 [some (jR x), l1] (jR x :: st) σ Q := WP_aload_n mq168 dd168_11 rfl
theorem dd168_12 : decode cX11_tryHours 12 = .ok (.getfield 28, 3) := by decide +kernel
theorem ww168_12 {d : Nat} {l0 l1 : Option mw_V} {st : List mw_V} {σ : mw_S} {Q : Option mw_V → mw_S → Prop} : mw_WP d 168 12 [l0, l1] (jR 0 :: st) σ Q ↔ mw_WP d 168 15 [l0, l1] (jR 22 :: st) σ Q := WP_getR (ci := 10) (k := 2) mq168 dd168_12 (by decide) rfl
theorem dd168_15 : decode cX11_tryHours 15 = .ok (.aload_n 0, 1) := by decide +kernel
theorem ww168_15 {d : Nat} {l1 : Option mw_V} {x : Nat} {st : List mw_V} {σ : mw_S} {Q : Option mw_V → mw_S → Prop} : mw_WP d 168 15 [some (jR x), l1] st σ Q ↔ mw_WP d 168 16 [some (jR x), l1] (jR x :: st) σ Q := WP_aload_n mq168 dd168_15 rfl
theorem dd168_16 : decode cX11_tryHours 16 = .ok (.getfield 90, 3) := by decide +kernel
theorem ww168_16 {d : Nat} {l0 l1 : Option mw_V} {st : List mw_V} {σ : mw_S} {Q : Option mw_V → mw_S → Prop} : mw_WP d 168 16 [l0, l1] (jR 0 :: st) σ Q ↔ mw_WP d 168 19 [l0, l1] (jR 99 :: st) σ Q := WP_getR (ci := 10) (k := 12) mq168 dd168_16 (by decide) rfl
theorem dd168_19 : decode cX11_tryHours 19 = .ok (.aload_n 0, 1) := by decide +kernel
theorem ww168_19 {d : Nat} {l1 : Option mw_V} {x : Nat} {st : List mw_V} {σ : mw_S} {Q : Option mw_V → mw_S → Prop} : mw_WP d 168 19 [some (jR x), l1] st σ Q ↔ mw_WP d 168 20 [some (jR x), l1] (jR x :: st) σ Q := WP_aload_n mq168 dd168_19 rfl
theorem dd168_20 : decode cX11_tryHours 20 = .ok (.getfield 42, 3) := by decide +kernel
theorem ww168_20 {d : Nat} {l0 l1 : Option mw_V} {st : List mw_V} {σ : mw_S} {Q : Option mw_V → mw_S → Prop} : mw_WP d 168 20 [l0, l1] (jR 0 :: st) σ Q ↔ mw_WP d 168 23 [l0, l1] (jR 37 :: st) σ Q := WP_getR (ci := 10) (k := 4) mq168 dd168_20 (by decide) rfl
theorem dd168_23 : decode cX11_tryHours 23 = .ok (.iload_n 1, 1) := by decide +kernel
theorem ww168_23 {d : Nat} {l0 : Option mw_V} {x : Int} {st : List mw_V} {σ : mw_S} {Q : Option mw_V → mw_S → Prop} : mw_WP d 168 23 [l0, some (jI x)] st σ Q ↔ mw_WP d 168 24 [l0, some (jI x)] (jI x :: st) σ Q := WP_iload_n mq168 dd168_23 rfl
theorem dd168_24 : decode cX11_tryHours 24 = .ok (.invokevirtual 396, 3) := by decide +kernel
theorem ww168_24 {d : Nat} {l0 l1 : Option mw_V} {v0 v1 v2 : mw_V} {a : Nat} {st : List mw_V} {σ : mw_S} {Q : Option mw_V → mw_S → Prop} (hr : mw_rc a = 9) (h8 : (st.map mw_cat).sum ≤ 8) : mw_WP d 168 24 [l0, l1] (v2 :: v1 :: v0 :: jR a :: st) σ Q ↔ mw_Call d 109 [jR a, v0, v1, v2] σ (fun r1 s1 => mw_WP d 168 27 [l0, l1] (r1.toList ++ st) s1 Q) := WP_inv (as := [v2, v1, v0]) mq168 dd168_24 (by decide) mq109 rfl hr h8
theorem dd168_27 : decode cX11_tryHours 27 = .ok (.return_, 1) := by decide +kernel
theorem ww168_27 {d : Nat} {l0 l1 : Option mw_V} {σ : mw_S} {Q : Option mw_V → mw_S → Prop} : mw_WP d 168 27 [l0, l1] [] σ Q ↔ Q none σ := WP_return mq168 dd168_27 rfl
theorem ee169 {d : Nat} {a0 : Nat} {a1 : Nat} {σ : mw_S} {Q : Option mw_V → mw_S → Prop} : mw_Call (d + 1) 169 [jR a0, jR a1] σ Q ↔ mw_WP d 169 0 [some (jR a0), some (jR a1)] [] σ Q := CL_u mq169 (Nat.le_of_ble_eq_true rfl) rfl
theorem dd169_0 : decode cX11_copyRow 0 = .ok (.aload_n 0, 1) := by decide +kernel
theorem ww169_0 {d : Nat} {l1 : Option mw_V} {x : Nat} {st : List mw_V} {σ : mw_S} {Q : Option mw_V → mw_S → Prop} : mw_WP d 169 0 [some (jR x), l1] st σ Q ↔ mw_WP d 169 1 [some (jR x), l1] (jR x :: st) σ Q := WP_aload_n mq169 dd169_0 rfl
theorem dd169_1 : decode cX11_copyRow 1 = .ok (.iconst 0, 1) := by decide +kernel
theorem ww169_1 {d : Nat} {l0 l1 : Option mw_V} {st : List mw_V} {σ : mw_S} {Q : Option mw_V → mw_S → Prop} : mw_WP d 169 1 [l0, l1] st σ Q ↔ mw_WP d 169 2 [l0, l1] (jI (0) :: st) σ Q := WP_iconst mq169 dd169_1 (by decide)
theorem dd169_2 : decode cX11_copyRow 2 = .ok (.aload_n 1, 1) := by decide +kernel
theorem ww169_2 {d : Nat} {l0 : Option mw_V} {x : Nat} {st : List mw_V} {σ : mw_S} {Q : Option mw_V → mw_S → Prop} : mw_WP d 169 2 [l0, some (jR x)] st σ Q ↔ mw_WP d 169 3 [l0, some (jR x)] (jR x :: st) σ Q := WP_aload_n mq169 dd169_2 rfl
theorem dd169_3 : decode cX11_copyRow 3 = .ok (.iconst 0, 1) := by decide +kernel
theorem ww169_3 {d : Nat} {l0 l1 : Option mw_V} {st : List mw_V} {σ : mw_S} {Q : Option mw_V → mw_S → Prop} : mw_WP d 169 3 [l0, l1] st σ Q ↔ mw_WP d 169 4 [l0, l1] (jI (0) :: st) σ Q := WP_iconst mq169 dd169_3 (by decide)
theorem dd169_4 : decode cX11_copyRow 4 = .ok (.bipush 35, 2) := by decide +kernel
theorem ww169_4 {d : Nat} {l0 l1 : Option mw_V} {st : List mw_V} {σ : mw_S} {Q : Option mw_V → mw_S → Prop} : mw_WP d 169 4 [l0, l1] st σ Q ↔ mw_WP d 169 6 [l0, l1] (jI (35) :: st) σ Q := WP_bipush mq169 dd169_4 (by decide)
theorem dd169_6 : decode cX11_copyRow 6 = .ok (.invokestatic 399, 3) := by decide +kernel
theorem ww169_6 {d : Nat} {l0 l1 : Option mw_V} {n dp sp : Int} {a b : Nat} {st : List mw_V} {σ : mw_S} {Q : Option mw_V → mw_S → Prop} (h8 : (st.map mw_cat).sum ≤ 8) (h1 : 0 ≤ sp ∧ 0 ≤ dp ∧ 0 < n ∧ sp + n ≤ mw_lenW 0 a ∧ dp + n ≤ mw_lenW 0 b) : mw_WP d 169 6 [l0, l1] (jI n :: jI dp :: jR b :: jI sp :: jR a :: st) σ Q ↔ mw_WP d 169 9 [l0, l1] st (cpS σ a sp.toNat b dp.toNat n.toNat) Q := WP_acp (t := 0) (by decide) mq169 dd169_6 (by decide) (by decide) (by decide) h8 h1
theorem dd169_9 : decode cX11_copyRow 9 = .ok (.return_, 1) := by decide +kernel
theorem ww169_9 {d : Nat} {l0 l1 : Option mw_V} {σ : mw_S} {Q : Option mw_V → mw_S → Prop} : mw_WP d 169 9 [l0, l1] [] σ Q ↔ Q none σ := WP_return mq169 dd169_9 rfl
