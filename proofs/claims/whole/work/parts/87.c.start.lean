/-! from the law's entry to its loop -/
theorem kl_good {w1 : Cond} (h : w1 ∈ mw_wd) : GoodIn lw_tbl (w1 :: mw_wd) := fun w hw => by
  rcases List.mem_cons.mp hw with rfl | hw
  · exact ⟨mw_wd_in h, (mw_goodC h).2⟩
  · exact ⟨mw_wd_in hw, (mw_goodC hw).2⟩
theorem st_bi : ∀ i, i < 28 → st_b i = mw_strs.getD i [] := by decide +kernel
theorem st_qi : ∀ i, i < 28 → (st_q i).2.2.2 = i := by decide +kernel
theorem st_strl : mw_strs.length = 28 := by decide +kernel
theorem st_sRl : mw_sR.length = 28 := by decide +kernel
theorem st_Cs {s : State} {args : Array Value} {g k t3 : Nat} {u v : Nat → Nat} {f : Nat → Nat × Nat} {fm : Value} (hts : ∀ w ∈ lw_tbl, w.before args s = true) (hg : (Jvm.Cond.and given_1 narrow_1).before args s = true) (hf : ∀ i, i < 28 → (st_t i).eval args s none [] s = some (.ref (f i).1) ∧ st_S i (f i).1 (f i).2 s) (h1 : va_Z "LateMirror" "NINES" "[I" (.ref t3) (st_A s) s s.heap) (h2 : va_T .int t3 6 (fun j => .int (i32 (mw_nines.getD j 0))) (st_A s) s s.heap) (h3 : va_Z "java/lang/String" "COMPACT_STRINGS" "Z" (.int 1) (st_A s) s s.heap) (h4 : va_Z "jdk/internal/util/Preconditions" "SIOOBE_FORMATTER" "Ljava/util/function/BiFunction;" fm (st_A s) s s.heap) (hlo : ∀ n, n < mw_sh.length → s.heap.size ≤ fin_ad g k u v f t3 n) : mw_Cs (fin_ad g k u v f t3) fm (mw_A (fin_ad g k u v f t3) s.heap.size) s s.heap := by
  have hAB : ∀ q, mw_A (fin_ad g k u v f t3) s.heap.size q → st_A s q := by
    rintro q (⟨n, hn, rfl⟩ | h)
    · exact hlo n hn
    · exact h
  refine ⟨fun i hi => ?_, ?_, ?_, h3.narrow hAB, h4.narrow hAB, st_nM hts, st_nF hts, fun q hq => ?_⟩
  · rw [st_strl] at hi
    obtain ⟨-, a1, a2, a3, a4⟩ := hf i (by omega)
    rw [fin_K (by omega), fin_V (by omega), ← st_bi i hi]
    exact ⟨a1.narrow hAB, a2.narrow hAB, a3.narrow hAB, a4.narrow hAB⟩
  · rw [fin_3]
    exact h1.narrow hAB
  · rw [fin_3]
    exact h2.narrow hAB
  · obtain ⟨i, hi, hiq⟩ := List.getElem_of_mem hq
    have hi8 : i < 28 := by rw [st_sRl] at hi; exact hi
    have eq : q = st_q i := by
      unfold st_q
      rw [List.getD_eq_getElem?_getD, List.getElem?_eq_getElem hi, hiq]
      rfl
    subst eq
    have hr := hts _ (st_ref i hi8 _ List.mem_cons_self)
    have he := (hf i hi8).1
    have ea : fin_ad g k u v f t3 (1000 + (st_q i).2.2.2) = (f i).1 := by
      rw [st_qi i hi8, fin_K hi8]
    rw [ea]
    exact vk_R.of hr he
set_option maxHeartbeats 40000000 in
set_option maxRecDepth 100000 in
theorem whole_start {p : Program} {e : Env} {s : State} {m : MethodId} {below : List Frame} {meth : Method} {c : Code} (l : Launch) (hflags : l.flags = flags0) {b L : Nat} {xs : Nat → Int32} (hL : L ≤ 3072) (C0 : lw_At p s m meth c b L xs) : W p l e room_1 s m #[Value.ref b] below meth c s.heap [] 0 0 (lw_Z below #[Value.ref b] s) (entryFrame m ([Value.ref b] : List Value).toArray 4) := by
  obtain ⟨hx, hb, hr, hml, hown, hts, hX, hbl, hlocks, hgv⟩ := id C0
  obtain ⟨D, cA, hK⟩ := st_K hts
  obtain ⟨hOi, hOl⟩ := st_O hts
  have hN := st_n hts
  have hin : ∀ (j : Nat) (q : vw_C), vwCl[j]? = some q → ∀ w ∈ u_ws q.1 q.2.1 q.2.2, w ∈ lw_tbl := fun j q hq w hw => mw_wd_in (mw_lay_in w (List.mem_flatMap.mpr ⟨q, List.mem_of_getElem? hq, hw⟩))
  have hA : ∀ q : Nat, s.heap.size ≤ q → st_A s q := fun _ h => h
  have hS : va_S (st_A s) s.heap s.heap [] := va_S.rf
  have hP : va_P D vwCl [] s.heap := fun n q h => by simp at h
  have hD : va_D (st_A s) [] := ⟨fun i j p q h => by simp at h, fun n q h => by simp at h⟩
  have hl := lv_entry ([.ref b]) (n := 4) (Nat.le_of_ble_eq_true rfl)
  rw [lg_entry_eq]
  generalize (lg_sl ([.ref b]) ++ List.replicate (4 - (lg_sl ([.ref b])).length) Slot.unset).toArray = ls at hl ⊢
  have hl : lv_has ls 4 [(0, .ref b)] := hl
  refine va_new (ci := 10) (fs := [.null, .null, .null, .null, .null, .null, .null, .null, .null, .null, .null, .null, .null]) (C := RX11) (T := TX11) (N := 13) hx hb hts (hin 10 _ rfl) tyX11 tyX11_ok hown (hts (.classLink R_law 7 RX11) (List.mem_of_getElem? (i := 143) rfl)) (hts (.instantiable RX11 13) (List.mem_of_getElem? (i := 144) rfl)) (hts (.initialized RX11) (List.mem_of_getElem? (i := 121) rfl)) hK hP hD hS hA rfl (fun j hj => by rcases (show j = 0 ∨ j = 1 ∨ j = 2 ∨ j = 3 ∨ j = 4 ∨ j = 5 ∨ j = 6 ∨ j = 7 ∨ j = 8 ∨ j = 9 ∨ j = 10 ∨ j = 11 ∨ j = 12 by omega) with rfl | rfl | rfl | rfl | rfl | rfl | rfl | rfl | rfl | rfl | rfl | rfl | rfl <;> rfl) (Nat.le_of_ble_eq_true rfl) (Nat.le_of_ble_eq_true rfl) dl0 (fun g H hP hD hS => ?_)
  have hP : va_P D vwCl (VX11 g) H := hP
  have hD : va_D (st_A s) (VX11 g) := hD
  refine lv_dup hx hb dl3 rfl ?_
  have hFc := va_free (wc := VX11 g) hD hS hA [0] rfl
  refine va_callv (va_runI (As := []) (rest := [.ref g]) ⟨hx, hb, hml, hown, hts⟩ (knX11 l D cA g H.size) (cwI 0 hts (kl_good kcX11) rfl rfl rfl (hts (.initialized RX11) (List.mem_of_getElem? (i := 121) rfl)) (hts (.methodLink R_law 9 yX11_init) (List.mem_of_getElem? (i := 145) rfl)) (hts (.instanceMethod yX11_init) (List.mem_of_getElem? (i := 146) rfl)) rfl ⟨by decide, by decide, by decide +kernel⟩ ⟨Nat.le_of_ble_eq_true rfl, Nat.le_of_ble_eq_true rfl⟩) (kd_pre hP hK hD hOi hOl hN) rfl rfl hl.1 rfl (lv_room (Nat.le_of_ble_eq_true rfl)) dl4 ⟨Nat.le_of_ble_eq_true rfl, Nat.le_of_ble_eq_true rfl⟩) hS (fun q _ h => hFc q h) hFc (fun w t H1 locs ht hvm hw hB hz1 hk1 hS => ?_)
  obtain ⟨u, hP1, hK1, hD1⟩ := hB
  rw [ht] at hP1
  obtain ⟨hP, hD⟩ := va_join (wr := []) (w1 := WX11 cA g u) hP hD [0] [] rfl rfl (by decide) (by decide) hk1 hFc hP1 hD1
  clear hFc hP1 hD1 hk1 hK1 hw
  generalize H1 = H at hP hS ⊢
  have hP : va_P D vwCl (WX11 cA g u) H := hP
  have hD : va_D (st_A s) (WX11 cA g u) := hD
  refine lv_astore_n (lv' := [(1, .ref g), (0, .ref b)]) hx hb dl7 rfl hl (by decide) rfl (fun ls hl => ?_)
  refine va_new (ci := 11) (fs := [.int 0, .null, .null, .null, .null, .int 0, .int 0, .int 0, .int 0, .int 0, .int 0, .int 0, .int 0, .int 0, .int 0, .int 0, .null, .null, .int 0, .int 0, .null, .int 0, .int 0, .int 0, .int 0, .int 0, .null, .null, .null, .null, .null, .null, .int 0, .int 0, .null, .null, .int 0, .null, .null, .null, .int 0, .int 0, .int 0, .null, .null, .null, .int 0, .int 0, .null, .null, .null]) (C := RX12) (T := TX12) (N := 51) hx hb hts (hin 11 _ rfl) tyX12 tyX12_ok hown (hts (.classLink R_law 10 RX12) (List.mem_of_getElem? (i := 1467) rfl)) (hts (.instantiable RX12 51) (List.mem_of_getElem? (i := 1468) rfl)) (hts (.initialized RX12) (List.mem_of_getElem? (i := 132) rfl)) hK hP hD hS hA rfl (fun j hj => by rcases (show j = 0 ∨ j = 1 ∨ j = 2 ∨ j = 3 ∨ j = 4 ∨ j = 5 ∨ j = 6 ∨ j = 7 ∨ j = 8 ∨ j = 9 ∨ j = 10 ∨ j = 11 ∨ j = 12 ∨ j = 13 ∨ j = 14 ∨ j = 15 ∨ j = 16 ∨ j = 17 ∨ j = 18 ∨ j = 19 ∨ j = 20 ∨ j = 21 ∨ j = 22 ∨ j = 23 ∨ j = 24 ∨ j = 25 ∨ j = 26 ∨ j = 27 ∨ j = 28 ∨ j = 29 ∨ j = 30 ∨ j = 31 ∨ j = 32 ∨ j = 33 ∨ j = 34 ∨ j = 35 ∨ j = 36 ∨ j = 37 ∨ j = 38 ∨ j = 39 ∨ j = 40 ∨ j = 41 ∨ j = 42 ∨ j = 43 ∨ j = 44 ∨ j = 45 ∨ j = 46 ∨ j = 47 ∨ j = 48 ∨ j = 49 ∨ j = 50 by omega) with rfl | rfl | rfl | rfl | rfl | rfl | rfl | rfl | rfl | rfl | rfl | rfl | rfl | rfl | rfl | rfl | rfl | rfl | rfl | rfl | rfl | rfl | rfl | rfl | rfl | rfl | rfl | rfl | rfl | rfl | rfl | rfl | rfl | rfl | rfl | rfl | rfl | rfl | rfl | rfl | rfl | rfl | rfl | rfl | rfl | rfl | rfl | rfl | rfl | rfl | rfl <;> rfl) (Nat.le_of_ble_eq_true rfl) (Nat.le_of_ble_eq_true rfl) dl8 (fun k H hP hD hS => ?_)
  have hP : va_P D vwCl (WX11 cA g u ++ VX12 k) H := hP
  have hD : va_D (st_A s) (WX11 cA g u ++ VX12 k) := hD
  refine lv_dup hx hb dl11 rfl ?_
  have hPc := hP.sub (ws' := VX12 k) [100] rfl
  have hDc := hD.sub (ws' := VX12 k) [100] (by decide) rfl
  have hFc := va_free (wc := VX12 k) hD hS hA [100] rfl
  refine va_callv (va_runI (As := []) (rest := [.ref k]) ⟨hx, hb, hml, hown, hts⟩ (knX12 l D cA k H.size) (cwI 0 hts (kl_good kcX12) rfl rfl rfl (hts (.initialized RX12) (List.mem_of_getElem? (i := 132) rfl)) (hts (.methodLink R_law 12 yX12_init) (List.mem_of_getElem? (i := 1469) rfl)) (hts (.instanceMethod yX12_init) (List.mem_of_getElem? (i := 1470) rfl)) rfl ⟨by decide, by decide, by decide +kernel⟩ ⟨Nat.le_of_ble_eq_true rfl, Nat.le_of_ble_eq_true rfl⟩) (kc_pre hPc hK hDc hOi hOl) rfl rfl hl.1 rfl (lv_room (Nat.le_of_ble_eq_true rfl)) dl12 ⟨Nat.le_of_ble_eq_true rfl, Nat.le_of_ble_eq_true rfl⟩) hS (fun q _ h => hFc q h) hFc (fun w t H1 locs ht hvm hw hB hz1 hk1 hS => ?_)
  obtain ⟨v, hP1, hK1, hD1⟩ := hB
  rw [ht] at hP1
  obtain ⟨hP, hD⟩ := va_join (wr := WX11 cA g u) (w1 := WX12 cA k v) hP hD [100] [0, 1, 2, 3, 4, 5, 6, 7, 8, 9, 10, 11, 12, 13, 14, 15, 16, 17, 18, 19, 20, 21, 22, 23, 24, 25, 26, 27, 28, 29, 30, 31, 32, 33, 34, 35, 36, 37, 38, 39, 40, 41, 42, 43, 44, 45, 46, 47, 48, 49, 50, 51, 52, 53, 54, 55, 56, 57, 58, 59, 60, 61, 62, 63, 64, 65, 66, 67, 68, 69, 70, 71, 72, 73, 74, 75, 76, 77, 78, 79, 80, 81, 82, 83, 84, 85, 86, 87, 88, 89, 90, 91, 92, 93, 94, 95, 96, 97, 98, 99] rfl rfl (by decide +kernel) (by decide +kernel) hk1 hFc hP1 hD1
  clear hPc hDc hFc hP1 hD1 hk1 hK1 hw
  generalize H1 = H at hP hS ⊢
  refine lv_astore_n (lv' := [(2, .ref k), (1, .ref g), (0, .ref b)]) hx hb dl15 rfl hl (by decide) rfl (fun ls hl => ?_)
  refine lv_iconst (v := 0) hx hb dl16 (by decide) ?_
  refine lv_istore_n (lv' := [(3, .int 0), (2, .ref k), (1, .ref g), (0, .ref b)]) hx hb dl17 rfl hl (by decide) rfl (fun ls hl => ?_)
  obtain ⟨f, hf⟩ := st_strs hgv
  obtain ⟨t3, hZ, hT⟩ := st_nines hts hgv
  obtain ⟨hCS, fm, hfm, hFm⟩ := st_stat hts hgv
  rw [fin_eq (f := f) (t3 := t3)] at hP hD
  have at' : ∀ n (hn : n < mw_sh.length), (mw_ws (fin_ad g k u v f t3) cA mw_s0)[n]? = some (fin_ad g k u v f t3 n, mw_ce (fin_ad g k u v f t3) cA mw_s0 n (mw_sh[n])) := fun n hn => mw_ws_at (List.getElem?_eq_getElem hn)
  have hlo : ∀ n, n < mw_sh.length → s.heap.size ≤ fin_ad g k u v f t3 n := fun n hn => hD.2 n _ (at' n hn)
  have hinj : mw_inj (fin_ad g k u v f t3) := fun i j hi hj e => hD.1 i j _ _ (at' i hi) (at' j hj) e
  have hCs := st_Cs hts hgv hf hZ hT hCS hFm hlo
  have hS2 : va_S (mw_A (fin_ad g k u v f t3) s.heap.size) s.heap H locs := ⟨hS.1, fun q h1 _ => hS.2.1 q h1 (Nat.not_le.mpr h1), fun z hz => Or.inr (hS.2.2 z hz)⟩
  have hl4 : lv_has ls 4 (lq_lv (fin_ad g k u v f t3) b 0) := lv_sub hl [3, 2, 1, 0] rfl
  exact lq_loop ⟨C0, hK, hCs, hfm, hinj, hlo⟩ hL Rall_all (fun n σ h => h.mono (Nat.le_succ n)) (L + 6) 0 0 0 mw_s0 H locs ls _ _ rfl (by omega) rfl (by decide) (Or.inl rfl) Rall_0 mw_s0_ok hP hS2 hl4 (Nat.le_of_ble_eq_true rfl) (Nat.le_of_ble_eq_true rfl)
