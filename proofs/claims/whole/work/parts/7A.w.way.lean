/-! a truth read, without a count; what a row of codes makes of a stack -/
section WAY
variable {b : Nat → Int} {len : Nat}
theorem runS_eq {n i : Nat} {K : KS} : runS b len (n + 1) i K = if isDn (tKd b len i) K = true then .inr (i, K) else match sTp (tKd b len i) (tNu b len i) K with
    | .inl f => .inl (f, tSt b len i)
    | .inr K' => runS b len n (tEn b len i) K' := rfl
theorem sTp_lt {i : Nat} {nu : Int} {K K' : KS} (h : sTp (tKd b len i) nu K = .inr K') : tSt b len i < len := by
  rcases Nat.lt_or_ge (tSt b len i) len with z | z
  · exact z
  · obtain ⟨f, hf⟩ := sTp_end (nu := nu) (K := K) z
    rw [hf] at h
    exact absurd h (by simp)
theorem runS_fuel : ∀ (n m i : Nat) (K : KS), i ≤ len → len + 1 ≤ n + tSt b len i → len + 1 ≤ m + tSt b len i → runS b len n i K = runS b len m i K
  | 0, m, i, K, hi, h1, h2 => by
    have := (tSt_rng (b := b) hi).2
    omega
  | n + 1, 0, i, K, hi, h1, h2 => by
    have := (tSt_rng (b := b) hi).2
    omega
  | n + 1, m + 1, i, K, hi, h1, h2 => by
    rw [runS_eq, runS_eq]
    by_cases dn : isDn (tKd b len i) K = true
    · rw [if_pos dn, if_pos dn]
    · rw [if_neg dn, if_neg dn]
      cases hs : sTp (tKd b len i) (tNu b len i) K with
      | inl f => rfl
      | inr K' =>
        have lt := sTp_lt hs
        obtain ⟨e1, e2, e3⟩ := tEn_rng (b := b) hi
        have e4 := e3 lt
        have e5 := (tSt_rng (b := b) e2).1
        exact runS_fuel n m (tEn b len i) K' e2 (by omega) (by omega)
def rS (b : Nat → Int) (len i : Nat) (K : KS) : Sum (Int × Nat) (Nat × KS) := runS b len (len + 1) i K
theorem rS_dn {i : Nat} {K : KS} (h : isDn (tKd b len i) K = true) : rS b len i K = .inr (i, K) := by
  unfold rS
  rw [runS_eq, if_pos h]
theorem rS_f {i : Nat} {K : KS} {f : Int} (hd : isDn (tKd b len i) K = false) (hs : sTp (tKd b len i) (tNu b len i) K = .inl f) : rS b len i K = .inl (f, tSt b len i) := by
  unfold rS
  rw [runS_eq, if_neg (by rw [hd]; simp), hs]
theorem rS_n {i : Nat} {K K' : KS} (hi : i ≤ len) (hd : isDn (tKd b len i) K = false) (hs : sTp (tKd b len i) (tNu b len i) K = .inr K') : rS b len i K = rS b len (tEn b len i) K' := by
  have lt := sTp_lt hs
  obtain ⟨e1, e2, e3⟩ := tEn_rng (b := b) hi
  have e4 := e3 lt
  have e5 := (tSt_rng (b := b) e2).1
  have q := runS_fuel (b := b) (len := len) len (len + 1) (tEn b len i) K' e2 (by omega) (by omega)
  unfold rS
  rw [← q, runS_eq, if_neg (by rw [hd]; simp), hs]
end WAY
theorem isDn_w {kd : Int} {K : KS} (h : kW K = true) : isDn kd K = false := by
  unfold isDn
  rw [h]
  rfl
theorem isDn_k {kd : Int} {K : KS} (h : kd ≠ 15) : isDn kd K = false := by
  unfold isDn
  rw [decide_eq_false h, Bool.and_false, Bool.false_and, Bool.false_and]
theorem isDn_h {kd : Int} {K : KS} (h : whole_ K = false) : isDn kd K = false := by
  unfold isDn
  rw [h, Bool.and_false, Bool.false_and]
theorem isDn_t {kd : Int} {K : KS} (h : kT K ≠ 0) : isDn kd K = false := by
  unfold isDn
  rw [decide_eq_false h, Bool.and_false]
/-! steps, told -/
section STEPS
variable {out out' ops pe : List Int} {kd nu wi s t : Int} {u c : Bool}
theorem hdB_no {p : Int → Bool} {q : Int} (hp : ∀ x, p x = decide (q ≤ bdg x)) (h : hdB pe < q) : ∀ x r, pe = x :: r → p x = false := fun x r e => by
  rw [e] at h
  have h' : bdg x < q := h
  rw [hp, decide_eq_false_iff_not]
  omega
theorem jn_ops {q : Int} (h : ∀ x, x ∈ ops → bdg q ≤ bdg x) (hb : hdB pe < bdg q) : jn q out (ops ++ pe) = (out ++ ops, q :: pe) := by
  unfold jn
  rw [popW_ops (hdB_no (q := bdg q) (fun _ => rfl) hb) ops out (fun x hx => decide_eq_true (h x hx))]
theorem jnW_ops {q : Int} (h : ∀ x, x ∈ ops → bdg q ≤ bdg x) (hb : hdB pe < bdg q) : jnW q out (ops ++ pe) wi = wi - (cntL isN ops : Int) := by
  unfold jnW
  rw [popW_ops (hdB_no (q := bdg q) (fun _ => rfl) hb) ops out (fun x hx => decide_eq_true (h x hx)), cntL_app]
  dsimp only
  omega
theorem rl_ops {o : Int} (h : ∀ x, x ∈ ops → x ≠ o) : rl o out (ops ++ o :: pe) = (out ++ ops, pe) := by
  unfold rl
  rw [popW_ops (p := fun x => decide (x ≠ o)) (base := o :: pe) (fun x r e => by
    rw [List.cons.injEq] at e
    rw [decide_eq_false_iff_not, ← e.1]
    exact fun z => z rfl) ops out (fun x hx => decide_eq_true (h x hx))]
  rfl
theorem rlW_ops {o : Int} (h : ∀ x, x ∈ ops → x ≠ o) (ho : o ≠ 1010) : rlW o out (ops ++ o :: pe) wi = wi - (cntL isN ops : Int) - 1 := by
  unfold rlW
  rw [popW_ops (p := fun x => decide (x ≠ o)) (base := o :: pe) (fun x r e => by
    rw [List.cons.injEq] at e
    rw [decide_eq_false_iff_not, ← e.1]
    exact fun z => z rfl) ops out (fun x hx => decide_eq_true (h x hx)), cntL_app]
  dsimp only
  rw [if_neg (by simp)]
  omega
theorem isN_0 (h : ∀ x, x ∈ ops → 4 ≤ bdg x) : cntL isN ops = 0 := cntL_0 ops (fun x hx => by
  unfold isN
  refine decide_eq_false (fun e => ?_)
  have := h x hx
  rw [e] at this
  exact absurd this (by decide))
theorem ops_o {o : Int} (h : ∀ x, x ∈ ops → 1 ≤ bdg x) (ho : o = 1019 ∨ o = 1020) : ∀ x, x ∈ ops → x ≠ o := fun x hx e => by
  have := h x hx
  rw [e] at this
  rcases ho with z | z <;> rw [z] at this <;> exact absurd this (by decide)
theorem s_open (hw : wi < 6) : sTp 35 nu (mkK out pe wi s t true u c false) = .inr (mkK out (1019 :: pe) (wi + 1) (s + 1) t true false c false) := by
  unfold sTp
  rw [if_pos (show kW (mkK out pe wi s t true u c false) = true from rfl)]
  unfold stO
  rw [if_pos rfl, if_neg (show ¬ 6 ≤ kWi (mkK out pe wi s t true u c false) from by show ¬ 6 ≤ wi; omega)]
  rfl
theorem s_open_f (hw : 6 ≤ wi) : sTp 35 nu (mkK out pe wi s t true u c false) = .inl 4 := by
  unfold sTp
  rw [if_pos (show kW (mkK out pe wi s t true u c false) = true from rfl)]
  unfold stO
  rw [if_pos rfl, if_pos (show 6 ≤ kWi (mkK out pe wi s t true u c false) from hw)]
theorem s_op (h35 : kd ≠ 35) (hu : u = true → kd ≠ 37 ∧ kd ≠ 19) (ho : opC kd nu ≠ -1) : sTp kd nu (mkK out pe wi s t true u c false) = .inr (mkK (out ++ [opC kd nu]) pe wi s t false false c false) := by
  unfold sTp
  rw [if_pos (show kW (mkK out pe wi s t true u c false) = true from rfl)]
  unfold stO
  rw [if_neg h35, if_neg (fun z => (hu z.1).1 z.2), if_neg (fun z => (hu z.1).2 z.2), if_neg ho]
  rfl
theorem s_op_f (h35 : kd ≠ 35) (hu : u = true → kd ≠ 37 ∧ kd ≠ 19) (ho : opC kd nu = -1) : sTp kd nu (mkK out pe wi s t true u c false) = .inl (rfK kd) := by
  unfold sTp
  rw [if_pos (show kW (mkK out pe wi s t true u c false) = true from rfl)]
  unfold stO
  rw [if_neg h35, if_neg (fun z => (hu z.1).1 z.2), if_neg (fun z => (hu z.1).2 z.2), if_pos ho]
theorem s_not (hw : wi < 6) : sTp 19 nu (mkK out pe wi s t true true c false) = .inr (mkK out (1010 :: pe) (wi + 1) s t true true c false) := by
  unfold sTp
  rw [if_pos (show kW (mkK out pe wi s t true true c false) = true from rfl)]
  unfold stO
  rw [if_neg (by decide), if_neg (fun z => absurd z.2 (by decide)), if_pos ⟨rfl, rfl⟩, if_neg (show ¬ 6 ≤ kWi (mkK out pe wi s t true true c false) from by show ¬ 6 ≤ wi; omega)]
  rfl
theorem s_not_f (hw : 6 ≤ wi) : sTp 19 nu (mkK out pe wi s t true true c false) = .inl 4 := by
  unfold sTp
  rw [if_pos (show kW (mkK out pe wi s t true true c false) = true from rfl)]
  unfold stO
  rw [if_neg (by decide), if_neg (fun z => absurd z.2 (by decide)), if_pos ⟨rfl, rfl⟩, if_pos (show 6 ≤ kWi (mkK out pe wi s t true true c false) from hw)]
theorem s_beg (hw : wi < 6) : sTp 37 nu (mkK out pe wi s t true true c false) = .inr (mkK out (1020 :: pe) (wi + 1) s (t + 1) true true c false) := by
  unfold sTp
  rw [if_pos (show kW (mkK out pe wi s t true true c false) = true from rfl)]
  unfold stO
  rw [if_neg (by decide), if_pos ⟨rfl, rfl⟩, if_neg (show ¬ 6 ≤ kWi (mkK out pe wi s t true true c false) from by show ¬ 6 ≤ wi; omega)]
  rfl
theorem s_beg_f (hw : 6 ≤ wi) : sTp 37 nu (mkK out pe wi s t true true c false) = .inl 4 := by
  unfold sTp
  rw [if_pos (show kW (mkK out pe wi s t true true c false) = true from rfl)]
  unfold stO
  rw [if_neg (by decide), if_pos ⟨rfl, rfl⟩, if_pos (show 6 ≤ kWi (mkK out pe wi s t true true c false) from hw)]
/-- a sign of sums -/
theorem s_sign (hk : 32 ≤ kd ∧ kd ≤ 34) (h : ∀ x, x ∈ ops → bdg (979 + kd) ≤ bdg x) (h4 : ∀ x, x ∈ ops → 4 ≤ bdg x) (hb : hdB pe < bdg (979 + kd)) : sTp kd nu (mkK out' (ops ++ pe) wi s t false u c false) = .inr (mkK (out' ++ ops) ((979 + kd) :: pe) wi s t true u c false) := by
  have sg : sgC kd = 979 + kd := by
    unfold sgC
    rw [if_pos hk]
  have w := jnW_ops (out := out') (wi := wi) h hb
  rw [isN_0 h4] at w
  unfold sTp
  rw [if_neg (show ¬ kW (mkK out' (ops ++ pe) wi s t false u c false) = true from by show ¬ false = true; simp)]
  unfold stS2
  rw [if_neg (fun z => by have := z.2.1; omega), if_pos ⟨rfl, by rw [sg]; omega, fun z => by have := z.1; omega⟩, sg]
  show Sum.inr (mkK (jn (979 + kd) out' (ops ++ pe)).1 (jn (979 + kd) out' (ops ++ pe)).2 (jnW (979 + kd) out' (ops ++ pe) wi) s t true u (c || decide (39 ≤ kd)) false) = _
  rw [jn_ops h hb, w, decide_eq_false (by omega), Bool.or_false]
  simp
/-- a sum closed -/
theorem s_close (h : ∀ x, x ∈ ops → 4 ≤ bdg x) (hs : 0 < s) : sTp 36 nu (mkK out' (ops ++ 1019 :: pe) wi s t false u c false) = .inr (mkK (out' ++ ops) pe (wi - 1) (s - 1) t false u c false) := by
  have ho := ops_o (ops := ops) (o := 1019) (fun x hx => by have := h x hx; omega) (Or.inl rfl)
  have w := rlW_ops (out := out') (pe := pe) (wi := wi) ho (by decide)
  rw [isN_0 h] at w
  unfold sTp
  rw [if_neg (show ¬ kW (mkK out' (ops ++ 1019 :: pe) wi s t false u c false) = true from by show ¬ false = true; simp)]
  unfold stS2
  rw [if_pos ⟨rfl, rfl, hs⟩]
  show Sum.inr (mkK (rl 1019 out' (ops ++ 1019 :: pe)).1 (rl 1019 out' (ops ++ 1019 :: pe)).2 (rlW 1019 out' (ops ++ 1019 :: pe) wi) (s - 1) t false u c false) = _
  rw [rl_ops ho, w]
  simp
/-- neither a sign of sums nor an end -/
theorem s_sum_f (hk : ¬ (32 ≤ kd ∧ kd ≤ 34)) (hh : (0 < s ∧ kd ≠ 36) ∨ (s = 0 ∧ c = false ∧ ¬ (39 ≤ kd ∧ kd ≤ 41))) : sTp kd nu (mkK out pe wi s t false u c false) = .inl (rfK kd) ∧ isDn kd (mkK out pe wi s t false u c false) = false := by
  have wh : whole_ (mkK out pe wi s t false u c false) = false := by
    show (false || (c && decide (s = 0))) = false
    rcases hh with z | z
    · rw [decide_eq_false (by omega)]
      simp
    · rw [z.2.1]
      rfl
  refine ⟨?_, isDn_h wh⟩
  unfold sTp
  rw [if_neg (show ¬ kW (mkK out pe wi s t false u c false) = true from by show ¬ false = true; simp)]
  unfold stS2
  rw [if_neg (fun z => by
    have z1 : kd = 36 := z.2.1
    have z2 : 0 < s := z.2.2
    omega), if_neg (fun z => by
    obtain ⟨_, z1, z2⟩ := z
    have z3 : 39 ≤ kd ∧ kd ≤ 41 := by
      unfold sgC at z1
      rw [if_neg hk] at z1
      split at z1
      · assumption
      · exact absurd rfl z1
    refine z2 ⟨z3.1, ?_⟩
    rcases hh with y | y
    · exact Or.inr y.1
    · exact absurd z3 y.2.2)]
  unfold stT
  rw [if_neg (fun z => by rw [wh] at z; exact absurd z.1 (by simp)), if_neg (fun z => by rw [wh] at z; exact absurd z.1 (by simp)), if_neg (fun z => by rw [wh] at z; exact absurd z.1 (by simp))]
/-- compared -/
theorem s_cmp (hk : 39 ≤ kd ∧ kd ≤ 41) (h : ∀ x, x ∈ ops → 5 ≤ bdg x) (hb : hdB pe < 4) : sTp kd nu (mkK out' (ops ++ pe) wi 0 t false u false false) = .inr (mkK (out' ++ ops) ((975 + kd) :: pe) wi 0 t true u true false) := by
  have sg : sgC kd = 975 + kd := by
    unfold sgC
    rw [if_neg (by omega), if_pos hk]
  have bq : bdg (975 + kd) = 4 := by
    rcases (show kd = 39 ∨ kd = 40 ∨ kd = 41 by omega) with e | e | e <;> rw [e] <;> decide
  have h' : ∀ x, x ∈ ops → bdg (975 + kd) ≤ bdg x := fun x hx => by have := h x hx; omega
  have w := jnW_ops (q := 975 + kd) (out := out') (pe := pe) (wi := wi) h' (by omega)
  rw [isN_0 (fun x hx => by have := h x hx; omega)] at w
  unfold sTp
  rw [if_neg (show ¬ kW (mkK out' (ops ++ pe) wi 0 t false u false false) = true from by show ¬ false = true; simp)]
  unfold stS2
  rw [if_neg (fun z => by have := z.2.1; omega), if_pos ⟨rfl, by rw [sg]; omega, fun z => by
    rcases z.2 with y | y
    · exact absurd (show false = true from y) (by simp)
    · exact absurd (show (0 : Int) < 0 from y) (by decide)⟩, sg]
  show Sum.inr (mkK (jn (975 + kd) out' (ops ++ pe)).1 (jn (975 + kd) out' (ops ++ pe)).2 (jnW (975 + kd) out' (ops ++ pe) wi) 0 t true u (false || decide (39 ≤ kd)) false) = _
  rw [jn_ops h' (by omega), w, decide_eq_true hk.1, Bool.false_or]
  simp
/-- a unit is whole -/
def fin_ (kd : Int) (K : KS) : Prop := kW K = false ∧ kS K = 0 ∧ (kB K = true ∨ (kC K = true ∧ ¬ (32 ≤ kd ∧ kd ≤ 34)))
theorem fin_w {K : KS} (h : fin_ kd K) : whole_ K = true := by
  unfold whole_
  rcases h.2.2 with z | z
  · rw [z]
    rfl
  · rw [z.1, decide_eq_true h.2.1, Bool.and_self, Bool.or_true]
theorem fin_T {K : KS} (h : fin_ kd K) : sTp kd nu K = stT kd K := by
  obtain ⟨h1, h2, h3⟩ := h
  unfold sTp
  rw [if_neg (by rw [h1]; simp)]
  unfold stS2
  rw [if_neg (fun z => by have := z.2.2; omega), if_neg (fun z => by
    obtain ⟨z0, z1, z2⟩ := z
    rcases h3 with y | y
    · rw [y] at z0
      exact absurd z0 (by simp)
    · refine z2 ⟨?_, Or.inl y.1⟩
      unfold sgC at z1
      rw [if_neg y.2] at z1
      split at z1
      · rename_i q
        exact q.1
      · exact absurd rfl z1)]
theorem s_done {K : KS} (h : fin_ 38 K) (hp : kPe K = ops ++ 1020 :: pe) (ho : ∀ x, x ∈ ops → 1 ≤ bdg x) (ht : 0 < kT K) : sTp 38 nu K = .inr (mkK (kOut K ++ ops) pe (kWi K - (cntL isN ops : Int) - 1) (kS K) (kT K - 1) (kW K) (kU K) (kC K) true) := by
  have ho' := ops_o (ops := ops) (o := 1020) ho (Or.inr rfl)
  rw [fin_T h]
  unfold stT
  rw [if_pos ⟨fin_w h, rfl, ht⟩, hp, rl_ops ho', rlW_ops ho' (by decide)]
theorem s_join {K : KS} {q : Int} (h : fin_ kd K) (hq : (kd = 18 ∧ q = 1017) ∨ (kd = 17 ∧ q = 1018)) (hp : kPe K = ops ++ pe) (ho : ∀ x, x ∈ ops → bdg q ≤ bdg x) (hb : hdB pe < bdg q) : sTp kd nu K = .inr (mkK (kOut K ++ ops) (q :: pe) (kWi K - (cntL isN ops : Int)) (kS K) (kT K) true true false false) := by
  have w := fin_w h
  have j1 := jn_ops (out := kOut K) ho hb
  have j2 := jnW_ops (out := kOut K) (wi := kWi K) ho hb
  rw [fin_T h]
  unfold stT
  rcases hq with ⟨k, e⟩ | ⟨k, e⟩
  · rw [e] at j1 j2 ⊢
    rw [if_neg (fun z => by have := z.2.1; omega), if_pos ⟨w, k⟩, hp, j1, j2]
  · rw [e] at j1 j2 ⊢
    rw [if_neg (fun z => by have := z.2.1; omega), if_neg (fun z => by have := z.2; omega), if_pos ⟨w, k⟩, hp, j1, j2]
theorem s_fin_f {K : KS} (h : fin_ kd K) (h1 : kd ≠ 17) (h2 : kd ≠ 18) (h3 : kd = 38 → ¬ 0 < kT K) : sTp kd nu K = .inl (rfK kd) := by
  rw [fin_T h]
  unfold stT
  rw [if_neg (fun z => h3 z.2.1 z.2.2), if_neg (fun z => h2 z.2), if_neg (fun z => h1 z.2)]
end STEPS
/-! what codes make of a stack -/
def tyL : List Int → List Bool → Option (List Bool)
  | [], st => some st
  | c :: r, st => match tyS c st with
    | some st' => tyL r st'
    | none => none
theorem tyL_app {M : List Int} {st' : List Bool} : ∀ (L : List Int) (st : List Bool), tyL L st = some st' → tyL (L ++ M) st = tyL M st'
  | [], st, h => by
    cases h
    rfl
  | c :: r, st, h => by
    unfold tyL at h
    rw [List.cons_append]
    show (match tyS c st with
      | some st' => tyL (r ++ M) st'
      | none => none) = _
    cases hs : tyS c st with
    | none =>
      rw [hs] at h
      exact absurd h (by simp)
    | some s2 =>
      rw [hs] at h
      exact tyL_app r s2 h
theorem tyL_one {c : Int} {st st' : List Bool} (h : tyS c st = some st') : tyL [c] st = some st' := by
  unfold tyL
  rw [h]
  rfl
def TyE (L : List Int) (h : Nat) (k : Bool) : Prop := ∀ st : List Bool, st.length + h ≤ 60 → tyL L st = some (k :: st)
theorem TyE.mono {L : List Int} {h h' : Nat} {k : Bool} (a : TyE L h k) (hh : h ≤ h') : TyE L h' k := fun st hs => a st (by omega)
theorem TyE.one {c : Int} (h0 : 0 ≤ c) (h1 : c ≤ 1005) : TyE [c] 1 false := fun st hs => by
  refine tyL_one ?_
  unfold tyS
  rw [if_pos ⟨h0, h1⟩, if_pos (by omega)]
theorem TyE.bin {L M : List Int} {q : Int} {h h' : Nat} {k k' : Bool} (a : TyE L h k) (c : TyE M h' k) (hh : h' + 1 ≤ h) (hq : ∀ st, tyS q (k :: k :: st) = some (k' :: st)) : TyE (L ++ M ++ [q]) h k' := fun st hs => by
  have e1 := a st hs
  have e2 := c (k :: st) (by rw [List.length_cons]; omega)
  rw [List.append_assoc, tyL_app L st e1, tyL_app M _ e2]
  exact tyL_one (hq st)
theorem TyE.not {L : List Int} {h : Nat} (a : TyE L h true) : TyE (L ++ [1010]) h true := fun st hs => by
  rw [tyL_app L st (a st hs)]
  exact tyL_one rfl
theorem tyS_sum {q : Int} (h : 1011 ≤ q ∧ q ≤ 1013) (st : List Bool) : tyS q (false :: false :: st) = some (false :: st) := by
  rcases (show q = 1011 ∨ q = 1012 ∨ q = 1013 by omega) with e | e | e <;> rw [e] <;> rfl
theorem tyS_cmp {q : Int} (h : 1014 ≤ q ∧ q ≤ 1016) (st : List Bool) : tyS q (false :: false :: st) = some (true :: st) := by
  rcases (show q = 1014 ∨ q = 1015 ∨ q = 1016 by omega) with e | e | e <;> rw [e] <;> rfl
theorem tyS_log {q : Int} (h : q = 1017 ∨ q = 1018) (st : List Bool) : tyS q (true :: true :: st) = some (true :: st) := by
  rcases h with e | e <;> rw [e] <;> rfl
/-- as it stands in a row -/
theorem tyR_L {f : Nat → Int} : ∀ (L : List Int) (i : Nat) (st : List Bool), (∀ j, j < L.length → f (i + j) = L.getD j 0) → tyR f i L.length st = tyL L st
  | [], i, st, _ => rfl
  | c :: r, i, st, h => by
    have h0 : f i = c := h 0 (by simp)
    show (match tyS (f i) st with
      | some st' => tyR f (i + 1) r.length st'
      | none => none) = (match tyS c st with
      | some st' => tyL r st'
      | none => none)
    rw [h0]
    cases hs : tyS c st with
    | none => rfl
    | some s2 =>
      refine tyR_L r (i + 1) s2 (fun j hj => ?_)
      have := h (j + 1) (by rw [List.length_cons]; omega)
      rw [show i + 1 + j = i + (j + 1) by omega]
      exact this
