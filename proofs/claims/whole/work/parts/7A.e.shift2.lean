/-! what reads a truth: what holds on the way -/
theorem cntL_0 {p : Int → Bool} : ∀ L : List Int, (∀ c, c ∈ L → p c = false) → cntL p L = 0
  | [], _ => rfl
  | c :: r, h => by
    show (if p c = true then 1 else 0) + cntL p r = 0
    rw [if_neg (by rw [h c (by simp)]; simp), cntL_0 r (fun d hd => h d (by simp [hd]))]
theorem cntL_pos {p : Int → Bool} : ∀ L : List Int, 0 < cntL p L → ∃ c, c ∈ L ∧ p c = true
  | [], h => absurd h (by unfold cntL; omega)
  | c :: r, h => by
    by_cases q : p c = true
    · exact ⟨c, by simp, q⟩
    · have h' : 0 < (if p c = true then 1 else 0) + cntL p r := h
      rw [if_neg q] at h'
      obtain ⟨d, d1, d2⟩ := cntL_pos (p := p) r (by omega)
      exact ⟨d, by simp [d1], d2⟩
theorem cntL_eq {p q : Int → Bool} : ∀ L : List Int, (∀ c, c ∈ L → p c = q c) → cntL p L = cntL q L
  | [], _ => rfl
  | c :: r, h => by
    show (if p c = true then 1 else 0) + cntL p r = (if q c = true then 1 else 0) + cntL q r
    rw [h c (by simp), cntL_eq r (fun d hd => h d (by simp [hd]))]
/-- what holds on the way, of the stack alone -/
def InP (pe : List Int) (wi s t : Int) : Prop := srt pe ∧ wi = cntL isS pe ∧ wi ≤ 6 ∧ s = cntL is19 pe ∧ t = cntL is20 pe ∧ lie pe ∧ ∀ c, c ∈ pe → opB c
theorem ops_no {ops : List Int} (h : ∀ c, c ∈ ops → c ≠ 1019 ∧ c ≠ 1020) : cntL isS ops = cntL isN ops ∧ cntL is19 ops = 0 ∧ cntL is20 ops = 0 := by
  refine ⟨cntL_eq ops (fun c hc => ?_), cntL_0 ops (fun c hc => ?_), cntL_0 ops (fun c hc => ?_)⟩
  · obtain ⟨h1, h2⟩ := h c hc
    unfold isS isN
    by_cases e : c = 1010
    · rw [decide_eq_true (Or.inl e), decide_eq_true e]
    · rw [decide_eq_false (by omega), decide_eq_false e]
  · unfold is19
    exact decide_eq_false (h c hc).1
  · unfold is20
    exact decide_eq_false (h c hc).2
/-- joined by a sign -/
theorem InP_jn {q wi s t : Int} {out pe : List Int} (h : InP pe wi s t) (hq : 1011 ≤ q ∧ q ≤ 1018) : InP (jn q out pe).2 (jnW q out pe wi) s t ∧ (jn q out pe).1.length + (jn q out pe).2.length = out.length + pe.length + 1 := by
  obtain ⟨h1, h2, h3, h4, h5, h6, h7⟩ := h
  have bq : 1 ≤ bdg q := by
    unfold bdg
    (repeat' split) <;> omega
  obtain ⟨ops, e1, e2, e3, e4⟩ := popW_eq (p := fun c => decide (bdg q ≤ bdg c)) pe out
  unfold jn jnW
  generalize (popW (fun c => decide (bdg q ≤ bdg c)) out pe).2 = r at *
  have no : ∀ c, c ∈ ops → c ≠ 1019 ∧ c ≠ 1020 := fun c hc => by
    have := e3 c hc
    rw [decide_eq_true_iff] at this
    constructor
    · intro e
      rw [e] at this
      have : bdg 1019 = 0 := by decide
      omega
    · intro e
      rw [e] at this
      have : bdg 1020 = 0 := by decide
      omega
  obtain ⟨n1, n2, n3⟩ := ops_no no
  have qS : isS q = false := by
    unfold isS
    exact decide_eq_false (by omega)
  have q19 : is19 q = false := by
    unfold is19
    exact decide_eq_false (by omega)
  have q20 : is20 q = false := by
    unfold is20
    exact decide_eq_false (by omega)
  have c1 : cntL isS pe = cntL isS ops + cntL isS r := by rw [e2, cntL_app]
  have c2 : cntL is19 pe = cntL is19 ops + cntL is19 r := by rw [e2, cntL_app]
  have c3 : cntL is20 pe = cntL is20 ops + cntL is20 r := by rw [e2, cntL_app]
  have c4 : cntL isN pe = cntL isN ops + cntL isN r := by rw [e2, cntL_app]
  have k1 : cntL isS (q :: r) = cntL isS r := by
    show (if isS q = true then 1 else 0) + cntL isS r = _
    rw [qS, if_neg (by simp), Nat.zero_add]
  have k2 : cntL is19 (q :: r) = cntL is19 r := by
    show (if is19 q = true then 1 else 0) + cntL is19 r = _
    rw [q19, if_neg (by simp), Nat.zero_add]
  have k3 : cntL is20 (q :: r) = cntL is20 r := by
    show (if is20 q = true then 1 else 0) + cntL is20 r = _
    rw [q20, if_neg (by simp), Nat.zero_add]
  have hsr : srt r := srt_app ops r (by rw [← e2]; exact h1)
  have hlr : lie r := lie_app ops r (by rw [← e2]; exact h6)
  refine ⟨⟨⟨Or.inr (fun y tl hy => ?_), hsr⟩, ?_, ?_, ?_, ?_, ⟨fun e => absurd e (by omega), hlr⟩, fun c hc => ?_⟩, ?_⟩
  · have := e4 y tl hy
    rw [decide_eq_false_iff_not] at this
    omega
  · rw [k1]
    omega
  · omega
  · rw [k2]
    omega
  · rw [k3]
    omega
  · rcases List.mem_cons.mp hc with e | e
    · rw [e]
      exact Or.inr (Or.inr (Or.inr hq))
    · exact h7 c (by rw [e2]; simp [e])
  · rw [e1, List.length_append, List.length_cons]
    have : pe.length = ops.length + r.length := by rw [e2, List.length_append]
    omega
theorem popW_mem {p : Int → Bool} : ∀ (pe out : List Int), (∃ c, c ∈ pe ∧ p c = false) → (popW p out pe).2 ≠ []
  | [], out, ⟨c, h, _⟩ => absurd h (by simp)
  | x :: r, out, ⟨c, h, hp⟩ => by
    unfold popW
    by_cases q : p x = true
    · rw [if_pos q]
      rcases List.mem_cons.mp h with e | e
      · rw [e, q] at hp
        exact absurd hp (by simp)
      · exact popW_mem r _ ⟨c, e, hp⟩
    · rw [if_neg q]
      simp
theorem lie_mem : ∀ (ops r : List Int), lie (ops ++ r) → 1020 ∈ ops → cntL is19 r = 0
  | [], _, _, h => absurd h (by simp)
  | x :: ops, r, hl, h => by
    rcases List.mem_cons.mp h with e | e
    · have := hl.1 e.symm
      have h' : cntL is19 (ops ++ r) = 0 := this
      rw [cntL_app] at h'
      omega
    · exact lie_mem ops r hl.2 e
/-- an opening released -/
theorem InP_rl {o wi s t : Int} {out pe : List Int} (h : InP pe wi s t) (ho : (o = 1019 ∧ 0 < s) ∨ (o = 1020 ∧ 0 < t ∧ s = 0)) : InP (rl o out pe).2 (rlW o out pe wi) (if o = 1019 then s - 1 else s) (if o = 1019 then t else t - 1) ∧ (rl o out pe).1.length + (rl o out pe).2.length + 1 = out.length + pe.length := by
  obtain ⟨h1, h2, h3, h4, h5, h6, h7⟩ := h
  obtain ⟨ops, e1, e2, e3, e4⟩ := popW_eq (p := fun c => decide (c ≠ o)) pe out
  have hex : ∃ c, c ∈ pe ∧ decide (c ≠ o) = false := by
    rcases ho with ⟨a, b⟩ | ⟨a, b, _⟩
    · obtain ⟨c, c1, c2⟩ := cntL_pos (p := is19) pe (by omega)
      unfold is19 at c2
      rw [decide_eq_true_iff] at c2
      exact ⟨c, c1, by rw [decide_eq_false_iff_not]; omega⟩
    · obtain ⟨c, c1, c2⟩ := cntL_pos (p := is20) pe (by omega)
      unfold is20 at c2
      rw [decide_eq_true_iff] at c2
      exact ⟨c, c1, by rw [decide_eq_false_iff_not]; omega⟩
  have hne := popW_mem (p := fun c => decide (c ≠ o)) pe out hex
  unfold rl rlW
  rw [if_neg hne]
  generalize (popW (fun c => decide (c ≠ o)) out pe).2 = r0 at *
  cases r0 with
  | nil => exact absurd rfl hne
  | cons x r =>
    have ex : x = o := by
      have := e4 x r rfl
      rw [decide_eq_false_iff_not] at this
      omega
    subst ex
    have hsr : srt (x :: r) := srt_app ops _ (by rw [← e2]; exact h1)
    have hlr : lie (x :: r) := lie_app ops _ (by rw [← e2]; exact h6)
    have c1 : cntL isS pe = cntL isS ops + cntL isS (x :: r) := by rw [e2, cntL_app]
    have c2 : cntL is19 pe = cntL is19 ops + cntL is19 (x :: r) := by rw [e2, cntL_app]
    have c3 : cntL is20 pe = cntL is20 ops + cntL is20 (x :: r) := by rw [e2, cntL_app]
    have c4 : cntL isN pe = cntL isN ops + cntL isN (x :: r) := by rw [e2, cntL_app]
    have no : ∀ c, c ∈ ops → c ≠ 1019 ∧ c ≠ 1020 := fun c hc => by
      have := e3 c hc
      rw [decide_eq_true_iff] at this
      rcases ho with ⟨a, b⟩ | ⟨a, b, b2⟩
      · refine ⟨by omega, fun e => ?_⟩
        rw [e] at hc
        have z := lie_mem ops (x :: r) (by rw [← e2]; exact h6) hc
        have z2 : cntL is19 (x :: r) = (if is19 x = true then 1 else 0) + cntL is19 r := rfl
        rw [a, show is19 1019 = true from rfl, if_pos rfl] at z2
        rw [a] at z
        omega
      · refine ⟨fun e => ?_, by omega⟩
        have z : 0 < cntL is19 ops := by
          rcases Nat.eq_zero_or_pos (cntL is19 ops) with q | q
          · exfalso
            have : ∀ L : List Int, 1019 ∈ L → 0 < cntL is19 L := fun L => by
              induction L with
              | nil => intro hh; exact absurd hh (by simp)
              | cons y t ih =>
                intro hh
                show 0 < (if is19 y = true then 1 else 0) + cntL is19 t
                rcases List.mem_cons.mp hh with ey | ey
                · rw [← ey, show is19 1019 = true from rfl, if_pos rfl]
                  omega
                · have := ih ey
                  omega
            rw [e] at hc
            have := this ops hc
            omega
          · exact q
        omega
    obtain ⟨n1, n2, n3⟩ := ops_no no
    have xS : isS x = true := by
      unfold isS
      exact decide_eq_true (by omega)
    have xN : isN x = false := by
      unfold isN
      exact decide_eq_false (by omega)
    have k1 : cntL isS (x :: r) = 1 + cntL isS r := by
      show (if isS x = true then 1 else 0) + cntL isS r = _
      rw [xS, if_pos rfl]
    have k4 : cntL isN (x :: r) = cntL isN r := by
      show (if isN x = true then 1 else 0) + cntL isN r = _
      rw [xN, if_neg (by simp), Nat.zero_add]
    have k2 : cntL is19 (x :: r) = (if is19 x = true then 1 else 0) + cntL is19 r := rfl
    have k3 : cntL is20 (x :: r) = (if is20 x = true then 1 else 0) + cntL is20 r := rfl
    show InP r _ _ _ ∧ _
    refine ⟨⟨hsr.2, by omega, by omega, ?_, ?_, hlr.2, fun c hc => h7 c (by rw [e2]; simp [hc])⟩, ?_⟩
    · rcases ho with ⟨a, b⟩ | ⟨a, b, b2⟩
      · rw [if_pos a]
        rw [a, show is19 1019 = true from rfl, if_pos rfl] at k2
        rw [a] at c2
        omega
      · rw [if_neg (by omega)]
        rw [a, show is19 1020 = false from rfl, if_neg (by simp)] at k2
        rw [a] at c2
        omega
    · rcases ho with ⟨a, b⟩ | ⟨a, b, b2⟩
      · rw [if_pos a]
        rw [a, show is20 1019 = false from rfl, if_neg (by simp)] at k3
        rw [a] at c3
        omega
      · rw [if_neg (by omega)]
        rw [a, show is20 1020 = true from rfl, if_pos rfl] at k3
        rw [a] at c3
        omega
    · rw [e1, List.length_append]
      show out.length + ops.length + r.length + 1 = _
      have : pe.length = ops.length + (r.length + 1) := by rw [e2, List.length_append, List.length_cons]
      omega
/-- what holds of a configuration -/
def InC (K : KS) : Prop := InP (kPe K) (kWi K) (kS K) (kT K) ∧ (kU K = true → kS K = 0) ∧ (kB K = true → kS K = 0) ∧ (kW K = true → kB K = false)
theorem InP_push {x wi s t : Int} {pe : List Int} (h : InP pe wi s t) (hw : wi < 6) (hx : x = 1010 ∨ x = 1019 ∨ (x = 1020 ∧ s = 0)) : InP (x :: pe) (wi + 1) (if x = 1019 then s + 1 else s) (if x = 1020 then t + 1 else t) := by
  obtain ⟨h1, h2, h3, h4, h5, h6, h7⟩ := h
  have xS : isS x = true := by
    unfold isS
    exact decide_eq_true (by omega)
  have k1 : cntL isS (x :: pe) = 1 + cntL isS pe := by
    show (if isS x = true then 1 else 0) + cntL isS pe = _
    rw [xS, if_pos rfl]
  have a19 : is19 x = true ↔ x = 1019 := by
    unfold is19
    exact decide_eq_true_iff
  have a20 : is20 x = true ↔ x = 1020 := by
    unfold is20
    exact decide_eq_true_iff
  have k2 : cntL is19 (x :: pe) = (if x = 1019 then 1 else 0) + cntL is19 pe := by
    show (if is19 x = true then 1 else 0) + cntL is19 pe = _
    by_cases c : x = 1019
    · rw [if_pos c, if_pos (a19.mpr c)]
    · rw [if_neg c, if_neg (fun q => c (a19.mp q))]
  have k3 : cntL is20 (x :: pe) = (if x = 1020 then 1 else 0) + cntL is20 pe := by
    show (if is20 x = true then 1 else 0) + cntL is20 pe = _
    by_cases c : x = 1020
    · rw [if_pos c, if_pos (a20.mpr c)]
    · rw [if_neg c, if_neg (fun q => c (a20.mp q))]
  refine ⟨⟨Or.inl xS, h1⟩, by omega, by omega, ?_, ?_, ⟨fun e => ?_, h6⟩, fun c hc => ?_⟩
  · rw [k2]
    split <;> omega
  · rw [k3]
    split <;> omega
  · have : s = 0 := by omega
    omega
  · rcases List.mem_cons.mp hc with e | e
    · rw [e]
      unfold opB
      omega
    · exact h7 c e
theorem whole_s {K : KS} (h : InC K) (hw : whole_ K = true) : kS K = 0 := by
  unfold whole_ at hw
  rw [Bool.or_eq_true, Bool.and_eq_true, decide_eq_true_iff] at hw
  rcases hw with q | q
  · exact h.2.2.1 q
  · exact q.2
theorem InC_sT {kd nu : Int} {K K' : KS} (h : InC K) (e : sTp kd nu K = .inr K') : InC K' ∧ (kOut K').length + (kPe K').length ≤ (kOut K).length + (kPe K).length + 1 := by
  obtain ⟨hP, hU, hB, hW⟩ := id h
  have hwh := whole_s h
  unfold sTp at e
  by_cases w : kW K = true
  · rw [if_pos w] at e
    have b := hW w
    unfold stO at e
    by_cases c1 : kd = 35
    · rw [if_pos c1] at e
      by_cases c2 : 6 ≤ kWi K
      · rw [if_pos c2] at e
        exact absurd e (by simp)
      · rw [if_neg c2] at e
        cases e
        have := InP_push (x := 1019) hP (by omega) (Or.inr (Or.inl rfl))
        rw [if_pos rfl, if_neg (by decide)] at this
        refine ⟨⟨this, fun q => absurd (show false = true from q) (by decide), fun q => ?_, fun _ => b⟩, by show (kOut K).length + ((kPe K).length + 1) ≤ _; omega⟩
        rw [show kB (mkK (kOut K) (1019 :: kPe K) (kWi K + 1) (kS K + 1) (kT K) (kW K) false (kC K) (kB K)) = kB K from rfl, b] at q
        exact absurd q (by decide)
    · rw [if_neg c1] at e
      by_cases c3 : kU K = true ∧ kd = 37
      · rw [if_pos c3] at e
        by_cases c2 : 6 ≤ kWi K
        · rw [if_pos c2] at e
          exact absurd e (by simp)
        · rw [if_neg c2] at e
          cases e
          have s0 := hU c3.1
          have := InP_push (x := 1020) hP (by omega) (Or.inr (Or.inr ⟨rfl, s0⟩))
          rw [if_neg (by decide), if_pos rfl] at this
          exact ⟨⟨this, fun _ => s0, fun _ => s0, fun _ => b⟩, by show (kOut K).length + ((kPe K).length + 1) ≤ _; omega⟩
      · rw [if_neg c3] at e
        by_cases c4 : kU K = true ∧ kd = 19
        · rw [if_pos c4] at e
          by_cases c2 : 6 ≤ kWi K
          · rw [if_pos c2] at e
            exact absurd e (by simp)
          · rw [if_neg c2] at e
            cases e
            have s0 := hU c4.1
            have := InP_push (x := 1010) hP (by omega) (Or.inl rfl)
            rw [if_neg (by decide), if_neg (by decide)] at this
            exact ⟨⟨this, fun _ => s0, fun _ => s0, fun _ => b⟩, by show (kOut K).length + ((kPe K).length + 1) ≤ _; omega⟩
        · rw [if_neg c4] at e
          by_cases c5 : opC kd nu = -1
          · rw [if_pos c5] at e
            exact absurd e (by simp)
          · rw [if_neg c5] at e
            cases e
            refine ⟨⟨hP, fun q => absurd (show false = true from q) (by decide), hB, fun q => absurd (show false = true from q) (by decide)⟩, ?_⟩
            show (kOut K ++ [opC kd nu]).length + (kPe K).length ≤ _
            rw [List.length_append, List.length_singleton]
            omega
  · rw [if_neg w] at e
    have wf : kW K = false := Bool.eq_false_iff.mpr w
    unfold stS2 at e
    by_cases c1 : kB K = false ∧ kd = 36 ∧ 0 < kS K
    · rw [if_pos c1] at e
      cases e
      have := InP_rl (o := 1019) (out := kOut K) hP (Or.inl ⟨rfl, c1.2.2⟩)
      rw [if_pos rfl, if_pos rfl] at this
      refine ⟨⟨this.1, fun q => ?_, fun q => ?_, fun q => ?_⟩, ?_⟩
      · have q' : kU K = true := q
        have := hU q'
        omega
      · have q' : kB K = true := q
        rw [c1.1] at q'
        exact absurd q' (by decide)
      · have q' : kW K = true := q
        exact absurd q' w
      · show (rl 1019 (kOut K) (kPe K)).1.length + (rl 1019 (kOut K) (kPe K)).2.length ≤ _
        have := this.2
        omega
    · rw [if_neg c1] at e
      by_cases c2 : kB K = false ∧ sgC kd ≠ -1 ∧ ¬ (39 ≤ kd ∧ (kC K = true ∨ 0 < kS K))
      · rw [if_pos c2] at e
        cases e
        have hq : 1011 ≤ sgC kd ∧ sgC kd ≤ 1018 := by
          have := c2.2.1
          unfold sgC at this ⊢
          split
          · omega
          · split
            · omega
            · rename_i z1 z2
              rw [if_neg z1, if_neg z2] at this
              exact absurd rfl this
        have := InP_jn (q := sgC kd) (out := kOut K) hP hq
        refine ⟨⟨this.1, hU, hB, fun _ => c2.1⟩, ?_⟩
        show (jn (sgC kd) (kOut K) (kPe K)).1.length + (jn (sgC kd) (kOut K) (kPe K)).2.length ≤ _
        have := this.2
        omega
      · rw [if_neg c2] at e
        unfold stT at e
        by_cases c3 : whole_ K = true ∧ kd = 38 ∧ 0 < kT K
        · rw [if_pos c3] at e
          cases e
          have s0 := hwh c3.1
          have := InP_rl (o := 1020) (out := kOut K) hP (Or.inr ⟨rfl, c3.2.2, s0⟩)
          rw [if_neg (by decide), if_neg (by decide)] at this
          refine ⟨⟨this.1, fun _ => s0, fun _ => s0, fun q => ?_⟩, ?_⟩
          · have q' : kW K = true := q
            exact absurd q' w
          · show (rl 1020 (kOut K) (kPe K)).1.length + (rl 1020 (kOut K) (kPe K)).2.length ≤ _
            have := this.2
            omega
        · rw [if_neg c3] at e
          by_cases c4 : whole_ K = true ∧ kd = 18
          · rw [if_pos c4] at e
            cases e
            have s0 := hwh c4.1
            have := InP_jn (q := 1017) (out := kOut K) hP (by omega)
            refine ⟨⟨this.1, fun _ => s0, fun _ => s0, fun _ => rfl⟩, ?_⟩
            show (jn 1017 (kOut K) (kPe K)).1.length + (jn 1017 (kOut K) (kPe K)).2.length ≤ _
            have := this.2
            omega
          · rw [if_neg c4] at e
            by_cases c5 : whole_ K = true ∧ kd = 17
            · rw [if_pos c5] at e
              cases e
              have s0 := hwh c5.1
              have := InP_jn (q := 1018) (out := kOut K) hP (by omega)
              refine ⟨⟨this.1, fun _ => s0, fun _ => s0, fun _ => rfl⟩, ?_⟩
              show (jn 1018 (kOut K) (kPe K)).1.length + (jn 1018 (kOut K) (kPe K)).2.length ≤ _
              have := this.2
              omega
            · rw [if_neg c5] at e
              exact absurd e (by simp)
theorem InC_len {K : KS} (h : InC K) : (kPe K).length ≤ 48 := by
  obtain ⟨⟨h1, h2, h3, h4, h5, h6, h7⟩, _⟩ := h
  have := srt_len (kPe K) h1 h7
  have hb : hdB (kPe K) ≤ 6 := by
    unfold hdB
    split
    · omega
    · exact (bdg_rng _).2
  omega
