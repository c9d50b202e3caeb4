/-! what reads a truth, as the class does: pure -/
def bdg (c : Int) : Int := if c = 1018 then 1 else if c = 1017 then 2 else if c = 1010 then 3 else if 1014 ≤ c ∧ c ≤ 1016 then 4 else if c = 1011 ∨ c = 1012 then 5 else if c = 1013 then 6 else 0
theorem bdg_rng (c : Int) : 0 ≤ bdg c ∧ bdg c ≤ 6 := by
  unfold bdg
  (repeat' split) <;> omega
/-- codes put behind the others while they do -/
def popW (p : Int → Bool) : List Int → List Int → List Int × List Int
  | out, [] => (out, [])
  | out, c :: r => if p c = true then popW p (out ++ [c]) r else (out, c :: r)
/-- how many of a kind -/
def cntL (p : Int → Bool) : List Int → Nat
  | [] => 0
  | c :: r => (if p c = true then 1 else 0) + cntL p r
def isN (c : Int) : Bool := decide (c = 1010)
def isS (c : Int) : Bool := decide (c = 1010 ∨ c = 1019 ∨ c = 1020)
def is19 (c : Int) : Bool := decide (c = 1019)
def is20 (c : Int) : Bool := decide (c = 1020)
theorem cntL_app {p : Int → Bool} : ∀ L M : List Int, cntL p (L ++ M) = cntL p L + cntL p M
  | [], M => by
    show cntL p M = 0 + cntL p M
    omega
  | c :: L, M => by
    show (if p c = true then 1 else 0) + cntL p (L ++ M) = (if p c = true then 1 else 0) + cntL p L + cntL p M
    rw [cntL_app L M]
    omega
/-- what is popped, as a list -/
theorem popW_eq {p : Int → Bool} : ∀ (pend out : List Int), ∃ ops, (popW p out pend).1 = out ++ ops ∧ pend = ops ++ (popW p out pend).2 ∧ (∀ c, c ∈ ops → p c = true) ∧ (∀ c r, (popW p out pend).2 = c :: r → p c = false)
  | [], out => ⟨[], by unfold popW; simp, rfl, fun c h => absurd h (by simp), fun c r h => by unfold popW at h; exact absurd h (by simp)⟩
  | c :: r, out => by
    unfold popW
    by_cases h : p c = true
    · rw [if_pos h]
      obtain ⟨ops, h1, h2, h3, h4⟩ := popW_eq (p := p) r (out ++ [c])
      refine ⟨c :: ops, by rw [h1]; simp, by rw [List.cons_append, ← h2], fun d hd => ?_, h4⟩
      rcases List.mem_cons.mp hd with e | e
      · rw [e]
        exact h
      · exact h3 d e
    · rw [if_neg h]
      refine ⟨[], by simp, rfl, fun d hd => absurd hd (by simp), fun d t e => ?_⟩
      rw [List.cons.injEq] at e
      rw [← e.1]
      exact Bool.eq_false_iff.mpr h
/-- popping just a top part -/
theorem popW_ops {p : Int → Bool} {base : List Int} (hb : ∀ c r, base = c :: r → p c = false) : ∀ (ops out : List Int), (∀ c, c ∈ ops → p c = true) → popW p out (ops ++ base) = (out ++ ops, base)
  | [], out, _ => by
    rw [List.nil_append, List.append_nil]
    cases base with
    | nil => rfl
    | cons c r =>
      unfold popW
      rw [if_neg (by rw [hb c r rfl]; simp)]
  | c :: ops, out, h => by
    rw [List.cons_append]
    unfold popW
    rw [if_pos (h c (by simp)), popW_ops hb ops (out ++ [c]) (fun d hd => h d (by simp [hd]))]
    simp
/-- configurations: codes and what waits; within, open sums, open truths; wants an operand, at a unit's start, compared, bracketed -/
def KS : Type := (List Int × List Int) × (Int × Int × Int) × (Bool × Bool × Bool × Bool)
def kOut (K : KS) : List Int := K.1.1
def kPe (K : KS) : List Int := K.1.2
def kWi (K : KS) : Int := K.2.1.1
def kS (K : KS) : Int := K.2.1.2.1
def kT (K : KS) : Int := K.2.1.2.2
def kW (K : KS) : Bool := K.2.2.1
def kU (K : KS) : Bool := K.2.2.2.1
def kC (K : KS) : Bool := K.2.2.2.2.1
def kB (K : KS) : Bool := K.2.2.2.2.2
def mkK (out pe : List Int) (wi s t : Int) (w u c b : Bool) : KS := ((out, pe), (wi, s, t), (w, u, c, b))
def whole_ (K : KS) : Bool := kB K || (kC K && decide (kS K = 0))
def jn (q : Int) (out pe : List Int) : List Int × List Int := ((popW (fun c => decide (bdg q ≤ bdg c)) out pe).1, q :: (popW (fun c => decide (bdg q ≤ bdg c)) out pe).2)
def jnW (q : Int) (out pe : List Int) (wi : Int) : Int := wi - ((cntL isN pe : Int) - (cntL isN (popW (fun c => decide (bdg q ≤ bdg c)) out pe).2 : Int))
def rl (o : Int) (out pe : List Int) : List Int × List Int := ((popW (fun c => decide (c ≠ o)) out pe).1, (popW (fun c => decide (c ≠ o)) out pe).2.tail)
def rlW (o : Int) (out pe : List Int) (wi : Int) : Int := wi - ((cntL isN pe : Int) - (cntL isN (popW (fun c => decide (c ≠ o)) out pe).2 : Int)) - (if (popW (fun c => decide (c ≠ o)) out pe).2 = [] then 0 else 1)
/-- an operand's code: a number, a name; -1 -/
def opC (kd nu : Int) : Int := if kd = 26 then nu else if kd = 11 then 1000 else if 20 ≤ kd ∧ kd ≤ 24 then 981 + kd else -1
/-- a sign's code; -1 -/
def sgC (kd : Int) : Int := if 32 ≤ kd ∧ kd ≤ 34 then 979 + kd else if 39 ≤ kd ∧ kd ≤ 41 then 975 + kd else -1
def rfK (kd : Int) : Int := if kd = 28 then 1 else 2
def isDn (kd : Int) (K : KS) : Bool := !(kW K) && decide (kd = 15) && whole_ K && decide (kT K = 0)
def stO (kd nu : Int) (K : KS) : Sum Int KS :=
  if kd = 35 then (if 6 ≤ kWi K then .inl 4 else .inr (mkK (kOut K) (1019 :: kPe K) (kWi K + 1) (kS K + 1) (kT K) (kW K) false (kC K) (kB K)))
  else if kU K = true ∧ kd = 37 then (if 6 ≤ kWi K then .inl 4 else .inr (mkK (kOut K) (1020 :: kPe K) (kWi K + 1) (kS K) (kT K + 1) (kW K) (kU K) (kC K) (kB K)))
  else if kU K = true ∧ kd = 19 then (if 6 ≤ kWi K then .inl 4 else .inr (mkK (kOut K) (1010 :: kPe K) (kWi K + 1) (kS K) (kT K) (kW K) (kU K) (kC K) (kB K)))
  else if opC kd nu = -1 then .inl (rfK kd) else .inr (mkK (kOut K ++ [opC kd nu]) (kPe K) (kWi K) (kS K) (kT K) false false (kC K) (kB K))
def stT (kd : Int) (K : KS) : Sum Int KS :=
  if whole_ K = true ∧ kd = 38 ∧ 0 < kT K then .inr (mkK (rl 1020 (kOut K) (kPe K)).1 (rl 1020 (kOut K) (kPe K)).2 (rlW 1020 (kOut K) (kPe K) (kWi K)) (kS K) (kT K - 1) (kW K) (kU K) (kC K) true)
  else if whole_ K = true ∧ kd = 18 then .inr (mkK (jn 1017 (kOut K) (kPe K)).1 (jn 1017 (kOut K) (kPe K)).2 (jnW 1017 (kOut K) (kPe K) (kWi K)) (kS K) (kT K) true true false false)
  else if whole_ K = true ∧ kd = 17 then .inr (mkK (jn 1018 (kOut K) (kPe K)).1 (jn 1018 (kOut K) (kPe K)).2 (jnW 1018 (kOut K) (kPe K) (kWi K)) (kS K) (kT K) true true false false)
  else .inl (rfK kd)
def stS2 (kd : Int) (K : KS) : Sum Int KS :=
  if kB K = false ∧ kd = 36 ∧ 0 < kS K then .inr (mkK (rl 1019 (kOut K) (kPe K)).1 (rl 1019 (kOut K) (kPe K)).2 (rlW 1019 (kOut K) (kPe K) (kWi K)) (kS K - 1) (kT K) (kW K) (kU K) (kC K) (kB K))
  else if kB K = false ∧ sgC kd ≠ -1 ∧ ¬ (39 ≤ kd ∧ (kC K = true ∨ 0 < kS K)) then .inr (mkK (jn (sgC kd) (kOut K) (kPe K)).1 (jn (sgC kd) (kOut K) (kPe K)).2 (jnW (sgC kd) (kOut K) (kPe K) (kWi K)) (kS K) (kT K) true (kU K) (kC K || decide (39 ≤ kd)) (kB K))
  else stT kd K
/-- a token taken -/
def sTp (kd nu : Int) (K : KS) : Sum Int KS := if kW K = true then stO kd nu K else stS2 kd K
/-- what holds of all configurations -/
def srt : List Int → Prop
  | [] => True
  | x :: r => (isS x = true ∨ ∀ y t, r = y :: t → bdg y < bdg x) ∧ srt r
/-- no open sum lies below an open truth -/
def lie : List Int → Prop
  | [] => True
  | x :: r => (x = 1020 → cntL is19 r = 0) ∧ lie r
def opB (c : Int) : Prop := c = 1010 ∨ c = 1019 ∨ c = 1020 ∨ (1011 ≤ c ∧ c ≤ 1018)
def InK (K : KS) : Prop := srt (kPe K) ∧ kWi K = cntL isS (kPe K) ∧ kWi K ≤ 6 ∧ kS K = cntL is19 (kPe K) ∧ kT K = cntL is20 (kPe K) ∧ lie (kPe K) ∧ (kU K = true → kS K = 0) ∧ (kB K = true → kS K = 0) ∧ ∀ c, c ∈ kPe K → opB c
theorem srt_tail {x : Int} {r : List Int} (h : srt (x :: r)) : srt r := h.2
theorem srt_app : ∀ (ops r : List Int), srt (ops ++ r) → srt r
  | [], _, h => h
  | _ :: ops, r, h => srt_app ops r h.2
theorem lie_app : ∀ (ops r : List Int), lie (ops ++ r) → lie r
  | [], _, h => h
  | _ :: ops, r, h => lie_app ops r h.2
theorem bdg_S {c : Int} (h : isS c = true) : bdg c ≤ 3 := by
  unfold isS at h
  rw [decide_eq_true_iff] at h
  rcases h with e | e | e <;> rw [e] <;> decide
def hdB : List Int → Int
  | [] => 0
  | x :: _ => bdg x
/-- a stack isn't long -/
theorem srt_len : ∀ L : List Int, srt L → (∀ c, c ∈ L → opB c) → (L.length : Int) ≤ 7 * cntL isS L + hdB L
  | [], _, _ => by simp [cntL, hdB]
  | x :: r, h, ho => by
    have ih := srt_len r h.2 (fun c hc => ho c (by simp [hc]))
    have hx := ho x (by simp)
    have b0 := bdg_rng x
    show (((r.length + 1 : Nat)) : Int) ≤ 7 * (((if isS x = true then 1 else 0) + cntL isS r : Nat) : Int) + bdg x
    rcases h.1 with q | q
    · rw [if_pos q]
      cases r with
      | nil =>
        simp [cntL, hdB] at ih ⊢
        omega
      | cons y t =>
        have b1 := bdg_rng y
        have ih' : (((y :: t).length : Nat) : Int) ≤ 7 * (cntL isS (y :: t) : Int) + bdg y := ih
        omega
    · cases r with
      | nil =>
        have : 1 ≤ bdg x ∨ isS x = true := by
          unfold opB at hx
          by_cases s : isS x = true
          · exact Or.inr s
          · left
            unfold isS at s
            rw [decide_eq_true_iff] at s
            unfold bdg
            (repeat' split) <;> omega
        rcases this with z | z
        · have : ((0 + 1 : Nat) : Int) = 1 := rfl
          simp [cntL]
          split <;> omega
        · rw [if_pos z]
          simp [cntL]
          omega
      | cons y t =>
        have := q y t rfl
        have ih' : (((y :: t).length : Nat) : Int) ≤ 7 * (cntL isS (y :: t) : Int) + bdg y := ih
        split <;> omega
