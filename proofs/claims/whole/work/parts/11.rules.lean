/-! rules of the small machine, an instruction each: what has to hold ahead of it for Q to hold of the answer -/
theorem i32_add (x y : Int) : i32 x + i32 y = i32 (x + y) := (Int32.ofInt_add x y).symm
theorem i32_sub (x y : Int) : i32 x - i32 y = i32 (x - y) := (Int32.ofInt_sub x y).symm
theorem i32_mul (x y : Int) : i32 x * i32 y = i32 (x * y) := (Int32.ofInt_mul x y).symm
theorem i32_neg (x : Int) : -(i32 x) = i32 (-x) := (Int32.ofInt_neg x).symm
theorem i64_add (x y : Int) : i64 x + i64 y = i64 (x + y) := (Int64.ofInt_add x y).symm
theorem i64_sub (x y : Int) : i64 x - i64 y = i64 (x - y) := (Int64.ofInt_sub x y).symm
theorem i64_mul (x y : Int) : i64 x * i64 y = i64 (x * y) := (Int64.ofInt_mul x y).symm
theorem w32_eq {z : Int} (h1 : -2147483648 ≤ z) (h2 : z < 2147483648) : w32 z = z := i32_to ⟨h1, h2⟩
theorem w64_eq {z : Int} (h1 : -9223372036854775808 ≤ z) (h2 : z < 9223372036854775808) : w64 z = z := i64_to ⟨h1, h2⟩
def zAnd (x y : Int) : Int := (i32 x &&& i32 y).toInt
def zOr (x y : Int) : Int := (i32 x ||| i32 y).toInt
def zXor (x y : Int) : Int := (i32 x ^^^ i32 y).toInt
def zShl (x y : Int) : Int := (i32 x <<< (i32 y &&& 31)).toInt
def zShr (x y : Int) : Int := (i32 x >>> (i32 y &&& 31)).toInt
def zUshr (x y : Int) : Int := ((i32 x).toUInt32 >>> ((i32 y).toUInt32 &&& Int32.toUInt32 31)).toInt32.toInt
def zDiv (x y : Int) : Int := (i32 x / i32 y).toInt
def zRem (x y : Int) : Int := (i32 x - i32 x / i32 y * i32 y).toInt
def zB (x : Int) : Int := (i32 x).toInt8.toInt32.toInt
def zSh (x : Int) : Int := (i32 x).toInt16.toInt32.toInt
def zC (x : Int) : Int := ((i32 x).toUInt32 % 65536).toInt32.toInt
def zI (x : Int) : Int := (i64 x).toInt32.toInt
def yAnd (x y : Int) : Int := (i64 x &&& i64 y).toInt
def yOr (x y : Int) : Int := (i64 x ||| i64 y).toInt
def yDiv (x y : Int) : Int := (i64 x / i64 y).toInt
def yRem (x y : Int) : Int := (i64 x - i64 x / i64 y * i64 y).toInt
def yShl (x y : Int) : Int := (i64 x <<< ((i32 y).toInt64 &&& 63)).toInt
def yShr (x y : Int) : Int := (i64 x >>> ((i32 y).toInt64 &&& 63)).toInt
def yUshr (x y : Int) : Int := ((i64 x).toUInt64 >>> ((i32 y).toInt64.toUInt64 &&& Int64.toUInt64 63)).toInt64.toInt
def yCmp (x y : Int) : Int := (lg_cmp (i64 x) (i64 y)).toInt
def yL (x : Int) : Int := (i32 x).toInt64.toInt
section MWR
variable {d mi pc len : Nat} {me : mw_Me} {i : Jvm.ClassFile.Instr} {lv lv' : mw_L} {st st' rest : List mw_V} {σ σ1 : mw_S} {Q : Option mw_V → mw_S → Prop}
theorem WP_u (hm : mw_mT[mi]? = some me) (hd : decode me.2.1 pc = .ok (i, len)) (hl : mw_ln i len = true) : mw_WP d mi pc lv st σ Q ↔ ∃ n r σ', mw_stp (mw_CR d) me i len pc lv st σ (fun v s => v = r ∧ s = σ') (fun pc' lv' st' s' => mw_run (mw_CR d) n mi pc' lv' st' s' r σ') ∧ Q r σ' := by
  constructor
  · rintro ⟨n, r, σ', h, hq⟩
    rcases n with _ | n
    · exact h.elim
    · unfold mw_run at h
      rw [hm] at h
      simp only [hd] at h
      exact ⟨n, r, σ', h.2, hq⟩
  · rintro ⟨n, r, σ', h, hq⟩
    refine ⟨n + 1, r, σ', ?_, hq⟩
    unfold mw_run
    rw [hm]
    simp only [hd]
    exact ⟨hl, h⟩
theorem WP_k {pc' : Nat} (hm : mw_mT[mi]? = some me) (hd : decode me.2.1 pc = .ok (i, len)) (hl : mw_ln i len = true) (h : ∀ Q' K, mw_stp (mw_CR d) me i len pc lv st σ Q' K ↔ K pc' lv' st' σ1) : mw_WP d mi pc lv st σ Q ↔ mw_WP d mi pc' lv' st' σ1 Q := by
  rw [WP_u hm hd hl]
  simp only [h]
  exact Iff.rfl
theorem WP_a {pc' : Nat} {P : Prop} (hm : mw_mT[mi]? = some me) (hd : decode me.2.1 pc = .ok (i, len)) (hl : mw_ln i len = true) (h : ∀ Q' K, mw_stp (mw_CR d) me i len pc lv st σ Q' K ↔ (P ∧ K pc' lv' st' σ1)) : mw_WP d mi pc lv st σ Q ↔ (P ∧ mw_WP d mi pc' lv' st' σ1 Q) := by
  rw [WP_u hm hd hl]
  simp only [h]
  constructor
  · rintro ⟨n, r, σ', ⟨h1, h2⟩, h3⟩
    exact ⟨h1, n, r, σ', h2, h3⟩
  · rintro ⟨h1, n, r, σ', h2, h3⟩
    exact ⟨n, r, σ', ⟨h1, h2⟩, h3⟩
theorem WP_if {p1 p2 : Nat} {P : Prop} [Decidable P] (hm : mw_mT[mi]? = some me) (hd : decode me.2.1 pc = .ok (i, len)) (hl : mw_ln i len = true) (h : ∀ Q' K, mw_stp (mw_CR d) me i len pc lv st σ Q' K ↔ (if P then K p1 lv' st' σ1 else K p2 lv' st' σ1)) : mw_WP d mi pc lv st σ Q ↔ (if P then mw_WP d mi p1 lv' st' σ1 Q else mw_WP d mi p2 lv' st' σ1 Q) := by
  rw [WP_u hm hd hl]
  simp only [h]
  by_cases c : P
  · simp only [if_pos c]
    exact Iff.rfl
  · simp only [if_neg c]
    exact Iff.rfl
theorem WP_ret {v : Option mw_V} (hm : mw_mT[mi]? = some me) (hd : decode me.2.1 pc = .ok (i, len)) (hl : mw_ln i len = true) (h : ∀ Q' K, mw_stp (mw_CR d) me i len pc lv st σ Q' K ↔ Q' v σ) : mw_WP d mi pc lv st σ Q ↔ Q v σ := by
  rw [WP_u hm hd hl]
  simp only [h]
  constructor
  · rintro ⟨n, r, σ', ⟨rfl, rfl⟩, h3⟩
    exact h3
  · intro h3
    exact ⟨0, v, σ, ⟨rfl, rfl⟩, h3⟩
theorem WP_cl {pc' mj : Nat} {as : List mw_V} (hm : mw_mT[mi]? = some me) (hd : decode me.2.1 pc = .ok (i, len)) (hl : mw_ln i len = true) (h : ∀ Q' K, mw_stp (mw_CR d) me i len pc lv st σ Q' K ↔ ∃ r1 s1, mw_CR d mj as σ r1 s1 ∧ K pc' lv (r1.toList ++ rest) s1) : mw_WP d mi pc lv st σ Q ↔ mw_Call d mj as σ (fun r1 s1 => mw_WP d mi pc' lv (r1.toList ++ rest) s1 Q) := by
  rw [WP_u hm hd hl]
  simp only [h]
  constructor
  · rintro ⟨n, r, σ', ⟨r1, s1, h1, h2⟩, h3⟩
    exact ⟨r1, s1, h1, n, r, σ', h2, h3⟩
  · rintro ⟨r1, s1, h1, n, r, σ', h2, h3⟩
    exact ⟨n, r, σ', ⟨r1, s1, h1, h2⟩, h3⟩
theorem WP_iconst {n v : Int} (hm : mw_mT[mi]? = some me) (hd : decode me.2.1 pc = .ok (.iconst n, 1)) (hv : w32 n = v) : mw_WP d mi pc lv (st) σ Q ↔ mw_WP d mi (pc + 1) lv (jI v :: st) σ Q := WP_k hm hd rfl (fun _ _ => by rw [← hv]; exact Iff.rfl)
theorem WP_bipush {n v : Int} (hm : mw_mT[mi]? = some me) (hd : decode me.2.1 pc = .ok (.bipush n, 2)) (hv : (Int8.ofInt n).toInt32.toInt = v) : mw_WP d mi pc lv (st) σ Q ↔ mw_WP d mi (pc + 2) lv (jI v :: st) σ Q := WP_k hm hd rfl (fun _ _ => by rw [← hv]; exact Iff.rfl)
theorem WP_sipush {n v : Int} (hm : mw_mT[mi]? = some me) (hd : decode me.2.1 pc = .ok (.sipush n, 3)) (hv : (Int16.ofInt n).toInt32.toInt = v) : mw_WP d mi pc lv (st) σ Q ↔ mw_WP d mi (pc + 3) lv (jI v :: st) σ Q := WP_k hm hd rfl (fun _ _ => by rw [← hv]; exact Iff.rfl)
theorem WP_lconst {n : Fin 2} {v : Int} (hm : mw_mT[mi]? = some me) (hd : decode me.2.1 pc = .ok (.lconst n, 1)) (hv : (Int64.ofNat (n : Nat)).toInt = v) : mw_WP d mi pc lv (st) σ Q ↔ mw_WP d mi (pc + 1) lv (jL v :: st) σ Q := WP_k hm hd rfl (fun _ _ => by rw [← hv]; exact Iff.rfl)
theorem WP_ldc {x : Nat} {v w : Int} (hm : mw_mT[mi]? = some me) (hd : decode me.2.1 pc = .ok (.ldc x, 2)) (hk : mw_kT.lookup (mw_key me x) = some v) (hv : w32 v = w) : mw_WP d mi pc lv (st) σ Q ↔ mw_WP d mi (pc + 2) lv (jI w :: st) σ Q := WP_k hm hd rfl (fun _ _ => by simp only [mw_stp, hk, hv])
theorem WP_ldc_w {x : Nat} {v w : Int} (hm : mw_mT[mi]? = some me) (hd : decode me.2.1 pc = .ok (.ldc_w x, 3)) (hk : mw_kT.lookup (mw_key me x) = some v) (hv : w32 v = w) : mw_WP d mi pc lv (st) σ Q ↔ mw_WP d mi (pc + 3) lv (jI w :: st) σ Q := WP_k hm hd rfl (fun _ _ => by simp only [mw_stp, hk, hv])
theorem WP_ldcS {x n a : Nat} (hm : mw_mT[mi]? = some me) (hd : decode me.2.1 pc = .ok (.ldc x, 2)) (hn : mw_kT.lookup (mw_key me x) = none) (hk : mw_sT.lookup (mw_key me x) = some n) (hv : 1000 + n = a) : mw_WP d mi pc lv (st) σ Q ↔ mw_WP d mi (pc + 2) lv (jR a :: st) σ Q := WP_k hm hd rfl (fun _ _ => by simp only [mw_stp, hn, hk, hv])
theorem WP_ldcwS {x n a : Nat} (hm : mw_mT[mi]? = some me) (hd : decode me.2.1 pc = .ok (.ldc_w x, 3)) (hn : mw_kT.lookup (mw_key me x) = none) (hk : mw_sT.lookup (mw_key me x) = some n) (hv : 1000 + n = a) : mw_WP d mi pc lv (st) σ Q ↔ mw_WP d mi (pc + 3) lv (jR a :: st) σ Q := WP_k hm hd rfl (fun _ _ => by simp only [mw_stp, hn, hk, hv])
theorem WP_ldc2_w {x : Nat} {v w : Int} (hm : mw_mT[mi]? = some me) (hd : decode me.2.1 pc = .ok (.ldc2_w x, 3)) (hk : mw_lT.lookup (mw_key me x) = some v) (hv : w64 v = w) : mw_WP d mi pc lv (st) σ Q ↔ mw_WP d mi (pc + 3) lv (jL w :: st) σ Q := WP_k hm hd rfl (fun _ _ => by simp only [mw_stp, hk, hv])
theorem WP_iload {n : Nat} {x : Int} (hm : mw_mT[mi]? = some me) (hd : decode me.2.1 pc = .ok (.iload n, 2)) (h : lv[n]? = some (some (jI x))) : mw_WP d mi pc lv (st) σ Q ↔ mw_WP d mi (pc + 2) lv (jI x :: st) σ Q := WP_k hm hd rfl (fun _ _ => by simp only [mw_stp, mw_ldI, h])
theorem WP_iload_n {n : Fin 4} {x : Int} (hm : mw_mT[mi]? = some me) (hd : decode me.2.1 pc = .ok (.iload_n n, 1)) (h : lv[(n : Nat)]? = some (some (jI x))) : mw_WP d mi pc lv (st) σ Q ↔ mw_WP d mi (pc + 1) lv (jI x :: st) σ Q := WP_k hm hd rfl (fun _ _ => by simp only [mw_stp, mw_ldI, h])
theorem WP_lload {n : Nat} {x : Int} (hm : mw_mT[mi]? = some me) (hd : decode me.2.1 pc = .ok (.lload n, 2)) (h : lv[n]? = some (some (jL x))) : mw_WP d mi pc lv (st) σ Q ↔ mw_WP d mi (pc + 2) lv (jL x :: st) σ Q := WP_k hm hd rfl (fun _ _ => by simp only [mw_stp, mw_ldL, h])
theorem WP_lload_n {n : Fin 4} {x : Int} (hm : mw_mT[mi]? = some me) (hd : decode me.2.1 pc = .ok (.lload_n n, 1)) (h : lv[(n : Nat)]? = some (some (jL x))) : mw_WP d mi pc lv (st) σ Q ↔ mw_WP d mi (pc + 1) lv (jL x :: st) σ Q := WP_k hm hd rfl (fun _ _ => by simp only [mw_stp, mw_ldL, h])
theorem WP_aload {n : Nat} {x : Nat} (hm : mw_mT[mi]? = some me) (hd : decode me.2.1 pc = .ok (.aload n, 2)) (h : lv[n]? = some (some (jR x))) : mw_WP d mi pc lv (st) σ Q ↔ mw_WP d mi (pc + 2) lv (jR x :: st) σ Q := WP_k hm hd rfl (fun _ _ => by simp only [mw_stp, mw_ldR, h])
theorem WP_aload_n {n : Fin 4} {x : Nat} (hm : mw_mT[mi]? = some me) (hd : decode me.2.1 pc = .ok (.aload_n n, 1)) (h : lv[(n : Nat)]? = some (some (jR x))) : mw_WP d mi pc lv (st) σ Q ↔ mw_WP d mi (pc + 1) lv (jR x :: st) σ Q := WP_k hm hd rfl (fun _ _ => by simp only [mw_stp, mw_ldR, h])
theorem WP_istore {n : Nat} {x : Int} (hm : mw_mT[mi]? = some me) (hd : decode me.2.1 pc = .ok (.istore n, 2)) (h1 : n < lv.length) (h2 : mw_nl lv n = true) (h3 : lv.set n (some (jI x)) = lv') : mw_WP d mi pc lv (jI x :: st) σ Q ↔ mw_WP d mi (pc + 2) lv' st σ Q := WP_k hm hd rfl (fun _ _ => by rw [← h3]; exact ⟨fun h => h.2.2, fun h => ⟨h1, h2, h⟩⟩)
theorem WP_istore_n {n : Fin 4} {x : Int} (hm : mw_mT[mi]? = some me) (hd : decode me.2.1 pc = .ok (.istore_n n, 1)) (h1 : (n : Nat) < lv.length) (h2 : mw_nl lv (n : Nat) = true) (h3 : lv.set (n : Nat) (some (jI x)) = lv') : mw_WP d mi pc lv (jI x :: st) σ Q ↔ mw_WP d mi (pc + 1) lv' st σ Q := WP_k hm hd rfl (fun _ _ => by rw [← h3]; exact ⟨fun h => h.2.2, fun h => ⟨h1, h2, h⟩⟩)
theorem WP_lstore {n : Nat} {x : Int} (hm : mw_mT[mi]? = some me) (hd : decode me.2.1 pc = .ok (.lstore n, 2)) (h1 : n + 1 < lv.length) (h2 : mw_nl lv n = true) (h3 : (lv.set n (some (jL x))).set (n + 1) none = lv') : mw_WP d mi pc lv (jL x :: st) σ Q ↔ mw_WP d mi (pc + 2) lv' st σ Q := WP_k hm hd rfl (fun _ _ => by rw [← h3]; exact ⟨fun h => h.2.2, fun h => ⟨h1, h2, h⟩⟩)
theorem WP_lstore_n {n : Fin 4} {x : Int} (hm : mw_mT[mi]? = some me) (hd : decode me.2.1 pc = .ok (.lstore_n n, 1)) (h1 : (n : Nat) + 1 < lv.length) (h2 : mw_nl lv (n : Nat) = true) (h3 : (lv.set (n : Nat) (some (jL x))).set ((n : Nat) + 1) none = lv') : mw_WP d mi pc lv (jL x :: st) σ Q ↔ mw_WP d mi (pc + 1) lv' st σ Q := WP_k hm hd rfl (fun _ _ => by rw [← h3]; exact ⟨fun h => h.2.2, fun h => ⟨h1, h2, h⟩⟩)
theorem WP_astore {n : Nat} {x : Nat} (hm : mw_mT[mi]? = some me) (hd : decode me.2.1 pc = .ok (.astore n, 2)) (h1 : n < lv.length) (h2 : mw_nl lv n = true) (h3 : lv.set n (some (jR x)) = lv') : mw_WP d mi pc lv (jR x :: st) σ Q ↔ mw_WP d mi (pc + 2) lv' st σ Q := WP_k hm hd rfl (fun _ _ => by rw [← h3]; exact ⟨fun h => h.2.2, fun h => ⟨h1, h2, h⟩⟩)
theorem WP_astore_n {n : Fin 4} {x : Nat} (hm : mw_mT[mi]? = some me) (hd : decode me.2.1 pc = .ok (.astore_n n, 1)) (h1 : (n : Nat) < lv.length) (h2 : mw_nl lv (n : Nat) = true) (h3 : lv.set (n : Nat) (some (jR x)) = lv') : mw_WP d mi pc lv (jR x :: st) σ Q ↔ mw_WP d mi (pc + 1) lv' st σ Q := WP_k hm hd rfl (fun _ _ => by rw [← h3]; exact ⟨fun h => h.2.2, fun h => ⟨h1, h2, h⟩⟩)
theorem WP_iinc {n : Nat} {x v : Int} (hm : mw_mT[mi]? = some me) (hd : decode me.2.1 pc = .ok (.iinc n v, 3)) (h0 : lv[n]? = some (some (jI x))) (h1 : n < lv.length) (h2 : mw_nl lv n = true) (h3 : lv.set n (some (jI (w32 (x + v)))) = lv') : mw_WP d mi pc lv st σ Q ↔ mw_WP d mi (pc + 3) lv' st σ Q := WP_k hm hd rfl (fun _ _ => by
  rw [← h3]
  simp only [mw_stp, mw_ldI, h0, mw_st1, i32_add]
  exact ⟨fun h => h.2.2, fun h => ⟨h1, h2, h⟩⟩)
theorem WP_iadd {x y : Int} (hm : mw_mT[mi]? = some me) (hd : decode me.2.1 pc = .ok (.iadd, 1)) : mw_WP d mi pc lv (jI y :: jI x :: st) σ Q ↔ mw_WP d mi (pc + 1) lv (jI (w32 (x + y)) :: st) σ Q := WP_k hm hd rfl (fun _ _ => by simp only [mw_stp, mw_b2, i32_add]; exact Iff.rfl)
theorem WP_isub {x y : Int} (hm : mw_mT[mi]? = some me) (hd : decode me.2.1 pc = .ok (.isub, 1)) : mw_WP d mi pc lv (jI y :: jI x :: st) σ Q ↔ mw_WP d mi (pc + 1) lv (jI (w32 (x - y)) :: st) σ Q := WP_k hm hd rfl (fun _ _ => by simp only [mw_stp, mw_b2, i32_sub]; exact Iff.rfl)
theorem WP_imul {x y : Int} (hm : mw_mT[mi]? = some me) (hd : decode me.2.1 pc = .ok (.imul, 1)) : mw_WP d mi pc lv (jI y :: jI x :: st) σ Q ↔ mw_WP d mi (pc + 1) lv (jI (w32 (x * y)) :: st) σ Q := WP_k hm hd rfl (fun _ _ => by simp only [mw_stp, mw_b2, i32_mul]; exact Iff.rfl)
theorem WP_iand {x y : Int} (hm : mw_mT[mi]? = some me) (hd : decode me.2.1 pc = .ok (.iand, 1)) : mw_WP d mi pc lv (jI y :: jI x :: st) σ Q ↔ mw_WP d mi (pc + 1) lv (jI (zAnd x y) :: st) σ Q := WP_k hm hd rfl (fun _ _ => Iff.rfl)
theorem WP_ior {x y : Int} (hm : mw_mT[mi]? = some me) (hd : decode me.2.1 pc = .ok (.ior, 1)) : mw_WP d mi pc lv (jI y :: jI x :: st) σ Q ↔ mw_WP d mi (pc + 1) lv (jI (zOr x y) :: st) σ Q := WP_k hm hd rfl (fun _ _ => Iff.rfl)
theorem WP_ixor {x y : Int} (hm : mw_mT[mi]? = some me) (hd : decode me.2.1 pc = .ok (.ixor, 1)) : mw_WP d mi pc lv (jI y :: jI x :: st) σ Q ↔ mw_WP d mi (pc + 1) lv (jI (zXor x y) :: st) σ Q := WP_k hm hd rfl (fun _ _ => Iff.rfl)
theorem WP_ishl {x y : Int} (hm : mw_mT[mi]? = some me) (hd : decode me.2.1 pc = .ok (.ishl, 1)) : mw_WP d mi pc lv (jI y :: jI x :: st) σ Q ↔ mw_WP d mi (pc + 1) lv (jI (zShl x y) :: st) σ Q := WP_k hm hd rfl (fun _ _ => Iff.rfl)
theorem WP_ishr {x y : Int} (hm : mw_mT[mi]? = some me) (hd : decode me.2.1 pc = .ok (.ishr, 1)) : mw_WP d mi pc lv (jI y :: jI x :: st) σ Q ↔ mw_WP d mi (pc + 1) lv (jI (zShr x y) :: st) σ Q := WP_k hm hd rfl (fun _ _ => Iff.rfl)
theorem WP_iushr {x y : Int} (hm : mw_mT[mi]? = some me) (hd : decode me.2.1 pc = .ok (.iushr, 1)) : mw_WP d mi pc lv (jI y :: jI x :: st) σ Q ↔ mw_WP d mi (pc + 1) lv (jI (zUshr x y) :: st) σ Q := WP_k hm hd rfl (fun _ _ => Iff.rfl)
theorem WP_ladd {x y : Int} (hm : mw_mT[mi]? = some me) (hd : decode me.2.1 pc = .ok (.ladd, 1)) : mw_WP d mi pc lv (jL y :: jL x :: st) σ Q ↔ mw_WP d mi (pc + 1) lv (jL (w64 (x + y)) :: st) σ Q := WP_k hm hd rfl (fun _ _ => by simp only [mw_stp, mw_l2, i64_add]; exact Iff.rfl)
theorem WP_lsub {x y : Int} (hm : mw_mT[mi]? = some me) (hd : decode me.2.1 pc = .ok (.lsub, 1)) : mw_WP d mi pc lv (jL y :: jL x :: st) σ Q ↔ mw_WP d mi (pc + 1) lv (jL (w64 (x - y)) :: st) σ Q := WP_k hm hd rfl (fun _ _ => by simp only [mw_stp, mw_l2, i64_sub]; exact Iff.rfl)
theorem WP_lmul {x y : Int} (hm : mw_mT[mi]? = some me) (hd : decode me.2.1 pc = .ok (.lmul, 1)) : mw_WP d mi pc lv (jL y :: jL x :: st) σ Q ↔ mw_WP d mi (pc + 1) lv (jL (w64 (x * y)) :: st) σ Q := WP_k hm hd rfl (fun _ _ => by simp only [mw_stp, mw_l2, i64_mul]; exact Iff.rfl)
theorem WP_land {x y : Int} (hm : mw_mT[mi]? = some me) (hd : decode me.2.1 pc = .ok (.land, 1)) : mw_WP d mi pc lv (jL y :: jL x :: st) σ Q ↔ mw_WP d mi (pc + 1) lv (jL (yAnd x y) :: st) σ Q := WP_k hm hd rfl (fun _ _ => Iff.rfl)
theorem WP_lor {x y : Int} (hm : mw_mT[mi]? = some me) (hd : decode me.2.1 pc = .ok (.lor, 1)) : mw_WP d mi pc lv (jL y :: jL x :: st) σ Q ↔ mw_WP d mi (pc + 1) lv (jL (yOr x y) :: st) σ Q := WP_k hm hd rfl (fun _ _ => Iff.rfl)
theorem WP_lcmp {x y : Int} (hm : mw_mT[mi]? = some me) (hd : decode me.2.1 pc = .ok (.lcmp, 1)) : mw_WP d mi pc lv (jL y :: jL x :: st) σ Q ↔ mw_WP d mi (pc + 1) lv (jI (yCmp x y) :: st) σ Q := WP_k hm hd rfl (fun _ _ => Iff.rfl)
theorem WP_lshl {x y : Int} (hm : mw_mT[mi]? = some me) (hd : decode me.2.1 pc = .ok (.lshl, 1)) : mw_WP d mi pc lv (jI y :: jL x :: st) σ Q ↔ mw_WP d mi (pc + 1) lv (jL (yShl x y) :: st) σ Q := WP_k hm hd rfl (fun _ _ => Iff.rfl)
theorem WP_lshr {x y : Int} (hm : mw_mT[mi]? = some me) (hd : decode me.2.1 pc = .ok (.lshr, 1)) : mw_WP d mi pc lv (jI y :: jL x :: st) σ Q ↔ mw_WP d mi (pc + 1) lv (jL (yShr x y) :: st) σ Q := WP_k hm hd rfl (fun _ _ => Iff.rfl)
theorem WP_lushr {x y : Int} (hm : mw_mT[mi]? = some me) (hd : decode me.2.1 pc = .ok (.lushr, 1)) : mw_WP d mi pc lv (jI y :: jL x :: st) σ Q ↔ mw_WP d mi (pc + 1) lv (jL (yUshr x y) :: st) σ Q := WP_k hm hd rfl (fun _ _ => Iff.rfl)
theorem WP_idiv {x y : Int} (hm : mw_mT[mi]? = some me) (hd : decode me.2.1 pc = .ok (.idiv, 1)) : mw_WP d mi pc lv (jI y :: jI x :: st) σ Q ↔ (¬ i32 y = 0 ∧ mw_WP d mi (pc + 1) lv (jI (zDiv x y) :: st) σ Q) := WP_a hm hd rfl (fun _ _ => Iff.rfl)
theorem WP_irem {x y : Int} (hm : mw_mT[mi]? = some me) (hd : decode me.2.1 pc = .ok (.irem, 1)) : mw_WP d mi pc lv (jI y :: jI x :: st) σ Q ↔ (¬ i32 y = 0 ∧ mw_WP d mi (pc + 1) lv (jI (zRem x y) :: st) σ Q) := WP_a hm hd rfl (fun _ _ => Iff.rfl)
theorem WP_ldiv {x y : Int} (hm : mw_mT[mi]? = some me) (hd : decode me.2.1 pc = .ok (.ldiv, 1)) : mw_WP d mi pc lv (jL y :: jL x :: st) σ Q ↔ (¬ i64 y = 0 ∧ mw_WP d mi (pc + 1) lv (jL (yDiv x y) :: st) σ Q) := WP_a hm hd rfl (fun _ _ => Iff.rfl)
theorem WP_lrem {x y : Int} (hm : mw_mT[mi]? = some me) (hd : decode me.2.1 pc = .ok (.lrem, 1)) : mw_WP d mi pc lv (jL y :: jL x :: st) σ Q ↔ (¬ i64 y = 0 ∧ mw_WP d mi (pc + 1) lv (jL (yRem x y) :: st) σ Q) := WP_a hm hd rfl (fun _ _ => Iff.rfl)
theorem WP_ineg {x : Int} (hm : mw_mT[mi]? = some me) (hd : decode me.2.1 pc = .ok (.ineg, 1)) : mw_WP d mi pc lv (jI x :: st) σ Q ↔ mw_WP d mi (pc + 1) lv (jI (w32 (-x)) :: st) σ Q := WP_k hm hd rfl (fun _ _ => by simp only [mw_stp, mw_b1, i32_neg]; exact Iff.rfl)
theorem WP_i2b {x : Int} (hm : mw_mT[mi]? = some me) (hd : decode me.2.1 pc = .ok (.i2b, 1)) : mw_WP d mi pc lv (jI x :: st) σ Q ↔ mw_WP d mi (pc + 1) lv (jI (zB x) :: st) σ Q := WP_k hm hd rfl (fun _ _ => Iff.rfl)
theorem WP_i2s {x : Int} (hm : mw_mT[mi]? = some me) (hd : decode me.2.1 pc = .ok (.i2s, 1)) : mw_WP d mi pc lv (jI x :: st) σ Q ↔ mw_WP d mi (pc + 1) lv (jI (zSh x) :: st) σ Q := WP_k hm hd rfl (fun _ _ => Iff.rfl)
theorem WP_i2c {x : Int} (hm : mw_mT[mi]? = some me) (hd : decode me.2.1 pc = .ok (.i2c, 1)) : mw_WP d mi pc lv (jI x :: st) σ Q ↔ mw_WP d mi (pc + 1) lv (jI (zC x) :: st) σ Q := WP_k hm hd rfl (fun _ _ => Iff.rfl)
theorem WP_l2i {x : Int} (hm : mw_mT[mi]? = some me) (hd : decode me.2.1 pc = .ok (.l2i, 1)) : mw_WP d mi pc lv (jL x :: st) σ Q ↔ mw_WP d mi (pc + 1) lv (jI (zI x) :: st) σ Q := WP_k hm hd rfl (fun _ _ => Iff.rfl)
theorem WP_i2l {x : Int} (hm : mw_mT[mi]? = some me) (hd : decode me.2.1 pc = .ok (.i2l, 1)) : mw_WP d mi pc lv (jI x :: st) σ Q ↔ mw_WP d mi (pc + 1) lv (jL (yL x) :: st) σ Q := WP_k hm hd rfl (fun _ _ => Iff.rfl)
theorem WP_dup {v : mw_V} (hm : mw_mT[mi]? = some me) (hd : decode me.2.1 pc = .ok (.dup, 1)) (h : mw_cat v = 1) : mw_WP d mi pc lv (v :: st) σ Q ↔ mw_WP d mi (pc + 1) lv (v :: v :: st) σ Q := WP_k hm hd rfl (fun _ _ => ⟨fun q => q.2, fun q => ⟨h, q⟩⟩)
theorem WP_pop {v : mw_V} (hm : mw_mT[mi]? = some me) (hd : decode me.2.1 pc = .ok (.pop, 1)) (h : mw_cat v = 1) : mw_WP d mi pc lv (v :: st) σ Q ↔ mw_WP d mi (pc + 1) lv st σ Q := WP_k hm hd rfl (fun _ _ => ⟨fun q => q.2, fun q => ⟨h, q⟩⟩)
theorem WP_dup2 {v w : mw_V} (hm : mw_mT[mi]? = some me) (hd : decode me.2.1 pc = .ok (.dup2, 1)) (h : mw_cat v = 1) (h2 : mw_cat w = 1) : mw_WP d mi pc lv (v :: w :: st) σ Q ↔ mw_WP d mi (pc + 1) lv (v :: w :: v :: w :: st) σ Q := WP_k hm hd rfl (fun _ _ => ⟨fun q => q.2.2, fun q => ⟨h, h2, q⟩⟩)
theorem WP_pop2 {x : Int} (hm : mw_mT[mi]? = some me) (hd : decode me.2.1 pc = .ok (.pop2, 1)) : mw_WP d mi pc lv (jL x :: st) σ Q ↔ mw_WP d mi (pc + 1) lv st σ Q := WP_k hm hd rfl (fun _ _ => Iff.rfl)
theorem WP_goto {off : Int} {t : Nat} (hm : mw_mT[mi]? = some me) (hd : decode me.2.1 pc = .ok (.goto off, 3)) (ht : (pc : Int) + off = t) : mw_WP d mi pc lv st σ Q ↔ mw_WP d mi t lv st σ Q := WP_k hm hd rfl (fun _ _ => by
  simp only [mw_stp, mw_go, ht]
  exact ⟨fun q => q.2, fun q => ⟨Int.natCast_nonneg t, q⟩⟩)
theorem WP_icmp_eq {off x y : Int} {t : Nat} (hm : mw_mT[mi]? = some me) (hd : decode me.2.1 pc = .ok (.if_icmp .eq off, 3)) (ht : (pc : Int) + off = t) : mw_WP d mi pc lv (jI y :: jI x :: st) σ Q ↔ (if x = y then mw_WP d mi t lv st σ Q else mw_WP d mi (pc + 3) lv st σ Q) := WP_if hm hd rfl (fun _ _ => by
  simp only [mw_stp, mw_b2, mw_go, ht, mw_cnd, decide_eq_true_eq]
  exact ⟨fun q => q.2, fun q => ⟨Int.natCast_nonneg t, q⟩⟩)
theorem WP_if_eq {off x : Int} {t : Nat} (hm : mw_mT[mi]? = some me) (hd : decode me.2.1 pc = .ok (.ifCond .eq off, 3)) (ht : (pc : Int) + off = t) : mw_WP d mi pc lv (jI x :: st) σ Q ↔ (if x = 0 then mw_WP d mi t lv st σ Q else mw_WP d mi (pc + 3) lv st σ Q) := WP_if hm hd rfl (fun _ _ => by
  simp only [mw_stp, mw_b1, mw_go, ht, mw_cnd, decide_eq_true_eq]
  exact ⟨fun q => q.2, fun q => ⟨Int.natCast_nonneg t, q⟩⟩)
theorem WP_icmp_ne {off x y : Int} {t : Nat} (hm : mw_mT[mi]? = some me) (hd : decode me.2.1 pc = .ok (.if_icmp .ne off, 3)) (ht : (pc : Int) + off = t) : mw_WP d mi pc lv (jI y :: jI x :: st) σ Q ↔ (if ¬ x = y then mw_WP d mi t lv st σ Q else mw_WP d mi (pc + 3) lv st σ Q) := WP_if hm hd rfl (fun _ _ => by
  simp only [mw_stp, mw_b2, mw_go, ht, mw_cnd, decide_eq_true_eq]
  exact ⟨fun q => q.2, fun q => ⟨Int.natCast_nonneg t, q⟩⟩)
theorem WP_if_ne {off x : Int} {t : Nat} (hm : mw_mT[mi]? = some me) (hd : decode me.2.1 pc = .ok (.ifCond .ne off, 3)) (ht : (pc : Int) + off = t) : mw_WP d mi pc lv (jI x :: st) σ Q ↔ (if ¬ x = 0 then mw_WP d mi t lv st σ Q else mw_WP d mi (pc + 3) lv st σ Q) := WP_if hm hd rfl (fun _ _ => by
  simp only [mw_stp, mw_b1, mw_go, ht, mw_cnd, decide_eq_true_eq]
  exact ⟨fun q => q.2, fun q => ⟨Int.natCast_nonneg t, q⟩⟩)
theorem WP_icmp_lt {off x y : Int} {t : Nat} (hm : mw_mT[mi]? = some me) (hd : decode me.2.1 pc = .ok (.if_icmp .lt off, 3)) (ht : (pc : Int) + off = t) : mw_WP d mi pc lv (jI y :: jI x :: st) σ Q ↔ (if x < y then mw_WP d mi t lv st σ Q else mw_WP d mi (pc + 3) lv st σ Q) := WP_if hm hd rfl (fun _ _ => by
  simp only [mw_stp, mw_b2, mw_go, ht, mw_cnd, decide_eq_true_eq]
  exact ⟨fun q => q.2, fun q => ⟨Int.natCast_nonneg t, q⟩⟩)
theorem WP_if_lt {off x : Int} {t : Nat} (hm : mw_mT[mi]? = some me) (hd : decode me.2.1 pc = .ok (.ifCond .lt off, 3)) (ht : (pc : Int) + off = t) : mw_WP d mi pc lv (jI x :: st) σ Q ↔ (if x < 0 then mw_WP d mi t lv st σ Q else mw_WP d mi (pc + 3) lv st σ Q) := WP_if hm hd rfl (fun _ _ => by
  simp only [mw_stp, mw_b1, mw_go, ht, mw_cnd, decide_eq_true_eq]
  exact ⟨fun q => q.2, fun q => ⟨Int.natCast_nonneg t, q⟩⟩)
theorem WP_icmp_ge {off x y : Int} {t : Nat} (hm : mw_mT[mi]? = some me) (hd : decode me.2.1 pc = .ok (.if_icmp .ge off, 3)) (ht : (pc : Int) + off = t) : mw_WP d mi pc lv (jI y :: jI x :: st) σ Q ↔ (if y ≤ x then mw_WP d mi t lv st σ Q else mw_WP d mi (pc + 3) lv st σ Q) := WP_if hm hd rfl (fun _ _ => by
  simp only [mw_stp, mw_b2, mw_go, ht, mw_cnd, decide_eq_true_eq]
  exact ⟨fun q => q.2, fun q => ⟨Int.natCast_nonneg t, q⟩⟩)
theorem WP_if_ge {off x : Int} {t : Nat} (hm : mw_mT[mi]? = some me) (hd : decode me.2.1 pc = .ok (.ifCond .ge off, 3)) (ht : (pc : Int) + off = t) : mw_WP d mi pc lv (jI x :: st) σ Q ↔ (if 0 ≤ x then mw_WP d mi t lv st σ Q else mw_WP d mi (pc + 3) lv st σ Q) := WP_if hm hd rfl (fun _ _ => by
  simp only [mw_stp, mw_b1, mw_go, ht, mw_cnd, decide_eq_true_eq]
  exact ⟨fun q => q.2, fun q => ⟨Int.natCast_nonneg t, q⟩⟩)
theorem WP_icmp_gt {off x y : Int} {t : Nat} (hm : mw_mT[mi]? = some me) (hd : decode me.2.1 pc = .ok (.if_icmp .gt off, 3)) (ht : (pc : Int) + off = t) : mw_WP d mi pc lv (jI y :: jI x :: st) σ Q ↔ (if y < x then mw_WP d mi t lv st σ Q else mw_WP d mi (pc + 3) lv st σ Q) := WP_if hm hd rfl (fun _ _ => by
  simp only [mw_stp, mw_b2, mw_go, ht, mw_cnd, decide_eq_true_eq]
  exact ⟨fun q => q.2, fun q => ⟨Int.natCast_nonneg t, q⟩⟩)
theorem WP_if_gt {off x : Int} {t : Nat} (hm : mw_mT[mi]? = some me) (hd : decode me.2.1 pc = .ok (.ifCond .gt off, 3)) (ht : (pc : Int) + off = t) : mw_WP d mi pc lv (jI x :: st) σ Q ↔ (if 0 < x then mw_WP d mi t lv st σ Q else mw_WP d mi (pc + 3) lv st σ Q) := WP_if hm hd rfl (fun _ _ => by
  simp only [mw_stp, mw_b1, mw_go, ht, mw_cnd, decide_eq_true_eq]
  exact ⟨fun q => q.2, fun q => ⟨Int.natCast_nonneg t, q⟩⟩)
theorem WP_icmp_le {off x y : Int} {t : Nat} (hm : mw_mT[mi]? = some me) (hd : decode me.2.1 pc = .ok (.if_icmp .le off, 3)) (ht : (pc : Int) + off = t) : mw_WP d mi pc lv (jI y :: jI x :: st) σ Q ↔ (if x ≤ y then mw_WP d mi t lv st σ Q else mw_WP d mi (pc + 3) lv st σ Q) := WP_if hm hd rfl (fun _ _ => by
  simp only [mw_stp, mw_b2, mw_go, ht, mw_cnd, decide_eq_true_eq]
  exact ⟨fun q => q.2, fun q => ⟨Int.natCast_nonneg t, q⟩⟩)
theorem WP_if_le {off x : Int} {t : Nat} (hm : mw_mT[mi]? = some me) (hd : decode me.2.1 pc = .ok (.ifCond .le off, 3)) (ht : (pc : Int) + off = t) : mw_WP d mi pc lv (jI x :: st) σ Q ↔ (if x ≤ 0 then mw_WP d mi t lv st σ Q else mw_WP d mi (pc + 3) lv st σ Q) := WP_if hm hd rfl (fun _ _ => by
  simp only [mw_stp, mw_b1, mw_go, ht, mw_cnd, decide_eq_true_eq]
  exact ⟨fun q => q.2, fun q => ⟨Int.natCast_nonneg t, q⟩⟩)
theorem WP_iaload {z : Int} {a : Nat} (hm : mw_mT[mi]? = some me) (hd : decode me.2.1 pc = .ok (.iaload, 1)) : mw_WP d mi pc lv (jI z :: jR a :: st) σ Q ↔ ((0 ≤ z ∧ z < mw_lenI a) ∧ mw_WP d mi (pc + 1) lv (jI (mw_rdI σ a z.toNat) :: st) σ Q) := WP_a hm hd rfl (fun _ _ => ⟨fun q => ⟨⟨q.1, q.2.1⟩, q.2.2⟩, fun q => ⟨q.1.1, q.1.2, q.2⟩⟩)
theorem WP_baload {z : Int} {a : Nat} (hm : mw_mT[mi]? = some me) (hd : decode me.2.1 pc = .ok (.baload, 1)) : mw_WP d mi pc lv (jI z :: jR a :: st) σ Q ↔ ((0 ≤ z ∧ z < mw_lenB a) ∧ mw_WP d mi (pc + 1) lv (jI (mw_rdB σ a z.toNat) :: st) σ Q) := WP_a hm hd rfl (fun _ _ => ⟨fun q => ⟨⟨q.1, q.2.1⟩, q.2.2⟩, fun q => ⟨q.1.1, q.1.2, q.2⟩⟩)
theorem WP_laload {z : Int} {a : Nat} (hm : mw_mT[mi]? = some me) (hd : decode me.2.1 pc = .ok (.laload, 1)) : mw_WP d mi pc lv (jI z :: jR a :: st) σ Q ↔ ((0 ≤ z ∧ z < mw_lenW 2 a) ∧ mw_WP d mi (pc + 1) lv (jL (σ a z.toNat) :: st) σ Q) := WP_a hm hd rfl (fun _ _ => ⟨fun q => ⟨⟨q.1, q.2.1⟩, q.2.2⟩, fun q => ⟨q.1.1, q.1.2, q.2⟩⟩)
theorem WP_aaload {z : Int} {a : Nat} (hm : mw_mT[mi]? = some me) (hd : decode me.2.1 pc = .ok (.aaload, 1)) : mw_WP d mi pc lv (jI z :: jR a :: st) σ Q ↔ ((0 ≤ z ∧ z < (mw_rows a).length) ∧ mw_WP d mi (pc + 1) lv (jR ((mw_rows a).getD z.toNat 0) :: st) σ Q) := WP_a hm hd rfl (fun _ _ => ⟨fun q => ⟨⟨q.1, q.2.1⟩, q.2.2⟩, fun q => ⟨q.1.1, q.1.2, q.2⟩⟩)
theorem WP_iastore {x z : Int} {a : Nat} (hm : mw_mT[mi]? = some me) (hd : decode me.2.1 pc = .ok (.iastore, 1)) : mw_WP d mi pc lv (jI x :: jI z :: jR a :: st) σ Q ↔ ((0 ≤ z ∧ z < mw_lenW 0 a) ∧ mw_WP d mi (pc + 1) lv st (upS σ a z.toNat x) Q) := WP_a hm hd rfl (fun _ _ => ⟨fun q => ⟨⟨q.1, q.2.1⟩, q.2.2⟩, fun q => ⟨q.1.1, q.1.2, q.2⟩⟩)
theorem WP_bastore {x z : Int} {a : Nat} (hm : mw_mT[mi]? = some me) (hd : decode me.2.1 pc = .ok (.bastore, 1)) : mw_WP d mi pc lv (jI x :: jI z :: jR a :: st) σ Q ↔ ((0 ≤ z ∧ z < mw_lenW 1 a ∧ (x = 0 ∨ x = 1)) ∧ mw_WP d mi (pc + 1) lv st (upS σ a z.toNat x) Q) := WP_a hm hd rfl (fun _ _ => ⟨fun q => ⟨⟨q.1, q.2.1, q.2.2.1⟩, q.2.2.2⟩, fun q => ⟨q.1.1, q.1.2.1, q.1.2.2, q.2⟩⟩)
theorem WP_lastore {x z : Int} {a : Nat} (hm : mw_mT[mi]? = some me) (hd : decode me.2.1 pc = .ok (.lastore, 1)) : mw_WP d mi pc lv (jL x :: jI z :: jR a :: st) σ Q ↔ ((0 ≤ z ∧ z < mw_lenW 2 a) ∧ mw_WP d mi (pc + 1) lv st (upS σ a z.toNat x) Q) := WP_a hm hd rfl (fun _ _ => ⟨fun q => ⟨⟨q.1, q.2.1⟩, q.2.2⟩, fun q => ⟨q.1.1, q.1.2, q.2⟩⟩)
theorem WP_alenT {a n : Nat} (hm : mw_mT[mi]? = some me) (hd : decode me.2.1 pc = .ok (.arraylength, 1)) (h : mw_isT a = true) (h2 : mw_lenB a = n) : mw_WP d mi pc lv (jR a :: st) σ Q ↔ mw_WP d mi (pc + 1) lv (jI n :: st) σ Q := WP_k hm hd rfl (fun _ _ => by simp only [mw_stp, mw_r1, h, if_true, h2])
theorem WP_alen {a t n : Nat} (hm : mw_mT[mi]? = some me) (hd : decode me.2.1 pc = .ok (.arraylength, 1)) (h : mw_isT a = false) (h2 : mw_sh[a]? = some (.inr (.inl (t, n)))) : mw_WP d mi pc lv (jR a :: st) σ Q ↔ mw_WP d mi (pc + 1) lv (jI n :: st) σ Q := WP_k hm hd rfl (fun _ _ => by simp [mw_stp, mw_r1, h, h2])
theorem WP_getI {x a ci k : Nat} (hm : mw_mT[mi]? = some me) (hd : decode me.2.1 pc = .ok (.getfield x, 3)) (h1 : mw_fT.lookup (mw_key me x) = some (ci, k)) (h2 : mw_fld a ci k = some 0 ∨ mw_fld a ci k = some 1) : mw_WP d mi pc lv (jR a :: st) σ Q ↔ mw_WP d mi (pc + 3) lv (jI (σ a k) :: st) σ Q := WP_k hm hd rfl (fun _ _ => by
  rcases h2 with h2 | h2 <;> simp only [mw_stp, mw_r1, h1, h2])
theorem WP_getR {x a ci k n : Nat} (hm : mw_mT[mi]? = some me) (hd : decode me.2.1 pc = .ok (.getfield x, 3)) (h1 : mw_fT.lookup (mw_key me x) = some (ci, k)) (h2 : mw_fld a ci k = some (n + 2)) : mw_WP d mi pc lv (jR a :: st) σ Q ↔ mw_WP d mi (pc + 3) lv (jR n :: st) σ Q := WP_k hm hd rfl (fun _ _ => by simp only [mw_stp, mw_r1, h1, h2])
theorem WP_getV {x a : Nat} (hm : mw_mT[mi]? = some me) (hd : decode me.2.1 pc = .ok (.getfield x, 3)) (h1 : mw_fT.lookup (mw_key me x) = none) (h2 : mw_jT.lookup (mw_key me x) = some 0) (h3 : 1000 ≤ a ∧ a < 1000 + mw_strs.length) : mw_WP d mi pc lv (jR a :: st) σ Q ↔ mw_WP d mi (pc + 3) lv (jR (a + 1000) :: st) σ Q := WP_k hm hd rfl (fun _ _ => by
  simp only [mw_stp, mw_r1, h1, h2]
  exact ⟨fun q => q.2.2, fun q => ⟨h3.1, h3.2, q⟩⟩)
theorem WP_getC {x a : Nat} (hm : mw_mT[mi]? = some me) (hd : decode me.2.1 pc = .ok (.getfield x, 3)) (h1 : mw_fT.lookup (mw_key me x) = none) (h2 : mw_jT.lookup (mw_key me x) = some 1) (h3 : 1000 ≤ a ∧ a < 1000 + mw_strs.length) : mw_WP d mi pc lv (jR a :: st) σ Q ↔ mw_WP d mi (pc + 3) lv (jI 0 :: st) σ Q := WP_k hm hd rfl (fun _ _ => by
  simp only [mw_stp, mw_r1, h1, h2]
  exact ⟨fun q => q.2.2, fun q => ⟨h3.1, h3.2, q⟩⟩)
theorem WP_putI {x a ci k : Nat} {v : Int} (hm : mw_mT[mi]? = some me) (hd : decode me.2.1 pc = .ok (.putfield x, 3)) (h1 : mw_fT.lookup (mw_key me x) = some (ci, k)) (h2 : mw_fld a ci k = some 0) : mw_WP d mi pc lv (jI v :: jR a :: st) σ Q ↔ mw_WP d mi (pc + 3) lv st (upS σ a k v) Q := WP_k hm hd rfl (fun _ _ => by simp only [mw_stp, mw_b1, mw_r1, h1, h2])
theorem WP_putZ {x a ci k : Nat} {v : Int} (hm : mw_mT[mi]? = some me) (hd : decode me.2.1 pc = .ok (.putfield x, 3)) (h1 : mw_fT.lookup (mw_key me x) = some (ci, k)) (h2 : mw_fld a ci k = some 1) : mw_WP d mi pc lv (jI v :: jR a :: st) σ Q ↔ ((v = 0 ∨ v = 1) ∧ mw_WP d mi (pc + 3) lv st (upS σ a k v) Q) := WP_a hm hd rfl (fun _ _ => by simp only [mw_stp, mw_b1, mw_r1, h1, h2])
theorem WP_gets0 {x : Nat} (hm : mw_mT[mi]? = some me) (hd : decode me.2.1 pc = .ok (.getstatic x, 3)) (h : mw_gT.lookup (mw_key me x) = some 0 ∨ mw_gT.lookup (mw_key me x) = some 3) : mw_WP d mi pc lv st σ Q ↔ mw_WP d mi (pc + 3) lv (jR 3000 :: st) σ Q := WP_k hm hd rfl (fun _ _ => by rcases h with h | h <;> simp only [mw_stp, h])
theorem WP_gets1 {x : Nat} (hm : mw_mT[mi]? = some me) (hd : decode me.2.1 pc = .ok (.getstatic x, 3)) (h : mw_gT.lookup (mw_key me x) = some 1) : mw_WP d mi pc lv st σ Q ↔ mw_WP d mi (pc + 3) lv (jI 1 :: st) σ Q := WP_k hm hd rfl (fun _ _ => by simp only [mw_stp, h])
theorem WP_gets2 {x : Nat} (hm : mw_mT[mi]? = some me) (hd : decode me.2.1 pc = .ok (.getstatic x, 3)) (h : mw_gT.lookup (mw_key me x) = some 2) : mw_WP d mi pc lv st σ Q ↔ mw_WP d mi (pc + 3) lv (jO :: st) σ Q := WP_k hm hd rfl (fun _ _ => by simp only [mw_stp, h])
theorem WP_ireturn {z : Int} {ty : FieldType} (hm : mw_mT[mi]? = some me) (hd : decode me.2.1 pc = .ok (.ireturn, 1)) (hr : me.2.2.2.1 = some ty) (hn : narrow ty (.int (i32 z)) = .int (i32 z)) : mw_WP d mi pc lv [jI z] σ Q ↔ Q (some (jI z)) σ := WP_ret hm hd rfl (fun _ _ => ⟨fun q => q.2, fun q => ⟨⟨ty, hr, hn⟩, q⟩⟩)
theorem WP_lreturn {z : Int} (hm : mw_mT[mi]? = some me) (hd : decode me.2.1 pc = .ok (.lreturn, 1)) (hr : me.2.2.2.1 = some .long) : mw_WP d mi pc lv [jL z] σ Q ↔ Q (some (jL z)) σ := WP_ret hm hd rfl (fun _ _ => ⟨fun q => q.2, fun q => ⟨hr, q⟩⟩)
theorem WP_return (hm : mw_mT[mi]? = some me) (hd : decode me.2.1 pc = .ok (.return_, 1)) (hr : me.2.2.2.1 = none) : mw_WP d mi pc lv [] σ Q ↔ Q none σ := WP_ret hm hd rfl (fun _ _ => ⟨fun q => q.2, fun q => ⟨hr, q⟩⟩)
theorem WP_inv {x mj a : Nat} {mf : mw_Me} {as : List mw_V} (hm : mw_mT[mi]? = some me) (hd : decode me.2.1 pc = .ok (.invokevirtual x, 3)) (hc : mw_cT.lookup (mw_key me x) = some mj) (hf : mw_mT[mj]? = some mf) (hn : as.length = mf.2.2.2.2.2.1) (hr : mw_rc a = mf.2.2.2.2.2.2) (h8 : (rest.map mw_cat).sum ≤ 8) : mw_WP d mi pc lv (as ++ jR a :: rest) σ Q ↔ mw_Call d mj (jR a :: as.reverse) σ (fun r1 s1 => mw_WP d mi (pc + 3) lv (r1.toList ++ rest) s1 Q) := WP_cl hm hd rfl (fun _ _ => by
  have e1 : (as ++ jR a :: rest).take mf.2.2.2.2.2.1 = as := by rw [← hn, List.take_left]
  have e2 : (as ++ jR a :: rest).drop mf.2.2.2.2.2.1 = jR a :: rest := by rw [← hn, List.drop_left]
  simp only [mw_stp, hc, mw_inv, hf, if_true, e1, e2]
  exact ⟨fun q => q.2.2, fun q => ⟨hr, h8, q⟩⟩)
theorem WP_invs {x mj : Nat} {mf : mw_Me} {as : List mw_V} (hm : mw_mT[mi]? = some me) (hd : decode me.2.1 pc = .ok (.invokestatic x, 3)) (hc : mw_cT.lookup (mw_key me x) = some mj) (hf : mw_mT[mj]? = some mf) (hn : as.length = mf.2.2.2.2.2.1) (hr : mf.2.2.2.2.2.2 = 0) (h8 : (rest.map mw_cat).sum ≤ 8) : mw_WP d mi pc lv (as ++ rest) σ Q ↔ mw_Call d mj as.reverse σ (fun r1 s1 => mw_WP d mi (pc + 3) lv (r1.toList ++ rest) s1 Q) := WP_cl hm hd rfl (fun _ _ => by
  have e1 : (as ++ rest).take mf.2.2.2.2.2.1 = as := by rw [← hn, List.take_left]
  have e2 : (as ++ rest).drop mf.2.2.2.2.2.1 = rest := by rw [← hn, List.drop_left]
  simp only [mw_stp, hc, mw_inv, hf, Bool.false_eq_true, if_false, e1, e2]
  exact ⟨fun q => q.2.2.2, fun q => ⟨hr, by rw [← hn, List.length_append]; omega, h8, q⟩⟩)
theorem WP_invn {x mj : Nat} {mf : mw_Me} {as : List mw_V} (hm : mw_mT[mi]? = some me) (hd : decode me.2.1 pc = .ok (.invokestatic x, 3)) (hc0 : mw_cT.lookup (mw_key me x) = none) (hc : mw_nT.lookup (mw_key me x) = some mj) (hf : mw_mT[mj]? = some mf) (hn : as.length = mf.2.2.2.2.2.1) (hr : mf.2.2.2.2.2.2 = 0) (h8 : (rest.map mw_cat).sum ≤ 8) : mw_WP d mi pc lv (as ++ rest) σ Q ↔ mw_Call d mj as.reverse σ (fun r1 s1 => mw_WP d mi (pc + 3) lv (r1.toList ++ rest) s1 Q) := WP_cl hm hd rfl (fun _ _ => by
  have e1 : (as ++ rest).take mf.2.2.2.2.2.1 = as := by rw [← hn, List.take_left]
  have e2 : (as ++ rest).drop mf.2.2.2.2.2.1 = rest := by rw [← hn, List.drop_left]
  simp only [mw_stp, hc0, hc, mw_inv, hf, Bool.false_eq_true, if_false, e1, e2]
  exact ⟨fun q => q.2.2.2, fun q => ⟨hr, by rw [← hn, List.length_append]; omega, h8, q⟩⟩)
theorem WP_acp {x t : Nat} {n dp sp : Int} {a b : Nat} (ht : t = 0 ∨ t = 2) (hm : mw_mT[mi]? = some me) (hd : decode me.2.1 pc = .ok (.invokestatic x, 3)) (hc0 : mw_cT.lookup (mw_key me x) = none) (hc1 : mw_nT.lookup (mw_key me x) = none) (hc : mw_key me x ∈ mw_aT) (h8 : (st.map mw_cat).sum ≤ 8) (h1 : 0 ≤ sp ∧ 0 ≤ dp ∧ 0 < n ∧ sp + n ≤ mw_lenW t a ∧ dp + n ≤ mw_lenW t b) : mw_WP d mi pc lv (jI n :: jI dp :: jR b :: jI sp :: jR a :: st) σ Q ↔ mw_WP d mi (pc + 3) lv st (cpS σ a sp.toNat b dp.toNat n.toNat) Q := WP_k hm hd rfl (fun _ _ => by
  simp only [mw_stp, hc0, hc1, mw_acp]
  obtain ⟨a1, a2, a3, a4, a5⟩ := h1
  refine ⟨fun q => q.2.2.2.2.2.2, fun q => ⟨hc, a1, a2, a3, ?_, h8, q⟩⟩
  rcases ht with rfl | rfl
  · exact Or.inl ⟨a4, a5⟩
  · exact Or.inr ⟨a4, a5⟩)
/-- a call is its body from its first place on -/
theorem CL_u {as : List mw_V} (hm : mw_mT[mi]? = some me) (hl : (mw_al as).length ≤ me.2.2.1) (he : mw_al as ++ List.replicate (me.2.2.1 - (mw_al as).length) none = lv) : mw_Call (d + 1) mi as σ Q ↔ mw_WP d mi 0 lv [] σ Q := by
  constructor
  · rintro ⟨r, σ', ⟨me', n, h1, h2, h3⟩, h4⟩
    rw [hm] at h1
    cases h1
    rw [he] at h3
    exact ⟨n, r, σ', h3, h4⟩
  · rintro ⟨n, r, σ', h3, h4⟩
    exact ⟨r, σ', ⟨me, n, hm, hl, by rw [he]; exact h3⟩, h4⟩
theorem CL_mono {as : List mw_V} {Q' : Option mw_V → mw_S → Prop} (h : ∀ r s, Q r s → Q' r s) (hc : mw_Call d mi as σ Q) : mw_Call d mi as σ Q' := by
  obtain ⟨r, s, h1, h2⟩ := hc
  exact ⟨r, s, h1, h r s h2⟩
theorem WP_mono {Q' : Option mw_V → mw_S → Prop} (h : ∀ r s, Q r s → Q' r s) (hc : mw_WP d mi pc lv st σ Q) : mw_WP d mi pc lv st σ Q' := by
  obtain ⟨n, r, s, h1, h2⟩ := hc
  exact ⟨n, r, s, h1, h r s h2⟩
end MWR
