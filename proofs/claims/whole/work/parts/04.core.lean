/-! A small machine over whole numbers for methods that make nothing: values, states, one step, a run, a call. What it says is carried over to the machine itself in the next parts. -/
abbrev mw_V : Type := Int ⊕ (Int ⊕ (Nat ⊕ Unit))
abbrev mw_S : Type := Nat → Nat → Int
abbrev mw_L : Type := List (Option mw_V)
abbrev jI (z : Int) : mw_V := Sum.inl z
abbrev jL (z : Int) : mw_V := Sum.inr (Sum.inl z)
abbrev jR (a : Nat) : mw_V := Sum.inr (Sum.inr (Sum.inl a))
abbrev jO : mw_V := Sum.inr (Sum.inr (Sum.inr ()))
def mw_cat : mw_V → Nat
  | .inr (.inl _) => 2
  | _ => 1
def i32 (z : Int) : Int32 := Int32.ofInt z
def i64 (z : Int) : Int64 := Int64.ofInt z
def w32 (z : Int) : Int := (Int32.ofInt z).toInt
def w64 (z : Int) : Int := (Int64.ofInt z).toInt
def in32 (z : Int) : Prop := -2147483648 ≤ z ∧ z < 2147483648
def in64 (z : Int) : Prop := -9223372036854775808 ≤ z ∧ z < 9223372036854775808
def mw_ok : mw_V → Prop
  | .inl z => in32 z
  | .inr (.inl z) => in64 z
  | _ => True
/-- one number of a state changed -/
def upS (σ : mw_S) (a j : Nat) (x : Int) : mw_S := fun b k => if b = a ∧ k = j then x else σ b k
/-- numbers copied from a row to a row -/
def cpS (σ : mw_S) (a sp b dp n : Nat) : mw_S := fun c k => if c = b ∧ dp ≤ k ∧ k < dp + n then σ a (sp + (k - dp)) else σ c k
def mw_nl (lv : mw_L) (i : Nat) : Bool := match i with
  | 0 => true
  | j + 1 => match lv[j]? with
    | some (some (.inr (.inl _))) => false
    | _ => true
def mw_nines : List Int := [1, 9, 81, 729, 6561, 59049]
/-- how long a row of ints is (the constant one is 3000) -/
def mw_lenW (t a : Nat) : Nat := match mw_sh[a]? with
  | some (.inr (.inl (t', n))) => if t' = t then n else 0
  | _ => 0
def mw_lenI (a : Nat) : Nat := if a = 3000 then 6 else mw_lenW 0 a
def mw_rdI (σ : mw_S) (a j : Nat) : Int := if a = 3000 then mw_nines.getD j 0 else σ a j
/-- bytes: booleans of ours, or those of the constant text 2000 + k -/
def mw_isT (a : Nat) : Bool := decide (2000 ≤ a) && decide (a < 2000 + mw_strs.length)
def mw_lenB (a : Nat) : Nat := if mw_isT a = true then (mw_strs.getD (a - 2000) []).length else mw_lenW 1 a
def mw_rdB (σ : mw_S) (a j : Nat) : Int := if mw_isT a = true then (mw_strs.getD (a - 2000) []).getD j 0 else σ a j
def mw_rows (a : Nat) : List Nat := match mw_sh[a]? with
  | some (.inr (.inr (_, ids))) => ids
  | _ => []
/-- what stands in a field: nothing, a number, a cell -/
def mw_fld (a ci k : Nat) : Option Nat := match mw_sh[a]? with
  | some (.inl (ci', fs)) => if ci' = ci then fs[k]? else none
  | _ => none
/-- the kind of a receiver: kind + 1, 50 for a constant text -/
def mw_rc (a : Nat) : Nat := if 1000 ≤ a ∧ a < 1000 + mw_strs.length then 50 else match mw_sh[a]? with
  | some (.inl (ci, _)) => ci + 1
  | _ => 999
def mw_key (me : mw_Me) (idx : Nat) : Nat := if idx < 10000 then 10000 * me.2.2.2.2.1 + idx else 99999999
def mw_b2 (st : List mw_V) (P : Int → Int → List mw_V → Prop) : Prop := match st with
  | .inl y :: .inl x :: r => P x y r
  | _ => False
def mw_l2 (st : List mw_V) (P : Int → Int → List mw_V → Prop) : Prop := match st with
  | .inr (.inl y) :: .inr (.inl x) :: r => P x y r
  | _ => False
def mw_s2 (st : List mw_V) (P : Int → Int → List mw_V → Prop) : Prop := match st with
  | .inl y :: .inr (.inl x) :: r => P x y r
  | _ => False
def mw_b1 (st : List mw_V) (P : Int → List mw_V → Prop) : Prop := match st with
  | .inl x :: r => P x r
  | _ => False
def mw_l1 (st : List mw_V) (P : Int → List mw_V → Prop) : Prop := match st with
  | .inr (.inl x) :: r => P x r
  | _ => False
def mw_r1 (st : List mw_V) (P : Nat → List mw_V → Prop) : Prop := match st with
  | .inr (.inr (.inl x)) :: r => P x r
  | _ => False
def mw_ldI (lv : mw_L) (i : Nat) (P : Int → Prop) : Prop := match lv[i]? with
  | some (some (.inl x)) => P x
  | _ => False
def mw_ldL (lv : mw_L) (i : Nat) (P : Int → Prop) : Prop := match lv[i]? with
  | some (some (.inr (.inl x))) => P x
  | _ => False
def mw_ldR (lv : mw_L) (i : Nat) (P : Nat → Prop) : Prop := match lv[i]? with
  | some (some (.inr (.inr (.inl x)))) => P x
  | _ => False
def mw_st1 (lv : mw_L) (i : Nat) (v : mw_V) (P : mw_L → Prop) : Prop := i < lv.length ∧ mw_nl lv i = true ∧ P (lv.set i (some v))
def mw_st2 (lv : mw_L) (i : Nat) (v : mw_V) (P : mw_L → Prop) : Prop := i + 1 < lv.length ∧ mw_nl lv i = true ∧ P ((lv.set i (some v)).set (i + 1) none)
def mw_cnd (c : Jvm.ClassFile.Cond) (x y : Int) : Bool := match c with
  | .eq => decide (x = y)
  | .ne => decide (¬ x = y)
  | .lt => decide (x < y)
  | .ge => decide (y ≤ x)
  | .gt => decide (y < x)
  | .le => decide (x ≤ y)
def mw_go (pc : Nat) (off : Int) (P : Nat → Prop) : Prop := 0 ≤ (pc : Int) + off ∧ P ((pc : Int) + off).toNat
def mw_ln (i : Jvm.ClassFile.Instr) (len : Nat) : Bool := match i with
  | .tableswitch .. => true
  | .lookupswitch .. => true
  | .bipush _ => len == 2
  | .sipush _ => len == 3
  | .ldc _ => len == 2
  | .ldc_w _ => len == 3
  | .ldc2_w _ => len == 3
  | .iload _ => len == 2
  | .lload _ => len == 2
  | .aload _ => len == 2
  | .istore _ => len == 2
  | .lstore _ => len == 2
  | .astore _ => len == 2
  | .iinc .. => len == 3
  | .ifCond .. => len == 3
  | .if_icmp .. => len == 3
  | .goto _ => len == 3
  | .getfield _ => len == 3
  | .putfield _ => len == 3
  | .getstatic _ => len == 3
  | .invokevirtual _ => len == 3
  | .invokestatic _ => len == 3
  | _ => len == 1
abbrev mw_CT : Type := Nat → List mw_V → mw_S → Option mw_V → mw_S → Prop
/-- a call: which method, from whom, with what; the rest of the stack holds at most 8 words -/
def mw_inv (C : mw_CT) (st : List mw_V) (σ : mw_S) (mj : Nat) (vir : Bool) (K : List mw_V → mw_S → Prop) : Prop := match mw_mT[mj]? with
  | some mf => if vir = true then
      (match st.drop mf.2.2.2.2.2.1 with
      | .inr (.inr (.inl a)) :: rest => mw_rc a = mf.2.2.2.2.2.2 ∧ (rest.map mw_cat).sum ≤ 8 ∧ ∃ r1 σ1, C mj (jR a :: (st.take mf.2.2.2.2.2.1).reverse) σ r1 σ1 ∧ K (r1.toList ++ rest) σ1
      | _ => False)
    else mf.2.2.2.2.2.2 = 0 ∧ mf.2.2.2.2.2.1 ≤ st.length ∧ ((st.drop mf.2.2.2.2.2.1).map mw_cat).sum ≤ 8 ∧ ∃ r1 σ1, C mj (st.take mf.2.2.2.2.2.1).reverse σ r1 σ1 ∧ K (r1.toList ++ st.drop mf.2.2.2.2.2.1) σ1
  | none => False
def mw_acp (st : List mw_V) (σ : mw_S) (K : List mw_V → mw_S → Prop) : Prop := match st with
  | .inl n :: .inl dp :: .inr (.inr (.inl b)) :: .inl sp :: .inr (.inr (.inl a)) :: rest => 0 ≤ sp ∧ 0 ≤ dp ∧ 0 < n ∧ (sp + n ≤ mw_lenW 0 a ∧ dp + n ≤ mw_lenW 0 b ∨ sp + n ≤ mw_lenW 2 a ∧ dp + n ≤ mw_lenW 2 b) ∧ (rest.map mw_cat).sum ≤ 8 ∧ K rest (cpS σ a sp.toNat b dp.toNat n.toNat)
  | _ => False
/-- one step: Q is what is wanted of an answer, K of the place behind -/
def mw_stp (C : mw_CT) (me : mw_Me) (i : Jvm.ClassFile.Instr) (len pc : Nat) (lv : mw_L) (st : List mw_V) (σ : mw_S) (Q : Option mw_V → mw_S → Prop) (K : Nat → mw_L → List mw_V → mw_S → Prop) : Prop :=
  match i with
  | .iconst n => K (pc + len) lv (jI (w32 n) :: st) σ
  | .bipush n => K (pc + len) lv (jI (Int8.ofInt n).toInt32.toInt :: st) σ
  | .sipush n => K (pc + len) lv (jI (Int16.ofInt n).toInt32.toInt :: st) σ
  | .lconst n => K (pc + len) lv (jL (Int64.ofNat (n : Nat)).toInt :: st) σ
  | .ldc x => (match mw_kT.lookup (mw_key me x) with
    | some v => K (pc + len) lv (jI (w32 v) :: st) σ
    | none => match mw_sT.lookup (mw_key me x) with
      | some k => K (pc + len) lv (jR (1000 + k) :: st) σ
      | none => False)
  | .ldc_w x => (match mw_kT.lookup (mw_key me x) with
    | some v => K (pc + len) lv (jI (w32 v) :: st) σ
    | none => match mw_sT.lookup (mw_key me x) with
      | some k => K (pc + len) lv (jR (1000 + k) :: st) σ
      | none => False)
  | .ldc2_w x => (match mw_lT.lookup (mw_key me x) with
    | some v => K (pc + len) lv (jL (w64 v) :: st) σ
    | none => False)
  | .iload k => mw_ldI lv k (fun x => K (pc + len) lv (jI x :: st) σ)
  | .iload_n k => mw_ldI lv k (fun x => K (pc + len) lv (jI x :: st) σ)
  | .lload k => mw_ldL lv k (fun x => K (pc + len) lv (jL x :: st) σ)
  | .lload_n k => mw_ldL lv k (fun x => K (pc + len) lv (jL x :: st) σ)
  | .aload k => mw_ldR lv k (fun x => K (pc + len) lv (jR x :: st) σ)
  | .aload_n k => mw_ldR lv k (fun x => K (pc + len) lv (jR x :: st) σ)
  | .istore k => mw_b1 st (fun x r => mw_st1 lv k (jI x) (fun lv' => K (pc + len) lv' r σ))
  | .istore_n k => mw_b1 st (fun x r => mw_st1 lv k (jI x) (fun lv' => K (pc + len) lv' r σ))
  | .lstore k => mw_l1 st (fun x r => mw_st2 lv k (jL x) (fun lv' => K (pc + len) lv' r σ))
  | .lstore_n k => mw_l1 st (fun x r => mw_st2 lv k (jL x) (fun lv' => K (pc + len) lv' r σ))
  | .astore k => mw_r1 st (fun x r => mw_st1 lv k (jR x) (fun lv' => K (pc + len) lv' r σ))
  | .astore_n k => mw_r1 st (fun x r => mw_st1 lv k (jR x) (fun lv' => K (pc + len) lv' r σ))
  | .iinc k n => mw_ldI lv k (fun x => mw_st1 lv k (jI (i32 x + i32 n).toInt) (fun lv' => K (pc + len) lv' st σ))
  | .iadd => mw_b2 st (fun x y r => K (pc + len) lv (jI (i32 x + i32 y).toInt :: r) σ)
  | .isub => mw_b2 st (fun x y r => K (pc + len) lv (jI (i32 x - i32 y).toInt :: r) σ)
  | .imul => mw_b2 st (fun x y r => K (pc + len) lv (jI (i32 x * i32 y).toInt :: r) σ)
  | .iand => mw_b2 st (fun x y r => K (pc + len) lv (jI (i32 x &&& i32 y).toInt :: r) σ)
  | .ior => mw_b2 st (fun x y r => K (pc + len) lv (jI (i32 x ||| i32 y).toInt :: r) σ)
  | .ixor => mw_b2 st (fun x y r => K (pc + len) lv (jI (i32 x ^^^ i32 y).toInt :: r) σ)
  | .ishl => mw_b2 st (fun x y r => K (pc + len) lv (jI (i32 x <<< (i32 y &&& 31)).toInt :: r) σ)
  | .ishr => mw_b2 st (fun x y r => K (pc + len) lv (jI (i32 x >>> (i32 y &&& 31)).toInt :: r) σ)
  | .iushr => mw_b2 st (fun x y r => K (pc + len) lv (jI ((i32 x).toUInt32 >>> ((i32 y).toUInt32 &&& Int32.toUInt32 31)).toInt32.toInt :: r) σ)
  | .idiv => mw_b2 st (fun x y r => ¬ i32 y = 0 ∧ K (pc + len) lv (jI (i32 x / i32 y).toInt :: r) σ)
  | .irem => mw_b2 st (fun x y r => ¬ i32 y = 0 ∧ K (pc + len) lv (jI (i32 x - i32 x / i32 y * i32 y).toInt :: r) σ)
  | .ineg => mw_b1 st (fun x r => K (pc + len) lv (jI (-(i32 x)).toInt :: r) σ)
  | .i2b => mw_b1 st (fun x r => K (pc + len) lv (jI (i32 x).toInt8.toInt32.toInt :: r) σ)
  | .i2s => mw_b1 st (fun x r => K (pc + len) lv (jI (i32 x).toInt16.toInt32.toInt :: r) σ)
  | .i2c => mw_b1 st (fun x r => K (pc + len) lv (jI ((i32 x).toUInt32 % 65536).toInt32.toInt :: r) σ)
  | .i2l => mw_b1 st (fun x r => K (pc + len) lv (jL (i32 x).toInt64.toInt :: r) σ)
  | .l2i => mw_l1 st (fun x r => K (pc + len) lv (jI (i64 x).toInt32.toInt :: r) σ)
  | .ladd => mw_l2 st (fun x y r => K (pc + len) lv (jL (i64 x + i64 y).toInt :: r) σ)
  | .lsub => mw_l2 st (fun x y r => K (pc + len) lv (jL (i64 x - i64 y).toInt :: r) σ)
  | .lmul => mw_l2 st (fun x y r => K (pc + len) lv (jL (i64 x * i64 y).toInt :: r) σ)
  | .land => mw_l2 st (fun x y r => K (pc + len) lv (jL (i64 x &&& i64 y).toInt :: r) σ)
  | .lor => mw_l2 st (fun x y r => K (pc + len) lv (jL (i64 x ||| i64 y).toInt :: r) σ)
  | .ldiv => mw_l2 st (fun x y r => ¬ i64 y = 0 ∧ K (pc + len) lv (jL (i64 x / i64 y).toInt :: r) σ)
  | .lrem => mw_l2 st (fun x y r => ¬ i64 y = 0 ∧ K (pc + len) lv (jL (i64 x - i64 x / i64 y * i64 y).toInt :: r) σ)
  | .lcmp => mw_l2 st (fun x y r => K (pc + len) lv (jI (lg_cmp (i64 x) (i64 y)).toInt :: r) σ)
  | .lshl => mw_s2 st (fun x y r => K (pc + len) lv (jL (i64 x <<< ((i32 y).toInt64 &&& 63)).toInt :: r) σ)
  | .lshr => mw_s2 st (fun x y r => K (pc + len) lv (jL (i64 x >>> ((i32 y).toInt64 &&& 63)).toInt :: r) σ)
  | .lushr => mw_s2 st (fun x y r => K (pc + len) lv (jL ((i64 x).toUInt64 >>> ((i32 y).toInt64.toUInt64 &&& Int64.toUInt64 63)).toInt64.toInt :: r) σ)
  | .dup => (match st with
    | v :: r => mw_cat v = 1 ∧ K (pc + len) lv (v :: v :: r) σ
    | [] => False)
  | .dup2 => (match st with
    | v :: w :: r => mw_cat v = 1 ∧ mw_cat w = 1 ∧ K (pc + len) lv (v :: w :: v :: w :: r) σ
    | _ => False)
  | .pop => (match st with
    | v :: r => mw_cat v = 1 ∧ K (pc + len) lv r σ
    | [] => False)
  | .pop2 => mw_l1 st (fun _ r => K (pc + len) lv r σ)
  | .goto off => mw_go pc off (fun t => K t lv st σ)
  | .ifCond c off => mw_b1 st (fun x r => mw_go pc off (fun t => if mw_cnd c x 0 = true then K t lv r σ else K (pc + len) lv r σ))
  | .if_icmp c off => mw_b2 st (fun x y r => mw_go pc off (fun t => if mw_cnd c x y = true then K t lv r σ else K (pc + len) lv r σ))
  | .tableswitch dflt lo hi offs => mw_b1 st (fun x r => if x < lo ∨ hi < x then mw_go pc dflt (fun t => K t lv r σ) else
      match offs[(x - lo).toNat]? with
      | some off => mw_go pc off (fun t => K t lv r σ)
      | none => False)
  | .lookupswitch dflt ps => mw_b1 st (fun x r => (ps.toList.zip (ps.toList.drop 1)).all (fun (a, next) => a.1 < next.1) = true ∧ mw_go pc (Op.lookupswitch.offset ps.toList dflt x) (fun t => K t lv r σ))
  | .iaload => mw_b1 st (fun z r => mw_r1 r (fun a r2 => 0 ≤ z ∧ z < mw_lenI a ∧ K (pc + len) lv (jI (mw_rdI σ a z.toNat) :: r2) σ))
  | .baload => mw_b1 st (fun z r => mw_r1 r (fun a r2 => 0 ≤ z ∧ z < mw_lenB a ∧ K (pc + len) lv (jI (mw_rdB σ a z.toNat) :: r2) σ))
  | .laload => mw_b1 st (fun z r => mw_r1 r (fun a r2 => 0 ≤ z ∧ z < mw_lenW 2 a ∧ K (pc + len) lv (jL (σ a z.toNat) :: r2) σ))
  | .aaload => mw_b1 st (fun z r => mw_r1 r (fun a r2 => 0 ≤ z ∧ z < (mw_rows a).length ∧ K (pc + len) lv (jR ((mw_rows a).getD z.toNat 0) :: r2) σ))
  | .iastore => mw_b2 st (fun z x r => mw_r1 r (fun a r2 => 0 ≤ z ∧ z < mw_lenW 0 a ∧ K (pc + len) lv r2 (upS σ a z.toNat x)))
  | .bastore => mw_b2 st (fun z x r => mw_r1 r (fun a r2 => 0 ≤ z ∧ z < mw_lenW 1 a ∧ (x = 0 ∨ x = 1) ∧ K (pc + len) lv r2 (upS σ a z.toNat x)))
  | .lastore => mw_l1 st (fun x r => mw_b1 r (fun z r1 => mw_r1 r1 (fun a r2 => 0 ≤ z ∧ z < mw_lenW 2 a ∧ K (pc + len) lv r2 (upS σ a z.toNat x))))
  | .arraylength => mw_r1 st (fun a r => if mw_isT a = true then K (pc + len) lv (jI (mw_lenB a) :: r) σ else
      match mw_sh[a]? with
      | some (.inr (.inl (_, n))) => K (pc + len) lv (jI n :: r) σ
      | _ => False)
  | .getfield x => mw_r1 st (fun a r => match mw_fT.lookup (mw_key me x) with
    | some (ci, k) => (match mw_fld a ci k with
      | some 0 => K (pc + len) lv (jI (σ a k) :: r) σ
      | some 1 => K (pc + len) lv (jI (σ a k) :: r) σ
      | some (n + 2) => K (pc + len) lv (jR n :: r) σ
      | none => False)
    | none => match mw_jT.lookup (mw_key me x) with
      | some 0 => 1000 ≤ a ∧ a < 1000 + mw_strs.length ∧ K (pc + len) lv (jR (a + 1000) :: r) σ
      | some _ => 1000 ≤ a ∧ a < 1000 + mw_strs.length ∧ K (pc + len) lv (jI 0 :: r) σ
      | none => False)
  | .putfield x => mw_b1 st (fun v r => mw_r1 r (fun a r2 => match mw_fT.lookup (mw_key me x) with
    | some (ci, k) => (match mw_fld a ci k with
      | some 0 => K (pc + len) lv r2 (upS σ a k v)
      | some 1 => (v = 0 ∨ v = 1) ∧ K (pc + len) lv r2 (upS σ a k v)
      | _ => False)
    | none => False))
  | .getstatic x => (match mw_gT.lookup (mw_key me x) with
    | some 0 => K (pc + len) lv (jR 3000 :: st) σ
    | some 1 => K (pc + len) lv (jI 1 :: st) σ
    | some 2 => K (pc + len) lv (jO :: st) σ
    | some 3 => K (pc + len) lv (jR 3000 :: st) σ
    | _ => False)
  | .invokevirtual x => (match mw_cT.lookup (mw_key me x) with
    | some mj => mw_inv C st σ mj true (fun st' σ' => K (pc + len) lv st' σ')
    | none => False)
  | .invokestatic x => (match mw_cT.lookup (mw_key me x) with
    | some mj => mw_inv C st σ mj false (fun st' σ' => K (pc + len) lv st' σ')
    | none => match mw_nT.lookup (mw_key me x) with
      | some mj => mw_inv C st σ mj false (fun st' σ' => K (pc + len) lv st' σ')
      | none => mw_key me x ∈ mw_aT ∧ mw_acp st σ (fun st' σ' => K (pc + len) lv st' σ'))
  | .ireturn => (match st with
    | [.inl z] => (∃ ty, me.2.2.2.1 = some ty ∧ narrow ty (.int (i32 z)) = .int (i32 z)) ∧ Q (some (jI z)) σ
    | _ => False)
  | .lreturn => (match st with
    | [.inr (.inl z)] => me.2.2.2.1 = some .long ∧ Q (some (jL z)) σ
    | _ => False)
  | .return_ => (match st with
    | [] => me.2.2.2.1 = none ∧ Q none σ
    | _ => False)
  | _ => False
/-- so many steps, from a place of a method to its answer -/
def mw_run (C : mw_CT) : Nat → Nat → Nat → mw_L → List mw_V → mw_S → Option mw_V → mw_S → Prop
  | 0, _, _, _, _, _, _, _ => False
  | n + 1, mi, pc, lv, st, σ, r, σ' => match mw_mT[mi]? with
    | some me => (match decode me.2.1 pc with
      | .ok (i, len) => mw_ln i len = true ∧ mw_stp C me i len pc lv st σ (fun v s => v = r ∧ s = σ') (fun pc' lv' st' s' => mw_run C n mi pc' lv' st' s' r σ')
      | .error _ => False)
    | none => False
def mw_al (args : List mw_V) : mw_L := args.flatMap (fun v => if mw_cat v = 2 then [some v, none] else [some v])
/-- a call at a depth -/
def mw_CR : Nat → mw_CT
  | 0, _, _, _, _, _ => False
  | d + 1, mi, args, σ, r, σ' => ∃ me n, mw_mT[mi]? = some me ∧ (mw_al args).length ≤ me.2.2.1 ∧ mw_run (mw_CR d) n mi 0 (mw_al args ++ List.replicate (me.2.2.1 - (mw_al args).length) none) [] σ r σ'
def mw_WP (d mi pc : Nat) (lv : mw_L) (st : List mw_V) (σ : mw_S) (Q : Option mw_V → mw_S → Prop) : Prop := ∃ n r σ', mw_run (mw_CR d) n mi pc lv st σ r σ' ∧ Q r σ'
def mw_Call (d mi : Nat) (args : List mw_V) (σ : mw_S) (Q : Option mw_V → mw_S → Prop) : Prop := ∃ r σ', mw_CR d mi args σ r σ' ∧ Q r σ'
