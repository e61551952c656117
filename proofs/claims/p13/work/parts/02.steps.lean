/-! The simple machine's steps: an instruction with its length, the state before and behind it. nL: how many locals the method has; own: its class; Ts: the tables' words; X: the script, where the method sees it. -/
def x_k (a : xS) (n : Nat) (st : List Value) : xS := (a.1 + n, a.2.1, st, a.2.2.2)
def x_t (a : xS) (tgt : Nat) (st : List Value) : xS := (tgt, a.2.1, st, a.2.2.2)
def x_v (a : xS) (n : Nat) (L : xL) (st : List Value) : xS := (a.1 + n, L, st, a.2.2.2)
def x_g (a : xS) (n : Nat) (st : List Value) (h : List xC) : xS := (a.1 + n, a.2.1, st, h)
def x_s1 (L : xL) (i : Nat) (v : Value) : xL := (i, v) :: L.filter (fun q => !(q.1 == i) && !(q.1 + 1 == i && q.2.category == 2))
def x_s2 (L : xL) (i : Nat) (v : Value) : xL := (i, v) :: L.filter (fun q => !(q.1 == i) && (!(q.1 == i + 1) && !(q.1 + 1 == i && q.2.category == 2)))
def x_c0 : Jvm.ClassFile.Cond → Int32 → Prop := fun c x => match c with
  | .eq => x = 0
  | .ne => ¬ x = 0
  | .lt => x < 0
  | .ge => 0 ≤ x
  | .gt => 0 < x
  | .le => x ≤ 0
def x_c2 : Jvm.ClassFile.Cond → Int32 → Int32 → Prop := fun c x y => match c with
  | .eq => x = y
  | .ne => ¬ x = y
  | .lt => x < y
  | .ge => y ≤ x
  | .gt => y < x
  | .le => x ≤ y
/-- a field that an instruction names: the k-th of class ci -/
def x_fl (cl : List vw_C) (Ts AO : List Cond) (own : String) (idx ci k : Nat) (C : String) (T : u_T) (N : Nat) : Prop :=
  cl[ci]? = some (C, T, N) ∧ k < N ∧ (Cond.fieldLink own idx (T k).1 (T k).2.1 (T k).2.2.1 ∈ Ts ∨ ∃ host, Cond.fieldLinkNest own idx (T k).1 (T k).2.1 (T k).2.2.1 host ∈ AO)
def x_z0 (t : FieldType) : (Nat → Int32) ⊕ (Nat → Int64) ⊕ (Nat → UInt32) ⊕ (Nat → UInt64) ⊕ (Nat → Option Nat) := match t with
  | .long => .inr (.inl (fun _ => 0))
  | _ => .inl (fun _ => 0)
def x_ins (cl : List vw_C) (kd : List FieldType) (Ts : List Cond) (AO : List Cond) (X : Option (Nat × Nat × (Nat → Int32))) (base : Nat) (own mname : String) (nL : Nat) (i : Jvm.ClassFile.Instr) (len : Nat) (a b : xS) : Prop :=
  match i with
  | .aconst_null => len = 1 ∧ b = x_k a 1 (.null :: a.2.2.1)
  | .iconst n => len = 1 ∧ b = x_k a 1 (.int (Int32.ofInt n) :: a.2.2.1)
  | .bipush n => len = 2 ∧ b = x_k a 2 (.int (Int8.ofInt n).toInt32 :: a.2.2.1)
  | .sipush n => len = 3 ∧ b = x_k a 3 (.int (Int16.ofInt n).toInt32 :: a.2.2.1)
  | .lconst n => len = 1 ∧ b = x_k a 1 (.long (Int64.ofNat (n : Nat)) :: a.2.2.1)
  | .ldc idx => len = 2 ∧ ∃ v, Cond.constant own idx v ∈ Ts ∧ b = x_k a 2 (.int v :: a.2.2.1)
  | .ldc2_w idx => len = 3 ∧ ∃ v, Cond.constantLong own idx v ∈ Ts ∧ b = x_k a 3 (.long v :: a.2.2.1)
  | .iload j => len = 2 ∧ ∃ x, (j, .int x) ∈ a.2.1 ∧ b = x_k a 2 (.int x :: a.2.2.1)
  | .iload_n j => len = 1 ∧ ∃ x, ((j : Nat), .int x) ∈ a.2.1 ∧ b = x_k a 1 (.int x :: a.2.2.1)
  | .lload j => len = 2 ∧ ∃ x, (j, .long x) ∈ a.2.1 ∧ b = x_k a 2 (.long x :: a.2.2.1)
  | .lload_n j => len = 1 ∧ ∃ x, ((j : Nat), .long x) ∈ a.2.1 ∧ b = x_k a 1 (.long x :: a.2.2.1)
  | .aload j => len = 2 ∧ ∃ r, (j, va_rf r) ∈ a.2.1 ∧ b = x_k a 2 (va_rf r :: a.2.2.1)
  | .aload_n j => len = 1 ∧ ∃ r, ((j : Nat), va_rf r) ∈ a.2.1 ∧ b = x_k a 1 (va_rf r :: a.2.2.1)
  | .istore j => len = 2 ∧ j < nL ∧ ∃ x r, a.2.2.1 = .int x :: r ∧ b = x_v a 2 (x_s1 a.2.1 j (.int x)) r
  | .istore_n j => len = 1 ∧ (j : Nat) < nL ∧ ∃ x r, a.2.2.1 = .int x :: r ∧ b = x_v a 1 (x_s1 a.2.1 j (.int x)) r
  | .lstore j => len = 2 ∧ j + 1 < nL ∧ ∃ x r, a.2.2.1 = .long x :: r ∧ b = x_v a 2 (x_s2 a.2.1 j (.long x)) r
  | .lstore_n j => len = 1 ∧ (j : Nat) + 1 < nL ∧ ∃ x r, a.2.2.1 = .long x :: r ∧ b = x_v a 1 (x_s2 a.2.1 j (.long x)) r
  | .astore j => len = 2 ∧ j < nL ∧ ∃ x r, a.2.2.1 = va_rf x :: r ∧ b = x_v a 2 (x_s1 a.2.1 j (va_rf x)) r
  | .astore_n j => len = 1 ∧ (j : Nat) < nL ∧ ∃ x r, a.2.2.1 = va_rf x :: r ∧ b = x_v a 1 (x_s1 a.2.1 j (va_rf x)) r
  | .iinc j n => len = 3 ∧ j < nL ∧ ∃ x, (j, .int x) ∈ a.2.1 ∧ b = x_v a 3 (x_s1 a.2.1 j (.int (x + Int32.ofInt n))) a.2.2.1
  | .iadd => len = 1 ∧ ∃ x y r, a.2.2.1 = .int y :: .int x :: r ∧ b = x_k a 1 (.int (x + y) :: r)
  | .isub => len = 1 ∧ ∃ x y r, a.2.2.1 = .int y :: .int x :: r ∧ b = x_k a 1 (.int (x - y) :: r)
  | .imul => len = 1 ∧ ∃ x y r, a.2.2.1 = .int y :: .int x :: r ∧ b = x_k a 1 (.int (x * y) :: r)
  | .iand => len = 1 ∧ ∃ x y r, a.2.2.1 = .int y :: .int x :: r ∧ b = x_k a 1 (.int (x &&& y) :: r)
  | .ior => len = 1 ∧ ∃ x y r, a.2.2.1 = .int y :: .int x :: r ∧ b = x_k a 1 (.int (x ||| y) :: r)
  | .ixor => len = 1 ∧ ∃ x y r, a.2.2.1 = .int y :: .int x :: r ∧ b = x_k a 1 (.int (x ^^^ y) :: r)
  | .ishl => len = 1 ∧ ∃ x y r, a.2.2.1 = .int y :: .int x :: r ∧ b = x_k a 1 (.int (x <<< (y &&& 31)) :: r)
  | .ishr => len = 1 ∧ ∃ x y r, a.2.2.1 = .int y :: .int x :: r ∧ b = x_k a 1 (.int (x >>> (y &&& 31)) :: r)
  | .iushr => len = 1 ∧ ∃ x y r, a.2.2.1 = .int y :: .int x :: r ∧ b = x_k a 1 (.int (x.toUInt32 >>> (y.toUInt32 &&& Int32.toUInt32 31)).toInt32 :: r)
  | .idiv => len = 1 ∧ ∃ x y r, ¬ y = 0 ∧ a.2.2.1 = .int y :: .int x :: r ∧ b = x_k a 1 (.int (x / y) :: r)
  | .irem => len = 1 ∧ ∃ x y r, ¬ y = 0 ∧ a.2.2.1 = .int y :: .int x :: r ∧ b = x_k a 1 (.int (x - x / y * y) :: r)
  | .ineg => len = 1 ∧ ∃ x r, a.2.2.1 = .int x :: r ∧ b = x_k a 1 (.int (-x) :: r)
  | .ladd => len = 1 ∧ ∃ x y r, a.2.2.1 = .long y :: .long x :: r ∧ b = x_k a 1 (.long (x + y) :: r)
  | .lsub => len = 1 ∧ ∃ x y r, a.2.2.1 = .long y :: .long x :: r ∧ b = x_k a 1 (.long (x - y) :: r)
  | .lmul => len = 1 ∧ ∃ x y r, a.2.2.1 = .long y :: .long x :: r ∧ b = x_k a 1 (.long (x * y) :: r)
  | .land => len = 1 ∧ ∃ x y r, a.2.2.1 = .long y :: .long x :: r ∧ b = x_k a 1 (.long (x &&& y) :: r)
  | .lor => len = 1 ∧ ∃ x y r, a.2.2.1 = .long y :: .long x :: r ∧ b = x_k a 1 (.long (x ||| y) :: r)
  | .lxor => len = 1 ∧ ∃ x y r, a.2.2.1 = .long y :: .long x :: r ∧ b = x_k a 1 (.long (x ^^^ y) :: r)
  | .lshl => len = 1 ∧ ∃ (x : Int64) (y : Int32) (r : List Value), a.2.2.1 = .int y :: .long x :: r ∧ b = x_k a 1 (.long (x <<< (y.toInt64 &&& 63)) :: r)
  | .lshr => len = 1 ∧ ∃ (x : Int64) (y : Int32) (r : List Value), a.2.2.1 = .int y :: .long x :: r ∧ b = x_k a 1 (.long (x >>> (y.toInt64 &&& 63)) :: r)
  | .lushr => len = 1 ∧ ∃ (x : Int64) (y : Int32) (r : List Value), a.2.2.1 = .int y :: .long x :: r ∧ b = x_k a 1 (.long (x.toUInt64 >>> (y.toInt64.toUInt64 &&& Int64.toUInt64 63)).toInt64 :: r)
  | .ldiv => len = 1 ∧ ∃ x y r, ¬ y = 0 ∧ a.2.2.1 = .long y :: .long x :: r ∧ b = x_k a 1 (.long (x / y) :: r)
  | .lrem => len = 1 ∧ ∃ x y r, ¬ y = 0 ∧ a.2.2.1 = .long y :: .long x :: r ∧ b = x_k a 1 (.long (x - x / y * y) :: r)
  | .lneg => len = 1 ∧ ∃ x r, a.2.2.1 = .long x :: r ∧ b = x_k a 1 (.long (-x) :: r)
  | .lcmp => len = 1 ∧ ∃ x y r, a.2.2.1 = .long y :: .long x :: r ∧ b = x_k a 1 (.int (lg_cmp x y) :: r)
  | .i2l => len = 1 ∧ ∃ (x : Int32) (r : List Value), a.2.2.1 = .int x :: r ∧ b = x_k a 1 (.long x.toInt64 :: r)
  | .l2i => len = 1 ∧ ∃ (x : Int64) (r : List Value), a.2.2.1 = .long x :: r ∧ b = x_k a 1 (.int x.toInt32 :: r)
  | .i2c => len = 1 ∧ ∃ (x : Int32) (r : List Value), a.2.2.1 = .int x :: r ∧ b = x_k a 1 (.int (x.toUInt32 % 65536).toInt32 :: r)
  | .dup => len = 1 ∧ ∃ v r, v.category = 1 ∧ a.2.2.1 = v :: r ∧ b = x_k a 1 (v :: v :: r)
  | .dup2 => len = 1 ∧ ∃ v w r, v.category = 1 ∧ w.category = 1 ∧ a.2.2.1 = v :: w :: r ∧ b = x_k a 1 (v :: w :: v :: w :: r)
  | .dup_x1 => len = 1 ∧ ∃ v w r, v.category = 1 ∧ w.category = 1 ∧ a.2.2.1 = v :: w :: r ∧ b = x_k a 1 (v :: w :: v :: r)
  | .pop => len = 1 ∧ ∃ v r, v.category = 1 ∧ a.2.2.1 = v :: r ∧ b = x_k a 1 r
  | .pop2 => len = 1 ∧ ∃ v r, v.category = 2 ∧ a.2.2.1 = v :: r ∧ b = x_k a 1 r
  | .ifCond cn off => len = 3 ∧ ∃ x r, ∃ tgt : Nat, a.2.2.1 = .int x :: r ∧ (a.1 : Int) + off = (tgt : Int) ∧ ((x_c0 cn x ∧ b = x_t a tgt r) ∨ (¬ x_c0 cn x ∧ b = x_k a 3 r))
  | .if_icmp cn off => len = 3 ∧ ∃ x y r, ∃ tgt : Nat, a.2.2.1 = .int y :: .int x :: r ∧ (a.1 : Int) + off = (tgt : Int) ∧ ((x_c2 cn x y ∧ b = x_t a tgt r) ∨ (¬ x_c2 cn x y ∧ b = x_k a 3 r))
  | .ifnull off => len = 3 ∧ ∃ v r, ∃ tgt : Nat, a.2.2.1 = va_rf v :: r ∧ (a.1 : Int) + off = (tgt : Int) ∧ ((v = none ∧ b = x_t a tgt r) ∨ (¬ v = none ∧ b = x_k a 3 r))
  | .ifnonnull off => len = 3 ∧ ∃ v r, ∃ tgt : Nat, a.2.2.1 = va_rf v :: r ∧ (a.1 : Int) + off = (tgt : Int) ∧ ((¬ v = none ∧ b = x_t a tgt r) ∨ (v = none ∧ b = x_k a 3 r))
  | .goto off => len = 3 ∧ ∃ tgt : Nat, (a.1 : Int) + off = (tgt : Int) ∧ b = x_t a tgt a.2.2.1
  | .tableswitch dflt lo hi offs => ∃ x r, ∃ tgt : Nat, a.2.2.1 = .int x :: r ∧ b = x_t a tgt r ∧ (((x.toInt < lo ∨ hi < x.toInt) ∧ (a.1 : Int) + dflt = (tgt : Int)) ∨ (¬ x.toInt < lo ∧ ¬ hi < x.toInt ∧ ∃ off, offs[(x.toInt - lo).toNat]? = some off ∧ (a.1 : Int) + off = (tgt : Int)))
  | .lookupswitch dflt ps => ∃ x r, ∃ tgt : Nat, a.2.2.1 = .int x :: r ∧ b = x_t a tgt r ∧ (ps.toList.zip (ps.toList.drop 1)).all (fun (a, next) => a.1 < next.1) = true ∧ (a.1 : Int) + Jvm.Op.lookupswitch.offset ps.toList dflt x.toInt = (tgt : Int)
  | .getfield idx => len = 3 ∧ ∃ ci k C T N q fs v r, x_fl cl Ts AO own idx ci k C T N ∧ a.2.2.1 = .ref (base + q) :: r ∧ a.2.2.2[q]? = some (.inr (ci, fs)) ∧ fs[k]? = some v ∧ b = x_k a 3 (v :: r)
  | .putfield idx => len = 3 ∧ ∃ ci k C T N q fs v r ty, x_fl cl Ts AO own idx ci k C T N ∧ a.2.2.1 = v :: .ref (base + q) :: r ∧ a.2.2.2[q]? = some (.inr (ci, fs)) ∧ k < fs.length ∧ parseFieldDescriptor (T k).2.2.1 = some ty ∧ narrow ty v = v ∧ fits ty v = true ∧ ((T k).2.2.2 = false ∨ ((T k).2.2.2 = true ∧ mname = "<init>" ∧ (T k).1 = own ∧ Cond.fieldLink own idx (T k).1 (T k).2.1 (T k).2.2.1 ∈ Ts)) ∧ b = x_g a 3 r (a.2.2.2.set q (.inr (ci, fs.set k v)))
  | .iaload => len = 1 ∧ ∃ x r, (∃ q k n f, kd[k]? = some .int ∧ vp_in x n ∧ a.2.2.1 = .int x :: .ref (base + q) :: r ∧ a.2.2.2[q]? = some (.inl (k, n, .inl f)) ∧ b = x_k a 1 (.int (f x.toNatClampNeg) :: r)) ∨ (∃ q n f, X = some (q, n, f) ∧ vp_in x n ∧ a.2.2.1 = .int x :: .ref q :: r ∧ b = x_k a 1 (.int (f x.toNatClampNeg) :: r))
  | .baload => len = 1 ∧ ∃ x r q k n f, kd[k]? = some .boolean ∧ vp_in x n ∧ a.2.2.1 = .int x :: .ref (base + q) :: r ∧ a.2.2.2[q]? = some (.inl (k, n, .inl f)) ∧ b = x_k a 1 (.int (f x.toNatClampNeg) :: r)
  | .laload => len = 1 ∧ ∃ x r q k n f, kd[k]? = some .long ∧ vp_in x n ∧ a.2.2.1 = .int x :: .ref (base + q) :: r ∧ a.2.2.2[q]? = some (.inl (k, n, .inr (.inl f))) ∧ b = x_k a 1 (.long (f x.toNatClampNeg) :: r)
  | .aaload => len = 1 ∧ ∃ x r q k n f ty, kd[k]? = some ty ∧ ty.isReference = true ∧ vp_in x n ∧ a.2.2.1 = .int x :: .ref (base + q) :: r ∧ a.2.2.2[q]? = some (.inl (k, n, .inr (.inr (.inr (.inr f))))) ∧ b = x_k a 1 (va_rf (f x.toNatClampNeg) :: r)
  | .iastore => len = 1 ∧ ∃ x v r q k n f, kd[k]? = some .int ∧ vp_in x n ∧ a.2.2.1 = .int v :: .int x :: .ref (base + q) :: r ∧ a.2.2.2[q]? = some (.inl (k, n, .inl f)) ∧ b = x_g a 1 r (a.2.2.2.set q (.inl (k, n, .inl (upd f x.toNatClampNeg v))))
  | .bastore => len = 1 ∧ ∃ x v r q k n f, kd[k]? = some .boolean ∧ vp_in x n ∧ a.2.2.1 = .int v :: .int x :: .ref (base + q) :: r ∧ a.2.2.2[q]? = some (.inl (k, n, .inl f)) ∧ b = x_g a 1 r (a.2.2.2.set q (.inl (k, n, .inl (upd f x.toNatClampNeg (vp_nar .boolean v)))))
  | .lastore => len = 1 ∧ ∃ x v r q k n f, kd[k]? = some .long ∧ vp_in x n ∧ a.2.2.1 = .long v :: .int x :: .ref (base + q) :: r ∧ a.2.2.2[q]? = some (.inl (k, n, .inr (.inl f))) ∧ b = x_g a 1 r (a.2.2.2.set q (.inl (k, n, .inr (.inl (vp_updL f x.toNatClampNeg v)))))
  | .aastore => len = 1 ∧ ∃ x v r q k n f, vp_in x n ∧ a.2.2.1 = .ref (base + v) :: .int x :: .ref (base + q) :: r ∧ a.2.2.2[q]? = some (.inl (k, n, .inr (.inr (.inr (.inr f))))) ∧ b = x_g a 1 r (a.2.2.2.set q (.inl (k, n, .inr (.inr (.inr (.inr (va_up f x.toNatClampNeg (some (base + v))))))))) ∧ ((∃ ci fs C T N, kd[k]? = some (.object C) ∧ cl[ci]? = some (C, T, N) ∧ a.2.2.2[v]? = some (.inr (ci, fs))) ∨ (∃ k2 z, kd[k]? = some (.array .int) ∧ kd[k2]? = some .int ∧ Cond.arrayOver (.array .int) ∈ AO ∧ a.2.2.2[v]? = some (.inl (k2, z))))
  | .multianewarray idx dm => len = 4 ∧ dm = 2 ∧ ∃ n z r k k2, kd[k]? = some (.array .int) ∧ kd[k2]? = some .int ∧ Cond.classLink own idx ("[" ++ (FieldType.array .int).toString) ∈ Ts ∧ Cond.arrayOver (.array .int) ∈ AO ∧ Cond.arrayClass .int ∈ Ts ∧ ¬ n < 0 ∧ ¬ z < 0 ∧ n.toNatClampNeg * 4 ≤ 536870912 ∧ z.toNatClampNeg * 4 ≤ 536870912 ∧ a.2.2.1 = .int z :: .int n :: r ∧ b = x_g a 4 (.ref (base + a.2.2.2.length) :: r) ((a.2.2.2 ++ [.inl (k, n.toNatClampNeg, .inr (.inr (.inr (.inr (fun i => if i < n.toNatClampNeg then some (base + a.2.2.2.length + 1 + i) else none)))))]) ++ List.replicate n.toNatClampNeg (.inl (k2, z.toNatClampNeg, .inl (fun _ => 0))))
  | .arraylength => len = 1 ∧ ∃ r, (∃ q k x, k < kd.length ∧ a.2.2.1 = .ref (base + q) :: r ∧ a.2.2.2[q]? = some (.inl (k, x)) ∧ b = x_k a 1 (.int (Int32.ofNat x.1) :: r)) ∨ (∃ q n f, X = some (q, n, f) ∧ a.2.2.1 = .ref q :: r ∧ b = x_k a 1 (.int (Int32.ofNat n) :: r))
  | .checkcast idx => len = 3 ∧ ∃ q k x r, kd[k]? = some .int ∧ Cond.classLink own idx "[I" ∈ Ts ∧ a.2.2.1 = .ref (base + q) :: r ∧ a.2.2.2[q]? = some (.inl (k, x)) ∧ b = x_k a 3 (.ref (base + q) :: r)
  | .new idx => len = 3 ∧ ∃ ci C T N, ∃ ty : Nat → FieldType, cl[ci]? = some (C, T, N) ∧ (∀ k, k < N → parseFieldDescriptor (T k).2.2.1 = some (ty k)) ∧ Cond.classLink own idx C ∈ Ts ∧ Cond.instantiable C N ∈ Ts ∧ Cond.initialized C ∈ Ts ∧ b = x_g a 3 (.ref (base + a.2.2.2.length) :: a.2.2.1) (a.2.2.2 ++ [.inr (ci, (List.range N).map (fun k => defaultValue (ty k)))])
  | .newarray aty => len = 2 ∧ ∃ n r k z, kd[k]? = some (Jvm.Op.newarray.typeOf aty) ∧ Cond.arrayClass (Jvm.Op.newarray.typeOf aty) ∈ Ts ∧ ¬ n < 0 ∧ n.toNatClampNeg * componentBytes (Jvm.Op.newarray.typeOf aty) ≤ 536870912 ∧ ((∀ cA : ClassId, vp_cell cA (n.toNatClampNeg, z) = arrV cA n.toNatClampNeg (fun _ => defaultValue (Jvm.Op.newarray.typeOf aty))) ∧ z = x_z0 (Jvm.Op.newarray.typeOf aty)) ∧ a.2.2.1 = .int n :: r ∧ b = x_g a 2 (.ref (base + a.2.2.2.length) :: r) (a.2.2.2 ++ [.inl (k, n.toNatClampNeg, z)])
  | .anewarray idx => len = 3 ∧ ∃ n r k C, kd[k]? = some (.object C) ∧ Cond.classLink own idx C ∈ Ts ∧ Cond.arrayOver (.object C) ∈ AO ∧ ¬ n < 0 ∧ n.toNatClampNeg * 4 ≤ 536870912 ∧ a.2.2.1 = .int n :: r ∧ b = x_g a 3 (.ref (base + a.2.2.2.length) :: r) (a.2.2.2 ++ [.inl (k, n.toNatClampNeg, .inr (.inr (.inr (.inr (fun _ => none)))))])
  | _ => False
