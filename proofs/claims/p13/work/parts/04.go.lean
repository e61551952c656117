/-! Runs of the simple machine: plain steps, returns, calls. -/
def x_le (h h2 : List xC) : Prop := h.length ≤ h2.length ∧ x_sl h ≤ x_sl h2
theorem x_le_rfl (h : List xC) : x_le h h := ⟨Nat.le_refl _, Nat.le_refl _⟩
theorem x_le_trans {a b c : List xC} (h : x_le a b) (h2 : x_le b c) : x_le a c := ⟨Nat.le_trans h.1 h2.1, Nat.le_trans h.2 h2.2⟩
theorem x_le_app (h : List xC) (q : xC) : x_le h (h ++ [q]) := ⟨by simp, by rw [x_sl_app]; exact Nat.le_add_right _ _⟩
theorem x_le_set {h : List xC} {i : Nat} {q q2 : xC} (e : h[i]? = some q) (hn : x_n q2 = x_n q) : x_le h (h.set i q2) := ⟨by rw [List.length_set]; exact Nat.le_refl _, by rw [x_sl_set e hn]; exact Nat.le_refl _⟩
set_option maxHeartbeats 4000000 in
theorem x_ins_le {cl : List vw_C} {kd : List FieldType} {Ts : List Cond} {AO : List Cond} {X : Option (Nat × Nat × (Nat → Int32))} {base : Nat} {own mname : String} {nL : Nat} {i : Jvm.ClassFile.Instr} {len : Nat} {a b : xS} (hi : x_ins cl kd Ts AO X base own mname nL i len a b) : x_le a.2.2.2 b.2.2.2 := by
  obtain ⟨pc, L, st, h⟩ := a
  dsimp only at hi ⊢
  cases i with
  | aconst_null =>
    obtain ⟨rfl, rfl⟩ := hi
    exact x_le_rfl _
  | iconst n =>
    obtain ⟨rfl, rfl⟩ := hi
    exact x_le_rfl _
  | bipush n =>
    obtain ⟨rfl, rfl⟩ := hi
    exact x_le_rfl _
  | sipush n =>
    obtain ⟨rfl, rfl⟩ := hi
    exact x_le_rfl _
  | lconst n =>
    obtain ⟨rfl, rfl⟩ := hi
    exact x_le_rfl _
  | ldc idx =>
    obtain ⟨rfl, v, hv, rfl⟩ := hi
    exact x_le_rfl _
  | ldc2_w idx =>
    obtain ⟨rfl, v, hv, rfl⟩ := hi
    exact x_le_rfl _
  | iload j =>
    obtain ⟨rfl, x, hm, rfl⟩ := hi
    exact x_le_rfl _
  | iload_n j =>
    obtain ⟨rfl, x, hm, rfl⟩ := hi
    exact x_le_rfl _
  | lload j =>
    obtain ⟨rfl, x, hm, rfl⟩ := hi
    exact x_le_rfl _
  | lload_n j =>
    obtain ⟨rfl, x, hm, rfl⟩ := hi
    exact x_le_rfl _
  | aload j =>
    obtain ⟨rfl, x, hm, rfl⟩ := hi
    exact x_le_rfl _
  | aload_n j =>
    obtain ⟨rfl, x, hm, rfl⟩ := hi
    exact x_le_rfl _
  | istore j =>
    obtain ⟨rfl, hn, x, r, rfl, rfl⟩ := hi
    exact x_le_rfl _
  | istore_n j =>
    obtain ⟨rfl, hn, x, r, rfl, rfl⟩ := hi
    exact x_le_rfl _
  | lstore j =>
    obtain ⟨rfl, hn, x, r, rfl, rfl⟩ := hi
    exact x_le_rfl _
  | lstore_n j =>
    obtain ⟨rfl, hn, x, r, rfl, rfl⟩ := hi
    exact x_le_rfl _
  | astore j =>
    obtain ⟨rfl, hn, x, r, rfl, rfl⟩ := hi
    exact x_le_rfl _
  | astore_n j =>
    obtain ⟨rfl, hn, x, r, rfl, rfl⟩ := hi
    exact x_le_rfl _
  | iinc j n =>
    obtain ⟨rfl, hn, x, hm, rfl⟩ := hi
    exact x_le_rfl _
  | iadd =>
    obtain ⟨rfl, x, y, r, rfl, rfl⟩ := hi
    exact x_le_rfl _
  | isub =>
    obtain ⟨rfl, x, y, r, rfl, rfl⟩ := hi
    exact x_le_rfl _
  | imul =>
    obtain ⟨rfl, x, y, r, rfl, rfl⟩ := hi
    exact x_le_rfl _
  | iand =>
    obtain ⟨rfl, x, y, r, rfl, rfl⟩ := hi
    exact x_le_rfl _
  | ior =>
    obtain ⟨rfl, x, y, r, rfl, rfl⟩ := hi
    exact x_le_rfl _
  | ixor =>
    obtain ⟨rfl, x, y, r, rfl, rfl⟩ := hi
    exact x_le_rfl _
  | ishl =>
    obtain ⟨rfl, x, y, r, rfl, rfl⟩ := hi
    exact x_le_rfl _
  | ishr =>
    obtain ⟨rfl, x, y, r, rfl, rfl⟩ := hi
    exact x_le_rfl _
  | iushr =>
    obtain ⟨rfl, x, y, r, rfl, rfl⟩ := hi
    exact x_le_rfl _
  | idiv =>
    obtain ⟨rfl, x, y, r, h0, rfl, rfl⟩ := hi
    exact x_le_rfl _
  | irem =>
    obtain ⟨rfl, x, y, r, h0, rfl, rfl⟩ := hi
    exact x_le_rfl _
  | ineg =>
    obtain ⟨rfl, x, r, rfl, rfl⟩ := hi
    exact x_le_rfl _
  | ladd =>
    obtain ⟨rfl, x, y, r, rfl, rfl⟩ := hi
    exact x_le_rfl _
  | lsub =>
    obtain ⟨rfl, x, y, r, rfl, rfl⟩ := hi
    exact x_le_rfl _
  | lmul =>
    obtain ⟨rfl, x, y, r, rfl, rfl⟩ := hi
    exact x_le_rfl _
  | land =>
    obtain ⟨rfl, x, y, r, rfl, rfl⟩ := hi
    exact x_le_rfl _
  | lor =>
    obtain ⟨rfl, x, y, r, rfl, rfl⟩ := hi
    exact x_le_rfl _
  | lxor =>
    obtain ⟨rfl, x, y, r, rfl, rfl⟩ := hi
    exact x_le_rfl _
  | lshl =>
    obtain ⟨rfl, x, y, r, rfl, rfl⟩ := hi
    exact x_le_rfl _
  | lshr =>
    obtain ⟨rfl, x, y, r, rfl, rfl⟩ := hi
    exact x_le_rfl _
  | lushr =>
    obtain ⟨rfl, x, y, r, rfl, rfl⟩ := hi
    exact x_le_rfl _
  | ldiv =>
    obtain ⟨rfl, x, y, r, h0, rfl, rfl⟩ := hi
    exact x_le_rfl _
  | lrem =>
    obtain ⟨rfl, x, y, r, h0, rfl, rfl⟩ := hi
    exact x_le_rfl _
  | lneg =>
    obtain ⟨rfl, x, r, rfl, rfl⟩ := hi
    exact x_le_rfl _
  | lcmp =>
    obtain ⟨rfl, x, y, r, rfl, rfl⟩ := hi
    exact x_le_rfl _
  | i2l =>
    obtain ⟨rfl, x, r, rfl, rfl⟩ := hi
    exact x_le_rfl _
  | l2i =>
    obtain ⟨rfl, x, r, rfl, rfl⟩ := hi
    exact x_le_rfl _
  | i2c =>
    obtain ⟨rfl, x, r, rfl, rfl⟩ := hi
    exact x_le_rfl _
  | dup =>
    obtain ⟨rfl, v, r, h1, rfl, rfl⟩ := hi
    exact x_le_rfl _
  | dup2 =>
    obtain ⟨rfl, v, w, r, h1, h2, rfl, rfl⟩ := hi
    exact x_le_rfl _
  | dup_x1 =>
    obtain ⟨rfl, v, w, r, h1, h2, rfl, rfl⟩ := hi
    exact x_le_rfl _
  | pop =>
    obtain ⟨rfl, v, r, h1, rfl, rfl⟩ := hi
    exact x_le_rfl _
  | pop2 =>
    obtain ⟨rfl, v, r, h1, rfl, rfl⟩ := hi
    exact x_le_rfl _
  | ifCond cn off =>
    obtain ⟨rfl, x, r, tgt, rfl, ht, hh⟩ := hi
    rcases hh with ⟨-, rfl⟩ | ⟨-, rfl⟩ <;> exact x_le_rfl _
  | if_icmp cn off =>
    obtain ⟨rfl, x, y, r, tgt, rfl, ht, hh⟩ := hi
    rcases hh with ⟨-, rfl⟩ | ⟨-, rfl⟩ <;> exact x_le_rfl _
  | ifnull off =>
    obtain ⟨rfl, v, r, tgt, rfl, ht, hh⟩ := hi
    rcases hh with ⟨-, rfl⟩ | ⟨-, rfl⟩ <;> exact x_le_rfl _
  | ifnonnull off =>
    obtain ⟨rfl, v, r, tgt, rfl, ht, hh⟩ := hi
    rcases hh with ⟨-, rfl⟩ | ⟨-, rfl⟩ <;> exact x_le_rfl _
  | goto off =>
    obtain ⟨rfl, tgt, ht, rfl⟩ := hi
    exact x_le_rfl _
  | tableswitch dflt lo hi2 offs =>
    obtain ⟨x, r, tgt, rfl, rfl, hh⟩ := hi
    exact x_le_rfl _
  | lookupswitch dflt ps =>
    obtain ⟨x, r, tgt, rfl, rfl, h1, ht⟩ := hi
    exact x_le_rfl _
  | getfield idx =>
    obtain ⟨rfl, ci, k, C, T, N, q, fs, v, r, ⟨h1, h2, h3⟩, rfl, h4, h5, rfl⟩ := hi
    exact x_le_rfl _
  | putfield idx =>
    obtain ⟨rfl, ci, k, C, T, N, q, fs, v, r, ty, ⟨h1, h2, h3⟩, rfl, h4, h5, h6, h7, h8, h9, rfl⟩ := hi
    exact x_le_set h4 (by simp [x_n])
  | iaload =>
    obtain ⟨rfl, x, r, hh⟩ := hi
    rcases hh with ⟨q, k, n, f, h1, h2, rfl, h4, rfl⟩ | ⟨q, n, f, h1, h2, rfl, rfl⟩ <;> exact x_le_rfl _
  | baload =>
    obtain ⟨rfl, x, r, q, k, n, f, h1, h2, rfl, h4, rfl⟩ := hi
    exact x_le_rfl _
  | laload =>
    obtain ⟨rfl, x, r, q, k, n, f, h1, h2, rfl, h4, rfl⟩ := hi
    exact x_le_rfl _
  | aaload =>
    obtain ⟨rfl, x, r, q, k, n, f, ty, h1, h1b, h2, rfl, h4, rfl⟩ := hi
    exact x_le_rfl _
  | iastore =>
    obtain ⟨rfl, x, v, r, q, k, n, f, h1, h2, rfl, h4, rfl⟩ := hi
    exact x_le_set h4 (by simp [x_n])
  | bastore =>
    obtain ⟨rfl, x, v, r, q, k, n, f, h1, h2, rfl, h4, rfl⟩ := hi
    exact x_le_set h4 (by simp [x_n])
  | lastore =>
    obtain ⟨rfl, x, v, r, q, k, n, f, h1, h2, rfl, h4, rfl⟩ := hi
    exact x_le_set h4 (by simp [x_n])
  | aastore =>
    obtain ⟨rfl, x, v, r, q, k, n, f, h2, rfl, h4, rfl, hh⟩ := hi
    exact x_le_set h4 (by simp [x_n])
  | multianewarray idx dm =>
    obtain ⟨rfl, rfl, n, z, r, k, k2, h1, h2, h3, h4, h5, h6, h7, h8, h9, rfl, rfl⟩ := hi
    refine ⟨?_, ?_⟩
    · simp only [x_g, List.length_append]; omega
    · simp only [x_g, x_sl, List.map_append, List.sum_append]; omega
  | arraylength =>
    obtain ⟨rfl, r, hh⟩ := hi
    rcases hh with ⟨q, k, x, h1, rfl, h4, rfl⟩ | ⟨q, n, f, h1, rfl, rfl⟩ <;> exact x_le_rfl _
  | checkcast idx =>
    obtain ⟨rfl, q, k, x, r, h1, h2, rfl, h4, rfl⟩ := hi
    exact x_le_rfl _
  | new idx =>
    obtain ⟨rfl, ci, C, T, N, ty, h1, h2, h3, h4, h5, rfl⟩ := hi
    exact x_le_app _ _
  | newarray aty =>
    obtain ⟨rfl, n, r, k, z, h1, h2, h3, h4, h5, rfl, rfl⟩ := hi
    exact x_le_app _ _
  | anewarray idx =>
    obtain ⟨rfl, n, r, k, C, h1, h2, h3, h4, h5, rfl, rfl⟩ := hi
    exact x_le_app _ _
  | _ => exact hi.elim
theorem x_sins_h {sk : xK} {Ts : List Cond} {own : String} {i : Jvm.ClassFile.Instr} {len : Nat} {a b : xS} (hi : x_sins sk Ts own i len a b) : b.2.1 = a.2.1 ∧ b.2.2.2 = a.2.2.2 := by
  cases i with
  | ldc idx => obtain ⟨rfl, k, hk, rfl, rfl, rfl⟩ := hi; exact ⟨rfl, rfl⟩
  | getfield idx => obtain ⟨rfl, k, r, hk, h1, ⟨-, rfl⟩ | ⟨-, rfl⟩⟩ := hi <;> exact ⟨rfl, rfl⟩
  | arraylength => obtain ⟨rfl, k, r, hk, h1, rfl⟩ := hi; exact ⟨rfl, rfl⟩
  | baload => obtain ⟨rfl, k, x, r, hk, h0, h1, rfl⟩ := hi; exact ⟨rfl, rfl⟩
  | getstatic idx => obtain ⟨rfl, ⟨-, rfl⟩ | ⟨-, rfl⟩⟩ := hi <;> exact ⟨rfl, rfl⟩
  | i2b => obtain ⟨rfl, x, r, h1, rfl⟩ := hi; exact ⟨rfl, rfl⟩
  | _ => exact hi.elim
theorem x_sins_le {sk : xK} {Ts : List Cond} {own : String} {i : Jvm.ClassFile.Instr} {len : Nat} {a b : xS} (hi : x_sins sk Ts own i len a b) : x_le a.2.2.2 b.2.2.2 := by
  rw [(x_sins_h hi).2]; exact x_le_rfl _
def x_ret (ret : Option FieldType) (i : Jvm.ClassFile.Instr) (len : Nat) (st : List Value) (r : Option Value) : Prop :=
  match i with
  | .ireturn => len = 1 ∧ ∃ x ty, st = [.int x] ∧ r = some (.int x) ∧ ret = some ty ∧ narrow ty (.int x) = .int x
  | .lreturn => len = 1 ∧ ∃ x, st = [.long x] ∧ r = some (.long x) ∧ ret = some .long
  | .areturn => len = 1 ∧ ∃ v ty, st = [va_rf v] ∧ r = some (va_rf v) ∧ ret = some ty ∧ ((∃ n, ty = .object n) ∨ ∃ t, ty = .array t)
  | .return_ => len = 1 ∧ st = [] ∧ r = none ∧ ret = none
  | _ => False
def x_lk (Ts AO : List Cond) (own : String) (idx : Nat) (y : MethodName) : Prop := Cond.methodLink own idx y ∈ Ts ∨ ∃ host, Cond.methodLinkNest own idx y host ∈ AO
def x_pn (y : MethodName) (n : Nat) : Prop := (parseMethodDescriptor y.desc).map (fun d => d.parameters.length) = some n
/-- a call: y with As (its receiver among them), the stack below it 'rest' -/
def x_cal (sk : xK) (cl : List vw_C) (Ts AO : List Cond) (base : Nat) (own : String) (i : Jvm.ClassFile.Instr) (len : Nat) (a : xS) (y : MethodName) (As rest : List Value) : Prop :=
  (rest.map fun v => v.category).sum ≤ 8 ∧ Cond.initialized y.cls ∈ Ts ∧ y.cls ≠ "java/lang/invoke/MethodHandle" ∧ y.cls ≠ "java/lang/invoke/VarHandle" ∧ len = 3 ∧
  match i with
  | .invokevirtual idx => x_lk Ts AO own idx y ∧ Cond.instanceMethod y ∈ Ts ∧ Cond.selects y.cls y y ∈ Ts ∧ ((∃ q ci fs T N Bs, As = .ref (base + q) :: Bs ∧ a.2.2.1 = Bs.reverse ++ .ref (base + q) :: rest ∧ a.2.2.2[q]? = some (.inr (ci, fs)) ∧ cl[ci]? = some (y.cls, T, N) ∧ x_pn y Bs.length) ∨ (∃ k Bs, k < 11 ∧ y.cls = "java/lang/String" ∧ As = .ref (sk.1 k) :: Bs ∧ a.2.2.1 = Bs.reverse ++ .ref (sk.1 k) :: rest ∧ x_pn y Bs.length))
  | .invokestatic idx => x_lk Ts AO own idx y ∧ a.2.2.1 = As.reverse ++ rest ∧ x_pn y As.length ∧ Cond.static y ∈ Ts
  | .invokespecial idx => x_lk Ts AO own idx y ∧ y.name = "<init>" ∧ ∃ q Bs, As = .ref q :: Bs ∧ a.2.2.1 = Bs.reverse ++ .ref q :: rest ∧ x_pn y Bs.length ∧ Cond.instanceMethod y ∈ Ts
  | _ => False
/-- what is done by one instruction that needs a frame: Object's constructor; copying ints -/
def x_nat (kd : List FieldType) (Ts AO : List Cond) (base : Nat) (own : String) (i : Jvm.ClassFile.Instr) (len : Nat) (a b : xS) : Prop :=
  match i with
  | .invokespecial idx => len = 3 ∧ ∃ q r, a.2.2.1 = .ref q :: r ∧ (r.map fun v => v.category).sum ≤ 8 ∧ Cond.methodLink own idx Jvm.Lib.objectInit ∈ Ts ∧ Cond.instanceMethod Jvm.Lib.objectInit ∈ Ts ∧ Cond.code Jvm.Lib.objectInit ⟨#[0xb1]⟩ 1 none ∈ Ts ∧ b = x_k a 3 r
  | .invokevirtual idx => len = 3 ∧ Cond.methodLink own idx ⟨"[I", "clone", "()Ljava/lang/Object;"⟩ ∈ Ts ∧ Cond.sameMethod "[I" "java/lang/Object" "clone" "()Ljava/lang/Object;" ∈ Ts ∧ Cond.native ⟨"java/lang/Object", "clone", "()Ljava/lang/Object;"⟩ ∈ Ts ∧ Cond.instanceMethod ⟨"java/lang/Object", "clone", "()Ljava/lang/Object;"⟩ ∈ Ts ∧ Cond.selects "[I" ⟨"[I", "clone", "()Ljava/lang/Object;"⟩ ⟨"java/lang/Object", "clone", "()Ljava/lang/Object;"⟩ ∈ Ts ∧ Cond.castable "[I" "java/lang/Cloneable" ∈ AO ∧ ∃ q k n f r, kd[k]? = some .int ∧ a.2.2.2[q]? = some (.inl (k, n, .inl f)) ∧ (r.map fun v => v.category).sum ≤ 8 ∧ a.2.2.1 = .ref (base + q) :: r ∧ b = x_g a 3 (.ref (base + a.2.2.2.length) :: r) (a.2.2.2 ++ [.inl (k, n, .inl f)])
  | .invokestatic idx => len = 3 ∧ Cond.methodLink own idx arraycopyName ∈ Ts ∧ Cond.native arraycopyName ∈ Ts ∧ Cond.static arraycopyName ∈ Ts ∧ Cond.initialized "java/lang/System" ∈ Ts ∧ ∃ q0 q1 k n0 n1 f g sp dp n r, kd[k]? = some .int ∧ a.2.2.2[q0]? = some (.inl (k, n0, .inl f)) ∧ a.2.2.2[q1]? = some (.inl (k, n1, .inl g)) ∧ ¬ sp < 0 ∧ ¬ dp < 0 ∧ ¬ n < 0 ∧ sp.toNatClampNeg + n.toNatClampNeg ≤ n0 ∧ dp.toNatClampNeg + n.toNatClampNeg ≤ n1 ∧ (r.map fun v => v.category).sum ≤ 8 ∧ a.2.2.1 = .int n :: .int dp :: .ref (base + q1) :: .int sp :: .ref (base + q0) :: r ∧ b = x_g a 3 r (a.2.2.2.set q1 (.inl (k, n1, .inl (va_cpy f g sp.toNatClampNeg dp.toNatClampNeg n.toNatClampNeg))))
  | _ => False
theorem x_nat_le {kd : List FieldType} {Ts AO : List Cond} {base : Nat} {own : String} {i : Jvm.ClassFile.Instr} {len : Nat} {a b : xS} (hi : x_nat kd Ts AO base own i len a b) : x_le a.2.2.2 b.2.2.2 := by
  obtain ⟨pc, L, st, h⟩ := a
  dsimp only at hi ⊢
  cases i with
  | invokespecial idx =>
    obtain ⟨rfl, q, r, -, -, -, -, -, rfl⟩ := hi
    exact x_le_rfl _
  | invokevirtual idx =>
    obtain ⟨rfl, -, -, -, -, -, -, q, k, n, f, r, -, -, -, -, rfl⟩ := hi
    exact x_le_app _ _
  | invokestatic idx =>
    obtain ⟨rfl, -, -, -, -, q0, q1, k, n0, n1, f, g, sp, dp, n, r, -, -, h4, -, -, -, -, -, -, -, rfl⟩ := hi
    exact x_le_set h4 (by simp [x_n])
  | _ => exact hi.elim
abbrev xM : Type := Nat → Option (MethodName × ByteArray × Nat × Option FieldType)
/-- with n steps, at most d calls deep: method j at state a returns r, and leaves the cells h' -/
def x_go (sk : xK) (cl : List vw_C) (kd : List FieldType) (Ts : List Cond) (AO : List Cond) (M : xM) (base : Nat) : Nat → Nat → Option (Nat × Nat × (Nat → Int32)) → Nat → xS → Option Value → List xC → Prop
  | 0, _, _, _, _, _, _ => False
  | n + 1, d, X, j, a, r, h' => ∃ y cc nL ret i len, M j = some (y, cc, nL, ret) ∧ decode cc a.1 = .ok (i, len) ∧
      ((∃ b, (x_ins cl kd Ts AO X base y.cls y.name nL i len a b ∨ x_sins sk Ts y.cls i len a b) ∧ x_go sk cl kd Ts AO M base n d X j b r h') ∨
       (x_ret ret i len a.2.2.1 r ∧ a.2.2.2 = h') ∨
       (∃ d' j2 y2 cc2 nL2 ret2 As rest v h1, d = d' + 1 ∧ 0 < j2 ∧ M j2 = some (y2, cc2, nL2, ret2) ∧ x_cal sk cl Ts AO base y.cls i len a y2 As rest ∧ (lg_sl As).length ≤ nL2 ∧ x_go sk cl kd Ts AO M base n d' none j2 (0, lv_args 0 As, [], a.2.2.2) v h1 ∧ x_go sk cl kd Ts AO M base n d X j (a.1 + 3, a.2.1, v.toList ++ rest, h1) r h') ∨
       (∃ d' b, d = d' + 1 ∧ x_nat kd Ts AO base y.cls i len a b ∧ x_go sk cl kd Ts AO M base n d X j b r h'))
theorem x_go_le {sk : xK} {cl : List vw_C} {kd : List FieldType} {Ts : List Cond} {AO : List Cond} {M : xM} {base : Nat} : ∀ (n d : Nat) (X : Option (Nat × Nat × (Nat → Int32))) (j : Nat) (a : xS) (r : Option Value) (h' : List xC), x_go sk cl kd Ts AO M base n d X j a r h' → x_le a.2.2.2 h'
  | 0, _, _, _, _, _, _, h => h.elim
  | n + 1, d, X, j, a, r, h', h => by
    obtain ⟨y, cc, nL, ret, i, len, hM, hd, hh⟩ := h
    rcases hh with ⟨b, hi, hg⟩ | ⟨-, rfl⟩ | ⟨d', j2, y2, cc2, nL2, ret2, As, rest, v, h1, rfl, -, -, -, -, hg1, hg2⟩ | ⟨d', b, rfl, hi, hg⟩
    · rcases hi with hi | hi
      · exact x_le_trans (x_ins_le hi) (x_go_le n _ _ _ _ _ _ hg)
      · exact x_le_trans (x_sins_le hi) (x_go_le n _ _ _ _ _ _ hg)
    · exact x_le_rfl _
    · have g1 := x_go_le n _ _ _ _ _ _ hg1
      have g2 := x_go_le n _ _ _ _ _ _ hg2
      exact x_le_trans g1 g2
    · exact x_le_trans (x_nat_le hi) (x_go_le n _ _ _ _ _ _ hg)
