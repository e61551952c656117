section
/-! THE SIMPLE MACHINE: states of one method as plain data (place, locals, stack, cells from 'base' on), and its steps as a relation; behind it: what it does, the real machine does. -/
abbrev xC : Type := (Nat × vp_A) ⊕ (Nat × List Value)
abbrev xL : Type := List (Nat × Value)
abbrev xS : Type := Nat × xL × List Value × List xC
def x_E (dA : Nat → ClassId) : xC → va_E := fun q => match q with
  | .inl a => .inl (dA a.1, a.2)
  | .inr o => .inr o
def x_W (dA : Nat → ClassId) (base : Nat) (h : List xC) : va_W := h.mapIdx (fun i q => (base + i, x_E dA q))
def x_n : xC → Nat := fun q => match q with
  | .inl a => a.2.1
  | .inr o => o.2.length
def x_sl (h : List xC) : Nat := (h.map x_n).sum
theorem x_W_at (dA : Nat → ClassId) (base : Nat) (h : List xC) (i : Nat) : (x_W dA base h)[i]? = (h[i]?).map (fun q => (base + i, x_E dA q)) := by
  unfold x_W
  rw [List.getElem?_mapIdx]
theorem x_W_get {dA : Nat → ClassId} {base : Nat} {h : List xC} {i : Nat} {q : xC} (e : h[i]? = some q) : (x_W dA base h)[i]? = some (base + i, x_E dA q) := by
  rw [x_W_at, e]; rfl
theorem x_W_len (dA : Nat → ClassId) (base : Nat) (h : List xC) : (x_W dA base h).length = h.length := by
  unfold x_W
  rw [List.length_mapIdx]
theorem x_W_set (dA : Nat → ClassId) (base : Nat) (h : List xC) (i : Nat) (q : xC) : (x_W dA base h).set i (base + i, x_E dA q) = x_W dA base (h.set i q) := by
  apply List.ext_getElem?
  intro j
  rw [x_W_at, List.getElem?_set, List.getElem?_set, x_W_len, x_W_at]
  by_cases hij : i = j
  · subst hij
    by_cases hl : i < h.length
    · simp [hl]
    · simp [hl]
  · simp [hij]
theorem x_W_app (dA : Nat → ClassId) (base : Nat) (h : List xC) (q : xC) : x_W dA base h ++ [(base + h.length, x_E dA q)] = x_W dA base (h ++ [q]) := by
  unfold x_W
  rw [List.mapIdx_concat]
theorem x_D (dA : Nat → ClassId) (base : Nat) (h : List xC) : va_D (fun q => base ≤ q) (x_W dA base h) := by
  refine ⟨fun i j p q hi hj hpq => ?_, fun k q hk => ?_⟩
  · rw [x_W_at] at hi hj
    obtain ⟨a, -, rfl⟩ := Option.map_eq_some_iff.mp hi
    obtain ⟨b, -, rfl⟩ := Option.map_eq_some_iff.mp hj
    dsimp only at hpq
    omega
  · rw [x_W_at] at hk
    obtain ⟨a, -, rfl⟩ := Option.map_eq_some_iff.mp hk
    exact Nat.le_add_right _ _
theorem x_sl_set {h : List xC} {i : Nat} {q q2 : xC} (e : h[i]? = some q) (hn : x_n q2 = x_n q) : x_sl (h.set i q2) = x_sl h := by
  unfold x_sl
  rw [List.map_set, hn]
  congr 1
  apply List.ext_getElem?
  intro j
  rw [List.getElem?_set]
  by_cases hij : i = j
  · subst hij
    have hl : i < h.length := (List.getElem?_eq_some_iff.mp e).1
    simp [hl, e, List.getElem?_map]
    have := (List.getElem?_eq_some_iff.mp e).2
    rw [this]
  · simp [hij]
theorem x_sl_app (h : List xC) (q : xC) : x_sl (h ++ [q]) = x_sl h + x_n q := by
  simp [x_sl]
section XW
variable {p : Program} {l : Launch} {e : Env} {R : Room} {s : State} {m : MethodId} {args : Array Value} {below : List Frame} {meth : Method} {c : Code} {H : Heap} {locs : List Loc} {cells slots : Nat} {Q : State → Prop}
variable {D : va_G} {cl : List vw_C} {dA : Nat → ClassId} {base : Nat} {h : List xC}
/-- the heap ends where the cells end -/
theorem x_size {g : JFrame} (hP : va_P D cl (x_W dA base h) H) (hb : base ≤ s.heap.size) (hz : s.heap.size ≤ H.size) (hc : base + h.length = s.heap.size + cells) (kk : H.size = base + h.length → W p l e R s m args below meth c H locs cells slots Q g) : W p l e R s m args below meth c H locs cells slots Q g := by
  intro T hT X
  refine kk ?_ T hT X
  have h1 : T.heap.size ≤ s.heap.size + cells := X.heapSize
  rw [hT] at h1
  by_cases h0 : h.length = 0
  · omega
  · have hi : h.length - 1 < h.length := by omega
    have h2 := (hP (h.length - 1) _ (x_W_get (List.getElem?_eq_getElem hi))).lt
    dsimp only at h2
    omega
/-- a new cell lies behind the others -/
theorem x_fresh {g : JFrame} {q : Nat} {x : va_E} {sl : Nat} (hP : va_P D cl (x_W dA base h ++ [(q, x)]) H) (hD : va_D (fun q => base ≤ q) (x_W dA base h ++ [(q, x)])) (hc : base + h.length = s.heap.size + cells) (kk : q = base + h.length → W p l e R s m args below meth c H locs (cells + 1) sl Q g) : W p l e R s m args below meth c H locs (cells + 1) sl Q g := by
  intro T hT X
  refine kk ?_ T hT X
  have h1 : T.heap.size ≤ s.heap.size + (cells + 1) := X.heapSize
  rw [hT] at h1
  have hl : (x_W dA base h ++ [(q, x)])[h.length]? = some (q, x) := by
    rw [List.getElem?_append_right (by rw [x_W_len]; exact Nat.le_refl _), x_W_len]
    simp
  have h2 := (hP _ _ hl).lt
  have h3 := hD.2 _ _ hl
  dsimp only at h2 h3
  rcases Nat.lt_or_ge q (base + h.length) with h4 | h4
  · have hi : q - base < h.length := by omega
    have h5 : (x_W dA base h ++ [(q, x)])[q - base]? = some (base + (q - base), x_E dA h[q - base]) := by
      rw [List.getElem?_append_left (by rw [x_W_len]; exact hi)]
      exact x_W_get (List.getElem?_eq_getElem hi)
    have h6 := hD.1 _ _ _ _ h5 hl (by dsimp only; omega)
    omega
  · omega
end XW
end
section
/-! The simple machine's steps: an instruction with its length, the state before and behind it. nL: how many locals the method has; own: its class; Ts: the tables' words; X: the script, where the method sees it. -/
def x_k (a : xS) (n : Nat) (st : List Value) : xS := (a.1 + n, a.2.1, st, a.2.2.2)
def x_t (a : xS) (tgt : Nat) (st : List Value) : xS := (tgt, a.2.1, st, a.2.2.2)
def x_v (a : xS) (n : Nat) (L : xL) (st : List Value) : xS := (a.1 + n, L, st, a.2.2.2)
def x_g (a : xS) (n : Nat) (st : List Value) (h : List xC) : xS := (a.1 + n, a.2.1, st, h)
def x_s1 (L : xL) (i : Nat) (v : Value) : xL := (i, v) :: L.filter (fun q => !(q.1 == i) && !(q.1 + 1 == i && q.2.category == 2))
def x_s2 (L : xL) (i : Nat) (v : Value) : xL := (i, v) :: L.filter (fun q => !(q.1 == i) && (!(q.1 == i + 1) && !(q.1 + 1 == i && q.2.category == 2)))
def x_c0 : Jvm.ClassFile.Cond → Int32 → Prop := fun c x => match c with
  | .eq => x = 0
  | .ne => ¬ x = 0
  | .lt => x < 0
  | .ge => 0 ≤ x
  | .gt => 0 < x
  | .le => x ≤ 0
def x_c2 : Jvm.ClassFile.Cond → Int32 → Int32 → Prop := fun c x y => match c with
  | .eq => x = y
  | .ne => ¬ x = y
  | .lt => x < y
  | .ge => y ≤ x
  | .gt => y < x
  | .le => x ≤ y
/-- a field that an instruction names: the k-th of class ci -/
def x_fl (cl : List vw_C) (Ts AO : List Cond) (own : String) (idx ci k : Nat) (C : String) (T : u_T) (N : Nat) : Prop :=
  cl[ci]? = some (C, T, N) ∧ k < N ∧ (Cond.fieldLink own idx (T k).1 (T k).2.1 (T k).2.2.1 ∈ Ts ∨ ∃ host, Cond.fieldLinkNest own idx (T k).1 (T k).2.1 (T k).2.2.1 host ∈ AO)
def x_z0 (t : FieldType) : (Nat → Int32) ⊕ (Nat → Int64) ⊕ (Nat → UInt32) ⊕ (Nat → UInt64) ⊕ (Nat → Option Nat) := match t with
  | .long => .inr (.inl (fun _ => 0))
  | _ => .inl (fun _ => 0)
def x_ins (cl : List vw_C) (kd : List FieldType) (Ts : List Cond) (AO : List Cond) (X : Option (Nat × Nat × (Nat → Int32))) (base : Nat) (own mname : String) (nL : Nat) (i : Jvm.ClassFile.Instr) (len : Nat) (a b : xS) : Prop :=
  match i with
  | .aconst_null => len = 1 ∧ b = x_k a 1 (.null :: a.2.2.1)
  | .iconst n => len = 1 ∧ b = x_k a 1 (.int (Int32.ofInt n) :: a.2.2.1)
  | .bipush n => len = 2 ∧ b = x_k a 2 (.int (Int8.ofInt n).toInt32 :: a.2.2.1)
  | .sipush n => len = 3 ∧ b = x_k a 3 (.int (Int16.ofInt n).toInt32 :: a.2.2.1)
  | .lconst n => len = 1 ∧ b = x_k a 1 (.long (Int64.ofNat (n : Nat)) :: a.2.2.1)
  | .ldc idx => len = 2 ∧ ∃ v, Cond.constant own idx v ∈ Ts ∧ b = x_k a 2 (.int v :: a.2.2.1)
  | .ldc2_w idx => len = 3 ∧ ∃ v, Cond.constantLong own idx v ∈ Ts ∧ b = x_k a 3 (.long v :: a.2.2.1)
  | .iload j => len = 2 ∧ ∃ x, (j, .int x) ∈ a.2.1 ∧ b = x_k a 2 (.int x :: a.2.2.1)
  | .iload_n j => len = 1 ∧ ∃ x, ((j : Nat), .int x) ∈ a.2.1 ∧ b = x_k a 1 (.int x :: a.2.2.1)
  | .lload j => len = 2 ∧ ∃ x, (j, .long x) ∈ a.2.1 ∧ b = x_k a 2 (.long x :: a.2.2.1)
  | .lload_n j => len = 1 ∧ ∃ x, ((j : Nat), .long x) ∈ a.2.1 ∧ b = x_k a 1 (.long x :: a.2.2.1)
  | .aload j => len = 2 ∧ ∃ r, (j, va_rf r) ∈ a.2.1 ∧ b = x_k a 2 (va_rf r :: a.2.2.1)
  | .aload_n j => len = 1 ∧ ∃ r, ((j : Nat), va_rf r) ∈ a.2.1 ∧ b = x_k a 1 (va_rf r :: a.2.2.1)
  | .istore j => len = 2 ∧ j < nL ∧ ∃ x r, a.2.2.1 = .int x :: r ∧ b = x_v a 2 (x_s1 a.2.1 j (.int x)) r
  | .istore_n j => len = 1 ∧ (j : Nat) < nL ∧ ∃ x r, a.2.2.1 = .int x :: r ∧ b = x_v a 1 (x_s1 a.2.1 j (.int x)) r
  | .lstore j => len = 2 ∧ j + 1 < nL ∧ ∃ x r, a.2.2.1 = .long x :: r ∧ b = x_v a 2 (x_s2 a.2.1 j (.long x)) r
  | .lstore_n j => len = 1 ∧ (j : Nat) + 1 < nL ∧ ∃ x r, a.2.2.1 = .long x :: r ∧ b = x_v a 1 (x_s2 a.2.1 j (.long x)) r
  | .astore j => len = 2 ∧ j < nL ∧ ∃ x r, a.2.2.1 = va_rf x :: r ∧ b = x_v a 2 (x_s1 a.2.1 j (va_rf x)) r
  | .astore_n j => len = 1 ∧ (j : Nat) < nL ∧ ∃ x r, a.2.2.1 = va_rf x :: r ∧ b = x_v a 1 (x_s1 a.2.1 j (va_rf x)) r
  | .iinc j n => len = 3 ∧ j < nL ∧ ∃ x, (j, .int x) ∈ a.2.1 ∧ b = x_v a 3 (x_s1 a.2.1 j (.int (x + Int32.ofInt n))) a.2.2.1
  | .iadd => len = 1 ∧ ∃ x y r, a.2.2.1 = .int y :: .int x :: r ∧ b = x_k a 1 (.int (x + y) :: r)
  | .isub => len = 1 ∧ ∃ x y r, a.2.2.1 = .int y :: .int x :: r ∧ b = x_k a 1 (.int (x - y) :: r)
  | .imul => len = 1 ∧ ∃ x y r, a.2.2.1 = .int y :: .int x :: r ∧ b = x_k a 1 (.int (x * y) :: r)
  | .iand => len = 1 ∧ ∃ x y r, a.2.2.1 = .int y :: .int x :: r ∧ b = x_k a 1 (.int (x &&& y) :: r)
  | .ior => len = 1 ∧ ∃ x y r, a.2.2.1 = .int y :: .int x :: r ∧ b = x_k a 1 (.int (x ||| y) :: r)
  | .ixor => len = 1 ∧ ∃ x y r, a.2.2.1 = .int y :: .int x :: r ∧ b = x_k a 1 (.int (x ^^^ y) :: r)
  | .ishl => len = 1 ∧ ∃ x y r, a.2.2.1 = .int y :: .int x :: r ∧ b = x_k a 1 (.int (x <<< (y &&& 31)) :: r)
  | .ishr => len = 1 ∧ ∃ x y r, a.2.2.1 = .int y :: .int x :: r ∧ b = x_k a 1 (.int (x >>> (y &&& 31)) :: r)
  | .iushr => len = 1 ∧ ∃ x y r, a.2.2.1 = .int y :: .int x :: r ∧ b = x_k a 1 (.int (x.toUInt32 >>> (y.toUInt32 &&& Int32.toUInt32 31)).toInt32 :: r)
  | .idiv => len = 1 ∧ ∃ x y r, ¬ y = 0 ∧ a.2.2.1 = .int y :: .int x :: r ∧ b = x_k a 1 (.int (x / y) :: r)
  | .irem => len = 1 ∧ ∃ x y r, ¬ y = 0 ∧ a.2.2.1 = .int y :: .int x :: r ∧ b = x_k a 1 (.int (x - x / y * y) :: r)
  | .ineg => len = 1 ∧ ∃ x r, a.2.2.1 = .int x :: r ∧ b = x_k a 1 (.int (-x) :: r)
  | .ladd => len = 1 ∧ ∃ x y r, a.2.2.1 = .long y :: .long x :: r ∧ b = x_k a 1 (.long (x + y) :: r)
  | .lsub => len = 1 ∧ ∃ x y r, a.2.2.1 = .long y :: .long x :: r ∧ b = x_k a 1 (.long (x - y) :: r)
  | .lmul => len = 1 ∧ ∃ x y r, a.2.2.1 = .long y :: .long x :: r ∧ b = x_k a 1 (.long (x * y) :: r)
  | .land => len = 1 ∧ ∃ x y r, a.2.2.1 = .long y :: .long x :: r ∧ b = x_k a 1 (.long (x &&& y) :: r)
  | .lor => len = 1 ∧ ∃ x y r, a.2.2.1 = .long y :: .long x :: r ∧ b = x_k a 1 (.long (x ||| y) :: r)
  | .lxor => len = 1 ∧ ∃ x y r, a.2.2.1 = .long y :: .long x :: r ∧ b = x_k a 1 (.long (x ^^^ y) :: r)
  | .lshl => len = 1 ∧ ∃ (x : Int64) (y : Int32) (r : List Value), a.2.2.1 = .int y :: .long x :: r ∧ b = x_k a 1 (.long (x <<< (y.toInt64 &&& 63)) :: r)
  | .lshr => len = 1 ∧ ∃ (x : Int64) (y : Int32) (r : List Value), a.2.2.1 = .int y :: .long x :: r ∧ b = x_k a 1 (.long (x >>> (y.toInt64 &&& 63)) :: r)
  | .lushr => len = 1 ∧ ∃ (x : Int64) (y : Int32) (r : List Value), a.2.2.1 = .int y :: .long x :: r ∧ b = x_k a 1 (.long (x.toUInt64 >>> (y.toInt64.toUInt64 &&& Int64.toUInt64 63)).toInt64 :: r)
  | .ldiv => len = 1 ∧ ∃ x y r, ¬ y = 0 ∧ a.2.2.1 = .long y :: .long x :: r ∧ b = x_k a 1 (.long (x / y) :: r)
  | .lrem => len = 1 ∧ ∃ x y r, ¬ y = 0 ∧ a.2.2.1 = .long y :: .long x :: r ∧ b = x_k a 1 (.long (x - x / y * y) :: r)
  | .lneg => len = 1 ∧ ∃ x r, a.2.2.1 = .long x :: r ∧ b = x_k a 1 (.long (-x) :: r)
  | .lcmp => len = 1 ∧ ∃ x y r, a.2.2.1 = .long y :: .long x :: r ∧ b = x_k a 1 (.int (lg_cmp x y) :: r)
  | .i2l => len = 1 ∧ ∃ (x : Int32) (r : List Value), a.2.2.1 = .int x :: r ∧ b = x_k a 1 (.long x.toInt64 :: r)
  | .l2i => len = 1 ∧ ∃ (x : Int64) (r : List Value), a.2.2.1 = .long x :: r ∧ b = x_k a 1 (.int x.toInt32 :: r)
  | .i2c => len = 1 ∧ ∃ (x : Int32) (r : List Value), a.2.2.1 = .int x :: r ∧ b = x_k a 1 (.int (x.toUInt32 % 65536).toInt32 :: r)
  | .dup => len = 1 ∧ ∃ v r, v.category = 1 ∧ a.2.2.1 = v :: r ∧ b = x_k a 1 (v :: v :: r)
  | .dup2 => len = 1 ∧ ∃ v w r, v.category = 1 ∧ w.category = 1 ∧ a.2.2.1 = v :: w :: r ∧ b = x_k a 1 (v :: w :: v :: w :: r)
  | .dup_x1 => len = 1 ∧ ∃ v w r, v.category = 1 ∧ w.category = 1 ∧ a.2.2.1 = v :: w :: r ∧ b = x_k a 1 (v :: w :: v :: r)
  | .pop => len = 1 ∧ ∃ v r, v.category = 1 ∧ a.2.2.1 = v :: r ∧ b = x_k a 1 r
  | .pop2 => len = 1 ∧ ∃ v r, v.category = 2 ∧ a.2.2.1 = v :: r ∧ b = x_k a 1 r
  | .ifCond cn off => len = 3 ∧ ∃ x r, ∃ tgt : Nat, a.2.2.1 = .int x :: r ∧ (a.1 : Int) + off = (tgt : Int) ∧ ((x_c0 cn x ∧ b = x_t a tgt r) ∨ (¬ x_c0 cn x ∧ b = x_k a 3 r))
  | .if_icmp cn off => len = 3 ∧ ∃ x y r, ∃ tgt : Nat, a.2.2.1 = .int y :: .int x :: r ∧ (a.1 : Int) + off = (tgt : Int) ∧ ((x_c2 cn x y ∧ b = x_t a tgt r) ∨ (¬ x_c2 cn x y ∧ b = x_k a 3 r))
  | .ifnull off => len = 3 ∧ ∃ v r, ∃ tgt : Nat, a.2.2.1 = va_rf v :: r ∧ (a.1 : Int) + off = (tgt : Int) ∧ ((v = none ∧ b = x_t a tgt r) ∨ (¬ v = none ∧ b = x_k a 3 r))
  | .ifnonnull off => len = 3 ∧ ∃ v r, ∃ tgt : Nat, a.2.2.1 = va_rf v :: r ∧ (a.1 : Int) + off = (tgt : Int) ∧ ((¬ v = none ∧ b = x_t a tgt r) ∨ (v = none ∧ b = x_k a 3 r))
  | .goto off => len = 3 ∧ ∃ tgt : Nat, (a.1 : Int) + off = (tgt : Int) ∧ b = x_t a tgt a.2.2.1
  | .tableswitch dflt lo hi offs => ∃ x r, ∃ tgt : Nat, a.2.2.1 = .int x :: r ∧ b = x_t a tgt r ∧ (((x.toInt < lo ∨ hi < x.toInt) ∧ (a.1 : Int) + dflt = (tgt : Int)) ∨ (¬ x.toInt < lo ∧ ¬ hi < x.toInt ∧ ∃ off, offs[(x.toInt - lo).toNat]? = some off ∧ (a.1 : Int) + off = (tgt : Int)))
  | .lookupswitch dflt ps => ∃ x r, ∃ tgt : Nat, a.2.2.1 = .int x :: r ∧ b = x_t a tgt r ∧ (ps.toList.zip (ps.toList.drop 1)).all (fun (a, next) => a.1 < next.1) = true ∧ (a.1 : Int) + Jvm.Op.lookupswitch.offset ps.toList dflt x.toInt = (tgt : Int)
  | .getfield idx => len = 3 ∧ ∃ ci k C T N q fs v r, x_fl cl Ts AO own idx ci k C T N ∧ a.2.2.1 = .ref (base + q) :: r ∧ a.2.2.2[q]? = some (.inr (ci, fs)) ∧ fs[k]? = some v ∧ b = x_k a 3 (v :: r)
  | .putfield idx => len = 3 ∧ ∃ ci k C T N q fs v r ty, x_fl cl Ts AO own idx ci k C T N ∧ a.2.2.1 = v :: .ref (base + q) :: r ∧ a.2.2.2[q]? = some (.inr (ci, fs)) ∧ k < fs.length ∧ parseFieldDescriptor (T k).2.2.1 = some ty ∧ narrow ty v = v ∧ fits ty v = true ∧ ((T k).2.2.2 = false ∨ ((T k).2.2.2 = true ∧ mname = "<init>" ∧ (T k).1 = own ∧ Cond.fieldLink own idx (T k).1 (T k).2.1 (T k).2.2.1 ∈ Ts)) ∧ b = x_g a 3 r (a.2.2.2.set q (.inr (ci, fs.set k v)))
  | .iaload => len = 1 ∧ ∃ x r, (∃ q k n f, kd[k]? = some .int ∧ vp_in x n ∧ a.2.2.1 = .int x :: .ref (base + q) :: r ∧ a.2.2.2[q]? = some (.inl (k, n, .inl f)) ∧ b = x_k a 1 (.int (f x.toNatClampNeg) :: r)) ∨ (∃ q n f, X = some (q, n, f) ∧ vp_in x n ∧ a.2.2.1 = .int x :: .ref q :: r ∧ b = x_k a 1 (.int (f x.toNatClampNeg) :: r))
  | .baload => len = 1 ∧ ∃ x r q k n f, kd[k]? = some .boolean ∧ vp_in x n ∧ a.2.2.1 = .int x :: .ref (base + q) :: r ∧ a.2.2.2[q]? = some (.inl (k, n, .inl f)) ∧ b = x_k a 1 (.int (f x.toNatClampNeg) :: r)
  | .laload => len = 1 ∧ ∃ x r q k n f, kd[k]? = some .long ∧ vp_in x n ∧ a.2.2.1 = .int x :: .ref (base + q) :: r ∧ a.2.2.2[q]? = some (.inl (k, n, .inr (.inl f))) ∧ b = x_k a 1 (.long (f x.toNatClampNeg) :: r)
  | .aaload => len = 1 ∧ ∃ x r q k n f ty, kd[k]? = some ty ∧ ty.isReference = true ∧ vp_in x n ∧ a.2.2.1 = .int x :: .ref (base + q) :: r ∧ a.2.2.2[q]? = some (.inl (k, n, .inr (.inr (.inr (.inr f))))) ∧ b = x_k a 1 (va_rf (f x.toNatClampNeg) :: r)
  | .iastore => len = 1 ∧ ∃ x v r q k n f, kd[k]? = some .int ∧ vp_in x n ∧ a.2.2.1 = .int v :: .int x :: .ref (base + q) :: r ∧ a.2.2.2[q]? = some (.inl (k, n, .inl f)) ∧ b = x_g a 1 r (a.2.2.2.set q (.inl (k, n, .inl (upd f x.toNatClampNeg v))))
  | .bastore => len = 1 ∧ ∃ x v r q k n f, kd[k]? = some .boolean ∧ vp_in x n ∧ a.2.2.1 = .int v :: .int x :: .ref (base + q) :: r ∧ a.2.2.2[q]? = some (.inl (k, n, .inl f)) ∧ b = x_g a 1 r (a.2.2.2.set q (.inl (k, n, .inl (upd f x.toNatClampNeg (vp_nar .boolean v)))))
  | .lastore => len = 1 ∧ ∃ x v r q k n f, kd[k]? = some .long ∧ vp_in x n ∧ a.2.2.1 = .long v :: .int x :: .ref (base + q) :: r ∧ a.2.2.2[q]? = some (.inl (k, n, .inr (.inl f))) ∧ b = x_g a 1 r (a.2.2.2.set q (.inl (k, n, .inr (.inl (vp_updL f x.toNatClampNeg v)))))
  | .aastore => len = 1 ∧ ∃ x v r q k n f, vp_in x n ∧ a.2.2.1 = .ref (base + v) :: .int x :: .ref (base + q) :: r ∧ a.2.2.2[q]? = some (.inl (k, n, .inr (.inr (.inr (.inr f))))) ∧ b = x_g a 1 r (a.2.2.2.set q (.inl (k, n, .inr (.inr (.inr (.inr (va_up f x.toNatClampNeg (some (base + v))))))))) ∧ ((∃ ci fs C T N, kd[k]? = some (.object C) ∧ cl[ci]? = some (C, T, N) ∧ a.2.2.2[v]? = some (.inr (ci, fs))) ∨ (∃ k2 z, kd[k]? = some (.array .int) ∧ kd[k2]? = some .int ∧ Cond.arrayOver (.array .int) ∈ AO ∧ a.2.2.2[v]? = some (.inl (k2, z))))
  | .multianewarray idx dm => len = 4 ∧ dm = 2 ∧ ∃ n z r k k2, kd[k]? = some (.array .int) ∧ kd[k2]? = some .int ∧ Cond.classLink own idx ("[" ++ (FieldType.array .int).toString) ∈ Ts ∧ Cond.arrayOver (.array .int) ∈ AO ∧ Cond.arrayClass .int ∈ Ts ∧ ¬ n < 0 ∧ ¬ z < 0 ∧ n.toNatClampNeg * 4 ≤ 536870912 ∧ z.toNatClampNeg * 4 ≤ 536870912 ∧ a.2.2.1 = .int z :: .int n :: r ∧ b = x_g a 4 (.ref (base + a.2.2.2.length) :: r) ((a.2.2.2 ++ [.inl (k, n.toNatClampNeg, .inr (.inr (.inr (.inr (fun i => if i < n.toNatClampNeg then some (base + a.2.2.2.length + 1 + i) else none)))))]) ++ List.replicate n.toNatClampNeg (.inl (k2, z.toNatClampNeg, .inl (fun _ => 0))))
  | .arraylength => len = 1 ∧ ∃ r, (∃ q k x, k < kd.length ∧ a.2.2.1 = .ref (base + q) :: r ∧ a.2.2.2[q]? = some (.inl (k, x)) ∧ b = x_k a 1 (.int (Int32.ofNat x.1) :: r)) ∨ (∃ q n f, X = some (q, n, f) ∧ a.2.2.1 = .ref q :: r ∧ b = x_k a 1 (.int (Int32.ofNat n) :: r))
  | .checkcast idx => len = 3 ∧ ∃ q k x r, kd[k]? = some .int ∧ Cond.classLink own idx "[I" ∈ Ts ∧ a.2.2.1 = .ref (base + q) :: r ∧ a.2.2.2[q]? = some (.inl (k, x)) ∧ b = x_k a 3 (.ref (base + q) :: r)
  | .new idx => len = 3 ∧ ∃ ci C T N, ∃ ty : Nat → FieldType, cl[ci]? = some (C, T, N) ∧ (∀ k, k < N → parseFieldDescriptor (T k).2.2.1 = some (ty k)) ∧ Cond.classLink own idx C ∈ Ts ∧ Cond.instantiable C N ∈ Ts ∧ Cond.initialized C ∈ Ts ∧ b = x_g a 3 (.ref (base + a.2.2.2.length) :: a.2.2.1) (a.2.2.2 ++ [.inr (ci, (List.range N).map (fun k => defaultValue (ty k)))])
  | .newarray aty => len = 2 ∧ ∃ n r k z, kd[k]? = some (Jvm.Op.newarray.typeOf aty) ∧ Cond.arrayClass (Jvm.Op.newarray.typeOf aty) ∈ Ts ∧ ¬ n < 0 ∧ n.toNatClampNeg * componentBytes (Jvm.Op.newarray.typeOf aty) ≤ 536870912 ∧ ((∀ cA : ClassId, vp_cell cA (n.toNatClampNeg, z) = arrV cA n.toNatClampNeg (fun _ => defaultValue (Jvm.Op.newarray.typeOf aty))) ∧ z = x_z0 (Jvm.Op.newarray.typeOf aty)) ∧ a.2.2.1 = .int n :: r ∧ b = x_g a 2 (.ref (base + a.2.2.2.length) :: r) (a.2.2.2 ++ [.inl (k, n.toNatClampNeg, z)])
  | .anewarray idx => len = 3 ∧ ∃ n r k C, kd[k]? = some (.object C) ∧ Cond.classLink own idx C ∈ Ts ∧ Cond.arrayOver (.object C) ∈ AO ∧ ¬ n < 0 ∧ n.toNatClampNeg * 4 ≤ 536870912 ∧ a.2.2.1 = .int n :: r ∧ b = x_g a 3 (.ref (base + a.2.2.2.length) :: r) (a.2.2.2 ++ [.inl (k, n.toNatClampNeg, .inr (.inr (.inr (.inr (fun _ => none)))))])
  | _ => False
end
section
/-! One step of the simple machine is done by the real one. -/
/-- what of the tables stays through calls: classes, array kinds, arrays of references -/
def x_K (D : va_G) (cl : List vw_C) (dA : Nat → ClassId) (kd : List FieldType) (AO : List Cond) (U : State) : Prop :=
  va_K D cl (kd.mapIdx (fun i ty => (dA i, ty))) U ∧ ∀ w ∈ AO, va_Nw w U
/-- a word that stays while the tables grow warm -/
def x_mv (w : Cond) : Prop := (∀ (s U : State), s.vm = U.vm → va_Nw w s → va_Nw w U) ∧ ∀ (s U : State), s.WarmedH U.vm → va_Nw w s → va_Nw w U
theorem x_K.warm {D : va_G} {cl : List vw_C} {dA : Nat → ClassId} {kd : List FieldType} {AO : List Cond} {u U : State} (hAO : ∀ w ∈ AO, x_mv w) (hW : u.WarmedH U.vm) (h : x_K D cl dA kd AO u) : x_K D cl dA kd AO U :=
  ⟨va_K.moved hW.alike h.1, fun w hw => (hAO w hw).2 u U hW (h.2 w hw)⟩
theorem x_K.same {D : va_G} {cl : List vw_C} {dA : Nat → ClassId} {kd : List FieldType} {AO : List Cond} {u U : State} (hAO : ∀ w ∈ AO, x_mv w) (e : u.vm = U.vm) (h : x_K D cl dA kd AO u) : x_K D cl dA kd AO U :=
  ⟨va_K.moved (by rw [e]; exact Vm.Alike.refl _) h.1, fun w hw => (hAO w hw).1 u U e (h.2 w hw)⟩
theorem x_mv_arr (C : String) : x_mv (.arrayOver (.object C)) := ⟨fun s U e h => va_AO.moved (C := C) (by rw [e]; exact Vm.Alike.refl _) h, fun s U hW h => va_AO.moved (C := C) hW.alike h⟩
theorem x_overA0 {args : Array Value} {s : State} {t : FieldType} (h : (Cond.arrayOver (.array t)).before args s = true) : ∃ comp c k, s.vm.findClass (FieldType.array t).toString = some comp ∧ (s.vm.classes.findIdx? fun (x : Class) => match x.kind with | .array component _ => component == comp | _ => false) = some c ∧ s.vm.classes[c]? = some k ∧ k.kind = .array comp (.array t) ∧ s.vm.findClass ("[" ++ (FieldType.array t).toString) = some c := by
  simp only [Cond.before, Cond.holds, Cond.value, beq_iff_eq] at h
  cases hc : s.vm.findClass (FieldType.array t).toString with
  | none => simp [hc] at h
  | some comp =>
    simp only [hc, Option.bind_some, Option.bind_eq_some_iff, Option.map_eq_some_iff] at h
    obtain ⟨c, hi, k, hk, hb⟩ := h
    obtain ⟨hlt, hp, -⟩ := Array.findIdx?_eq_some_iff_getElem.mp hi
    rw [(Array.getElem?_eq_some_iff.mp hk).2] at hp
    cases hkind : k.kind with
    | array component ty =>
      rw [hkind] at hb hp
      simp at hb hp
      exact ⟨comp, c, k, rfl, hi, hk, by rw [hkind, hp, hb.1], hb.2⟩
    | _ => rw [hkind] at hb; simp at hb
theorem x_overA_moved {t : FieldType} {u U : State} (hvm : u.vm.Alike U.vm) (h : va_Nw (.arrayOver (.array t)) u) : va_Nw (.arrayOver (.array t)) U := by
  obtain ⟨comp, c, k, h1, h2, h3, h4, h5⟩ := x_overA0 h
  obtain ⟨k', hk', he⟩ := hvm.2.2 _ _ h3
  have hi : (U.vm.classes.findIdx? fun (x : Class) => match x.kind with | .array component _ => component == comp | _ => false) = some c := by
    have g1 := va_idx_bare U.vm comp
    have g2 := va_idx_bare u.vm comp
    have e : u.vm.bare = U.vm.bare := by first | exact hvm.bare_eq | exact hvm.bare_eq.symm
    rw [e] at g2
    exact g1.symm.trans (g2.trans h2)
  have hkind : k'.kind = .array comp (.array t) := by rw [he]; exact h4
  have f1 : U.vm.findClass (FieldType.array t).toString = some comp := by rw [hvm.findClass]; exact h1
  have f2 : U.vm.findClass ("[" ++ (FieldType.array t).toString) = some c := by rw [hvm.findClass]; exact h5
  unfold va_Nw Cond.before Cond.holds
  simp only [Cond.value]
  rw [f1, Option.bind_some]
  refine (congrArg (fun o : Option Nat => (o.bind (fun c => (U.vm.classes[c]?).map fun (k : Class) => match k.kind with | .array _ ty => decide (ty = FieldType.array t) && decide (U.vm.findClass ("[" ++ (FieldType.array t).toString) = some c) | _ => false) == some true)) hi).trans ?_
  simp [hk', hkind, f2]
theorem x_mv_arrA (t : FieldType) : x_mv (.arrayOver (.array t)) := ⟨fun s U e h => x_overA_moved (by rw [e]; exact Vm.Alike.refl _) h, fun s U hW h => x_overA_moved hW.alike h⟩
theorem x_mv_fld {a : String} {i : Nat} {b n d h : String} : x_mv (.fieldLinkNest a i b n d h) := ⟨fun _ _ e hZ => va_Nw.same rfl e hZ, fun _ _ hW hZ => va_Nw.warmF hW hZ⟩
theorem x_mv_met {a : String} {i : Nat} {x : MethodName} {h : String} : x_mv (.methodLinkNest a i x h) := ⟨fun _ _ e hZ => va_Nw.same rfl e hZ, fun _ _ hW hZ => va_Nw.warmM hW hZ⟩
theorem x_kd {dA : Nat → ClassId} {kd : List FieldType} {k : Nat} {ty : FieldType} (e : kd[k]? = some ty) : (kd.mapIdx (fun i ty => (dA i, ty)))[k]? = some (dA k, ty) := by
  rw [List.getElem?_mapIdx, e]; rfl
theorem x_outer (c : ClassId) (N h0 : Nat) : ∀ i : Nat, Jvm.Free.Multi.outerC c N h0 i = arrV c N (fun j => va_rf (if j < i then some (h0 + 1 + j) else none))
  | 0 => by
    show ({ cls := c, slots := Array.replicate N .null, vm := .none } : Cell) = _
    rw [arrV_new]
    refine congrArg (arrV c N) (funext fun j => ?_)
    simp [va_rf]
  | i + 1 => by
    show (Jvm.Free.Multi.outerC c N h0 i).setSlot i (.ref (h0 + 1 + i)) = _
    rw [x_outer c N h0 i, arrV_store]
    refine congrArg (arrV c N) (funext fun j => ?_)
    by_cases e : j = i
    · subst e
      simp [updV, va_rf]
    · by_cases h : j < i
      · simp [updV, e, h, Nat.lt_succ_of_lt h]
      · simp [updV, e, h, show ¬ j < i + 1 by omega]
section XL
variable {p : Program} {l : Launch} {e : Env} {R : Room} {s : State} {m : MethodId} {args : Array Value} {below : List Frame} {meth : Method} {c : Code} {H : Heap} {locs : List Loc} {cells slots : Nat} {Q : State → Prop}
variable {D : va_G} {cl : List vw_C} {dA : Nat → ClassId} {base : Nat} {kd : List FieldType} {AO : List Cond} {Ts : List Cond} {X : Option (Nat × Nat × (Nat → Int32))} {own : String} {cc : ByteArray} {nL s0 : Nat} {ls : Array Slot}
/-- what holds between the simple machine's cells and locals and the real ones -/
def x_R (D : va_G) (cl : List vw_C) (dA : Nat → ClassId) (base s0 nL : Nat) (s : State) (H : Heap) (locs : List Loc) (cells slots : Nat) (ls : Array Slot) (L : xL) (h : List xC) : Prop :=
  va_P D cl (x_W dA base h) H ∧ va_S (fun q => base ≤ q) s.heap H locs ∧ base + h.length = s.heap.size + cells ∧ x_sl h = s0 + slots ∧ lv_has ls nL L
/-- what of a method's surroundings stays -/
def x_F (p : Program) (m : MethodId) (meth : Method) (c : Code) (cc : ByteArray) (nL : Nat) (s : State) (args : Array Value) (Ts : List Cond) (own : String) (D : va_G) (cl : List vw_C) (dA : Nat → ClassId) (kd : List FieldType) (AO : List Cond) (X : Option (Nat × Nat × (Nat → Int32))) (base : Nat) : Prop :=
  CallFix p m c cc nL s args Ts own ∧ x_K D cl dA kd AO s ∧ base ≤ s.heap.size ∧ (∀ q n f, X = some (q, n, f) → va_X q n f s s.heap ∧ q < base) ∧ (∀ (ci : Nat) (C : String) (T : u_T) (N : Nat), cl[ci]? = some (C, T, N) → (∀ w ∈ u_ws C T N, w ∈ Ts) ∧ (∀ a, a < N → ∀ b, b < N → a ≠ b → (T a).2.1 ≠ (T b).2.1) ∧ ∃ ty : Nat → FieldType, ∀ k, k < N → parseFieldDescriptor (T k).2.2.1 = some (ty k))
set_option maxHeartbeats 4000000 in
set_option maxRecDepth 100000 in
theorem x_ins_W {i : Jvm.ClassFile.Instr} {len : Nat} {a b : xS} (F : x_F p m meth c cc nL s args Ts own D cl dA kd AO X base) (hdg : decode cc a.1 = .ok (i, len)) (hi : x_ins cl kd Ts AO X base own meth.name nL i len a b) (hR : x_R D cl dA base s0 nL s H locs cells slots ls a.2.1 a.2.2.2) (hrc : base + b.2.2.2.length ≤ s.heap.size + R.cells) (hrs : x_sl b.2.2.2 ≤ s0 + R.slots)
    (kk : ∀ (H1 : Heap) (locs1 : List Loc) (cells1 slots1 : Nat) (ls1 : Array Slot), x_R D cl dA base s0 nL s H1 locs1 cells1 slots1 ls1 b.2.1 b.2.2.2 → W p l e R s m args below meth c H1 locs1 cells1 slots1 Q (F0 m b.1 ls1 b.2.2.1)) : W p l e R s m args below meth c H locs cells slots Q (F0 m a.1 ls a.2.2.1) := by
  obtain ⟨⟨hx, hb, hml, hown, hts⟩, hK, hbs, hX, hcl⟩ := F
  obtain ⟨pc, L, st, h⟩ := a
  dsimp only at hdg hi hR hrc hrs ⊢
  have hR0 := hR
  obtain ⟨hP, hS, hc, hsl, hl⟩ := hR
  have hD := x_D dA base h
  have hA : ∀ q : Nat, s.heap.size ≤ q → (fun q => base ≤ q) q := fun q hq => Nat.le_trans hbs hq
  have hK1 := hK.1
  cases i with
  | aconst_null =>
    obtain ⟨rfl, rfl⟩ := hi
    exact lv_null hx hb hdg (kk _ _ _ _ _ hR0)
  | iconst n =>
    obtain ⟨rfl, rfl⟩ := hi
    exact lv_iconst hx hb hdg rfl (kk _ _ _ _ _ hR0)
  | bipush n =>
    obtain ⟨rfl, rfl⟩ := hi
    exact lv_bipush hx hb hdg rfl (kk _ _ _ _ _ hR0)
  | sipush n =>
    obtain ⟨rfl, rfl⟩ := hi
    exact lv_sipush hx hb hdg rfl (kk _ _ _ _ _ hR0)
  | lconst n =>
    obtain ⟨rfl, rfl⟩ := hi
    exact lv_lconst hx hb hdg rfl (kk _ _ _ _ _ hR0)
  | ldc idx =>
    obtain ⟨rfl, v, hv, rfl⟩ := hi
    exact lv_ldc hx hb hown (hts _ hv) hdg (kk _ _ _ _ _ hR0)
  | ldc2_w idx =>
    obtain ⟨rfl, v, hv, rfl⟩ := hi
    exact lv_ldc2 hx hb hown (hts _ hv) hdg (kk _ _ _ _ _ hR0)
  | iload j =>
    obtain ⟨rfl, x, hm, rfl⟩ := hi
    exact lv_iload hx hb hdg (hl.2.2 _ hm) (kk _ _ _ _ _ hR0)
  | iload_n j =>
    obtain ⟨rfl, x, hm, rfl⟩ := hi
    exact lv_iload_n hx hb hdg rfl (hl.2.2 _ hm) (kk _ _ _ _ _ hR0)
  | lload j =>
    obtain ⟨rfl, x, hm, rfl⟩ := hi
    exact lv_lload hx hb hdg (hl.2.2 _ hm) (kk _ _ _ _ _ hR0)
  | lload_n j =>
    obtain ⟨rfl, x, hm, rfl⟩ := hi
    exact lv_lload_n hx hb hdg rfl (hl.2.2 _ hm) (kk _ _ _ _ _ hR0)
  | aload j =>
    obtain ⟨rfl, x, hm, rfl⟩ := hi
    cases x with
    | none => exact lv_aloadN hx hb hdg (hl.2.2 _ hm) (kk _ _ _ _ _ hR0)
    | some q => exact lv_aload hx hb hdg (hl.2.2 _ hm) (kk _ _ _ _ _ hR0)
  | aload_n j =>
    obtain ⟨rfl, x, hm, rfl⟩ := hi
    cases x with
    | none => exact lv_aload_nN hx hb hdg rfl (hl.2.2 _ hm) (kk _ _ _ _ _ hR0)
    | some q => exact lv_aload_n hx hb hdg rfl (hl.2.2 _ hm) (kk _ _ _ _ _ hR0)
  | istore j =>
    obtain ⟨rfl, hn, x, r, rfl, rfl⟩ := hi
    exact lv_istore hx hb hdg hl hn rfl (fun ls' h' => kk _ _ _ _ _ ⟨hP, hS, hc, hsl, h'⟩)
  | istore_n j =>
    obtain ⟨rfl, hn, x, r, rfl, rfl⟩ := hi
    exact lv_istore_n hx hb hdg rfl hl hn rfl (fun ls' h' => kk _ _ _ _ _ ⟨hP, hS, hc, hsl, h'⟩)
  | lstore j =>
    obtain ⟨rfl, hn, x, r, rfl, rfl⟩ := hi
    exact lv_lstore hx hb hdg hl hn rfl (fun ls' h' => kk _ _ _ _ _ ⟨hP, hS, hc, hsl, h'⟩)
  | lstore_n j =>
    obtain ⟨rfl, hn, x, r, rfl, rfl⟩ := hi
    exact lv_lstore_n hx hb hdg rfl hl hn rfl (fun ls' h' => kk _ _ _ _ _ ⟨hP, hS, hc, hsl, h'⟩)
  | astore j =>
    obtain ⟨rfl, hn, x, r, rfl, rfl⟩ := hi
    cases x with
    | none => exact lv_astoreN hx hb hdg hl hn rfl (fun ls' h' => kk _ _ _ _ _ ⟨hP, hS, hc, hsl, h'⟩)
    | some q => exact lv_astore hx hb hdg hl hn rfl (fun ls' h' => kk _ _ _ _ _ ⟨hP, hS, hc, hsl, h'⟩)
  | astore_n j =>
    obtain ⟨rfl, hn, x, r, rfl, rfl⟩ := hi
    cases x with
    | none => exact lv_astore_nN hx hb hdg rfl hl hn rfl (fun ls' h' => kk _ _ _ _ _ ⟨hP, hS, hc, hsl, h'⟩)
    | some q => exact lv_astore_n hx hb hdg rfl hl hn rfl (fun ls' h' => kk _ _ _ _ _ ⟨hP, hS, hc, hsl, h'⟩)
  | iinc j n =>
    obtain ⟨rfl, hn, x, hm, rfl⟩ := hi
    obtain ⟨k9, hk9⟩ := List.mem_iff_getElem?.mp hm
    exact lv_iinc hx hb hdg hl hk9 rfl hn rfl (fun ls' h' => kk _ _ _ _ _ ⟨hP, hS, hc, hsl, h'⟩)
  | iadd =>
    obtain ⟨rfl, x, y, r, rfl, rfl⟩ := hi
    exact lv_iadd hx hb hdg (kk _ _ _ _ _ hR0)
  | isub =>
    obtain ⟨rfl, x, y, r, rfl, rfl⟩ := hi
    exact lv_isub hx hb hdg (kk _ _ _ _ _ hR0)
  | imul =>
    obtain ⟨rfl, x, y, r, rfl, rfl⟩ := hi
    exact lv_imul hx hb hdg (kk _ _ _ _ _ hR0)
  | iand =>
    obtain ⟨rfl, x, y, r, rfl, rfl⟩ := hi
    exact lv_iand hx hb hdg (kk _ _ _ _ _ hR0)
  | ior =>
    obtain ⟨rfl, x, y, r, rfl, rfl⟩ := hi
    exact lv_ior hx hb hdg (kk _ _ _ _ _ hR0)
  | ixor =>
    obtain ⟨rfl, x, y, r, rfl, rfl⟩ := hi
    exact lv_ixor hx hb hdg (kk _ _ _ _ _ hR0)
  | ishl =>
    obtain ⟨rfl, x, y, r, rfl, rfl⟩ := hi
    exact lv_ishl hx hb hdg (kk _ _ _ _ _ hR0)
  | ishr =>
    obtain ⟨rfl, x, y, r, rfl, rfl⟩ := hi
    exact lv_ishr hx hb hdg (kk _ _ _ _ _ hR0)
  | iushr =>
    obtain ⟨rfl, x, y, r, rfl, rfl⟩ := hi
    exact lv_iushr hx hb hdg rfl (kk _ _ _ _ _ hR0)
  | idiv =>
    obtain ⟨rfl, x, y, r, h0, rfl, rfl⟩ := hi
    exact lv_idiv hx hb hdg h0 (kk _ _ _ _ _ hR0)
  | irem =>
    obtain ⟨rfl, x, y, r, h0, rfl, rfl⟩ := hi
    exact lv_irem hx hb hdg h0 (kk _ _ _ _ _ hR0)
  | ineg =>
    obtain ⟨rfl, x, r, rfl, rfl⟩ := hi
    exact lv_ineg hx hb hdg (kk _ _ _ _ _ hR0)
  | ladd =>
    obtain ⟨rfl, x, y, r, rfl, rfl⟩ := hi
    exact lv_ladd hx hb hdg (kk _ _ _ _ _ hR0)
  | lsub =>
    obtain ⟨rfl, x, y, r, rfl, rfl⟩ := hi
    exact lv_lsub hx hb hdg (kk _ _ _ _ _ hR0)
  | lmul =>
    obtain ⟨rfl, x, y, r, rfl, rfl⟩ := hi
    exact lv_lmul hx hb hdg (kk _ _ _ _ _ hR0)
  | land =>
    obtain ⟨rfl, x, y, r, rfl, rfl⟩ := hi
    exact lv_land hx hb hdg (kk _ _ _ _ _ hR0)
  | lor =>
    obtain ⟨rfl, x, y, r, rfl, rfl⟩ := hi
    exact lv_lor hx hb hdg (kk _ _ _ _ _ hR0)
  | lxor =>
    obtain ⟨rfl, x, y, r, rfl, rfl⟩ := hi
    exact lv_lxor hx hb hdg (kk _ _ _ _ _ hR0)
  | lshl =>
    obtain ⟨rfl, x, y, r, rfl, rfl⟩ := hi
    exact lv_lshl hx hb hdg rfl (kk _ _ _ _ _ hR0)
  | lshr =>
    obtain ⟨rfl, x, y, r, rfl, rfl⟩ := hi
    exact lv_lshr hx hb hdg rfl (kk _ _ _ _ _ hR0)
  | lushr =>
    obtain ⟨rfl, x, y, r, rfl, rfl⟩ := hi
    exact lv_lushr hx hb hdg rfl (kk _ _ _ _ _ hR0)
  | ldiv =>
    obtain ⟨rfl, x, y, r, h0, rfl, rfl⟩ := hi
    exact lv_ldiv hx hb hdg h0 (kk _ _ _ _ _ hR0)
  | lrem =>
    obtain ⟨rfl, x, y, r, h0, rfl, rfl⟩ := hi
    exact lv_lrem hx hb hdg h0 (kk _ _ _ _ _ hR0)
  | lneg =>
    obtain ⟨rfl, x, r, rfl, rfl⟩ := hi
    exact lv_lneg hx hb hdg (kk _ _ _ _ _ hR0)
  | lcmp =>
    obtain ⟨rfl, x, y, r, rfl, rfl⟩ := hi
    exact W.lcmp hx hb hdg (kk _ _ _ _ _ hR0)
  | i2l =>
    obtain ⟨rfl, x, r, rfl, rfl⟩ := hi
    exact lv_i2l hx hb hdg rfl (kk _ _ _ _ _ hR0)
  | l2i =>
    obtain ⟨rfl, x, r, rfl, rfl⟩ := hi
    exact lv_l2i hx hb hdg rfl (kk _ _ _ _ _ hR0)
  | i2c =>
    obtain ⟨rfl, x, r, rfl, rfl⟩ := hi
    exact lv_i2c hx hb hdg rfl (kk _ _ _ _ _ hR0)
  | dup =>
    obtain ⟨rfl, v, r, h1, rfl, rfl⟩ := hi
    exact lv_dup hx hb hdg h1 (kk _ _ _ _ _ hR0)
  | dup2 =>
    obtain ⟨rfl, v, w, r, h1, h2, rfl, rfl⟩ := hi
    exact lv_dup2_11 hx hb hdg h1 h2 (kk _ _ _ _ _ hR0)
  | dup_x1 =>
    obtain ⟨rfl, v, w, r, h1, h2, rfl, rfl⟩ := hi
    exact lv_dup_x1 hx hb hdg h1 h2 (kk _ _ _ _ _ hR0)
  | pop =>
    obtain ⟨rfl, v, r, h1, rfl, rfl⟩ := hi
    exact lv_pop hx hb hdg h1 (kk _ _ _ _ _ hR0)
  | pop2 =>
    obtain ⟨rfl, v, r, h1, rfl, rfl⟩ := hi
    exact lv_pop2_2 hx hb hdg h1 (kk _ _ _ _ _ hR0)
  | ifCond cn off =>
    obtain ⟨rfl, x, r, tgt, rfl, ht, hh⟩ := hi
    have kt : x_c0 cn x → W p l e R s m args below meth c H locs cells slots Q (F0 m tgt ls r) := fun hc0 => by
      rcases hh with ⟨-, rfl⟩ | ⟨hn, -⟩
      · exact kk _ _ _ _ _ hR0
      · exact absurd hc0 hn
    have kf : ¬ x_c0 cn x → W p l e R s m args below meth c H locs cells slots Q (F0 m (pc + 3) ls r) := fun hc0 => by
      rcases hh with ⟨hn, -⟩ | ⟨-, rfl⟩
      · exact absurd hn hc0
      · exact kk _ _ _ _ _ hR0
    cases cn with
    | eq => exact lv_if_eq hx hb hdg ht kt kf
    | ne => exact lv_if_ne hx hb hdg ht kt (fun q => kf (fun z => z q))
    | lt => exact lv_if_lt hx hb hdg ht kt kf
    | ge => exact lv_if_ge hx hb hdg ht kt kf
    | gt => exact lv_if_gt hx hb hdg ht kt kf
    | le => exact lv_if_le hx hb hdg ht kt kf
  | if_icmp cn off =>
    obtain ⟨rfl, x, y, r, tgt, rfl, ht, hh⟩ := hi
    have kt : x_c2 cn x y → W p l e R s m args below meth c H locs cells slots Q (F0 m tgt ls r) := fun hc0 => by
      rcases hh with ⟨-, rfl⟩ | ⟨hn, -⟩
      · exact kk _ _ _ _ _ hR0
      · exact absurd hc0 hn
    have kf : ¬ x_c2 cn x y → W p l e R s m args below meth c H locs cells slots Q (F0 m (pc + 3) ls r) := fun hc0 => by
      rcases hh with ⟨hn, -⟩ | ⟨-, rfl⟩
      · exact absurd hn hc0
      · exact kk _ _ _ _ _ hR0
    cases cn with
    | eq => exact lv_icmp_eq hx hb hdg ht kt kf
    | ne => exact lv_icmp_ne hx hb hdg ht kt (fun q => kf (fun z => z q))
    | lt => exact lv_icmp_lt hx hb hdg ht kt kf
    | ge => exact lv_icmp_ge hx hb hdg ht kt kf
    | gt => exact lv_icmp_gt hx hb hdg ht kt kf
    | le => exact lv_icmp_le hx hb hdg ht kt kf
  | ifnull off =>
    obtain ⟨rfl, v, r, tgt, rfl, ht, hh⟩ := hi
    cases v with
    | none =>
      rcases hh with ⟨-, rfl⟩ | ⟨hn, -⟩
      · exact lv_ifnullN hx hb hdg ht (kk _ _ _ _ _ hR0)
      · exact absurd rfl hn
    | some q =>
      rcases hh with ⟨hn, -⟩ | ⟨-, rfl⟩
      · cases hn
      · exact lv_ifnull hx hb hdg (kk _ _ _ _ _ hR0)
  | ifnonnull off =>
    obtain ⟨rfl, v, r, tgt, rfl, ht, hh⟩ := hi
    cases v with
    | none =>
      rcases hh with ⟨hn, -⟩ | ⟨-, rfl⟩
      · exact absurd rfl hn
      · exact lv_ifnonnullN hx hb hdg (kk _ _ _ _ _ hR0)
    | some q =>
      rcases hh with ⟨-, rfl⟩ | ⟨hn, -⟩
      · exact lv_ifnonnull hx hb hdg ht (kk _ _ _ _ _ hR0)
      · cases hn
  | goto off =>
    obtain ⟨rfl, tgt, ht, rfl⟩ := hi
    exact lv_goto hx hb hdg ht (kk _ _ _ _ _ hR0)
  | tableswitch dflt lo hi2 offs =>
    obtain ⟨x, r, tgt, rfl, rfl, hh⟩ := hi
    rcases hh with ⟨h1, ht⟩ | ⟨h1, h2, off, h3, ht⟩
    · exact lv_tableOut hx hb hdg h1 ht (kk _ _ _ _ _ hR0)
    · exact lv_tableIn hx hb hdg h1 h2 h3 ht (kk _ _ _ _ _ hR0)
  | lookupswitch dflt ps =>
    obtain ⟨x, r, tgt, rfl, rfl, h1, ht⟩ := hi
    exact lv_lookup hx hb hdg h1 rfl ht (kk _ _ _ _ _ hR0)
  | getfield idx =>
    obtain ⟨rfl, ci, k, C, T, N, q, fs, v, r, ⟨h1, h2, h3⟩, rfl, h4, h5, rfl⟩ := hi
    rcases h3 with h3 | ⟨host, h3⟩
    · exact va_get hx hb hts (hcl _ _ _ _ h1).1 hown hK1 hP q (x_W_get h4) h1 k h2 (hts _ h3) (fun _ z => z) h5 hdg (kk _ _ _ _ _ hR0)
    · exact va_getN hx hb hts (hcl _ _ _ _ h1).1 hown hK1 hP q (x_W_get h4) h1 k h2 (va_Nw.use rfl (hK.2 _ h3)) (fun _ z => z) h5 hdg (kk _ _ _ _ _ hR0)
  | putfield idx =>
    obtain ⟨rfl, ci, k, C, T, N, q, fs, v, r, ty, ⟨h1, h2, h3⟩, rfl, h4, h5, h6, h7, h8, h9, rfl⟩ := hi
    obtain ⟨hin, hnm, ty0, hty⟩ := hcl _ _ _ _ h1
    have fin : ∀ (H1 : Heap) (locs1 : List Loc), va_P D cl ((x_W dA base h).set q (base + q, .inr (ci, fs.set k v))) H1 → va_D (fun q => base ≤ q) ((x_W dA base h).set q (base + q, .inr (ci, fs.set k v))) → va_S (fun q => base ≤ q) s.heap H1 locs1 → W p l e R s m args below meth c H1 locs1 cells slots Q (F0 m (pc + 3) ls r) := fun H1 locs1 g1 _ g3 => by
      have e1 := x_W_set dA base h q (.inr (ci, fs.set k v))
      rw [show ((x_W dA base h).set q (base + q, .inr (ci, fs.set k v))) = x_W dA base (h.set q (.inr (ci, fs.set k v))) from e1] at g1
      exact kk H1 locs1 cells slots ls ⟨g1, g3, (show base + (h.set q _).length = _ by rw [List.length_set]; exact hc), (x_sl_set (h := h) h4 (by simp [x_n])).trans hsl, hl⟩
    rcases h9 with h9 | ⟨h9, h10, h11, h12⟩
    · rcases h3 with h3 | ⟨host, h3⟩
      · exact va_put hx hb hts hin ty0 hty hnm hown hK1 hP hD hS q (x_W_get h4) h1 k h2 (hts _ h3) (fun _ z => z) h9 h6 h7 h8 h5 hdg fin
      · exact va_putN hx hb hts hin ty0 hty hnm hown hK1 hP hD hS q (x_W_get h4) h1 k h2 (va_Nw.use rfl (hK.2 _ h3)) (fun _ z => z) h9 h6 h7 h8 h5 hdg fin
    · exact va_putF hx hb hts hin ty0 hty hnm hown hK1 hP hD hS q (x_W_get h4) h1 k h2 (hts _ h12) (fun _ z => z) h9 h10 h11 h6 h7 h8 h5 hdg fin
  | iaload =>
    obtain ⟨rfl, x, r, hh⟩ := hi
    rcases hh with ⟨q, k, n, f, h1, h2, rfl, h4, rfl⟩ | ⟨q, n, f, h1, h2, rfl, rfl⟩
    · exact va_iald hx hb hK1 hP q k (x_W_get h4) (x_kd h1) h2 hdg (kk _ _ _ _ _ hR0)
    · obtain ⟨g1, g2⟩ := hX _ _ _ h1
      exact va_sld hx hb g1 (Nat.lt_of_lt_of_le g2 hbs) (Nat.not_le.mpr g2) hS h2 hdg (kk _ _ _ _ _ hR0)
  | baload =>
    obtain ⟨rfl, x, r, q, k, n, f, h1, h2, rfl, h4, rfl⟩ := hi
    exact va_zald hx hb hK1 hP q k (x_W_get h4) (x_kd h1) h2 hdg (kk _ _ _ _ _ hR0)
  | laload =>
    obtain ⟨rfl, x, r, q, k, n, f, h1, h2, rfl, h4, rfl⟩ := hi
    exact va_lald hx hb hK1 hP q k (x_W_get h4) (x_kd h1) h2 hdg (kk _ _ _ _ _ hR0)
  | aaload =>
    obtain ⟨rfl, x, r, q, k, n, f, ty, h1, h1b, h2, rfl, h4, rfl⟩ := hi
    have hlt : x.toNatClampNeg < n := Nat.not_le.mp fun z => h2 (Or.inr z)
    exact W.aald (v := va_rf (f x.toNatClampNeg)) (ty := ty) hx hb (hP q _ (x_W_get h4)) ((hK1.2 k _ (x_kd h1)).1 n (fun j => va_rf (f j))) h1b (fun z => by cases z) (by show ¬ (x < 0 ∨ (arrV _ _ _).slots.size ≤ _); rw [arrV_size]; exact h2) (by show (arrV _ _ _).slots[_]? = _; rw [arrV_read _ _ hlt]) rfl rfl hdg (kk _ _ _ _ _ hR0)
  | iastore =>
    obtain ⟨rfl, x, v, r, q, k, n, f, h1, h2, rfl, h4, rfl⟩ := hi
    refine va_iast hx hb hK1 hP hD hS q k (x_W_get h4) (x_kd h1) h2 hdg (fun H1 locs1 g1 _ g3 => ?_)
    have e1 := x_W_set dA base h q (.inl (k, n, .inl (upd f x.toNatClampNeg v)))
    rw [show ((x_W dA base h).set q (base + q, .inl (dA k, n, .inl (upd f x.toNatClampNeg v)))) = _ from e1] at g1
    exact kk H1 locs1 cells slots ls ⟨g1, g3, (show base + (h.set q _).length = _ by rw [List.length_set]; exact hc), (x_sl_set (h := h) h4 (by simp [x_n])).trans hsl, hl⟩
  | bastore =>
    obtain ⟨rfl, x, v, r, q, k, n, f, h1, h2, rfl, h4, rfl⟩ := hi
    refine va_zast hx hb hK1 hP hD hS q k (x_W_get h4) (x_kd h1) h2 hdg (fun H1 locs1 g1 _ g3 => ?_)
    have e1 := x_W_set dA base h q (.inl (k, n, .inl (upd f x.toNatClampNeg (vp_nar .boolean v))))
    rw [show ((x_W dA base h).set q (base + q, .inl (dA k, n, .inl (upd f x.toNatClampNeg (vp_nar .boolean v))))) = _ from e1] at g1
    exact kk H1 locs1 cells slots ls ⟨g1, g3, (show base + (h.set q _).length = _ by rw [List.length_set]; exact hc), (x_sl_set (h := h) h4 (by simp [x_n])).trans hsl, hl⟩
  | lastore =>
    obtain ⟨rfl, x, v, r, q, k, n, f, h1, h2, rfl, h4, rfl⟩ := hi
    refine va_last hx hb hK1 hP hD hS q k (x_W_get h4) (x_kd h1) h2 hdg (fun H1 locs1 g1 _ g3 => ?_)
    have e1 := x_W_set dA base h q (.inl (k, n, .inr (.inl (vp_updL f x.toNatClampNeg v))))
    rw [show ((x_W dA base h).set q (base + q, .inl (dA k, n, .inr (.inl (vp_updL f x.toNatClampNeg v))))) = _ from e1] at g1
    exact kk H1 locs1 cells slots ls ⟨g1, g3, (show base + (h.set q _).length = _ by rw [List.length_set]; exact hc), (x_sl_set (h := h) h4 (by simp [x_n])).trans hsl, hl⟩
  | aastore =>
    obtain ⟨rfl, x, v, r, q, k, n, f, h2, rfl, h4, rfl, hh⟩ := hi
    have fin : ∀ (H1 : Heap) (locs1 : List Loc), va_P D cl ((x_W dA base h).set q (base + q, .inl (dA k, n, .inr (.inr (.inr (.inr (va_up f x.toNatClampNeg (some (base + v))))))))) H1 → va_D (fun q => base ≤ q) ((x_W dA base h).set q (base + q, .inl (dA k, n, .inr (.inr (.inr (.inr (va_up f x.toNatClampNeg (some (base + v))))))))) → va_S (fun q => base ≤ q) s.heap H1 locs1 → W p l e R s m args below meth c H1 locs1 cells slots Q (F0 m (pc + 1) ls r) := fun H1 locs1 g1 _ g3 => by
      have e1 := x_W_set dA base h q (.inl (k, n, .inr (.inr (.inr (.inr (va_up f x.toNatClampNeg (some (base + v))))))))
      rw [show ((x_W dA base h).set q (base + q, .inl (dA k, n, .inr (.inr (.inr (.inr (va_up f x.toNatClampNeg (some (base + v))))))))) = _ from e1] at g1
      exact kk H1 locs1 cells slots ls ⟨g1, g3, (show base + (h.set q _).length = _ by rw [List.length_set]; exact hc), (x_sl_set (h := h) h4 (by simp [x_n])).trans hsl, hl⟩
    rcases hh with ⟨ci, fs, C, T, N, h1, h1b, h5⟩ | ⟨k2, z, h1, h1b, h6, h5⟩
    · exact va_astq hx hb hK1 hP hD hS q k v ci (x_W_get h4) (r := (C, T, N)) (x_kd h1) (x_W_get h5) h1b h2 hdg fin
    · obtain ⟨comp, c9, kA, f1, -, f3, f4, f5⟩ := x_overA0 (hK.2 _ h6)
      have a1 : s.vm.findClass ("[" ++ (FieldType.array .int).toString) = some (dA k) := (hK1.2 k _ (x_kd h1)).2
      have a2 : s.vm.findClass (FieldType.array .int).toString = some (dA k2) := (hK1.2 k2 _ (x_kd h1b)).2
      have e9 : c9 = dA k := Option.some.inj (f5.symm.trans a1)
      have e8 : comp = dA k2 := Option.some.inj (f1.symm.trans a2)
      subst e9; subst e8
      obtain ⟨-, kc, hkc, -⟩ := (hK1.2 k2 _ (x_kd h1b)).1 0 (fun _ => .int 0)
      have hlt : x.toNatClampNeg < n := Nat.not_le.mp fun z => h2 (Or.inr z)
      have hcv : ∃ cv : Cell, H[base + v]? = some cv ∧ cv.cls = dA k2 ∧ cv.vm = .none := by
        have g := hP v _ (x_W_get h5)
        refine ⟨_, g, ?_, ?_⟩
        · obtain ⟨zn, zc⟩ := z
          rcases zc with a | a | a | a | a <;> rfl
        · obtain ⟨zn, zc⟩ := z
          rcases zc with a | a | a | a | a <;> rfl
      obtain ⟨cv, v1, v2, v3⟩ := hcv
      refine W.aast hx hb (hP q _ (x_W_get h4)) (fun q h => by cases h) (fun h => by cases h) f3 f4 rfl hkc ⟨fun z => h2 (Or.inl z), by show _ < (arrV _ _ _).slots.size; rw [arrV_size]; exact hlt⟩ v1 (fun q h => by rw [v3] at h; cases h) (by rw [v2]; exact hkc) (by rw [v2]; show Vm.assignableAux _ (255 + 1) _ _ = true; rw [Vm.assignableAux]; simp only [beq_self_eq_true, Bool.true_or]) rfl rfl hdg fun H1 e z9 oq => ?_
      refine fin H1 _ (hP.set hD (x_W_get h4) ?_ oq) (hD.set (x_W_get h4)) (hS.put z9 oq (hD.2 q _ (x_W_get h4)))
      show H1[base + q]? = some (vp_cell _ _)
      rw [e]
      show some ((vp_cell (dA k) (n, .inr (.inr (.inr (.inr f))))).setSlot x.toNatClampNeg (.ref (base + v))) = _
      rw [vp_cell_q, vp_cell_q, arrV_store]
      congr 2
      funext q9
      by_cases hq : q9 = x.toNatClampNeg
      · subst hq
        simp [updV, va_up, va_rf]
      · simp [updV, va_up, hq]
  | multianewarray idx dm =>
    obtain ⟨rfl, rfl, n, z, r, k, k2, h1, h2, h3, h4, h5, h6, h7, h8, h9, rfl, rfl⟩ := hi
    have hrc' : base + (h.length + 1 + n.toNatClampNeg) ≤ s.heap.size + R.cells := by
      have := hrc
      simp only [x_g, List.length_append, List.length_replicate, List.length_cons, List.length_nil] at this
      omega
    have hsum : x_sl ((h ++ [.inl (k, n.toNatClampNeg, .inr (.inr (.inr (.inr (fun i => if i < n.toNatClampNeg then some (base + h.length + 1 + i) else none)))))]) ++ List.replicate n.toNatClampNeg (.inl (k2, z.toNatClampNeg, .inl (fun _ => 0)))) = x_sl h + n.toNatClampNeg + n.toNatClampNeg * z.toNatClampNeg := by
      simp [x_sl, x_n, List.map_replicate]
      omega
    have hrs' : x_sl h + n.toNatClampNeg + n.toNatClampNeg * z.toNatClampNeg ≤ s0 + R.slots := by
      rw [← hsum]; exact hrs
    refine x_size hP hbs hS.1 hc (fun hz9 => ?_)
    intro T hT X
    obtain ⟨vm₁, cA, comp, -, fA, fC, -, -, X', step⟩ := Jvm.Stand.multianewarray2F X hx hown (hts _ h3) (hK.2 _ h4) (hts _ h5) (g := F0 m pc ls (.int z :: .int n :: r)) rfl (by rw [hb]; exact hdg) rfl h6 h7 h8 h9 (by omega) rfl rfl (by omega) (by omega)
    have a1 : s.vm.findClass ("[" ++ (FieldType.array .int).toString) = some (dA k) := (hK1.2 k _ (x_kd h1)).2
    have a2 : s.vm.findClass (FieldType.array .int).toString = some (dA k2) := (hK1.2 k2 _ (x_kd h2)).2
    have e9 : cA = dA k := Option.some.inj (fA.symm.trans a1)
    have e8 : comp = dA k2 := Option.some.inj (fC.symm.trans a2)
    subst e9; subst e8
    have hTh : (T.setVm vm₁).heap = H := hT
    generalize hF : Jvm.Free.Multi.fill (T.setVm vm₁) (dA k) (dA k2) n.toNatClampNeg z.toNatClampNeg (defaultValue .int) n.toNatClampNeg = F at X' step
    obtain ⟨b1, b2, -, -⟩ := Jvm.Free.Multi.fill_facts (T.setVm vm₁) (dA k) (dA k2) n.toNatClampNeg z.toNatClampNeg (defaultValue .int) n.toNatClampNeg
    rw [hF, hTh] at b1 b2
    have hold : ∀ x : Nat, x < H.size → F.heap[x]? = H[x]? := fun x hx9 => by
      have := Jvm.Free.Multi.fill_old (T.setVm vm₁) (dA k) (dA k2) n.toNatClampNeg z.toNatClampNeg (defaultValue .int) (a := x) (by rw [hTh]; exact hx9) n.toNatClampNeg
      rw [hF, hTh] at this
      exact this
    have hrow : ∀ j : Nat, j < n.toNatClampNeg → F.heap[H.size + 1 + j]? = some (vp_cell (dA k2) (z.toNatClampNeg, .inl (fun _ => 0))) := fun j hj => by
      have := Jvm.Free.Multi.fill_inner (T.setVm vm₁) (dA k) (dA k2) n.toNatClampNeg z.toNatClampNeg (defaultValue .int) n.toNatClampNeg j hj
      rw [hF, hTh] at this
      rw [this]
      show some ({ cls := dA k2, slots := Array.replicate z.toNatClampNeg (.int 0), vm := .none } : Cell) = _
      rw [arrV_new]
      rfl
    rw [x_outer] at b2
    have hlen : ((h ++ [.inl (k, n.toNatClampNeg, .inr (.inr (.inr (.inr (fun i => if i < n.toNatClampNeg then some (base + h.length + 1 + i) else none)))))]) ++ List.replicate n.toNatClampNeg (.inl (k2, z.toNatClampNeg, .inl (fun _ => 0))) : List xC).length = h.length + 1 + n.toNatClampNeg := by
      simp
      omega
    have hP1 : va_P D cl (x_W dA base ((h ++ [.inl (k, n.toNatClampNeg, .inr (.inr (.inr (.inr (fun i => if i < n.toNatClampNeg then some (base + h.length + 1 + i) else none)))))]) ++ List.replicate n.toNatClampNeg (.inl (k2, z.toNatClampNeg, .inl (fun _ => 0))))) F.heap := by
      intro i q hq
      rw [x_W_at] at hq
      obtain ⟨e9, he9, rfl⟩ := Option.map_eq_some_iff.mp hq
      rcases Nat.lt_trichotomy i h.length with hi | hi | hi
      · rw [List.append_assoc, List.getElem?_append_left hi] at he9
        have g := hP i _ (x_W_get he9)
        exact g.kept (hold _ g.lt)
      · subst hi
        rw [List.append_assoc, List.getElem?_append_right (Nat.le_refl _), Nat.sub_self] at he9
        cases he9
        show F.heap[base + h.length]? = some (vp_cell _ _)
        rw [← hz9, b2, vp_cell_q, hz9]
      · have hil : i < h.length + 1 + n.toNatClampNeg := by rw [← hlen]; exact (List.getElem?_eq_some_iff.mp he9).1
        rw [List.getElem?_append_right (by simp; omega), List.length_append, List.length_singleton, List.getElem?_replicate, if_pos (by omega)] at he9
        cases he9
        have g := hrow (i - (h.length + 1)) (by omega)
        rw [show H.size + 1 + (i - (h.length + 1)) = base + i by omega] at g
        exact g
    obtain ⟨t9, g1, g2⟩ := kk F.heap locs (cells + 1 + n.toNatClampNeg) (slots + n.toNatClampNeg + n.toNatClampNeg * z.toNatClampNeg) ls ⟨hP1, ⟨Nat.le_trans hS.1 (by rw [b1]; omega), fun q hq1 hq2 => (hold q (Nat.lt_of_lt_of_le hq1 hS.1)).trans (hS.2.1 q hq1 hq2), hS.2.2⟩, ((congrArg (fun q => base + q) hlen).trans (by show base + (h.length + 1 + n.toNatClampNeg) = _; omega)), (hsum.trans (by omega)), hl⟩ F rfl X'
    refine ⟨t9, step t9 ?_, g2⟩
    rw [hT, hz9]
    exact g1
  | arraylength =>
    obtain ⟨rfl, r, hh⟩ := hi
    rcases hh with ⟨q, k, x, h1, rfl, h4, rfl⟩ | ⟨q, n, f, h1, rfl, rfl⟩
    · exact va_alen hx hb hK1 hP q k (x_W_get h4) (x_kd (List.getElem?_eq_getElem h1)) rfl hdg (kk _ _ _ _ _ hR0)
    · obtain ⟨g1, g2⟩ := hX _ _ _ h1
      exact va_slen hx hb g1 (Nat.lt_of_lt_of_le g2 hbs) (Nat.not_le.mpr g2) hS hdg (kk _ _ _ _ _ hR0)
  | checkcast idx =>
    obtain ⟨rfl, q, k, x, r, h1, h2, rfl, h4, rfl⟩ := hi
    have hnm : s.vm.findClass "[I" = some (dA k) := (hK1.2 k _ (x_kd h1)).2
    exact va_castA hx hb hown (hts _ h2) hP q (x_W_get h4) hnm hdg (kk _ _ _ _ _ hR0)
  | new idx =>
    obtain ⟨rfl, ci, C, T, N, ty, h1, h2, h3, h4, h5, rfl⟩ := hi
    have hrc' : base + (h.length + 1) ≤ s.heap.size + R.cells := by simpa [x_g] using hrc
    have hrs' : x_sl h + N ≤ s0 + R.slots := by simpa [x_g, x_sl_app, x_n] using hrs
    refine va_new hx hb hts (hcl _ _ _ _ h1).1 ty h2 hown (hts _ h3) (hts _ h4) (hts _ h5) hK1 hP hD hS hA h1 (fs := (List.range N).map (fun k => defaultValue (ty k))) (fun j hj => by simp [vp_V, hj]) (by omega) (by omega) hdg (fun q H1 g1 g2 g3 => ?_)
    refine x_fresh g1 g2 hc (fun eq => ?_)
    subst eq
    have e1 := x_W_app dA base h (.inr (ci, (List.range N).map (fun k => defaultValue (ty k))))
    rw [show x_W dA base h ++ [(base + h.length, .inr (ci, (List.range N).map (fun k => defaultValue (ty k))))] = _ from e1] at g1
    exact kk H1 locs (cells + 1) (slots + N) ls ⟨g1, g3, by simp [x_g]; omega, by simp [x_g, x_sl_app, x_n]; omega, hl⟩
  | newarray aty =>
    obtain ⟨rfl, n, r, k, z, h1, h2, h3, h4, h5, rfl, rfl⟩ := hi
    have hrc' : base + (h.length + 1) ≤ s.heap.size + R.cells := by simpa [x_g] using hrc
    have hrs' : x_sl h + n.toNatClampNeg ≤ s0 + R.slots := by simpa [x_g, x_sl_app, x_n] using hrs
    refine va_newa hx hb (hts _ h2) rfl hK1 hP hD hS hA (a0 := (n.toNatClampNeg, z)) h5.1 h3 rfl h4 (by omega) (by omega) hdg (fun q cA H1 g0 g1 g2 g3 => ?_)
    refine x_fresh g1 g2 hc (fun eq => ?_)
    subst eq
    have e0 : cA = dA k := by
      have a1 := (g0.2 kd.length (cA, Jvm.Op.newarray.typeOf aty) (by rw [List.getElem?_append_right (by simp)]; simp)).2
      have a2 := (hK1.2 k _ (x_kd h1)).2
      cases aty <;> exact Option.some.inj (a1.symm.trans a2)
    subst e0
    have e1 := x_W_app dA base h (.inl (k, n.toNatClampNeg, z))
    rw [show x_W dA base h ++ [(base + h.length, .inl (dA k, n.toNatClampNeg, z))] = _ from e1] at g1
    exact kk H1 locs (cells + 1) (slots + n.toNatClampNeg) ls ⟨g1, g3, by simp [x_g]; omega, by simp [x_g, x_sl_app, x_n]; omega, hl⟩
  | anewarray idx =>
    obtain ⟨rfl, n, r, k, C, h1, h2, h3, h4, h5, rfl, rfl⟩ := hi
    have hrc' : base + (h.length + 1) ≤ s.heap.size + R.cells := by simpa [x_g] using hrc
    have hrs' : x_sl h + n.toNatClampNeg ≤ s0 + R.slots := by simpa [x_g, x_sl_app, x_n] using hrs
    refine va_newq hx hb hown (hts _ h2) (show va_AO C s from hK.2 _ h3) hK1 hP hD hS hA h4 rfl h5 (by omega) (by omega) hdg (fun q cA H1 g0 g1 g2 g3 => ?_)
    refine x_fresh g1 g2 hc (fun eq => ?_)
    subst eq
    have e0 : cA = dA k := by
      obtain ⟨kA, comp, -, -, -, a1⟩ := (g0.2 kd.length (cA, .object C) (by rw [List.getElem?_append_right (by simp)]; simp)).2
      obtain ⟨kA2, comp2, -, -, -, a2⟩ := (hK1.2 k _ (x_kd h1)).2
      exact Option.some.inj (a1.symm.trans a2)
    subst e0
    have e1 := x_W_app dA base h (.inl (k, n.toNatClampNeg, .inr (.inr (.inr (.inr (fun _ => none))))))
    rw [show x_W dA base h ++ [(base + h.length, .inl (dA k, n.toNatClampNeg, .inr (.inr (.inr (.inr (fun _ => none))))))] = _ from e1] at g1
    exact kk H1 locs (cells + 1) (slots + n.toNatClampNeg) ls ⟨g1, g3, by simp [x_g]; omega, by simp [x_g, x_sl_app, x_n]; omega, hl⟩
  | _ => exact hi.elim
end XL
end
section
/-! STRINGS: the class's eleven String constants, where they lie, what they hold; the steps that look at them. -/
def x_strI : List Nat := [85, 91, 93, 95, 97, 99, 101, 103, 105, 107, 123]
def x_strT : List String := ["reg", "value", "bytes", "none", "fb", "cfa", "obj", "tls", "div", "mod", "=;,:{}[]()/%?|^&<>+-*~"]
def x_strB : List (List Int32) := [[114, 101, 103], [118, 97, 108, 117, 101], [98, 121, 116, 101, 115], [110, 111, 110, 101], [102, 98], [99, 102, 97], [111, 98, 106], [116, 108, 115], [100, 105, 118], [109, 111, 100], [61, 59, 44, 58, 123, 125, 91, 93, 40, 41, 47, 37, 63, 124, 94, 38, 60, 62, 43, 45, 42, 126]]
def x_strN : List Nat := [3, 5, 5, 4, 2, 3, 3, 3, 3, 3, 22]
/-- where the strings lie, where their bytes, and the formatter of a failed test -/
abbrev xK : Type := (Nat → Nat) × (Nat → Nat) × Option Nat
def x_KS (sk : xK) (base : Nat) (U : State) (H : Heap) : Prop :=
  vk_S 11 x_strN x_strB sk.1 sk.2.1 (fun q => base ≤ q) U H ∧ (∀ i, i < 11 → vk_R "LocationDesk$Reader" (x_strI.getD i 0) (x_strT.getD i "") (sk.1 i) U) ∧ va_Z "java/lang/String" "COMPACT_STRINGS" "Z" (.int 1) (fun q => base ≤ q) U H ∧ va_Z "jdk/internal/util/Preconditions" "SIOOBE_FORMATTER" "Ljava/util/function/BiFunction;" (va_rf sk.2.2) (fun q => base ≤ q) U H
theorem x_KS.same {sk : xK} {base : Nat} {u U : State} {H : Heap} (e : U.vm = u.vm) (h : x_KS sk base u H) : x_KS sk base U H :=
  ⟨vk_S.moved (by rw [e]; exact Vm.Alike.refl _) h.1, fun i hi => vk_R.same e (h.2.1 i hi), va_Z.moved (by rw [e]; exact Vm.Alike.refl _) h.2.2.1, va_Z.moved (by rw [e]; exact Vm.Alike.refl _) h.2.2.2⟩
theorem x_KS.warm {sk : xK} {base : Nat} {u U : State} {H : Heap} (hW : u.WarmedH U.vm) (h : x_KS sk base u H) : x_KS sk base U H :=
  ⟨vk_S.moved hW.alike h.1, fun i hi => vk_R.warm hW (h.2.1 i hi), va_Z.moved hW.alike h.2.2.1, va_Z.moved hW.alike h.2.2.2⟩
theorem x_KS.kept {sk : xK} {base : Nat} {U : State} {H H1 : Heap} (hq : ∀ a : Nat, a < H.size → ¬ base ≤ a → H1[a]? = H[a]?) (h : x_KS sk base U H) : x_KS sk base U H1 :=
  ⟨vk_S.kept h.1 hq, h.2.1, va_Z.kept h.2.2.1 hq, va_Z.kept h.2.2.2 hq⟩
def x_sins (sk : xK) (Ts : List Cond) (own : String) (i : Jvm.ClassFile.Instr) (len : Nat) (a b : xS) : Prop :=
  match i with
  | .ldc idx => len = 2 ∧ ∃ k, k < 11 ∧ own = "LocationDesk$Reader" ∧ idx = x_strI.getD k 0 ∧ b = x_k a 2 (.ref (sk.1 k) :: a.2.2.1)
  | .getfield idx => len = 3 ∧ ∃ k r, k < 11 ∧ a.2.2.1 = .ref (sk.1 k) :: r ∧ ((Cond.fieldLink own idx "java/lang/String" "value" "[B" ∈ Ts ∧ b = x_k a 3 (.ref (sk.2.1 k) :: r)) ∨ (Cond.fieldLink own idx "java/lang/String" "coder" "B" ∈ Ts ∧ b = x_k a 3 (.int 0 :: r)))
  | .arraylength => len = 1 ∧ ∃ k r, k < 11 ∧ a.2.2.1 = .ref (sk.2.1 k) :: r ∧ b = x_k a 1 (.int (Int32.ofNat (x_strN.getD k 0)) :: r)
  | .baload => len = 1 ∧ ∃ k x r, k < 11 ∧ vp_in x (x_strN.getD k 0) ∧ a.2.2.1 = .int x :: .ref (sk.2.1 k) :: r ∧ b = x_k a 1 (.int ((x_strB.getD k []).getD x.toNatClampNeg 0) :: r)
  | .getstatic idx => len = 3 ∧ ((Cond.fieldLink own idx "java/lang/String" "COMPACT_STRINGS" "Z" ∈ Ts ∧ b = x_k a 3 (.int 1 :: a.2.2.1)) ∨ (Cond.fieldLink own idx "jdk/internal/util/Preconditions" "SIOOBE_FORMATTER" "Ljava/util/function/BiFunction;" ∈ Ts ∧ b = x_k a 3 (va_rf sk.2.2 :: a.2.2.1)))
  | .i2b => len = 1 ∧ ∃ x r, a.2.2.1 = .int x :: r ∧ b = x_k a 1 (.int x.toInt8.toInt32 :: r)
  | _ => False
section XS
variable {p : Program} {l : Launch} {e : Env} {R : Room} {s : State} {m : MethodId} {args : Array Value} {below : List Frame} {meth : Method} {c : Code} {H : Heap} {locs : List Loc} {cells slots : Nat} {Q : State → Prop}
variable {D : va_G} {cl : List vw_C} {dA : Nat → ClassId} {base : Nat} {kd : List FieldType} {AO : List Cond} {Ts : List Cond} {X : Option (Nat × Nat × (Nat → Int32))} {own : String} {cc : ByteArray} {nL s0 : Nat} {ls : Array Slot}
theorem x_sins_W {sk : xK} {i : Jvm.ClassFile.Instr} {len : Nat} {a b : xS} (F : x_F p m meth c cc nL s args Ts own D cl dA kd AO X base) (hKS : x_KS sk base s s.heap) (hdg : decode cc a.1 = .ok (i, len)) (hi : x_sins sk Ts own i len a b) (hR : x_R D cl dA base s0 nL s H locs cells slots ls a.2.1 a.2.2.2)
    (kk : ∀ (H1 : Heap) (locs1 : List Loc) (cells1 slots1 : Nat) (ls1 : Array Slot), x_R D cl dA base s0 nL s H1 locs1 cells1 slots1 ls1 b.2.1 b.2.2.2 → W p l e R s m args below meth c H1 locs1 cells1 slots1 Q (F0 m b.1 ls1 b.2.2.1)) : W p l e R s m args below meth c H locs cells slots Q (F0 m a.1 ls a.2.2.1) := by
  obtain ⟨⟨hx, hb, hml, hown, hts⟩, hK, hbs, hX, hcl⟩ := F
  obtain ⟨pc, L, st, h⟩ := a
  dsimp only at hdg hi hR ⊢
  have hR0 := hR
  obtain ⟨hP, hS, hc, hsl, hl⟩ := hR
  obtain ⟨k1, k2, k3, k4⟩ := hKS
  cases i with
  | ldc idx =>
    obtain ⟨rfl, k, hk, rfl, rfl, rfl⟩ := hi
    exact va_ldcS hx hb hown (k2 k hk) hdg (kk _ _ _ _ _ hR0)
  | getfield idx =>
    obtain ⟨rfl, k, r, hk, rfl, hh⟩ := hi
    rcases hh with ⟨hw, rfl⟩ | ⟨hw, rfl⟩
    · exact vk_getf hx hb (k1.1 k hk).2.2.1 hS hown (hts _ hw) (fun _ h => h) hdg (kk _ _ _ _ _ hR0)
    · exact vk_getf hx hb (k1.1 k hk).2.1 hS hown (hts _ hw) (fun _ h => h) hdg (kk _ _ _ _ _ hR0)
  | arraylength =>
    obtain ⟨rfl, k, r, hk, rfl, rfl⟩ := hi
    exact va_tlen hx hb (k1.1 k hk).2.2.2 hS rfl hdg (kk _ _ _ _ _ hR0)
  | baload =>
    obtain ⟨rfl, k, x, r, hk, hin, rfl, rfl⟩ := hi
    exact va_tb hx hb (k1.1 k hk).2.2.2 hS hin rfl hdg (kk _ _ _ _ _ hR0)
  | getstatic idx =>
    obtain ⟨rfl, hh⟩ := hi
    rcases hh with ⟨hw, rfl⟩ | ⟨hw, rfl⟩
    · exact va_gets hx hb k3 hS hown (hts _ hw) (fun _ h => h) hdg (kk _ _ _ _ _ hR0)
    · exact va_gets hx hb k4 hS hown (hts _ hw) (fun _ h => h) hdg (kk _ _ _ _ _ hR0)
  | i2b =>
    obtain ⟨rfl, x, r, rfl, rfl⟩ := hi
    exact lv_i2b hx hb hdg rfl (kk _ _ _ _ _ hR0)
  | _ => exact hi.elim
end XS
/-- where the strings lie: below the cells -/
def x_kb (sk : xK) (base : Nat) : Prop := (∀ k, k < 11 → sk.1 k < base ∧ sk.2.1 k < base) ∧ ∀ a b, a < 11 → b < 11 → (sk.1 a = sk.1 b → a = b) ∧ (sk.2.1 a = sk.2.1 b → a = b)
theorem x_kb_of {sk : xK} {base : Nat} {U : State} {H : Heap} (h : x_KS sk base U H) : x_kb sk base := by
  obtain ⟨⟨h1, h2⟩, -⟩ := h
  refine ⟨fun k hk => ?_, fun a b ha hb => ⟨h2 a b ha hb, fun e => ?_⟩⟩
  · obtain ⟨⟨c, -, -, -, o⟩, -, -, ⟨c2, -, -, -, -, -, -, o2⟩⟩ := h1 k hk
    exact ⟨Nat.lt_of_not_le o, Nat.lt_of_not_le o2⟩
  · obtain ⟨-, -, -, ⟨c, p1, -, -, p4, p5, p6, -⟩⟩ := h1 a ha
    obtain ⟨-, -, -, ⟨c', q1, -, -, q4, q5, q6, -⟩⟩ := h1 b hb
    rw [e, q1] at p1
    cases p1
    have k1 : ∀ a b : Fin 11, Int32.ofNat (x_strN.getD a.val 0) = Int32.ofNat (x_strN.getD b.val 0) → x_strN.getD a.val 0 = x_strN.getD b.val 0 := by decide
    have hl := k1 ⟨a, ha⟩ ⟨b, hb⟩ (p5.symm.trans q5)
    have hl : x_strN.getD a 0 = x_strN.getD b 0 := hl
    have hby : ∀ j, j < x_strN.getD a 0 → (x_strB.getD a []).getD j 0 = (x_strB.getD b []).getD j 0 := fun j hj => by
      have x1 := p6 j hj
      have x2 := q6 j (by rw [← hl]; exact hj)
      rw [x1] at x2
      exact Value.int.inj (Option.some.inj x2)
    have k2 : ∀ a b : Fin 11, x_strN.getD a.val 0 = x_strN.getD b.val 0 → (∀ j : Fin 22, j.val < x_strN.getD a.val 0 → (x_strB.getD a.val []).getD j.val 0 = (x_strB.getD b.val []).getD j.val 0) → a = b := by decide
    exact congrArg Fin.val (k2 ⟨a, ha⟩ ⟨b, hb⟩ hl (fun j hj => hby j.val hj))
end
section
/-! Runs of the simple machine: plain steps, returns, calls. -/
def x_le (h h2 : List xC) : Prop := h.length ≤ h2.length ∧ x_sl h ≤ x_sl h2
theorem x_le_rfl (h : List xC) : x_le h h := ⟨Nat.le_refl _, Nat.le_refl _⟩
theorem x_le_trans {a b c : List xC} (h : x_le a b) (h2 : x_le b c) : x_le a c := ⟨Nat.le_trans h.1 h2.1, Nat.le_trans h.2 h2.2⟩
theorem x_le_app (h : List xC) (q : xC) : x_le h (h ++ [q]) := ⟨by simp, by rw [x_sl_app]; exact Nat.le_add_right _ _⟩
theorem x_le_set {h : List xC} {i : Nat} {q q2 : xC} (e : h[i]? = some q) (hn : x_n q2 = x_n q) : x_le h (h.set i q2) := ⟨by rw [List.length_set]; exact Nat.le_refl _, by rw [x_sl_set e hn]; exact Nat.le_refl _⟩
set_option maxHeartbeats 4000000 in
theorem x_ins_le {cl : List vw_C} {kd : List FieldType} {Ts : List Cond} {AO : List Cond} {X : Option (Nat × Nat × (Nat → Int32))} {base : Nat} {own mname : String} {nL : Nat} {i : Jvm.ClassFile.Instr} {len : Nat} {a b : xS} (hi : x_ins cl kd Ts AO X base own mname nL i len a b) : x_le a.2.2.2 b.2.2.2 := by
  obtain ⟨pc, L, st, h⟩ := a
  dsimp only at hi ⊢
  cases i with
  | aconst_null =>
    obtain ⟨rfl, rfl⟩ := hi
    exact x_le_rfl _
  | iconst n =>
    obtain ⟨rfl, rfl⟩ := hi
    exact x_le_rfl _
  | bipush n =>
    obtain ⟨rfl, rfl⟩ := hi
    exact x_le_rfl _
  | sipush n =>
    obtain ⟨rfl, rfl⟩ := hi
    exact x_le_rfl _
  | lconst n =>
    obtain ⟨rfl, rfl⟩ := hi
    exact x_le_rfl _
  | ldc idx =>
    obtain ⟨rfl, v, hv, rfl⟩ := hi
    exact x_le_rfl _
  | ldc2_w idx =>
    obtain ⟨rfl, v, hv, rfl⟩ := hi
    exact x_le_rfl _
  | iload j =>
    obtain ⟨rfl, x, hm, rfl⟩ := hi
    exact x_le_rfl _
  | iload_n j =>
    obtain ⟨rfl, x, hm, rfl⟩ := hi
    exact x_le_rfl _
  | lload j =>
    obtain ⟨rfl, x, hm, rfl⟩ := hi
    exact x_le_rfl _
  | lload_n j =>
    obtain ⟨rfl, x, hm, rfl⟩ := hi
    exact x_le_rfl _
  | aload j =>
    obtain ⟨rfl, x, hm, rfl⟩ := hi
    exact x_le_rfl _
  | aload_n j =>
    obtain ⟨rfl, x, hm, rfl⟩ := hi
    exact x_le_rfl _
  | istore j =>
    obtain ⟨rfl, hn, x, r, rfl, rfl⟩ := hi
    exact x_le_rfl _
  | istore_n j =>
    obtain ⟨rfl, hn, x, r, rfl, rfl⟩ := hi
    exact x_le_rfl _
  | lstore j =>
    obtain ⟨rfl, hn, x, r, rfl, rfl⟩ := hi
    exact x_le_rfl _
  | lstore_n j =>
    obtain ⟨rfl, hn, x, r, rfl, rfl⟩ := hi
    exact x_le_rfl _
  | astore j =>
    obtain ⟨rfl, hn, x, r, rfl, rfl⟩ := hi
    exact x_le_rfl _
  | astore_n j =>
    obtain ⟨rfl, hn, x, r, rfl, rfl⟩ := hi
    exact x_le_rfl _
  | iinc j n =>
    obtain ⟨rfl, hn, x, hm, rfl⟩ := hi
    exact x_le_rfl _
  | iadd =>
    obtain ⟨rfl, x, y, r, rfl, rfl⟩ := hi
    exact x_le_rfl _
  | isub =>
    obtain ⟨rfl, x, y, r, rfl, rfl⟩ := hi
    exact x_le_rfl _
  | imul =>
    obtain ⟨rfl, x, y, r, rfl, rfl⟩ := hi
    exact x_le_rfl _
  | iand =>
    obtain ⟨rfl, x, y, r, rfl, rfl⟩ := hi
    exact x_le_rfl _
  | ior =>
    obtain ⟨rfl, x, y, r, rfl, rfl⟩ := hi
    exact x_le_rfl _
  | ixor =>
    obtain ⟨rfl, x, y, r, rfl, rfl⟩ := hi
    exact x_le_rfl _
  | ishl =>
    obtain ⟨rfl, x, y, r, rfl, rfl⟩ := hi
    exact x_le_rfl _
  | ishr =>
    obtain ⟨rfl, x, y, r, rfl, rfl⟩ := hi
    exact x_le_rfl _
  | iushr =>
    obtain ⟨rfl, x, y, r, rfl, rfl⟩ := hi
    exact x_le_rfl _
  | idiv =>
    obtain ⟨rfl, x, y, r, h0, rfl, rfl⟩ := hi
    exact x_le_rfl _
  | irem =>
    obtain ⟨rfl, x, y, r, h0, rfl, rfl⟩ := hi
    exact x_le_rfl _
  | ineg =>
    obtain ⟨rfl, x, r, rfl, rfl⟩ := hi
    exact x_le_rfl _
  | ladd =>
    obtain ⟨rfl, x, y, r, rfl, rfl⟩ := hi
    exact x_le_rfl _
  | lsub =>
    obtain ⟨rfl, x, y, r, rfl, rfl⟩ := hi
    exact x_le_rfl _
  | lmul =>
    obtain ⟨rfl, x, y, r, rfl, rfl⟩ := hi
    exact x_le_rfl _
  | land =>
    obtain ⟨rfl, x, y, r, rfl, rfl⟩ := hi
    exact x_le_rfl _
  | lor =>
    obtain ⟨rfl, x, y, r, rfl, rfl⟩ := hi
    exact x_le_rfl _
  | lxor =>
    obtain ⟨rfl, x, y, r, rfl, rfl⟩ := hi
    exact x_le_rfl _
  | lshl =>
    obtain ⟨rfl, x, y, r, rfl, rfl⟩ := hi
    exact x_le_rfl _
  | lshr =>
    obtain ⟨rfl, x, y, r, rfl, rfl⟩ := hi
    exact x_le_rfl _
  | lushr =>
    obtain ⟨rfl, x, y, r, rfl, rfl⟩ := hi
    exact x_le_rfl _
  | ldiv =>
    obtain ⟨rfl, x, y, r, h0, rfl, rfl⟩ := hi
    exact x_le_rfl _
  | lrem =>
    obtain ⟨rfl, x, y, r, h0, rfl, rfl⟩ := hi
    exact x_le_rfl _
  | lneg =>
    obtain ⟨rfl, x, r, rfl, rfl⟩ := hi
    exact x_le_rfl _
  | lcmp =>
    obtain ⟨rfl, x, y, r, rfl, rfl⟩ := hi
    exact x_le_rfl _
  | i2l =>
    obtain ⟨rfl, x, r, rfl, rfl⟩ := hi
    exact x_le_rfl _
  | l2i =>
    obtain ⟨rfl, x, r, rfl, rfl⟩ := hi
    exact x_le_rfl _
  | i2c =>
    obtain ⟨rfl, x, r, rfl, rfl⟩ := hi
    exact x_le_rfl _
  | dup =>
    obtain ⟨rfl, v, r, h1, rfl, rfl⟩ := hi
    exact x_le_rfl _
  | dup2 =>
    obtain ⟨rfl, v, w, r, h1, h2, rfl, rfl⟩ := hi
    exact x_le_rfl _
  | dup_x1 =>
    obtain ⟨rfl, v, w, r, h1, h2, rfl, rfl⟩ := hi
    exact x_le_rfl _
  | pop =>
    obtain ⟨rfl, v, r, h1, rfl, rfl⟩ := hi
    exact x_le_rfl _
  | pop2 =>
    obtain ⟨rfl, v, r, h1, rfl, rfl⟩ := hi
    exact x_le_rfl _
  | ifCond cn off =>
    obtain ⟨rfl, x, r, tgt, rfl, ht, hh⟩ := hi
    rcases hh with ⟨-, rfl⟩ | ⟨-, rfl⟩ <;> exact x_le_rfl _
  | if_icmp cn off =>
    obtain ⟨rfl, x, y, r, tgt, rfl, ht, hh⟩ := hi
    rcases hh with ⟨-, rfl⟩ | ⟨-, rfl⟩ <;> exact x_le_rfl _
  | ifnull off =>
    obtain ⟨rfl, v, r, tgt, rfl, ht, hh⟩ := hi
    rcases hh with ⟨-, rfl⟩ | ⟨-, rfl⟩ <;> exact x_le_rfl _
  | ifnonnull off =>
    obtain ⟨rfl, v, r, tgt, rfl, ht, hh⟩ := hi
    rcases hh with ⟨-, rfl⟩ | ⟨-, rfl⟩ <;> exact x_le_rfl _
  | goto off =>
    obtain ⟨rfl, tgt, ht, rfl⟩ := hi
    exact x_le_rfl _
  | tableswitch dflt lo hi2 offs =>
    obtain ⟨x, r, tgt, rfl, rfl, hh⟩ := hi
    exact x_le_rfl _
  | lookupswitch dflt ps =>
    obtain ⟨x, r, tgt, rfl, rfl, h1, ht⟩ := hi
    exact x_le_rfl _
  | getfield idx =>
    obtain ⟨rfl, ci, k, C, T, N, q, fs, v, r, ⟨h1, h2, h3⟩, rfl, h4, h5, rfl⟩ := hi
    exact x_le_rfl _
  | putfield idx =>
    obtain ⟨rfl, ci, k, C, T, N, q, fs, v, r, ty, ⟨h1, h2, h3⟩, rfl, h4, h5, h6, h7, h8, h9, rfl⟩ := hi
    exact x_le_set h4 (by simp [x_n])
  | iaload =>
    obtain ⟨rfl, x, r, hh⟩ := hi
    rcases hh with ⟨q, k, n, f, h1, h2, rfl, h4, rfl⟩ | ⟨q, n, f, h1, h2, rfl, rfl⟩ <;> exact x_le_rfl _
  | baload =>
    obtain ⟨rfl, x, r, q, k, n, f, h1, h2, rfl, h4, rfl⟩ := hi
    exact x_le_rfl _
  | laload =>
    obtain ⟨rfl, x, r, q, k, n, f, h1, h2, rfl, h4, rfl⟩ := hi
    exact x_le_rfl _
  | aaload =>
    obtain ⟨rfl, x, r, q, k, n, f, ty, h1, h1b, h2, rfl, h4, rfl⟩ := hi
    exact x_le_rfl _
  | iastore =>
    obtain ⟨rfl, x, v, r, q, k, n, f, h1, h2, rfl, h4, rfl⟩ := hi
    exact x_le_set h4 (by simp [x_n])
  | bastore =>
    obtain ⟨rfl, x, v, r, q, k, n, f, h1, h2, rfl, h4, rfl⟩ := hi
    exact x_le_set h4 (by simp [x_n])
  | lastore =>
    obtain ⟨rfl, x, v, r, q, k, n, f, h1, h2, rfl, h4, rfl⟩ := hi
    exact x_le_set h4 (by simp [x_n])
  | aastore =>
    obtain ⟨rfl, x, v, r, q, k, n, f, h2, rfl, h4, rfl, hh⟩ := hi
    exact x_le_set h4 (by simp [x_n])
  | multianewarray idx dm =>
    obtain ⟨rfl, rfl, n, z, r, k, k2, h1, h2, h3, h4, h5, h6, h7, h8, h9, rfl, rfl⟩ := hi
    refine ⟨?_, ?_⟩
    · simp only [x_g, List.length_append]; omega
    · simp only [x_g, x_sl, List.map_append, List.sum_append]; omega
  | arraylength =>
    obtain ⟨rfl, r, hh⟩ := hi
    rcases hh with ⟨q, k, x, h1, rfl, h4, rfl⟩ | ⟨q, n, f, h1, rfl, rfl⟩ <;> exact x_le_rfl _
  | checkcast idx =>
    obtain ⟨rfl, q, k, x, r, h1, h2, rfl, h4, rfl⟩ := hi
    exact x_le_rfl _
  | new idx =>
    obtain ⟨rfl, ci, C, T, N, ty, h1, h2, h3, h4, h5, rfl⟩ := hi
    exact x_le_app _ _
  | newarray aty =>
    obtain ⟨rfl, n, r, k, z, h1, h2, h3, h4, h5, rfl, rfl⟩ := hi
    exact x_le_app _ _
  | anewarray idx =>
    obtain ⟨rfl, n, r, k, C, h1, h2, h3, h4, h5, rfl, rfl⟩ := hi
    exact x_le_app _ _
  | _ => exact hi.elim
theorem x_sins_h {sk : xK} {Ts : List Cond} {own : String} {i : Jvm.ClassFile.Instr} {len : Nat} {a b : xS} (hi : x_sins sk Ts own i len a b) : b.2.1 = a.2.1 ∧ b.2.2.2 = a.2.2.2 := by
  cases i with
  | ldc idx => obtain ⟨rfl, k, hk, rfl, rfl, rfl⟩ := hi; exact ⟨rfl, rfl⟩
  | getfield idx => obtain ⟨rfl, k, r, hk, h1, ⟨-, rfl⟩ | ⟨-, rfl⟩⟩ := hi <;> exact ⟨rfl, rfl⟩
  | arraylength => obtain ⟨rfl, k, r, hk, h1, rfl⟩ := hi; exact ⟨rfl, rfl⟩
  | baload => obtain ⟨rfl, k, x, r, hk, h0, h1, rfl⟩ := hi; exact ⟨rfl, rfl⟩
  | getstatic idx => obtain ⟨rfl, ⟨-, rfl⟩ | ⟨-, rfl⟩⟩ := hi <;> exact ⟨rfl, rfl⟩
  | i2b => obtain ⟨rfl, x, r, h1, rfl⟩ := hi; exact ⟨rfl, rfl⟩
  | _ => exact hi.elim
theorem x_sins_le {sk : xK} {Ts : List Cond} {own : String} {i : Jvm.ClassFile.Instr} {len : Nat} {a b : xS} (hi : x_sins sk Ts own i len a b) : x_le a.2.2.2 b.2.2.2 := by
  rw [(x_sins_h hi).2]; exact x_le_rfl _
def x_ret (ret : Option FieldType) (i : Jvm.ClassFile.Instr) (len : Nat) (st : List Value) (r : Option Value) : Prop :=
  match i with
  | .ireturn => len = 1 ∧ ∃ x ty, st = [.int x] ∧ r = some (.int x) ∧ ret = some ty ∧ narrow ty (.int x) = .int x
  | .lreturn => len = 1 ∧ ∃ x, st = [.long x] ∧ r = some (.long x) ∧ ret = some .long
  | .areturn => len = 1 ∧ ∃ v ty, st = [va_rf v] ∧ r = some (va_rf v) ∧ ret = some ty ∧ ((∃ n, ty = .object n) ∨ ∃ t, ty = .array t)
  | .return_ => len = 1 ∧ st = [] ∧ r = none ∧ ret = none
  | _ => False
def x_lk (Ts AO : List Cond) (own : String) (idx : Nat) (y : MethodName) : Prop := Cond.methodLink own idx y ∈ Ts ∨ ∃ host, Cond.methodLinkNest own idx y host ∈ AO
def x_pn (y : MethodName) (n : Nat) : Prop := (parseMethodDescriptor y.desc).map (fun d => d.parameters.length) = some n
/-- a call: y with As (its receiver among them), the stack below it 'rest' -/
def x_cal (sk : xK) (cl : List vw_C) (Ts AO : List Cond) (base : Nat) (own : String) (i : Jvm.ClassFile.Instr) (len : Nat) (a : xS) (y : MethodName) (As rest : List Value) : Prop :=
  (rest.map fun v => v.category).sum ≤ 8 ∧ Cond.initialized y.cls ∈ Ts ∧ y.cls ≠ "java/lang/invoke/MethodHandle" ∧ y.cls ≠ "java/lang/invoke/VarHandle" ∧ len = 3 ∧
  match i with
  | .invokevirtual idx => x_lk Ts AO own idx y ∧ Cond.instanceMethod y ∈ Ts ∧ Cond.selects y.cls y y ∈ Ts ∧ ((∃ q ci fs T N Bs, As = .ref (base + q) :: Bs ∧ a.2.2.1 = Bs.reverse ++ .ref (base + q) :: rest ∧ a.2.2.2[q]? = some (.inr (ci, fs)) ∧ cl[ci]? = some (y.cls, T, N) ∧ x_pn y Bs.length) ∨ (∃ k Bs, k < 11 ∧ y.cls = "java/lang/String" ∧ As = .ref (sk.1 k) :: Bs ∧ a.2.2.1 = Bs.reverse ++ .ref (sk.1 k) :: rest ∧ x_pn y Bs.length))
  | .invokestatic idx => x_lk Ts AO own idx y ∧ a.2.2.1 = As.reverse ++ rest ∧ x_pn y As.length ∧ Cond.static y ∈ Ts
  | .invokespecial idx => x_lk Ts AO own idx y ∧ y.name = "<init>" ∧ ∃ q Bs, As = .ref q :: Bs ∧ a.2.2.1 = Bs.reverse ++ .ref q :: rest ∧ x_pn y Bs.length ∧ Cond.instanceMethod y ∈ Ts
  | _ => False
/-- what is done by one instruction that needs a frame: Object's constructor; copying ints -/
def x_nat (kd : List FieldType) (Ts AO : List Cond) (base : Nat) (own : String) (i : Jvm.ClassFile.Instr) (len : Nat) (a b : xS) : Prop :=
  match i with
  | .invokespecial idx => len = 3 ∧ ∃ q r, a.2.2.1 = .ref q :: r ∧ (r.map fun v => v.category).sum ≤ 8 ∧ Cond.methodLink own idx Jvm.Lib.objectInit ∈ Ts ∧ Cond.instanceMethod Jvm.Lib.objectInit ∈ Ts ∧ Cond.code Jvm.Lib.objectInit ⟨#[0xb1]⟩ 1 none ∈ Ts ∧ b = x_k a 3 r
  | .invokevirtual idx => len = 3 ∧ Cond.methodLink own idx ⟨"[I", "clone", "()Ljava/lang/Object;"⟩ ∈ Ts ∧ Cond.sameMethod "[I" "java/lang/Object" "clone" "()Ljava/lang/Object;" ∈ Ts ∧ Cond.native ⟨"java/lang/Object", "clone", "()Ljava/lang/Object;"⟩ ∈ Ts ∧ Cond.instanceMethod ⟨"java/lang/Object", "clone", "()Ljava/lang/Object;"⟩ ∈ Ts ∧ Cond.selects "[I" ⟨"[I", "clone", "()Ljava/lang/Object;"⟩ ⟨"java/lang/Object", "clone", "()Ljava/lang/Object;"⟩ ∈ Ts ∧ Cond.castable "[I" "java/lang/Cloneable" ∈ AO ∧ ∃ q k n f r, kd[k]? = some .int ∧ a.2.2.2[q]? = some (.inl (k, n, .inl f)) ∧ (r.map fun v => v.category).sum ≤ 8 ∧ a.2.2.1 = .ref (base + q) :: r ∧ b = x_g a 3 (.ref (base + a.2.2.2.length) :: r) (a.2.2.2 ++ [.inl (k, n, .inl f)])
  | .invokestatic idx => len = 3 ∧ Cond.methodLink own idx arraycopyName ∈ Ts ∧ Cond.native arraycopyName ∈ Ts ∧ Cond.static arraycopyName ∈ Ts ∧ Cond.initialized "java/lang/System" ∈ Ts ∧ ∃ q0 q1 k n0 n1 f g sp dp n r, kd[k]? = some .int ∧ a.2.2.2[q0]? = some (.inl (k, n0, .inl f)) ∧ a.2.2.2[q1]? = some (.inl (k, n1, .inl g)) ∧ ¬ sp < 0 ∧ ¬ dp < 0 ∧ ¬ n < 0 ∧ sp.toNatClampNeg + n.toNatClampNeg ≤ n0 ∧ dp.toNatClampNeg + n.toNatClampNeg ≤ n1 ∧ (r.map fun v => v.category).sum ≤ 8 ∧ a.2.2.1 = .int n :: .int dp :: .ref (base + q1) :: .int sp :: .ref (base + q0) :: r ∧ b = x_g a 3 r (a.2.2.2.set q1 (.inl (k, n1, .inl (va_cpy f g sp.toNatClampNeg dp.toNatClampNeg n.toNatClampNeg))))
  | _ => False
theorem x_nat_le {kd : List FieldType} {Ts AO : List Cond} {base : Nat} {own : String} {i : Jvm.ClassFile.Instr} {len : Nat} {a b : xS} (hi : x_nat kd Ts AO base own i len a b) : x_le a.2.2.2 b.2.2.2 := by
  obtain ⟨pc, L, st, h⟩ := a
  dsimp only at hi ⊢
  cases i with
  | invokespecial idx =>
    obtain ⟨rfl, q, r, -, -, -, -, -, rfl⟩ := hi
    exact x_le_rfl _
  | invokevirtual idx =>
    obtain ⟨rfl, -, -, -, -, -, -, q, k, n, f, r, -, -, -, -, rfl⟩ := hi
    exact x_le_app _ _
  | invokestatic idx =>
    obtain ⟨rfl, -, -, -, -, q0, q1, k, n0, n1, f, g, sp, dp, n, r, -, -, h4, -, -, -, -, -, -, -, rfl⟩ := hi
    exact x_le_set h4 (by simp [x_n])
  | _ => exact hi.elim
abbrev xM : Type := Nat → Option (MethodName × ByteArray × Nat × Option FieldType)
/-- with n steps, at most d calls deep: method j at state a returns r, and leaves the cells h' -/
def x_go (sk : xK) (cl : List vw_C) (kd : List FieldType) (Ts : List Cond) (AO : List Cond) (M : xM) (base : Nat) : Nat → Nat → Option (Nat × Nat × (Nat → Int32)) → Nat → xS → Option Value → List xC → Prop
  | 0, _, _, _, _, _, _ => False
  | n + 1, d, X, j, a, r, h' => ∃ y cc nL ret i len, M j = some (y, cc, nL, ret) ∧ decode cc a.1 = .ok (i, len) ∧
      ((∃ b, (x_ins cl kd Ts AO X base y.cls y.name nL i len a b ∨ x_sins sk Ts y.cls i len a b) ∧ x_go sk cl kd Ts AO M base n d X j b r h') ∨
       (x_ret ret i len a.2.2.1 r ∧ a.2.2.2 = h') ∨
       (∃ d' j2 y2 cc2 nL2 ret2 As rest v h1, d = d' + 1 ∧ 0 < j2 ∧ M j2 = some (y2, cc2, nL2, ret2) ∧ x_cal sk cl Ts AO base y.cls i len a y2 As rest ∧ (lg_sl As).length ≤ nL2 ∧ x_go sk cl kd Ts AO M base n d' none j2 (0, lv_args 0 As, [], a.2.2.2) v h1 ∧ x_go sk cl kd Ts AO M base n d X j (a.1 + 3, a.2.1, v.toList ++ rest, h1) r h') ∨
       (∃ d' b, d = d' + 1 ∧ x_nat kd Ts AO base y.cls i len a b ∧ x_go sk cl kd Ts AO M base n d X j b r h'))
theorem x_go_le {sk : xK} {cl : List vw_C} {kd : List FieldType} {Ts : List Cond} {AO : List Cond} {M : xM} {base : Nat} : ∀ (n d : Nat) (X : Option (Nat × Nat × (Nat → Int32))) (j : Nat) (a : xS) (r : Option Value) (h' : List xC), x_go sk cl kd Ts AO M base n d X j a r h' → x_le a.2.2.2 h'
  | 0, _, _, _, _, _, _, h => h.elim
  | n + 1, d, X, j, a, r, h', h => by
    obtain ⟨y, cc, nL, ret, i, len, hM, hd, hh⟩ := h
    rcases hh with ⟨b, hi, hg⟩ | ⟨-, rfl⟩ | ⟨d', j2, y2, cc2, nL2, ret2, As, rest, v, h1, rfl, -, -, -, -, hg1, hg2⟩ | ⟨d', b, rfl, hi, hg⟩
    · rcases hi with hi | hi
      · exact x_le_trans (x_ins_le hi) (x_go_le n _ _ _ _ _ _ hg)
      · exact x_le_trans (x_sins_le hi) (x_go_le n _ _ _ _ _ _ hg)
    · exact x_le_rfl _
    · have g1 := x_go_le n _ _ _ _ _ _ hg1
      have g2 := x_go_le n _ _ _ _ _ _ hg2
      exact x_le_trans g1 g2
    · exact x_le_trans (x_nat_le hi) (x_go_le n _ _ _ _ _ _ hg)
end
section
/-! What the simple machine does, the real one does. -/
section XC
variable {p : Program} {l : Launch} {e : Env} {R : Room} {s : State} {m : MethodId} {args : Array Value} {below : List Frame} {meth : Method} {c : Code} {H : Heap} {locs : List Loc} {cells slots : Nat} {Q : State → Prop}
variable {pc : Nat} {ls : Array Slot} {rest st0 : List Value} {A : Nat → Prop} {H0 : Heap} {mc ms : Nat} {free : Addr → Prop}
theorem x_call {v : Option Value} {B : State → Prop} (hr : va_Run p l e R s m args below meth c H locs cells slots mc ms (F0 m pc ls st0) rest (fun st oc t => oc = .returned v ∧ B t ∧ va_F A st t) free) (hS : va_S A H0 H locs) (hf : ∀ q, free q → A q)
    (kk : ∀ (H1 : Heap) (locs1 : List Loc) (t : State), t.heap = H1 → B t → va_S A H0 H1 locs1 → W p l e R s m args below meth c H1 locs1 (cells + mc) (slots + ms) Q (F0 m (pc + 3) ls (v.toList ++ rest))) : W p l e R s m args below meth c H locs cells slots Q (F0 m pc ls st0) := by
  intro T hT X
  obtain ⟨v', st₀, t, T', L, h0, X', hL, e1, e2, ⟨hv, hB, hz, hk⟩, st⟩ := hr T hT X
  cases hv
  rw [h0] at hz hk
  obtain ⟨t2, a1, b1⟩ := kk T'.heap (locs ++ L) t e1.symm hB
    ⟨Nat.le_trans hS.1 (by rw [e1]; exact hz), fun q h1 h2 => by rw [e1, hk q (Nat.lt_of_lt_of_le h1 hS.1) h2]; exact hS.2.1 q h1 h2, fun q hq => by
      rcases List.mem_append.mp hq with h | h
      · exact hS.2.2 q h
      · exact hf _ (hL q h)⟩ T' rfl X'
  exact ⟨t2, st t2 a1, b1⟩
end XC
/-- the words a frame: every method has at most KL - 19 locals -/
def x_KL : Nat := 84
def x_Pre (sk : xK) (D : va_G) (cl : List vw_C) (dA : Nat → ClassId) (kd : List FieldType) (AO : List Cond) (base : Nat) (h : List xC) : State → Prop :=
  fun U => va_P D cl (x_W dA base h) U.heap ∧ U.heap.size = base + h.length ∧ x_K D cl dA kd AO U ∧ x_KS sk base U U.heap
def x_Qc (D : va_G) (cl : List vw_C) (dA : Nat → ClassId) (base : Nat) (r : Option Value) (h : List xC) : Array Value → State → Outcome → State → Prop :=
  fun _ st oc t => oc = .returned r ∧ va_P D cl (x_W dA base h) t.heap ∧ va_F (fun q => base ≤ q) st t
theorem x_blind {sk : xK} {D : va_G} {cl : List vw_C} {dA : Nat → ClassId} {kd : List FieldType} {AO : List Cond} {base : Nat} {h : List xC} {As : List Value} (hAO : ∀ w ∈ AO, x_mv w) : FrameBlind (va_Pc As (x_Pre sk D cl dA kd AO base h)) :=
  fun a U g mk q => ⟨q.1, q.2.1, q.2.2.1, x_K.same (u := U) (U := U.calling g mk a) hAO rfl q.2.2.2.1, x_KS.same (u := U) (U := U.calling g mk a) rfl q.2.2.2.2⟩
/-- what is asked of the tables once and for all -/
def x_Ok (cl : List vw_C) (Ts AO : List Cond) (M : xM) : Prop :=
  (GoodIn Ts Ts ∧ ∀ w ∈ AO, x_mv w) ∧ (∀ j y cc nL ret, 0 < j → M j = some (y, cc, nL, ret) → Cond.code y cc nL ret ∈ Ts ∧ plainFor y = true ∧ nL + 19 ≤ x_KL ∧ (y.name = "<init>" → ret = none)) ∧
  (∀ (ci : Nat) (C : String) (T : u_T) (N : Nat), cl[ci]? = some (C, T, N) → (∀ w ∈ u_ws C T N, w ∈ Ts) ∧ (∀ a, a < N → ∀ b, b < N → a ≠ b → (T a).2.1 ≠ (T b).2.1) ∧ ∃ ty : Nat → FieldType, ∀ k, k < N → parseFieldDescriptor (T k).2.2.1 = some (ty k))
/-- a run of the simple machine from a state, as the real machine sees it -/
def x_Body (sk : xK) (l : Launch) (D : va_G) (cl : List vw_C) (dA : Nat → ClassId) (kd : List FieldType) (Ts : List Cond) (AO : List Cond) (M : xM) (base n : Nat) : Prop :=
  ∀ (d : Nat) (X : Option (Nat × Nat × (Nat → Int32))) (j : Nat) (a : xS) (r : Option Value) (h' : List xC), x_go sk cl kd Ts AO M base n d X j a r h' →
  ∀ (p : Program) (e : Env) (R : Room) (s : State) (m : MethodId) (args : Array Value) (below : List Frame) (meth : Method) (c : Code) (Q : State → Prop) (y : MethodName) (cc : ByteArray) (nL : Nat) (ret : Option FieldType) (s0 : Nat) (H : Heap) (locs : List Loc) (cells slots : Nat) (ls : Array Slot),
  M j = some (y, cc, nL, ret) → x_F p m meth c cc nL s args Ts y.cls D cl dA kd AO X base → x_KS sk base s s.heap → meth.name = y.name → d ≤ R.frames → x_KL * d ≤ R.locals → base + h'.length ≤ s.heap.size + R.cells → x_sl h' ≤ s0 + R.slots →
  (∀ (pc : Nat) (i : Jvm.ClassFile.Instr) (len : Nat) (st : List Value) (L : xL) (H1 : Heap) (locs1 : List Loc) (cells1 slots1 : Nat) (ls1 : Array Slot), decode cc pc = .ok (i, len) → x_ret ret i len st r → x_R D cl dA base s0 nL s H1 locs1 cells1 slots1 ls1 L h' → W p l e R s m args below meth c H1 locs1 cells1 slots1 Q (F0 m pc ls1 st)) →
  x_R D cl dA base s0 nL s H locs cells slots ls a.2.1 a.2.2.2 → W p l e R s m args below meth c H locs cells slots Q (F0 m a.1 ls a.2.2.1)
section XM
variable {sk : xK} {l : Launch} {D : va_G} {cl : List vw_C} {dA : Nat → ClassId} {kd : List FieldType} {Ts : List Cond} {AO : List Cond} {M : xM} {base n : Nat}
set_option maxHeartbeats 4000000 in
set_option maxRecDepth 100000 in
theorem x_met (hOk : x_Ok cl Ts AO M) (hB : x_Body sk l D cl dA kd Ts AO M base n) {d j : Nat} {As : List Value} {h h1 : List xC} {v : Option Value} {y : MethodName} {cc : ByteArray} {nL : Nat} {ret : Option FieldType} (hg : x_go sk cl kd Ts AO M base n d none j (0, lv_args 0 As, [], h) v h1) (hj : 0 < j) (hM : M j = some (y, cc, nL, ret)) (hn : (lg_sl As).length ≤ nL) :
    Met l y (Cond.code y cc nL ret :: Ts) { frames := d, cells := h1.length - h.length, slots := x_sl h1 - x_sl h, locals := x_KL * d } (va_Pc As (x_Pre sk D cl dA kd AO base h)) (x_Qc D cl dA base v h1) (h1.length - h.length) (x_sl h1 - x_sl h) (fun q => base ≤ q) := by
  obtain ⟨hc1, hpn, hKL, -⟩ := hOk.2.1 _ _ _ _ _ hj hM
  have hle0 := x_go_le n _ _ _ _ _ _ hg
  have hle : x_le h h1 := hle0
  refine va_MetF (cc := cc) (maxL := nL) (ret := ret) hpn rfl ?_
  intro p e s m args below meth c s₁ B hml hv
  obtain ⟨rfl, hP, hz, hK, hKS⟩ := hv
  have hts := atoms_spec (ws := Cond.code y cc nL ret :: Ts) B.pre
  have hown : s.vm.findClass y.cls = some m.cls := findClass_of_methodNamed B.named
  have hlocks := B.notSynchronized
  have hnm : meth.name = y.name := (name_of_methodNamed B.named B.method).1
  have hl := lv_entry As (n := nL) hn
  rw [lg_entry_eq]
  generalize (lg_sl As ++ List.replicate (nL - (lg_sl As).length) Slot.unset).toArray = ls at hl ⊢
  refine hB d none j (0, lv_args 0 As, [], h) v h1 hg p e _ s m As.toArray below meth c _ y cc nL ret (x_sl h) s.heap [] 0 0 ls hM ⟨⟨B.exec, B.bytes, hml, hown, fun w hw => hts w (List.mem_cons_of_mem _ hw)⟩, hK, by rw [hz]; exact Nat.le_add_right _ _, (fun q n f hX => by cases hX), hOk.2.2⟩ hKS hnm (Nat.le_refl _) (Nat.le_refl _) ?_ ?_ ?_ ?_
  · show base + h1.length ≤ s.heap.size + (h1.length - h.length)
    have := hle.1
    omega
  · show x_sl h1 ≤ x_sl h + (x_sl h1 - x_sl h)
    have := hle.2
    omega
  · intro pc i len st L H1 locs1 cells1 slots1 ls1 hd hr hR
    obtain ⟨gP, gS, gc, gs, gl⟩ := hR
    have e1 : cells1 = h1.length - h.length := by omega
    have e2 : slots1 = x_sl h1 - x_sl h := by omega
    subst e1; subst e2
    have hq : ∀ t : State, t.heap = H1 → x_Qc D cl dA base v h1 As.toArray s (.returned v) t := fun t ht => ⟨rfl, by rw [ht]; exact gP, gS.F ht⟩
    have hret := B.returns
    cases i with
    | ireturn =>
      obtain ⟨rfl, x, ty, rfl, rfl, rfl, hnr⟩ := hr
      exact W.zret B.exec B.bytes hret hnr (fun t ht _ => hq t ht) gS.2.2 hd
    | lreturn =>
      obtain ⟨rfl, x, rfl, rfl, rfl⟩ := hr
      exact W.lret B.exec B.bytes hret (fun t ht _ => hq t ht) gS.2.2 hd
    | areturn =>
      obtain ⟨rfl, x, ty, rfl, rfl, rfl, hrt⟩ := hr
      exact W.aret B.exec B.bytes hret hrt (by cases x with | none => exact Or.inl rfl | some q => exact Or.inr ⟨q, rfl⟩) (fun t ht _ => hq t ht) gS.2.2 hd
    | return_ =>
      obtain ⟨rfl, rfl, rfl, rfl⟩ := hr
      exact W.vret B.exec B.bytes hret (fun t ht _ => hq t ht) gS.2.2 hd
    | _ => exact hr.elim
  · exact ⟨hP, va_S.rf, (show base + h.length = s.heap.size + 0 by omega), rfl, hl⟩
end XM
end
section
section XB
variable {sk : xK} {l : Launch} {D : va_G} {cl : List vw_C} {dA : Nat → ClassId} {kd : List FieldType} {Ts : List Cond} {AO : List Cond} {M : xM} {base : Nat}
set_option maxHeartbeats 4000000 in
set_option maxRecDepth 100000 in
/-- THE LIFTING -/
theorem x_body (hOk : x_Ok cl Ts AO M) : ∀ n : Nat, x_Body sk l D cl dA kd Ts AO M base n
  | 0 => fun d X j a r h' hg => hg.elim
  | n + 1 => by
    have ih := x_body hOk n
    intro d X j a r h' hg p e R s m args below meth c Q y cc nL ret s0 H locs cells slots ls hM F hKS hnm hfr hlo hrc hrs hret hR
    obtain ⟨y9, cc9, nL9, ret9, i, len, hM9, hd, hh⟩ := hg
    rw [hM] at hM9
    cases hM9
    rcases hh with ⟨b, hi, hg⟩ | ⟨hi, rfl⟩ | ⟨d', j2, y2, cc2, nL2, ret2, As, rest, v, h1, rfl, hj2, hM2, hcal, hlen, hg1, hg2⟩ | ⟨d', b, rfl, hi, hg⟩
    · have hle := x_go_le n _ _ _ _ _ _ hg
      rcases hi with hi | hi
      · rw [← hnm] at hi
        refine x_ins_W F hd hi hR (by have := hle.1; omega) (by have := hle.2; omega) (fun H1 locs1 cells1 slots1 ls1 hR1 => ?_)
        exact ih d X j b r h' hg p e R s m args below meth c Q y cc nL ret s0 H1 locs1 cells1 slots1 ls1 hM F hKS hnm hfr hlo hrc hrs hret hR1
      · refine x_sins_W F hKS hd hi hR (fun H1 locs1 cells1 slots1 ls1 hR1 => ?_)
        exact ih d X j b r h' hg p e R s m args below meth c Q y cc nL ret s0 H1 locs1 cells1 slots1 ls1 hM F hKS hnm hfr hlo hrc hrs hret hR1
    · exact hret _ _ _ _ _ _ _ _ _ _ hd hi hR
    · have hle1 := x_go_le n _ _ _ _ _ _ hg1
      have hle2 := x_go_le n _ _ _ _ _ _ hg2
      obtain ⟨pc, L, st, h⟩ := a
      dsimp only at hd hcal hg1 hg2 hR hle1 hle2 ⊢
      have hMet := x_met hOk ih hg1 hj2 hM2 hlen
      obtain ⟨-, -, hKL2, hnone⟩ := hOk.2.1 _ _ _ _ _ hj2 hM2
      obtain ⟨⟨hx, hb, hml, hown, hts⟩, hK, hbs, hX, hcl⟩ := id F
      obtain ⟨hP, hS, hc, hsl, hl⟩ := id hR
      refine x_size hP hbs hS.1 hc (fun hz => ?_)
      obtain ⟨hsum, hini, hy1, hy2, rfl, hcal⟩ := hcal
      have hroom : d' + 1 ≤ R.frames ∧ 8 + (nL2 + 11) + x_KL * d' ≤ R.locals := ⟨hfr, by rw [Nat.mul_succ] at hlo; omega⟩
      have hfit : cells + (h1.length - h.length) ≤ R.cells ∧ slots + (x_sl h1 - x_sl h) ≤ R.slots := by
        have := hle1.1; have := hle1.2; have := hle2.1; have := hle2.2
        omega
      have hG2 : GoodIn Ts (Cond.code y2 cc2 nL2 ret2 :: Ts) := fun w hw => by
        rcases List.mem_cons.mp hw with rfl | hw
        · exact hOk.1.1 _ (hOk.2.1 _ _ _ _ _ hj2 hM2).1
        · exact hOk.1.1 w hw
      have hpre : ∀ U : State, U.heap = H → s.WarmedH U.vm → va_Pc As (x_Pre sk D cl dA kd AO base h) As.toArray U := fun U hU hW => ⟨rfl, by rw [hU]; exact hP, by rw [hU]; exact hz, x_K.warm hOk.1.2 hW hK, by rw [hU]; exact x_KS.kept hS.2.1 (x_KS.warm hW hKS)⟩
      have goon : ∀ (H1 : Heap) (locs1 : List Loc) (t : State), t.heap = H1 → va_P D cl (x_W dA base h1) t.heap → va_S (fun q => base ≤ q) s.heap H1 locs1 → W p l e R s m args below meth c H1 locs1 (cells + (h1.length - h.length)) (slots + (x_sl h1 - x_sl h)) Q (F0 m (pc + 3) ls (v.toList ++ rest)) := fun H1 locs1 t ht hB hS1 => by
        rw [ht] at hB
        have := hle1.1; have := hle1.2
        exact ih (d' + 1) X j (pc + 3, L, v.toList ++ rest, h1) r h' hg2 p e R s m args below meth c Q y cc nL ret s0 H1 locs1 _ _ ls hM F hKS hnm hfr hlo hrc hrs hret ⟨hB, hS1, (show base + h1.length = _ by omega), (show x_sl h1 = _ by omega), hl⟩
      cases i with
      | invokevirtual idx =>
        obtain ⟨hlk, h7, h8, hcal⟩ := hcal
        rcases hcal with ⟨q, ci, fs, T, N, Bs, rfl, rfl, h4, h5, h6⟩ | ⟨q, Bs, hq, hcs, rfl, rfl, h6⟩
        · have hp : PreV s H y2.cls (base + q) (va_Pc (.ref (base + q) :: Bs) (x_Pre sk D cl dA kd AO base h)) Bs := ⟨x_blind hOk.1.2, va_recv hK.1 hP h5 (x_W_get h4), hpre⟩
          rcases hlk with hlk | ⟨host, hlk⟩
          · exact x_call (va_runV ⟨hx, hb, hml, hown, hts⟩ hMet ⟨callB_of Bs.length hts hG2 rfl rfl rfl (hts _ hini) (hts _ hlk) ⟨hy1, hy2, h6⟩ hroom, hts _ h7, hts _ h8⟩ hp rfl rfl hl.1 rfl (lv_room hsum) hd hfit) hS (fun _ z => z) goon
          · exact x_call (va_runVN ⟨hx, hb, hml, hown, hts⟩ hMet ⟨va_cnB Bs.length hts hG2 rfl rfl rfl (hK.2 _ hlk) (hts _ hini) ⟨hy1, hy2, h6⟩ hroom, hts _ h7, hts _ h8⟩ hp rfl rfl hl.1 rfl (lv_room hsum) hd hfit) hS (fun _ z => z) goon
        · have hp : PreV s H y2.cls (sk.1 q) (va_Pc (.ref (sk.1 q) :: Bs) (x_Pre sk D cl dA kd AO base h)) Bs := ⟨x_blind hOk.1.2, by rw [hcs]; exact vk_recv hKS.1 hq hS, hpre⟩
          rcases hlk with hlk | ⟨host, hlk⟩
          · exact x_call (va_runV ⟨hx, hb, hml, hown, hts⟩ hMet ⟨callB_of Bs.length hts hG2 rfl rfl rfl (hts _ hini) (hts _ hlk) ⟨hy1, hy2, h6⟩ hroom, hts _ h7, hts _ h8⟩ hp rfl rfl hl.1 rfl (lv_room hsum) hd hfit) hS (fun _ z => z) goon
          · exact x_call (va_runVN ⟨hx, hb, hml, hown, hts⟩ hMet ⟨va_cnB Bs.length hts hG2 rfl rfl rfl (hK.2 _ hlk) (hts _ hini) ⟨hy1, hy2, h6⟩ hroom, hts _ h7, hts _ h8⟩ hp rfl rfl hl.1 rfl (lv_room hsum) hd hfit) hS (fun _ z => z) goon
      | invokestatic idx =>
        obtain ⟨hlk, rfl, h6, h7⟩ := hcal
        have hp : PreS s H (va_Pc As (x_Pre sk D cl dA kd AO base h)) As := ⟨x_blind hOk.1.2, hpre⟩
        rcases hlk with hlk | ⟨host, hlk⟩
        · exact x_call (va_runS ⟨hx, hb, hml, hown, hts⟩ hMet ⟨callB_of As.length hts hG2 rfl rfl rfl (hts _ hini) (hts _ hlk) ⟨hy1, hy2, h6⟩ hroom, hts _ h7⟩ hp rfl rfl hl.1 rfl (lv_room hsum) hd hfit) hS (fun _ z => z) goon
        · exact x_call (va_runSN ⟨hx, hb, hml, hown, hts⟩ hMet ⟨va_cnB As.length hts hG2 rfl rfl rfl (hK.2 _ hlk) (hts _ hini) ⟨hy1, hy2, h6⟩ hroom, hts _ h7, trivial⟩ hp rfl rfl hl.1 rfl (lv_room hsum) hd hfit) hS (fun _ z => z) goon
      | invokespecial idx =>
        obtain ⟨hlk, hini2, q, Bs, rfl, rfl, h6, h7⟩ := hcal
        have hp : PreS s H (va_Pc (.ref q :: Bs) (x_Pre sk D cl dA kd AO base h)) (.ref q :: Bs) := ⟨x_blind hOk.1.2, hpre⟩
        have hrn := hnone hini2
        subst hrn
        rcases hlk with hlk | ⟨host, hlk⟩
        · exact x_call (va_runI ⟨hx, hb, hml, hown, hts⟩ hMet ⟨callB_of Bs.length hts hG2 rfl rfl rfl (hts _ hini) (hts _ hlk) ⟨hy1, hy2, h6⟩ hroom, hini2, hts _ h7⟩ hp rfl rfl hl.1 rfl (lv_room hsum) hd hfit) hS (fun _ z => z) goon
        · exact x_call (va_runIN ⟨hx, hb, hml, hown, hts⟩ hMet ⟨va_cnB Bs.length hts hG2 rfl rfl rfl (hK.2 _ hlk) (hts _ hini) ⟨hy1, hy2, h6⟩ hroom, hini2, hts _ h7⟩ hp rfl rfl hl.1 rfl (lv_room hsum) hd hfit) hS (fun _ z => z) goon
      | _ => exact hcal.elim
    · have hle := x_go_le n _ _ _ _ _ _ hg
      have go2 : ∀ (H1 : Heap) (locs1 : List Loc) (cells1 slots1 : Nat) (ls1 : Array Slot), x_R D cl dA base s0 nL s H1 locs1 cells1 slots1 ls1 b.2.1 b.2.2.2 → W p l e R s m args below meth c H1 locs1 cells1 slots1 Q (F0 m b.1 ls1 b.2.2.1) := fun H1 locs1 cells1 slots1 ls1 hR1 => ih (d' + 1) X j b r h' hg p e R s m args below meth c Q y cc nL ret s0 H1 locs1 cells1 slots1 ls1 hM F hKS hnm hfr hlo hrc hrs hret hR1
      obtain ⟨pc, L, st, h⟩ := a
      dsimp only at hd hi hR ⊢
      obtain ⟨⟨hx, hb, hml, hown, hts⟩, hK, hbs, hX, hcl⟩ := id F
      obtain ⟨hP, hS, hc, hsl, hl⟩ := id hR
      have hlo2 : 84 ≤ R.locals := by
        rw [Nat.mul_succ] at hlo
        have : x_KL = 84 := rfl
        omega
      cases i with
      | invokespecial idx =>
        obtain ⟨rfl, q, r9, rfl, h1, h2, h3, h4, rfl⟩ := hi
        have hro := lv_room (m := m) (pc := pc) (ls := ls) (rest := .ref q :: r9) h1
        exact W.objInit hx hb hown (hts _ h2) (hts _ h3) (hts _ h4) rfl (by rw [hml]; exact hl.1) rfl hd (by omega) (by omega) (go2 _ _ _ _ _ hR)
      | invokevirtual idx =>
        obtain ⟨rfl, g1, g2, g3, g4, g5, g6, q, k, n9, f, r9, k1, k2, k3, rfl, rfl⟩ := hi
        have hle1 : h.length + 1 ≤ h'.length := by simpa [x_g] using hle.1
        have hle2 : x_sl h + n9 ≤ x_sl h' := by simpa [x_g, x_sl_app, x_n] using hle.2
        refine va_clone (x := (n9, .inl f)) hx hb (hml.trans hl.1.symm) hown (hts _ g1) (hts _ g2) (hts _ g3) (hts _ g4) (hts _ g5) (hK.2 _ g6) hK.1 hP (x_D dA base h) hS (fun q hq => Nat.le_trans hbs hq) q k (x_W_get k2) (x_kd k1) (hK.1.2 k _ (x_kd k1)).2 (va_fit (fun _ _ => rfl)) (by omega) (show (r9.map fun v => v.category).sum + 14 ≤ R.locals by omega) (by omega) (show slots + n9 ≤ R.slots by omega) hd (fun q9 H1 z0 z1 z2 z3 => ?_)
        refine x_fresh z1 z2 hc (fun eq => ?_)
        subst eq
        have e1 := x_W_app dA base h (.inl (k, n9, .inl f))
        rw [show x_W dA base h ++ [(base + h.length, .inl (dA k, n9, .inl f))] = _ from e1] at z1
        exact go2 H1 locs (cells + 1) (slots + n9) ls ⟨z1, z3, by simp [x_g]; omega, by simp [x_g, x_sl_app, x_n]; omega, hl⟩
      | invokestatic idx =>
        obtain ⟨rfl, g1, g2, g3, g4, q0, q1, k, n0, n1, f, g, sp, dp, n9, r9, k1, k2, k3, k4, k5, k6, k7, k8, k9, rfl, rfl⟩ := hi
        have hnw : nativeFrameWords "java/lang/System" "arraycopy" 5 ≤ 60 := by decide +kernel
        refine va_copyi hx hb (hml.trans hl.1.symm) hown (hts _ g1) (hts _ g2) (hts _ g3) (hts _ g4) hK.1 hP (x_D dA base h) hS q0 q1 k k (x_W_get k2) (x_W_get k3) (x_kd k1) (x_kd k1) rfl k4 k5 k6 k7 k8 (fun _ _ => rfl) (by omega) (show (r9.map fun v => v.category).sum + (nativeFrameWords "java/lang/System" "arraycopy" 5 + 11) ≤ R.locals by omega) hd (fun H1 locs1 z1 _ z3 => ?_)
        have e1 := x_W_set dA base h q1 (.inl (k, n1, .inl (va_cpy f g sp.toNatClampNeg dp.toNatClampNeg n9.toNatClampNeg)))
        rw [show ((x_W dA base h).set q1 (base + q1, .inl (dA k, n1, .inl (va_cpy f g sp.toNatClampNeg dp.toNatClampNeg n9.toNatClampNeg)))) = _ from e1] at z1
        exact go2 H1 locs1 cells slots ls ⟨z1, z3, (show base + (h.set q1 _).length = _ by rw [List.length_set]; exact hc), (x_sl_set (h := h) k3 (by simp [x_n])).trans hsl, hl⟩
      | _ => exact hi.elim
end XB
end
