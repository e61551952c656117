/-! One step of the simple machine is done by the real one. -/
/-- what of the tables stays through calls: classes, array kinds, arrays of references -/
def x_K (D : va_G) (cl : List vw_C) (dA : Nat → ClassId) (kd : List FieldType) (AO : List Cond) (U : State) : Prop :=
  va_K D cl (kd.mapIdx (fun i ty => (dA i, ty))) U ∧ ∀ w ∈ AO, va_Nw w U
/-- a word that stays while the tables grow warm -/
def x_mv (w : Cond) : Prop := (∀ (s U : State), s.vm = U.vm → va_Nw w s → va_Nw w U) ∧ ∀ (s U : State), s.WarmedH U.vm → va_Nw w s → va_Nw w U
theorem x_K.warm {D : va_G} {cl : List vw_C} {dA : Nat → ClassId} {kd : List FieldType} {AO : List Cond} {u U : State} (hAO : ∀ w ∈ AO, x_mv w) (hW : u.WarmedH U.vm) (h : x_K D cl dA kd AO u) : x_K D cl dA kd AO U :=
  ⟨va_K.moved hW.alike h.1, fun w hw => (hAO w hw).2 u U hW (h.2 w hw)⟩
theorem x_K.same {D : va_G} {cl : List vw_C} {dA : Nat → ClassId} {kd : List FieldType} {AO : List Cond} {u U : State} (hAO : ∀ w ∈ AO, x_mv w) (e : u.vm = U.vm) (h : x_K D cl dA kd AO u) : x_K D cl dA kd AO U :=
  ⟨va_K.moved (by rw [e]; exact Vm.Alike.refl _) h.1, fun w hw => (hAO w hw).1 u U e (h.2 w hw)⟩
theorem x_mv_arr (C : String) : x_mv (.arrayOver (.object C)) := ⟨fun s U e h => va_AO.moved (C := C) (by rw [e]; exact Vm.Alike.refl _) h, fun s U hW h => va_AO.moved (C := C) hW.alike h⟩
theorem x_overA0 {args : Array Value} {s : State} {t : FieldType} (h : (Cond.arrayOver (.array t)).before args s = true) : ∃ comp c k, s.vm.findClass (FieldType.array t).toString = some comp ∧ (s.vm.classes.findIdx? fun (x : Class) => match x.kind with | .array component _ => component == comp | _ => false) = some c ∧ s.vm.classes[c]? = some k ∧ k.kind = .array comp (.array t) ∧ s.vm.findClass ("[" ++ (FieldType.array t).toString) = some c := by
  simp only [Cond.before, Cond.holds, Cond.value, beq_iff_eq] at h
  cases hc : s.vm.findClass (FieldType.array t).toString with
  | none => simp [hc] at h
  | some comp =>
    simp only [hc, Option.bind_some, Option.bind_eq_some_iff, Option.map_eq_some_iff] at h
    obtain ⟨c, hi, k, hk, hb⟩ := h
    obtain ⟨hlt, hp, -⟩ := Array.findIdx?_eq_some_iff_getElem.mp hi
    rw [(Array.getElem?_eq_some_iff.mp hk).2] at hp
    cases hkind : k.kind with
    | array component ty =>
      rw [hkind] at hb hp
      simp at hb hp
      exact ⟨comp, c, k, rfl, hi, hk, by rw [hkind, hp, hb.1], hb.2⟩
    | _ => rw [hkind] at hb; simp at hb
theorem x_overA_moved {t : FieldType} {u U : State} (hvm : u.vm.Alike U.vm) (h : va_Nw (.arrayOver (.array t)) u) : va_Nw (.arrayOver (.array t)) U := by
  obtain ⟨comp, c, k, h1, h2, h3, h4, h5⟩ := x_overA0 h
  obtain ⟨k', hk', he⟩ := hvm.2.2 _ _ h3
  have hi : (U.vm.classes.findIdx? fun (x : Class) => match x.kind with | .array component _ => component == comp | _ => false) = some c := by
    have g1 := va_idx_bare U.vm comp
    have g2 := va_idx_bare u.vm comp
    have e : u.vm.bare = U.vm.bare := by first | exact hvm.bare_eq | exact hvm.bare_eq.symm
    rw [e] at g2
    exact g1.symm.trans (g2.trans h2)
  have hkind : k'.kind = .array comp (.array t) := by rw [he]; exact h4
  have f1 : U.vm.findClass (FieldType.array t).toString = some comp := by rw [hvm.findClass]; exact h1
  have f2 : U.vm.findClass ("[" ++ (FieldType.array t).toString) = some c := by rw [hvm.findClass]; exact h5
  unfold va_Nw Cond.before Cond.holds
  simp only [Cond.value]
  rw [f1, Option.bind_some]
  refine (congrArg (fun o : Option Nat => (o.bind (fun c => (U.vm.classes[c]?).map fun (k : Class) => match k.kind with | .array _ ty => decide (ty = FieldType.array t) && decide (U.vm.findClass ("[" ++ (FieldType.array t).toString) = some c) | _ => false) == some true)) hi).trans ?_
  simp [hk', hkind, f2]
theorem x_mv_arrA (t : FieldType) : x_mv (.arrayOver (.array t)) := ⟨fun s U e h => x_overA_moved (by rw [e]; exact Vm.Alike.refl _) h, fun s U hW h => x_overA_moved hW.alike h⟩
theorem x_mv_fld {a : String} {i : Nat} {b n d h : String} : x_mv (.fieldLinkNest a i b n d h) := ⟨fun _ _ e hZ => va_Nw.same rfl e hZ, fun _ _ hW hZ => va_Nw.warmF hW hZ⟩
theorem x_mv_met {a : String} {i : Nat} {x : MethodName} {h : String} : x_mv (.methodLinkNest a i x h) := ⟨fun _ _ e hZ => va_Nw.same rfl e hZ, fun _ _ hW hZ => va_Nw.warmM hW hZ⟩
theorem x_kd {dA : Nat → ClassId} {kd : List FieldType} {k : Nat} {ty : FieldType} (e : kd[k]? = some ty) : (kd.mapIdx (fun i ty => (dA i, ty)))[k]? = some (dA k, ty) := by
  rw [List.getElem?_mapIdx, e]; rfl
theorem x_outer (c : ClassId) (N h0 : Nat) : ∀ i : Nat, Jvm.Free.Multi.outerC c N h0 i = arrV c N (fun j => va_rf (if j < i then some (h0 + 1 + j) else none))
  | 0 => by
    show ({ cls := c, slots := Array.replicate N .null, vm := .none } : Cell) = _
    rw [arrV_new]
    refine congrArg (arrV c N) (funext fun j => ?_)
    simp [va_rf]
  | i + 1 => by
    show (Jvm.Free.Multi.outerC c N h0 i).setSlot i (.ref (h0 + 1 + i)) = _
    rw [x_outer c N h0 i, arrV_store]
    refine congrArg (arrV c N) (funext fun j => ?_)
    by_cases e : j = i
    · subst e
      simp [updV, va_rf]
    · by_cases h : j < i
      · simp [updV, e, h, Nat.lt_succ_of_lt h]
      · simp [updV, e, h, show ¬ j < i + 1 by omega]
section XL
variable {p : Program} {l : Launch} {e : Env} {R : Room} {s : State} {m : MethodId} {args : Array Value} {below : List Frame} {meth : Method} {c : Code} {H : Heap} {locs : List Loc} {cells slots : Nat} {Q : State → Prop}
variable {D : va_G} {cl : List vw_C} {dA : Nat → ClassId} {base : Nat} {kd : List FieldType} {AO : List Cond} {Ts : List Cond} {X : Option (Nat × Nat × (Nat → Int32))} {own : String} {cc : ByteArray} {nL s0 : Nat} {ls : Array Slot}
/-- what holds between the simple machine's cells and locals and the real ones -/
def x_R (D : va_G) (cl : List vw_C) (dA : Nat → ClassId) (base s0 nL : Nat) (s : State) (H : Heap) (locs : List Loc) (cells slots : Nat) (ls : Array Slot) (L : xL) (h : List xC) : Prop :=
  va_P D cl (x_W dA base h) H ∧ va_S (fun q => base ≤ q) s.heap H locs ∧ base + h.length = s.heap.size + cells ∧ x_sl h = s0 + slots ∧ lv_has ls nL L
/-- what of a method's surroundings stays -/
def x_F (p : Program) (m : MethodId) (meth : Method) (c : Code) (cc : ByteArray) (nL : Nat) (s : State) (args : Array Value) (Ts : List Cond) (own : String) (D : va_G) (cl : List vw_C) (dA : Nat → ClassId) (kd : List FieldType) (AO : List Cond) (X : Option (Nat × Nat × (Nat → Int32))) (base : Nat) : Prop :=
  CallFix p m c cc nL s args Ts own ∧ x_K D cl dA kd AO s ∧ base ≤ s.heap.size ∧ (∀ q n f, X = some (q, n, f) → va_X q n f s s.heap ∧ q < base) ∧ (∀ (ci : Nat) (C : String) (T : u_T) (N : Nat), cl[ci]? = some (C, T, N) → (∀ w ∈ u_ws C T N, w ∈ Ts) ∧ (∀ a, a < N → ∀ b, b < N → a ≠ b → (T a).2.1 ≠ (T b).2.1) ∧ ∃ ty : Nat → FieldType, ∀ k, k < N → parseFieldDescriptor (T k).2.2.1 = some (ty k))
set_option maxHeartbeats 4000000 in
set_option maxRecDepth 100000 in
theorem x_ins_W {i : Jvm.ClassFile.Instr} {len : Nat} {a b : xS} (F : x_F p m meth c cc nL s args Ts own D cl dA kd AO X base) (hdg : decode cc a.1 = .ok (i, len)) (hi : x_ins cl kd Ts AO X base own meth.name nL i len a b) (hR : x_R D cl dA base s0 nL s H locs cells slots ls a.2.1 a.2.2.2) (hrc : base + b.2.2.2.length ≤ s.heap.size + R.cells) (hrs : x_sl b.2.2.2 ≤ s0 + R.slots)
    (kk : ∀ (H1 : Heap) (locs1 : List Loc) (cells1 slots1 : Nat) (ls1 : Array Slot), x_R D cl dA base s0 nL s H1 locs1 cells1 slots1 ls1 b.2.1 b.2.2.2 → W p l e R s m args below meth c H1 locs1 cells1 slots1 Q (F0 m b.1 ls1 b.2.2.1)) : W p l e R s m args below meth c H locs cells slots Q (F0 m a.1 ls a.2.2.1) := by
  obtain ⟨⟨hx, hb, hml, hown, hts⟩, hK, hbs, hX, hcl⟩ := F
  obtain ⟨pc, L, st, h⟩ := a
  dsimp only at hdg hi hR hrc hrs ⊢
  have hR0 := hR
  obtain ⟨hP, hS, hc, hsl, hl⟩ := hR
  have hD := x_D dA base h
  have hA : ∀ q : Nat, s.heap.size ≤ q → (fun q => base ≤ q) q := fun q hq => Nat.le_trans hbs hq
  have hK1 := hK.1
  cases i with
  | aconst_null =>
    obtain ⟨rfl, rfl⟩ := hi
    exact lv_null hx hb hdg (kk _ _ _ _ _ hR0)
  | iconst n =>
    obtain ⟨rfl, rfl⟩ := hi
    exact lv_iconst hx hb hdg rfl (kk _ _ _ _ _ hR0)
  | bipush n =>
    obtain ⟨rfl, rfl⟩ := hi
    exact lv_bipush hx hb hdg rfl (kk _ _ _ _ _ hR0)
  | sipush n =>
    obtain ⟨rfl, rfl⟩ := hi
    exact lv_sipush hx hb hdg rfl (kk _ _ _ _ _ hR0)
  | lconst n =>
    obtain ⟨rfl, rfl⟩ := hi
    exact lv_lconst hx hb hdg rfl (kk _ _ _ _ _ hR0)
  | ldc idx =>
    obtain ⟨rfl, v, hv, rfl⟩ := hi
    exact lv_ldc hx hb hown (hts _ hv) hdg (kk _ _ _ _ _ hR0)
  | ldc2_w idx =>
    obtain ⟨rfl, v, hv, rfl⟩ := hi
    exact lv_ldc2 hx hb hown (hts _ hv) hdg (kk _ _ _ _ _ hR0)
  | iload j =>
    obtain ⟨rfl, x, hm, rfl⟩ := hi
    exact lv_iload hx hb hdg (hl.2.2 _ hm) (kk _ _ _ _ _ hR0)
  | iload_n j =>
    obtain ⟨rfl, x, hm, rfl⟩ := hi
    exact lv_iload_n hx hb hdg rfl (hl.2.2 _ hm) (kk _ _ _ _ _ hR0)
  | lload j =>
    obtain ⟨rfl, x, hm, rfl⟩ := hi
    exact lv_lload hx hb hdg (hl.2.2 _ hm) (kk _ _ _ _ _ hR0)
  | lload_n j =>
    obtain ⟨rfl, x, hm, rfl⟩ := hi
    exact lv_lload_n hx hb hdg rfl (hl.2.2 _ hm) (kk _ _ _ _ _ hR0)
  | aload j =>
    obtain ⟨rfl, x, hm, rfl⟩ := hi
    cases x with
    | none => exact lv_aloadN hx hb hdg (hl.2.2 _ hm) (kk _ _ _ _ _ hR0)
    | some q => exact lv_aload hx hb hdg (hl.2.2 _ hm) (kk _ _ _ _ _ hR0)
  | aload_n j =>
    obtain ⟨rfl, x, hm, rfl⟩ := hi
    cases x with
    | none => exact lv_aload_nN hx hb hdg rfl (hl.2.2 _ hm) (kk _ _ _ _ _ hR0)
    | some q => exact lv_aload_n hx hb hdg rfl (hl.2.2 _ hm) (kk _ _ _ _ _ hR0)
  | istore j =>
    obtain ⟨rfl, hn, x, r, rfl, rfl⟩ := hi
    exact lv_istore hx hb hdg hl hn rfl (fun ls' h' => kk _ _ _ _ _ ⟨hP, hS, hc, hsl, h'⟩)
  | istore_n j =>
    obtain ⟨rfl, hn, x, r, rfl, rfl⟩ := hi
    exact lv_istore_n hx hb hdg rfl hl hn rfl (fun ls' h' => kk _ _ _ _ _ ⟨hP, hS, hc, hsl, h'⟩)
  | lstore j =>
    obtain ⟨rfl, hn, x, r, rfl, rfl⟩ := hi
    exact lv_lstore hx hb hdg hl hn rfl (fun ls' h' => kk _ _ _ _ _ ⟨hP, hS, hc, hsl, h'⟩)
  | lstore_n j =>
    obtain ⟨rfl, hn, x, r, rfl, rfl⟩ := hi
    exact lv_lstore_n hx hb hdg rfl hl hn rfl (fun ls' h' => kk _ _ _ _ _ ⟨hP, hS, hc, hsl, h'⟩)
  | astore j =>
    obtain ⟨rfl, hn, x, r, rfl, rfl⟩ := hi
    cases x with
    | none => exact lv_astoreN hx hb hdg hl hn rfl (fun ls' h' => kk _ _ _ _ _ ⟨hP, hS, hc, hsl, h'⟩)
    | some q => exact lv_astore hx hb hdg hl hn rfl (fun ls' h' => kk _ _ _ _ _ ⟨hP, hS, hc, hsl, h'⟩)
  | astore_n j =>
    obtain ⟨rfl, hn, x, r, rfl, rfl⟩ := hi
    cases x with
    | none => exact lv_astore_nN hx hb hdg rfl hl hn rfl (fun ls' h' => kk _ _ _ _ _ ⟨hP, hS, hc, hsl, h'⟩)
    | some q => exact lv_astore_n hx hb hdg rfl hl hn rfl (fun ls' h' => kk _ _ _ _ _ ⟨hP, hS, hc, hsl, h'⟩)
  | iinc j n =>
    obtain ⟨rfl, hn, x, hm, rfl⟩ := hi
    obtain ⟨k9, hk9⟩ := List.mem_iff_getElem?.mp hm
    exact lv_iinc hx hb hdg hl hk9 rfl hn rfl (fun ls' h' => kk _ _ _ _ _ ⟨hP, hS, hc, hsl, h'⟩)
  | iadd =>
    obtain ⟨rfl, x, y, r, rfl, rfl⟩ := hi
    exact lv_iadd hx hb hdg (kk _ _ _ _ _ hR0)
  | isub =>
    obtain ⟨rfl, x, y, r, rfl, rfl⟩ := hi
    exact lv_isub hx hb hdg (kk _ _ _ _ _ hR0)
  | imul =>
    obtain ⟨rfl, x, y, r, rfl, rfl⟩ := hi
    exact lv_imul hx hb hdg (kk _ _ _ _ _ hR0)
  | iand =>
    obtain ⟨rfl, x, y, r, rfl, rfl⟩ := hi
    exact lv_iand hx hb hdg (kk _ _ _ _ _ hR0)
  | ior =>
    obtain ⟨rfl, x, y, r, rfl, rfl⟩ := hi
    exact lv_ior hx hb hdg (kk _ _ _ _ _ hR0)
  | ixor =>
    obtain ⟨rfl, x, y, r, rfl, rfl⟩ := hi
    exact lv_ixor hx hb hdg (kk _ _ _ _ _ hR0)
  | ishl =>
    obtain ⟨rfl, x, y, r, rfl, rfl⟩ := hi
    exact lv_ishl hx hb hdg (kk _ _ _ _ _ hR0)
  | ishr =>
    obtain ⟨rfl, x, y, r, rfl, rfl⟩ := hi
    exact lv_ishr hx hb hdg (kk _ _ _ _ _ hR0)
  | iushr =>
    obtain ⟨rfl, x, y, r, rfl, rfl⟩ := hi
    exact lv_iushr hx hb hdg rfl (kk _ _ _ _ _ hR0)
  | idiv =>
    obtain ⟨rfl, x, y, r, h0, rfl, rfl⟩ := hi
    exact lv_idiv hx hb hdg h0 (kk _ _ _ _ _ hR0)
  | irem =>
    obtain ⟨rfl, x, y, r, h0, rfl, rfl⟩ := hi
    exact lv_irem hx hb hdg h0 (kk _ _ _ _ _ hR0)
  | ineg =>
    obtain ⟨rfl, x, r, rfl, rfl⟩ := hi
    exact lv_ineg hx hb hdg (kk _ _ _ _ _ hR0)
  | ladd =>
    obtain ⟨rfl, x, y, r, rfl, rfl⟩ := hi
    exact lv_ladd hx hb hdg (kk _ _ _ _ _ hR0)
  | lsub =>
    obtain ⟨rfl, x, y, r, rfl, rfl⟩ := hi
    exact lv_lsub hx hb hdg (kk _ _ _ _ _ hR0)
  | lmul =>
    obtain ⟨rfl, x, y, r, rfl, rfl⟩ := hi
    exact lv_lmul hx hb hdg (kk _ _ _ _ _ hR0)
  | land =>
    obtain ⟨rfl, x, y, r, rfl, rfl⟩ := hi
    exact lv_land hx hb hdg (kk _ _ _ _ _ hR0)
  | lor =>
    obtain ⟨rfl, x, y, r, rfl, rfl⟩ := hi
    exact lv_lor hx hb hdg (kk _ _ _ _ _ hR0)
  | lxor =>
    obtain ⟨rfl, x, y, r, rfl, rfl⟩ := hi
    exact lv_lxor hx hb hdg (kk _ _ _ _ _ hR0)
  | lshl =>
    obtain ⟨rfl, x, y, r, rfl, rfl⟩ := hi
    exact lv_lshl hx hb hdg rfl (kk _ _ _ _ _ hR0)
  | lshr =>
    obtain ⟨rfl, x, y, r, rfl, rfl⟩ := hi
    exact lv_lshr hx hb hdg rfl (kk _ _ _ _ _ hR0)
  | lushr =>
    obtain ⟨rfl, x, y, r, rfl, rfl⟩ := hi
    exact lv_lushr hx hb hdg rfl (kk _ _ _ _ _ hR0)
  | ldiv =>
    obtain ⟨rfl, x, y, r, h0, rfl, rfl⟩ := hi
    exact lv_ldiv hx hb hdg h0 (kk _ _ _ _ _ hR0)
  | lrem =>
    obtain ⟨rfl, x, y, r, h0, rfl, rfl⟩ := hi
    exact lv_lrem hx hb hdg h0 (kk _ _ _ _ _ hR0)
  | lneg =>
    obtain ⟨rfl, x, r, rfl, rfl⟩ := hi
    exact lv_lneg hx hb hdg (kk _ _ _ _ _ hR0)
  | lcmp =>
    obtain ⟨rfl, x, y, r, rfl, rfl⟩ := hi
    exact W.lcmp hx hb hdg (kk _ _ _ _ _ hR0)
  | i2l =>
    obtain ⟨rfl, x, r, rfl, rfl⟩ := hi
    exact lv_i2l hx hb hdg rfl (kk _ _ _ _ _ hR0)
  | l2i =>
    obtain ⟨rfl, x, r, rfl, rfl⟩ := hi
    exact lv_l2i hx hb hdg rfl (kk _ _ _ _ _ hR0)
  | i2c =>
    obtain ⟨rfl, x, r, rfl, rfl⟩ := hi
    exact lv_i2c hx hb hdg rfl (kk _ _ _ _ _ hR0)
  | dup =>
    obtain ⟨rfl, v, r, h1, rfl, rfl⟩ := hi
    exact lv_dup hx hb hdg h1 (kk _ _ _ _ _ hR0)
  | dup2 =>
    obtain ⟨rfl, v, w, r, h1, h2, rfl, rfl⟩ := hi
    exact lv_dup2_11 hx hb hdg h1 h2 (kk _ _ _ _ _ hR0)
  | dup_x1 =>
    obtain ⟨rfl, v, w, r, h1, h2, rfl, rfl⟩ := hi
    exact lv_dup_x1 hx hb hdg h1 h2 (kk _ _ _ _ _ hR0)
  | pop =>
    obtain ⟨rfl, v, r, h1, rfl, rfl⟩ := hi
    exact lv_pop hx hb hdg h1 (kk _ _ _ _ _ hR0)
  | pop2 =>
    obtain ⟨rfl, v, r, h1, rfl, rfl⟩ := hi
    exact lv_pop2_2 hx hb hdg h1 (kk _ _ _ _ _ hR0)
  | ifCond cn off =>
    obtain ⟨rfl, x, r, tgt, rfl, ht, hh⟩ := hi
    have kt : x_c0 cn x → W p l e R s m args below meth c H locs cells slots Q (F0 m tgt ls r) := fun hc0 => by
      rcases hh with ⟨-, rfl⟩ | ⟨hn, -⟩
      · exact kk _ _ _ _ _ hR0
      · exact absurd hc0 hn
    have kf : ¬ x_c0 cn x → W p l e R s m args below meth c H locs cells slots Q (F0 m (pc + 3) ls r) := fun hc0 => by
      rcases hh with ⟨hn, -⟩ | ⟨-, rfl⟩
      · exact absurd hn hc0
      · exact kk _ _ _ _ _ hR0
    cases cn with
    | eq => exact lv_if_eq hx hb hdg ht kt kf
    | ne => exact lv_if_ne hx hb hdg ht kt (fun q => kf (fun z => z q))
    | lt => exact lv_if_lt hx hb hdg ht kt kf
    | ge => exact lv_if_ge hx hb hdg ht kt kf
    | gt => exact lv_if_gt hx hb hdg ht kt kf
    | le => exact lv_if_le hx hb hdg ht kt kf
  | if_icmp cn off =>
    obtain ⟨rfl, x, y, r, tgt, rfl, ht, hh⟩ := hi
    have kt : x_c2 cn x y → W p l e R s m args below meth c H locs cells slots Q (F0 m tgt ls r) := fun hc0 => by
      rcases hh with ⟨-, rfl⟩ | ⟨hn, -⟩
      · exact kk _ _ _ _ _ hR0
      · exact absurd hc0 hn
    have kf : ¬ x_c2 cn x y → W p l e R s m args below meth c H locs cells slots Q (F0 m (pc + 3) ls r) := fun hc0 => by
      rcases hh with ⟨hn, -⟩ | ⟨-, rfl⟩
      · exact absurd hn hc0
      · exact kk _ _ _ _ _ hR0
    cases cn with
    | eq => exact lv_icmp_eq hx hb hdg ht kt kf
    | ne => exact lv_icmp_ne hx hb hdg ht kt (fun q => kf (fun z => z q))
    | lt => exact lv_icmp_lt hx hb hdg ht kt kf
    | ge => exact lv_icmp_ge hx hb hdg ht kt kf
    | gt => exact lv_icmp_gt hx hb hdg ht kt kf
    | le => exact lv_icmp_le hx hb hdg ht kt kf
  | ifnull off =>
    obtain ⟨rfl, v, r, tgt, rfl, ht, hh⟩ := hi
    cases v with
    | none =>
      rcases hh with ⟨-, rfl⟩ | ⟨hn, -⟩
      · exact lv_ifnullN hx hb hdg ht (kk _ _ _ _ _ hR0)
      · exact absurd rfl hn
    | some q =>
      rcases hh with ⟨hn, -⟩ | ⟨-, rfl⟩
      · cases hn
      · exact lv_ifnull hx hb hdg (kk _ _ _ _ _ hR0)
  | ifnonnull off =>
    obtain ⟨rfl, v, r, tgt, rfl, ht, hh⟩ := hi
    cases v with
    | none =>
      rcases hh with ⟨hn, -⟩ | ⟨-, rfl⟩
      · exact absurd rfl hn
      · exact lv_ifnonnullN hx hb hdg (kk _ _ _ _ _ hR0)
    | some q =>
      rcases hh with ⟨-, rfl⟩ | ⟨hn, -⟩
      · exact lv_ifnonnull hx hb hdg ht (kk _ _ _ _ _ hR0)
      · cases hn
  | goto off =>
    obtain ⟨rfl, tgt, ht, rfl⟩ := hi
    exact lv_goto hx hb hdg ht (kk _ _ _ _ _ hR0)
  | tableswitch dflt lo hi2 offs =>
    obtain ⟨x, r, tgt, rfl, rfl, hh⟩ := hi
    rcases hh with ⟨h1, ht⟩ | ⟨h1, h2, off, h3, ht⟩
    · exact lv_tableOut hx hb hdg h1 ht (kk _ _ _ _ _ hR0)
    · exact lv_tableIn hx hb hdg h1 h2 h3 ht (kk _ _ _ _ _ hR0)
  | lookupswitch dflt ps =>
    obtain ⟨x, r, tgt, rfl, rfl, h1, ht⟩ := hi
    exact lv_lookup hx hb hdg h1 rfl ht (kk _ _ _ _ _ hR0)
  | getfield idx =>
    obtain ⟨rfl, ci, k, C, T, N, q, fs, v, r, ⟨h1, h2, h3⟩, rfl, h4, h5, rfl⟩ := hi
    rcases h3 with h3 | ⟨host, h3⟩
    · exact va_get hx hb hts (hcl _ _ _ _ h1).1 hown hK1 hP q (x_W_get h4) h1 k h2 (hts _ h3) (fun _ z => z) h5 hdg (kk _ _ _ _ _ hR0)
    · exact va_getN hx hb hts (hcl _ _ _ _ h1).1 hown hK1 hP q (x_W_get h4) h1 k h2 (va_Nw.use rfl (hK.2 _ h3)) (fun _ z => z) h5 hdg (kk _ _ _ _ _ hR0)
  | putfield idx =>
    obtain ⟨rfl, ci, k, C, T, N, q, fs, v, r, ty, ⟨h1, h2, h3⟩, rfl, h4, h5, h6, h7, h8, h9, rfl⟩ := hi
    obtain ⟨hin, hnm, ty0, hty⟩ := hcl _ _ _ _ h1
    have fin : ∀ (H1 : Heap) (locs1 : List Loc), va_P D cl ((x_W dA base h).set q (base + q, .inr (ci, fs.set k v))) H1 → va_D (fun q => base ≤ q) ((x_W dA base h).set q (base + q, .inr (ci, fs.set k v))) → va_S (fun q => base ≤ q) s.heap H1 locs1 → W p l e R s m args below meth c H1 locs1 cells slots Q (F0 m (pc + 3) ls r) := fun H1 locs1 g1 _ g3 => by
      have e1 := x_W_set dA base h q (.inr (ci, fs.set k v))
      rw [show ((x_W dA base h).set q (base + q, .inr (ci, fs.set k v))) = x_W dA base (h.set q (.inr (ci, fs.set k v))) from e1] at g1
      exact kk H1 locs1 cells slots ls ⟨g1, g3, (show base + (h.set q _).length = _ by rw [List.length_set]; exact hc), (x_sl_set (h := h) h4 (by simp [x_n])).trans hsl, hl⟩
    rcases h9 with h9 | ⟨h9, h10, h11, h12⟩
    · rcases h3 with h3 | ⟨host, h3⟩
      · exact va_put hx hb hts hin ty0 hty hnm hown hK1 hP hD hS q (x_W_get h4) h1 k h2 (hts _ h3) (fun _ z => z) h9 h6 h7 h8 h5 hdg fin
      · exact va_putN hx hb hts hin ty0 hty hnm hown hK1 hP hD hS q (x_W_get h4) h1 k h2 (va_Nw.use rfl (hK.2 _ h3)) (fun _ z => z) h9 h6 h7 h8 h5 hdg fin
    · exact va_putF hx hb hts hin ty0 hty hnm hown hK1 hP hD hS q (x_W_get h4) h1 k h2 (hts _ h12) (fun _ z => z) h9 h10 h11 h6 h7 h8 h5 hdg fin
  | iaload =>
    obtain ⟨rfl, x, r, hh⟩ := hi
    rcases hh with ⟨q, k, n, f, h1, h2, rfl, h4, rfl⟩ | ⟨q, n, f, h1, h2, rfl, rfl⟩
    · exact va_iald hx hb hK1 hP q k (x_W_get h4) (x_kd h1) h2 hdg (kk _ _ _ _ _ hR0)
    · obtain ⟨g1, g2⟩ := hX _ _ _ h1
      exact va_sld hx hb g1 (Nat.lt_of_lt_of_le g2 hbs) (Nat.not_le.mpr g2) hS h2 hdg (kk _ _ _ _ _ hR0)
  | baload =>
    obtain ⟨rfl, x, r, q, k, n, f, h1, h2, rfl, h4, rfl⟩ := hi
    exact va_zald hx hb hK1 hP q k (x_W_get h4) (x_kd h1) h2 hdg (kk _ _ _ _ _ hR0)
  | laload =>
    obtain ⟨rfl, x, r, q, k, n, f, h1, h2, rfl, h4, rfl⟩ := hi
    exact va_lald hx hb hK1 hP q k (x_W_get h4) (x_kd h1) h2 hdg (kk _ _ _ _ _ hR0)
  | aaload =>
    obtain ⟨rfl, x, r, q, k, n, f, ty, h1, h1b, h2, rfl, h4, rfl⟩ := hi
    have hlt : x.toNatClampNeg < n := Nat.not_le.mp fun z => h2 (Or.inr z)
    exact W.aald (v := va_rf (f x.toNatClampNeg)) (ty := ty) hx hb (hP q _ (x_W_get h4)) ((hK1.2 k _ (x_kd h1)).1 n (fun j => va_rf (f j))) h1b (fun z => by cases z) (by show ¬ (x < 0 ∨ (arrV _ _ _).slots.size ≤ _); rw [arrV_size]; exact h2) (by show (arrV _ _ _).slots[_]? = _; rw [arrV_read _ _ hlt]) rfl rfl hdg (kk _ _ _ _ _ hR0)
  | iastore =>
    obtain ⟨rfl, x, v, r, q, k, n, f, h1, h2, rfl, h4, rfl⟩ := hi
    refine va_iast hx hb hK1 hP hD hS q k (x_W_get h4) (x_kd h1) h2 hdg (fun H1 locs1 g1 _ g3 => ?_)
    have e1 := x_W_set dA base h q (.inl (k, n, .inl (upd f x.toNatClampNeg v)))
    rw [show ((x_W dA base h).set q (base + q, .inl (dA k, n, .inl (upd f x.toNatClampNeg v)))) = _ from e1] at g1
    exact kk H1 locs1 cells slots ls ⟨g1, g3, (show base + (h.set q _).length = _ by rw [List.length_set]; exact hc), (x_sl_set (h := h) h4 (by simp [x_n])).trans hsl, hl⟩
  | bastore =>
    obtain ⟨rfl, x, v, r, q, k, n, f, h1, h2, rfl, h4, rfl⟩ := hi
    refine va_zast hx hb hK1 hP hD hS q k (x_W_get h4) (x_kd h1) h2 hdg (fun H1 locs1 g1 _ g3 => ?_)
    have e1 := x_W_set dA base h q (.inl (k, n, .inl (upd f x.toNatClampNeg (vp_nar .boolean v))))
    rw [show ((x_W dA base h).set q (base + q, .inl (dA k, n, .inl (upd f x.toNatClampNeg (vp_nar .boolean v))))) = _ from e1] at g1
    exact kk H1 locs1 cells slots ls ⟨g1, g3, (show base + (h.set q _).length = _ by rw [List.length_set]; exact hc), (x_sl_set (h := h) h4 (by simp [x_n])).trans hsl, hl⟩
  | lastore =>
    obtain ⟨rfl, x, v, r, q, k, n, f, h1, h2, rfl, h4, rfl⟩ := hi
    refine va_last hx hb hK1 hP hD hS q k (x_W_get h4) (x_kd h1) h2 hdg (fun H1 locs1 g1 _ g3 => ?_)
    have e1 := x_W_set dA base h q (.inl (k, n, .inr (.inl (vp_updL f x.toNatClampNeg v))))
    rw [show ((x_W dA base h).set q (base + q, .inl (dA k, n, .inr (.inl (vp_updL f x.toNatClampNeg v))))) = _ from e1] at g1
    exact kk H1 locs1 cells slots ls ⟨g1, g3, (show base + (h.set q _).length = _ by rw [List.length_set]; exact hc), (x_sl_set (h := h) h4 (by simp [x_n])).trans hsl, hl⟩
  | aastore =>
    obtain ⟨rfl, x, v, r, q, k, n, f, h2, rfl, h4, rfl, hh⟩ := hi
    have fin : ∀ (H1 : Heap) (locs1 : List Loc), va_P D cl ((x_W dA base h).set q (base + q, .inl (dA k, n, .inr (.inr (.inr (.inr (va_up f x.toNatClampNeg (some (base + v))))))))) H1 → va_D (fun q => base ≤ q) ((x_W dA base h).set q (base + q, .inl (dA k, n, .inr (.inr (.inr (.inr (va_up f x.toNatClampNeg (some (base + v))))))))) → va_S (fun q => base ≤ q) s.heap H1 locs1 → W p l e R s m args below meth c H1 locs1 cells slots Q (F0 m (pc + 1) ls r) := fun H1 locs1 g1 _ g3 => by
      have e1 := x_W_set dA base h q (.inl (k, n, .inr (.inr (.inr (.inr (va_up f x.toNatClampNeg (some (base + v))))))))
      rw [show ((x_W dA base h).set q (base + q, .inl (dA k, n, .inr (.inr (.inr (.inr (va_up f x.toNatClampNeg (some (base + v))))))))) = _ from e1] at g1
      exact kk H1 locs1 cells slots ls ⟨g1, g3, (show base + (h.set q _).length = _ by rw [List.length_set]; exact hc), (x_sl_set (h := h) h4 (by simp [x_n])).trans hsl, hl⟩
    rcases hh with ⟨ci, fs, C, T, N, h1, h1b, h5⟩ | ⟨k2, z, h1, h1b, h6, h5⟩
    · exact va_astq hx hb hK1 hP hD hS q k v ci (x_W_get h4) (r := (C, T, N)) (x_kd h1) (x_W_get h5) h1b h2 hdg fin
    · obtain ⟨comp, c9, kA, f1, -, f3, f4, f5⟩ := x_overA0 (hK.2 _ h6)
      have a1 : s.vm.findClass ("[" ++ (FieldType.array .int).toString) = some (dA k) := (hK1.2 k _ (x_kd h1)).2
      have a2 : s.vm.findClass (FieldType.array .int).toString = some (dA k2) := (hK1.2 k2 _ (x_kd h1b)).2
      have e9 : c9 = dA k := Option.some.inj (f5.symm.trans a1)
      have e8 : comp = dA k2 := Option.some.inj (f1.symm.trans a2)
      subst e9; subst e8
      obtain ⟨-, kc, hkc, -⟩ := (hK1.2 k2 _ (x_kd h1b)).1 0 (fun _ => .int 0)
      have hlt : x.toNatClampNeg < n := Nat.not_le.mp fun z => h2 (Or.inr z)
      have hcv : ∃ cv : Cell, H[base + v]? = some cv ∧ cv.cls = dA k2 ∧ cv.vm = .none := by
        have g := hP v _ (x_W_get h5)
        refine ⟨_, g, ?_, ?_⟩
        · obtain ⟨zn, zc⟩ := z
          rcases zc with a | a | a | a | a <;> rfl
        · obtain ⟨zn, zc⟩ := z
          rcases zc with a | a | a | a | a <;> rfl
      obtain ⟨cv, v1, v2, v3⟩ := hcv
      refine W.aast hx hb (hP q _ (x_W_get h4)) (fun q h => by cases h) (fun h => by cases h) f3 f4 rfl hkc ⟨fun z => h2 (Or.inl z), by show _ < (arrV _ _ _).slots.size; rw [arrV_size]; exact hlt⟩ v1 (fun q h => by rw [v3] at h; cases h) (by rw [v2]; exact hkc) (by rw [v2]; show Vm.assignableAux _ (255 + 1) _ _ = true; rw [Vm.assignableAux]; simp only [beq_self_eq_true, Bool.true_or]) rfl rfl hdg fun H1 e z9 oq => ?_
      refine fin H1 _ (hP.set hD (x_W_get h4) ?_ oq) (hD.set (x_W_get h4)) (hS.put z9 oq (hD.2 q _ (x_W_get h4)))
      show H1[base + q]? = some (vp_cell _ _)
      rw [e]
      show some ((vp_cell (dA k) (n, .inr (.inr (.inr (.inr f))))).setSlot x.toNatClampNeg (.ref (base + v))) = _
      rw [vp_cell_q, vp_cell_q, arrV_store]
      congr 2
      funext q9
      by_cases hq : q9 = x.toNatClampNeg
      · subst hq
        simp [updV, va_up, va_rf]
      · simp [updV, va_up, hq]
  | multianewarray idx dm =>
    obtain ⟨rfl, rfl, n, z, r, k, k2, h1, h2, h3, h4, h5, h6, h7, h8, h9, rfl, rfl⟩ := hi
    have hrc' : base + (h.length + 1 + n.toNatClampNeg) ≤ s.heap.size + R.cells := by
      have := hrc
      simp only [x_g, List.length_append, List.length_replicate, List.length_cons, List.length_nil] at this
      omega
    have hsum : x_sl ((h ++ [.inl (k, n.toNatClampNeg, .inr (.inr (.inr (.inr (fun i => if i < n.toNatClampNeg then some (base + h.length + 1 + i) else none)))))]) ++ List.replicate n.toNatClampNeg (.inl (k2, z.toNatClampNeg, .inl (fun _ => 0)))) = x_sl h + n.toNatClampNeg + n.toNatClampNeg * z.toNatClampNeg := by
      simp [x_sl, x_n, List.map_replicate]
      omega
    have hrs' : x_sl h + n.toNatClampNeg + n.toNatClampNeg * z.toNatClampNeg ≤ s0 + R.slots := by
      rw [← hsum]; exact hrs
    refine x_size hP hbs hS.1 hc (fun hz9 => ?_)
    intro T hT X
    obtain ⟨vm₁, cA, comp, -, fA, fC, -, -, X', step⟩ := Jvm.Stand.multianewarray2F X hx hown (hts _ h3) (hK.2 _ h4) (hts _ h5) (g := F0 m pc ls (.int z :: .int n :: r)) rfl (by rw [hb]; exact hdg) rfl h6 h7 h8 h9 (by omega) rfl rfl (by omega) (by omega)
    have a1 : s.vm.findClass ("[" ++ (FieldType.array .int).toString) = some (dA k) := (hK1.2 k _ (x_kd h1)).2
    have a2 : s.vm.findClass (FieldType.array .int).toString = some (dA k2) := (hK1.2 k2 _ (x_kd h2)).2
    have e9 : cA = dA k := Option.some.inj (fA.symm.trans a1)
    have e8 : comp = dA k2 := Option.some.inj (fC.symm.trans a2)
    subst e9; subst e8
    have hTh : (T.setVm vm₁).heap = H := hT
    generalize hF : Jvm.Free.Multi.fill (T.setVm vm₁) (dA k) (dA k2) n.toNatClampNeg z.toNatClampNeg (defaultValue .int) n.toNatClampNeg = F at X' step
    obtain ⟨b1, b2, -, -⟩ := Jvm.Free.Multi.fill_facts (T.setVm vm₁) (dA k) (dA k2) n.toNatClampNeg z.toNatClampNeg (defaultValue .int) n.toNatClampNeg
    rw [hF, hTh] at b1 b2
    have hold : ∀ x : Nat, x < H.size → F.heap[x]? = H[x]? := fun x hx9 => by
      have := Jvm.Free.Multi.fill_old (T.setVm vm₁) (dA k) (dA k2) n.toNatClampNeg z.toNatClampNeg (defaultValue .int) (a := x) (by rw [hTh]; exact hx9) n.toNatClampNeg
      rw [hF, hTh] at this
      exact this
    have hrow : ∀ j : Nat, j < n.toNatClampNeg → F.heap[H.size + 1 + j]? = some (vp_cell (dA k2) (z.toNatClampNeg, .inl (fun _ => 0))) := fun j hj => by
      have := Jvm.Free.Multi.fill_inner (T.setVm vm₁) (dA k) (dA k2) n.toNatClampNeg z.toNatClampNeg (defaultValue .int) n.toNatClampNeg j hj
      rw [hF, hTh] at this
      rw [this]
      show some ({ cls := dA k2, slots := Array.replicate z.toNatClampNeg (.int 0), vm := .none } : Cell) = _
      rw [arrV_new]
      rfl
    rw [x_outer] at b2
    have hlen : ((h ++ [.inl (k, n.toNatClampNeg, .inr (.inr (.inr (.inr (fun i => if i < n.toNatClampNeg then some (base + h.length + 1 + i) else none)))))]) ++ List.replicate n.toNatClampNeg (.inl (k2, z.toNatClampNeg, .inl (fun _ => 0))) : List xC).length = h.length + 1 + n.toNatClampNeg := by
      simp
      omega
    have hP1 : va_P D cl (x_W dA base ((h ++ [.inl (k, n.toNatClampNeg, .inr (.inr (.inr (.inr (fun i => if i < n.toNatClampNeg then some (base + h.length + 1 + i) else none)))))]) ++ List.replicate n.toNatClampNeg (.inl (k2, z.toNatClampNeg, .inl (fun _ => 0))))) F.heap := by
      intro i q hq
      rw [x_W_at] at hq
      obtain ⟨e9, he9, rfl⟩ := Option.map_eq_some_iff.mp hq
      rcases Nat.lt_trichotomy i h.length with hi | hi | hi
      · rw [List.append_assoc, List.getElem?_append_left hi] at he9
        have g := hP i _ (x_W_get he9)
        exact g.kept (hold _ g.lt)
      · subst hi
        rw [List.append_assoc, List.getElem?_append_right (Nat.le_refl _), Nat.sub_self] at he9
        cases he9
        show F.heap[base + h.length]? = some (vp_cell _ _)
        rw [← hz9, b2, vp_cell_q, hz9]
      · have hil : i < h.length + 1 + n.toNatClampNeg := by rw [← hlen]; exact (List.getElem?_eq_some_iff.mp he9).1
        rw [List.getElem?_append_right (by simp; omega), List.length_append, List.length_singleton, List.getElem?_replicate, if_pos (by omega)] at he9
        cases he9
        have g := hrow (i - (h.length + 1)) (by omega)
        rw [show H.size + 1 + (i - (h.length + 1)) = base + i by omega] at g
        exact g
    obtain ⟨t9, g1, g2⟩ := kk F.heap locs (cells + 1 + n.toNatClampNeg) (slots + n.toNatClampNeg + n.toNatClampNeg * z.toNatClampNeg) ls ⟨hP1, ⟨Nat.le_trans hS.1 (by rw [b1]; omega), fun q hq1 hq2 => (hold q (Nat.lt_of_lt_of_le hq1 hS.1)).trans (hS.2.1 q hq1 hq2), hS.2.2⟩, ((congrArg (fun q => base + q) hlen).trans (by show base + (h.length + 1 + n.toNatClampNeg) = _; omega)), (hsum.trans (by omega)), hl⟩ F rfl X'
    refine ⟨t9, step t9 ?_, g2⟩
    rw [hT, hz9]
    exact g1
  | arraylength =>
    obtain ⟨rfl, r, hh⟩ := hi
    rcases hh with ⟨q, k, x, h1, rfl, h4, rfl⟩ | ⟨q, n, f, h1, rfl, rfl⟩
    · exact va_alen hx hb hK1 hP q k (x_W_get h4) (x_kd (List.getElem?_eq_getElem h1)) rfl hdg (kk _ _ _ _ _ hR0)
    · obtain ⟨g1, g2⟩ := hX _ _ _ h1
      exact va_slen hx hb g1 (Nat.lt_of_lt_of_le g2 hbs) (Nat.not_le.mpr g2) hS hdg (kk _ _ _ _ _ hR0)
  | checkcast idx =>
    obtain ⟨rfl, q, k, x, r, h1, h2, rfl, h4, rfl⟩ := hi
    have hnm : s.vm.findClass "[I" = some (dA k) := (hK1.2 k _ (x_kd h1)).2
    exact va_castA hx hb hown (hts _ h2) hP q (x_W_get h4) hnm hdg (kk _ _ _ _ _ hR0)
  | new idx =>
    obtain ⟨rfl, ci, C, T, N, ty, h1, h2, h3, h4, h5, rfl⟩ := hi
    have hrc' : base + (h.length + 1) ≤ s.heap.size + R.cells := by simpa [x_g] using hrc
    have hrs' : x_sl h + N ≤ s0 + R.slots := by simpa [x_g, x_sl_app, x_n] using hrs
    refine va_new hx hb hts (hcl _ _ _ _ h1).1 ty h2 hown (hts _ h3) (hts _ h4) (hts _ h5) hK1 hP hD hS hA h1 (fs := (List.range N).map (fun k => defaultValue (ty k))) (fun j hj => by simp [vp_V, hj]) (by omega) (by omega) hdg (fun q H1 g1 g2 g3 => ?_)
    refine x_fresh g1 g2 hc (fun eq => ?_)
    subst eq
    have e1 := x_W_app dA base h (.inr (ci, (List.range N).map (fun k => defaultValue (ty k))))
    rw [show x_W dA base h ++ [(base + h.length, .inr (ci, (List.range N).map (fun k => defaultValue (ty k))))] = _ from e1] at g1
    exact kk H1 locs (cells + 1) (slots + N) ls ⟨g1, g3, by simp [x_g]; omega, by simp [x_g, x_sl_app, x_n]; omega, hl⟩
  | newarray aty =>
    obtain ⟨rfl, n, r, k, z, h1, h2, h3, h4, h5, rfl, rfl⟩ := hi
    have hrc' : base + (h.length + 1) ≤ s.heap.size + R.cells := by simpa [x_g] using hrc
    have hrs' : x_sl h + n.toNatClampNeg ≤ s0 + R.slots := by simpa [x_g, x_sl_app, x_n] using hrs
    refine va_newa hx hb (hts _ h2) rfl hK1 hP hD hS hA (a0 := (n.toNatClampNeg, z)) h5.1 h3 rfl h4 (by omega) (by omega) hdg (fun q cA H1 g0 g1 g2 g3 => ?_)
    refine x_fresh g1 g2 hc (fun eq => ?_)
    subst eq
    have e0 : cA = dA k := by
      have a1 := (g0.2 kd.length (cA, Jvm.Op.newarray.typeOf aty) (by rw [List.getElem?_append_right (by simp)]; simp)).2
      have a2 := (hK1.2 k _ (x_kd h1)).2
      cases aty <;> exact Option.some.inj (a1.symm.trans a2)
    subst e0
    have e1 := x_W_app dA base h (.inl (k, n.toNatClampNeg, z))
    rw [show x_W dA base h ++ [(base + h.length, .inl (dA k, n.toNatClampNeg, z))] = _ from e1] at g1
    exact kk H1 locs (cells + 1) (slots + n.toNatClampNeg) ls ⟨g1, g3, by simp [x_g]; omega, by simp [x_g, x_sl_app, x_n]; omega, hl⟩
  | anewarray idx =>
    obtain ⟨rfl, n, r, k, C, h1, h2, h3, h4, h5, rfl, rfl⟩ := hi
    have hrc' : base + (h.length + 1) ≤ s.heap.size + R.cells := by simpa [x_g] using hrc
    have hrs' : x_sl h + n.toNatClampNeg ≤ s0 + R.slots := by simpa [x_g, x_sl_app, x_n] using hrs
    refine va_newq hx hb hown (hts _ h2) (show va_AO C s from hK.2 _ h3) hK1 hP hD hS hA h4 rfl h5 (by omega) (by omega) hdg (fun q cA H1 g0 g1 g2 g3 => ?_)
    refine x_fresh g1 g2 hc (fun eq => ?_)
    subst eq
    have e0 : cA = dA k := by
      obtain ⟨kA, comp, -, -, -, a1⟩ := (g0.2 kd.length (cA, .object C) (by rw [List.getElem?_append_right (by simp)]; simp)).2
      obtain ⟨kA2, comp2, -, -, -, a2⟩ := (hK1.2 k _ (x_kd h1)).2
      exact Option.some.inj (a1.symm.trans a2)
    subst e0
    have e1 := x_W_app dA base h (.inl (k, n.toNatClampNeg, .inr (.inr (.inr (.inr (fun _ => none))))))
    rw [show x_W dA base h ++ [(base + h.length, .inl (dA k, n.toNatClampNeg, .inr (.inr (.inr (.inr (fun _ => none))))))] = _ from e1] at g1
    exact kk H1 locs (cells + 1) (slots + n.toNatClampNeg) ls ⟨g1, g3, by simp [x_g]; omega, by simp [x_g, x_sl_app, x_n]; omega, hl⟩
  | _ => exact hi.elim
end XL
