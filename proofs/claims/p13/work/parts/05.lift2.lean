/-! What the simple machine does, the real one does. -/
section XC
variable {p : Program} {l : Launch} {e : Env} {R : Room} {s : State} {m : MethodId} {args : Array Value} {below : List Frame} {meth : Method} {c : Code} {H : Heap} {locs : List Loc} {cells slots : Nat} {Q : State → Prop}
variable {pc : Nat} {ls : Array Slot} {rest st0 : List Value} {A : Nat → Prop} {H0 : Heap} {mc ms : Nat} {free : Addr → Prop}
theorem x_call {v : Option Value} {B : State → Prop} (hr : va_Run p l e R s m args below meth c H locs cells slots mc ms (F0 m pc ls st0) rest (fun st oc t => oc = .returned v ∧ B t ∧ va_F A st t) free) (hS : va_S A H0 H locs) (hf : ∀ q, free q → A q)
    (kk : ∀ (H1 : Heap) (locs1 : List Loc) (t : State), t.heap = H1 → B t → va_S A H0 H1 locs1 → W p l e R s m args below meth c H1 locs1 (cells + mc) (slots + ms) Q (F0 m (pc + 3) ls (v.toList ++ rest))) : W p l e R s m args below meth c H locs cells slots Q (F0 m pc ls st0) := by
  intro T hT X
  obtain ⟨v', st₀, t, T', L, h0, X', hL, e1, e2, ⟨hv, hB, hz, hk⟩, st⟩ := hr T hT X
  cases hv
  rw [h0] at hz hk
  obtain ⟨t2, a1, b1⟩ := kk T'.heap (locs ++ L) t e1.symm hB
    ⟨Nat.le_trans hS.1 (by rw [e1]; exact hz), fun q h1 h2 => by rw [e1, hk q (Nat.lt_of_lt_of_le h1 hS.1) h2]; exact hS.2.1 q h1 h2, fun q hq => by
      rcases List.mem_append.mp hq with h | h
      · exact hS.2.2 q h
      · exact hf _ (hL q h)⟩ T' rfl X'
  exact ⟨t2, st t2 a1, b1⟩
end XC
/-- the words a frame: every method has at most KL - 19 locals -/
def x_KL : Nat := 84
def x_Pre (sk : xK) (D : va_G) (cl : List vw_C) (dA : Nat → ClassId) (kd : List FieldType) (AO : List Cond) (base : Nat) (h : List xC) : State → Prop :=
  fun U => va_P D cl (x_W dA base h) U.heap ∧ U.heap.size = base + h.length ∧ x_K D cl dA kd AO U ∧ x_KS sk base U U.heap
def x_Qc (D : va_G) (cl : List vw_C) (dA : Nat → ClassId) (base : Nat) (r : Option Value) (h : List xC) : Array Value → State → Outcome → State → Prop :=
  fun _ st oc t => oc = .returned r ∧ va_P D cl (x_W dA base h) t.heap ∧ va_F (fun q => base ≤ q) st t
theorem x_blind {sk : xK} {D : va_G} {cl : List vw_C} {dA : Nat → ClassId} {kd : List FieldType} {AO : List Cond} {base : Nat} {h : List xC} {As : List Value} (hAO : ∀ w ∈ AO, x_mv w) : FrameBlind (va_Pc As (x_Pre sk D cl dA kd AO base h)) :=
  fun a U g mk q => ⟨q.1, q.2.1, q.2.2.1, x_K.same (u := U) (U := U.calling g mk a) hAO rfl q.2.2.2.1, x_KS.same (u := U) (U := U.calling g mk a) rfl q.2.2.2.2⟩
/-- what is asked of the tables once and for all -/
def x_Ok (cl : List vw_C) (Ts AO : List Cond) (M : xM) : Prop :=
  (GoodIn Ts Ts ∧ ∀ w ∈ AO, x_mv w) ∧ (∀ j y cc nL ret, 0 < j → M j = some (y, cc, nL, ret) → Cond.code y cc nL ret ∈ Ts ∧ plainFor y = true ∧ nL + 19 ≤ x_KL ∧ (y.name = "<init>" → ret = none)) ∧
  (∀ (ci : Nat) (C : String) (T : u_T) (N : Nat), cl[ci]? = some (C, T, N) → (∀ w ∈ u_ws C T N, w ∈ Ts) ∧ (∀ a, a < N → ∀ b, b < N → a ≠ b → (T a).2.1 ≠ (T b).2.1) ∧ ∃ ty : Nat → FieldType, ∀ k, k < N → parseFieldDescriptor (T k).2.2.1 = some (ty k))
/-- a run of the simple machine from a state, as the real machine sees it -/
def x_Body (sk : xK) (l : Launch) (D : va_G) (cl : List vw_C) (dA : Nat → ClassId) (kd : List FieldType) (Ts : List Cond) (AO : List Cond) (M : xM) (base n : Nat) : Prop :=
  ∀ (d : Nat) (X : Option (Nat × Nat × (Nat → Int32))) (j : Nat) (a : xS) (r : Option Value) (h' : List xC), x_go sk cl kd Ts AO M base n d X j a r h' →
  ∀ (p : Program) (e : Env) (R : Room) (s : State) (m : MethodId) (args : Array Value) (below : List Frame) (meth : Method) (c : Code) (Q : State → Prop) (y : MethodName) (cc : ByteArray) (nL : Nat) (ret : Option FieldType) (s0 : Nat) (H : Heap) (locs : List Loc) (cells slots : Nat) (ls : Array Slot),
  M j = some (y, cc, nL, ret) → x_F p m meth c cc nL s args Ts y.cls D cl dA kd AO X base → x_KS sk base s s.heap → meth.name = y.name → d ≤ R.frames → x_KL * d ≤ R.locals → base + h'.length ≤ s.heap.size + R.cells → x_sl h' ≤ s0 + R.slots →
  (∀ (pc : Nat) (i : Jvm.ClassFile.Instr) (len : Nat) (st : List Value) (L : xL) (H1 : Heap) (locs1 : List Loc) (cells1 slots1 : Nat) (ls1 : Array Slot), decode cc pc = .ok (i, len) → x_ret ret i len st r → x_R D cl dA base s0 nL s H1 locs1 cells1 slots1 ls1 L h' → W p l e R s m args below meth c H1 locs1 cells1 slots1 Q (F0 m pc ls1 st)) →
  x_R D cl dA base s0 nL s H locs cells slots ls a.2.1 a.2.2.2 → W p l e R s m args below meth c H locs cells slots Q (F0 m a.1 ls a.2.2.1)
section XM
variable {sk : xK} {l : Launch} {D : va_G} {cl : List vw_C} {dA : Nat → ClassId} {kd : List FieldType} {Ts : List Cond} {AO : List Cond} {M : xM} {base n : Nat}
set_option maxHeartbeats 4000000 in
set_option maxRecDepth 100000 in
theorem x_met (hOk : x_Ok cl Ts AO M) (hB : x_Body sk l D cl dA kd Ts AO M base n) {d j : Nat} {As : List Value} {h h1 : List xC} {v : Option Value} {y : MethodName} {cc : ByteArray} {nL : Nat} {ret : Option FieldType} (hg : x_go sk cl kd Ts AO M base n d none j (0, lv_args 0 As, [], h) v h1) (hj : 0 < j) (hM : M j = some (y, cc, nL, ret)) (hn : (lg_sl As).length ≤ nL) :
    Met l y (Cond.code y cc nL ret :: Ts) { frames := d, cells := h1.length - h.length, slots := x_sl h1 - x_sl h, locals := x_KL * d } (va_Pc As (x_Pre sk D cl dA kd AO base h)) (x_Qc D cl dA base v h1) (h1.length - h.length) (x_sl h1 - x_sl h) (fun q => base ≤ q) := by
  obtain ⟨hc1, hpn, hKL, -⟩ := hOk.2.1 _ _ _ _ _ hj hM
  have hle0 := x_go_le n _ _ _ _ _ _ hg
  have hle : x_le h h1 := hle0
  refine va_MetF (cc := cc) (maxL := nL) (ret := ret) hpn rfl ?_
  intro p e s m args below meth c s₁ B hml hv
  obtain ⟨rfl, hP, hz, hK, hKS⟩ := hv
  have hts := atoms_spec (ws := Cond.code y cc nL ret :: Ts) B.pre
  have hown : s.vm.findClass y.cls = some m.cls := findClass_of_methodNamed B.named
  have hlocks := B.notSynchronized
  have hnm : meth.name = y.name := (name_of_methodNamed B.named B.method).1
  have hl := lv_entry As (n := nL) hn
  rw [lg_entry_eq]
  generalize (lg_sl As ++ List.replicate (nL - (lg_sl As).length) Slot.unset).toArray = ls at hl ⊢
  refine hB d none j (0, lv_args 0 As, [], h) v h1 hg p e _ s m As.toArray below meth c _ y cc nL ret (x_sl h) s.heap [] 0 0 ls hM ⟨⟨B.exec, B.bytes, hml, hown, fun w hw => hts w (List.mem_cons_of_mem _ hw)⟩, hK, by rw [hz]; exact Nat.le_add_right _ _, (fun q n f hX => by cases hX), hOk.2.2⟩ hKS hnm (Nat.le_refl _) (Nat.le_refl _) ?_ ?_ ?_ ?_
  · show base + h1.length ≤ s.heap.size + (h1.length - h.length)
    have := hle.1
    omega
  · show x_sl h1 ≤ x_sl h + (x_sl h1 - x_sl h)
    have := hle.2
    omega
  · intro pc i len st L H1 locs1 cells1 slots1 ls1 hd hr hR
    obtain ⟨gP, gS, gc, gs, gl⟩ := hR
    have e1 : cells1 = h1.length - h.length := by omega
    have e2 : slots1 = x_sl h1 - x_sl h := by omega
    subst e1; subst e2
    have hq : ∀ t : State, t.heap = H1 → x_Qc D cl dA base v h1 As.toArray s (.returned v) t := fun t ht => ⟨rfl, by rw [ht]; exact gP, gS.F ht⟩
    have hret := B.returns
    cases i with
    | ireturn =>
      obtain ⟨rfl, x, ty, rfl, rfl, rfl, hnr⟩ := hr
      exact W.zret B.exec B.bytes hret hnr (fun t ht _ => hq t ht) gS.2.2 hd
    | lreturn =>
      obtain ⟨rfl, x, rfl, rfl, rfl⟩ := hr
      exact W.lret B.exec B.bytes hret (fun t ht _ => hq t ht) gS.2.2 hd
    | areturn =>
      obtain ⟨rfl, x, ty, rfl, rfl, rfl, hrt⟩ := hr
      exact W.aret B.exec B.bytes hret hrt (by cases x with | none => exact Or.inl rfl | some q => exact Or.inr ⟨q, rfl⟩) (fun t ht _ => hq t ht) gS.2.2 hd
    | return_ =>
      obtain ⟨rfl, rfl, rfl, rfl⟩ := hr
      exact W.vret B.exec B.bytes hret (fun t ht _ => hq t ht) gS.2.2 hd
    | _ => exact hr.elim
  · exact ⟨hP, va_S.rf, (show base + h.length = s.heap.size + 0 by omega), rfl, hl⟩
end XM
