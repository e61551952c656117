/-! Runs with an abstract state: Rel says which cells a state stands for. -/
def x_at (M : xM) (j pc : Nat) (i : Jvm.ClassFile.Instr) (len : Nat) (y : MethodName) (nL : Nat) (ret : Option FieldType) : Prop := ∃ cc, M j = some (y, cc, nL, ret) ∧ decode cc pc = .ok (i, len)
def x_get (L : xL) (j : Nat) : Option Value := (L.find? (fun q => q.1 == j)).map (fun q => q.2)
theorem x_get_mem {L : xL} {j : Nat} {v : Value} (h : x_get L j = some v) : (j, v) ∈ L := by
  unfold x_get at h
  obtain ⟨q, h1, h2⟩ := Option.map_eq_some_iff.mp h
  have h3 := List.find?_some h1
  have h4 := List.mem_of_find?_eq_some h1
  have h5 : q.1 = j := by simpa using h3
  subst h5; subst h2
  exact h4
/-- with some number of steps -/
def x_G (sk : xK) (cl : List vw_C) (kd : List FieldType) (Ts : List Cond) (AO : List Cond) (M : xM) (base d : Nat) (X : Option (Nat × Nat × (Nat → Int32))) (j : Nat) (a : xS) (r : Option Value) (h' : List xC) : Prop := ∃ n, x_go sk cl kd Ts AO M base n d X j a r h'
theorem x_go_mono {sk : xK} {cl : List vw_C} {kd : List FieldType} {Ts : List Cond} {AO : List Cond} {M : xM} {base : Nat} : ∀ (n n2 d d2 : Nat) (X : Option (Nat × Nat × (Nat → Int32))) (j : Nat) (a : xS) (r : Option Value) (h' : List xC), n ≤ n2 → d ≤ d2 → x_go sk cl kd Ts AO M base n d X j a r h' → x_go sk cl kd Ts AO M base n2 d2 X j a r h'
  | 0, _, _, _, _, _, _, _, _, _, _, h => h.elim
  | n + 1, 0, _, _, _, _, _, _, _, h1, _, _ => absurd h1 (by omega)
  | n + 1, n2 + 1, d, d2, X, j, a, r, h', h1, h2, h => by
    obtain ⟨y, cc, nL, ret, i, len, hM, hd, hh⟩ := h
    refine ⟨y, cc, nL, ret, i, len, hM, hd, ?_⟩
    rcases hh with ⟨b, hi, hg⟩ | hr | ⟨d', j2, y2, cc2, nL2, ret2, As, rest, v, h1', rfl, a0, a1, a2, a3, hg1, hg2⟩ | ⟨d', b, rfl, hi, hg⟩
    · exact Or.inl ⟨b, hi, x_go_mono n n2 _ _ _ _ _ _ _ (by omega) h2 hg⟩
    · exact Or.inr (Or.inl hr)
    · obtain ⟨e, rfl⟩ : ∃ e, d2 = e + 1 := ⟨d2 - 1, by omega⟩
      exact Or.inr (Or.inr (Or.inl ⟨e, j2, y2, cc2, nL2, ret2, As, rest, v, h1', rfl, a0, a1, a2, a3, x_go_mono n n2 _ _ _ _ _ _ _ (by omega) (by omega) hg1, x_go_mono n n2 _ _ _ _ _ _ _ (by omega) h2 hg2⟩))
    · obtain ⟨e, rfl⟩ : ∃ e, d2 = e + 1 := ⟨d2 - 1, by omega⟩
      exact Or.inr (Or.inr (Or.inr ⟨e, b, rfl, hi, x_go_mono n n2 _ _ _ _ _ _ _ (by omega) h2 hg⟩))
section XWP
variable {sk : xK} {cl : List vw_C} {kd : List FieldType} {Ts : List Cond} {AO : List Cond} {M : xM} {base d : Nat} {X : Option (Nat × Nat × (Nat → Int32))} {j : Nat} {r : Option Value} {h' : List xC} {y : MethodName} {nL : Nat} {ret : Option FieldType} {i : Jvm.ClassFile.Instr} {len pc : Nat}
theorem x_G.step {L : xL} {st : List Value} {h : List xC} {b : xS} (q : x_at M j pc i len y nL ret) (hi : x_ins cl kd Ts AO X base y.cls y.name nL i len (pc, L, st, h) b) (k : x_G sk cl kd Ts AO M base d X j b r h') : x_G sk cl kd Ts AO M base d X j (pc, L, st, h) r h' := by
  obtain ⟨cc, hM, hd⟩ := q
  obtain ⟨n, hn⟩ := k
  exact ⟨n + 1, y, cc, nL, ret, i, len, hM, hd, Or.inl ⟨b, Or.inl hi, hn⟩⟩
theorem x_G.sstep {L : xL} {st : List Value} {h : List xC} {b : xS} (q : x_at M j pc i len y nL ret) (hi : x_sins sk Ts y.cls i len (pc, L, st, h) b) (k : x_G sk cl kd Ts AO M base d X j b r h') : x_G sk cl kd Ts AO M base d X j (pc, L, st, h) r h' := by
  obtain ⟨cc, hM, hd⟩ := q
  obtain ⟨n, hn⟩ := k
  exact ⟨n + 1, y, cc, nL, ret, i, len, hM, hd, Or.inl ⟨b, Or.inr hi, hn⟩⟩
theorem x_G.rt {L : xL} {st : List Value} {h : List xC} (q : x_at M j pc i len y nL ret) (hi : x_ret ret i len st r) : x_G sk cl kd Ts AO M base d X j (pc, L, st, h) r h := by
  obtain ⟨cc, hM, hd⟩ := q
  exact ⟨1, y, cc, nL, ret, i, len, hM, hd, Or.inr (Or.inl ⟨hi, rfl⟩)⟩
theorem x_G.call {L : xL} {st : List Value} {h h1 : List xC} {j2 : Nat} {y2 : MethodName} {cc2 : ByteArray} {nL2 : Nat} {ret2 : Option FieldType} {As rest : List Value} {v : Option Value} (q : x_at M j pc i len y nL ret) (hj2 : 0 < j2) (hM2 : M j2 = some (y2, cc2, nL2, ret2)) (hc : x_cal sk cl Ts AO base y.cls i len (pc, L, st, h) y2 As rest) (hl : (lg_sl As).length ≤ nL2) (k1 : x_G sk cl kd Ts AO M base d none j2 (0, lv_args 0 As, [], h) v h1) (k2 : x_G sk cl kd Ts AO M base (d + 1) X j (pc + 3, L, v.toList ++ rest, h1) r h') : x_G sk cl kd Ts AO M base (d + 1) X j (pc, L, st, h) r h' := by
  obtain ⟨cc, hM, hd⟩ := q
  obtain ⟨n1, hn1⟩ := k1
  obtain ⟨n2, hn2⟩ := k2
  exact ⟨n1 + n2 + 1, y, cc, nL, ret, i, len, hM, hd, Or.inr (Or.inr (Or.inl ⟨d, j2, y2, cc2, nL2, ret2, As, rest, v, h1, rfl, hj2, hM2, hc, hl, x_go_mono n1 _ _ _ _ _ _ _ _ (by omega) (Nat.le_refl _) hn1, x_go_mono n2 _ _ _ _ _ _ _ _ (by omega) (Nat.le_refl _) hn2⟩))⟩
theorem x_G.nat {L : xL} {st : List Value} {h : List xC} {b : xS} (q : x_at M j pc i len y nL ret) (hi : x_nat kd Ts AO base y.cls i len (pc, L, st, h) b) (k : x_G sk cl kd Ts AO M base (d + 1) X j b r h') : x_G sk cl kd Ts AO M base (d + 1) X j (pc, L, st, h) r h' := by
  obtain ⟨cc, hM, hd⟩ := q
  obtain ⟨n, hn⟩ := k
  exact ⟨n + 1, y, cc, nL, ret, i, len, hM, hd, Or.inr (Or.inr (Or.inr ⟨d, b, rfl, hi, hn⟩))⟩
theorem x_G.deep {d2 : Nat} {a : xS} (hd : d ≤ d2) (k : x_G sk cl kd Ts AO M base d X j a r h') : x_G sk cl kd Ts AO M base d2 X j a r h' := by
  obtain ⟨n, hn⟩ := k
  exact ⟨n, x_go_mono n n d d2 _ _ _ _ _ (Nat.le_refl _) hd hn⟩
end XWP
/-- from the state s a run ends, and Φ holds of its answer and of the state behind it -/
def xw {σ : Type} (sk : xK) (cl : List vw_C) (kd : List FieldType) (Ts : List Cond) (AO : List Cond) (M : xM) (base d : Nat) (X : Option (Nat × Nat × (Nat → Int32))) (Rel : σ → List xC → Prop) (j pc : Nat) (L : xL) (st : List Value) (s : σ) (Φ : Option Value → σ → Prop) : Prop :=
  ∀ h, Rel s h → ∃ r h', x_G sk cl kd Ts AO M base d X j (pc, L, st, h) r h' ∧ ∃ s', Rel s' h' ∧ Φ r s'
section XWR
variable {σ : Type} {sk : xK} {cl : List vw_C} {kd : List FieldType} {Ts : List Cond} {AO : List Cond} {M : xM} {base d : Nat} {X : Option (Nat × Nat × (Nat → Int32))} {Rel : σ → List xC → Prop} {j : Nat} {y : MethodName} {nL : Nat} {ret : Option FieldType} {len pc : Nat} {L : xL} {st : List Value} {s : σ} {Φ : Option Value → σ → Prop}
theorem xw_pu {i : Jvm.ClassFile.Instr} {pc' : Nat} {L' : xL} {st' : List Value} (q : x_at M j pc i len y nL ret) (hi : ∀ h, x_ins cl kd Ts AO X base y.cls y.name nL i len (pc, L, st, h) (pc', L', st', h)) (k : xw sk cl kd Ts AO M base d X Rel j pc' L' st' s Φ) : xw sk cl kd Ts AO M base d X Rel j pc L st s Φ := by
  intro h hR
  obtain ⟨r, h', g, k2⟩ := k h hR
  exact ⟨r, h', x_G.step q (hi h) g, k2⟩
theorem xw_su {i : Jvm.ClassFile.Instr} {pc' : Nat} {L' : xL} {st' : List Value} (q : x_at M j pc i len y nL ret) (hi : ∀ h, x_sins sk Ts y.cls i len (pc, L, st, h) (pc', L', st', h)) (k : xw sk cl kd Ts AO M base d X Rel j pc' L' st' s Φ) : xw sk cl kd Ts AO M base d X Rel j pc L st s Φ := by
  intro h hR
  obtain ⟨r, h', g, k2⟩ := k h hR
  exact ⟨r, h', x_G.sstep q (hi h) g, k2⟩
theorem xw_ret {i : Jvm.ClassFile.Instr} {r : Option Value} (q : x_at M j pc i len y nL ret) (hi : x_ret ret i len st r) (k : Φ r s) : xw sk cl kd Ts AO M base d X Rel j pc L st s Φ :=
  fun h hR => ⟨r, h, x_G.rt q hi, s, hR, k⟩
theorem xw_mono {Φ2 : Option Value → σ → Prop} (k : xw sk cl kd Ts AO M base d X Rel j pc L st s Φ) (hΦ : ∀ r s, Φ r s → Φ2 r s) : xw sk cl kd Ts AO M base d X Rel j pc L st s Φ2 := by
  intro h hR
  obtain ⟨r, h', g, s', g2, g3⟩ := k h hR
  exact ⟨r, h', g, s', g2, hΦ r s' g3⟩
theorem xw_deep {d2 : Nat} (hd : d ≤ d2) (k : xw sk cl kd Ts AO M base d X Rel j pc L st s Φ) : xw sk cl kd Ts AO M base d2 X Rel j pc L st s Φ := by
  intro h hR
  obtain ⟨r, h', g, k2⟩ := k h hR
  exact ⟨r, h', x_G.deep hd g, k2⟩
/-- a call, over what is known of the callee -/
theorem xw_call {i : Jvm.ClassFile.Instr} {j2 : Nat} {y2 : MethodName} {cc2 : ByteArray} {nL2 : Nat} {ret2 : Option FieldType} {As rest : List Value} {Φ2 : Option Value → σ → Prop} (q : x_at M j pc i len y nL ret) (hj2 : 0 < j2) (hM2 : M j2 = some (y2, cc2, nL2, ret2)) (hc : ∀ h, Rel s h → x_cal sk cl Ts AO base y.cls i len (pc, L, st, h) y2 As rest) (hl : (lg_sl As).length ≤ nL2) (k1 : xw sk cl kd Ts AO M base d none Rel j2 0 (lv_args 0 As) [] s Φ2) (k2 : ∀ v s', Φ2 v s' → xw sk cl kd Ts AO M base (d + 1) X Rel j (pc + 3) L (v.toList ++ rest) s' Φ) : xw sk cl kd Ts AO M base (d + 1) X Rel j pc L st s Φ := by
  intro h hR
  obtain ⟨v, h1, g1, s1, hR1, p1⟩ := k1 h hR
  obtain ⟨r, h', g2, k3⟩ := k2 v s1 p1 h1 hR1
  exact ⟨r, h', x_G.call q hj2 hM2 (hc h hR) hl g1 g2, k3⟩

theorem xw_null (q : x_at M j pc .aconst_null 1 y nL ret) (k : xw sk cl kd Ts AO M base d X Rel j (pc + 1) L (.null :: st) s Φ) : xw sk cl kd Ts AO M base d X Rel j pc L st s Φ :=
  xw_pu q (fun _ => ⟨rfl, rfl⟩) k
theorem xw_iconst {n : Int} (q : x_at M j pc (.iconst n) 1 y nL ret) (k : xw sk cl kd Ts AO M base d X Rel j (pc + 1) L (.int (Int32.ofInt n) :: st) s Φ) : xw sk cl kd Ts AO M base d X Rel j pc L st s Φ :=
  xw_pu q (fun _ => ⟨rfl, rfl⟩) k
theorem xw_bipush {n : Int} (q : x_at M j pc (.bipush n) 2 y nL ret) (k : xw sk cl kd Ts AO M base d X Rel j (pc + 2) L (.int (Int8.ofInt n).toInt32 :: st) s Φ) : xw sk cl kd Ts AO M base d X Rel j pc L st s Φ :=
  xw_pu q (fun _ => ⟨rfl, rfl⟩) k
theorem xw_sipush {n : Int} (q : x_at M j pc (.sipush n) 3 y nL ret) (k : xw sk cl kd Ts AO M base d X Rel j (pc + 3) L (.int (Int16.ofInt n).toInt32 :: st) s Φ) : xw sk cl kd Ts AO M base d X Rel j pc L st s Φ :=
  xw_pu q (fun _ => ⟨rfl, rfl⟩) k
theorem xw_lconst {n : Fin 2} (q : x_at M j pc (.lconst n) 1 y nL ret) (k : xw sk cl kd Ts AO M base d X Rel j (pc + 1) L (.long (Int64.ofNat (n : Nat)) :: st) s Φ) : xw sk cl kd Ts AO M base d X Rel j pc L st s Φ :=
  xw_pu q (fun _ => ⟨rfl, rfl⟩) k
theorem xw_ldc {idx : Nat} {v : Int32} (q : x_at M j pc (.ldc idx) 2 y nL ret) (hc : Cond.constant y.cls idx v ∈ Ts) (k : xw sk cl kd Ts AO M base d X Rel j (pc + 2) L (.int v :: st) s Φ) : xw sk cl kd Ts AO M base d X Rel j pc L st s Φ :=
  xw_pu q (fun _ => ⟨rfl, v, hc, rfl⟩) k
theorem xw_ldc2 {idx : Nat} {v : Int64} (q : x_at M j pc (.ldc2_w idx) 3 y nL ret) (hc : Cond.constantLong y.cls idx v ∈ Ts) (k : xw sk cl kd Ts AO M base d X Rel j (pc + 3) L (.long v :: st) s Φ) : xw sk cl kd Ts AO M base d X Rel j pc L st s Φ :=
  xw_pu q (fun _ => ⟨rfl, v, hc, rfl⟩) k
theorem xw_iload {i : Nat} {x : Int32} (q : x_at M j pc (.iload i) 2 y nL ret) (hl : x_get L i = some (.int x)) (k : xw sk cl kd Ts AO M base d X Rel j (pc + 2) L (.int x :: st) s Φ) : xw sk cl kd Ts AO M base d X Rel j pc L st s Φ :=
  xw_pu q (fun _ => ⟨rfl, x, x_get_mem hl, rfl⟩) k
theorem xw_iloadn {i : Fin 4} {x : Int32} (q : x_at M j pc (.iload_n i) 1 y nL ret) (hl : x_get L i = some (.int x)) (k : xw sk cl kd Ts AO M base d X Rel j (pc + 1) L (.int x :: st) s Φ) : xw sk cl kd Ts AO M base d X Rel j pc L st s Φ :=
  xw_pu q (fun _ => ⟨rfl, x, x_get_mem hl, rfl⟩) k
theorem xw_lload {i : Nat} {x : Int64} (q : x_at M j pc (.lload i) 2 y nL ret) (hl : x_get L i = some (.long x)) (k : xw sk cl kd Ts AO M base d X Rel j (pc + 2) L (.long x :: st) s Φ) : xw sk cl kd Ts AO M base d X Rel j pc L st s Φ :=
  xw_pu q (fun _ => ⟨rfl, x, x_get_mem hl, rfl⟩) k
theorem xw_lloadn {i : Fin 4} {x : Int64} (q : x_at M j pc (.lload_n i) 1 y nL ret) (hl : x_get L i = some (.long x)) (k : xw sk cl kd Ts AO M base d X Rel j (pc + 1) L (.long x :: st) s Φ) : xw sk cl kd Ts AO M base d X Rel j pc L st s Φ :=
  xw_pu q (fun _ => ⟨rfl, x, x_get_mem hl, rfl⟩) k
theorem xw_aload {i : Nat} {x : Option Nat} (q : x_at M j pc (.aload i) 2 y nL ret) (hl : x_get L i = some (va_rf x)) (k : xw sk cl kd Ts AO M base d X Rel j (pc + 2) L (va_rf x :: st) s Φ) : xw sk cl kd Ts AO M base d X Rel j pc L st s Φ :=
  xw_pu q (fun _ => ⟨rfl, x, x_get_mem hl, rfl⟩) k
theorem xw_aloadn {i : Fin 4} {x : Option Nat} (q : x_at M j pc (.aload_n i) 1 y nL ret) (hl : x_get L i = some (va_rf x)) (k : xw sk cl kd Ts AO M base d X Rel j (pc + 1) L (va_rf x :: st) s Φ) : xw sk cl kd Ts AO M base d X Rel j pc L st s Φ :=
  xw_pu q (fun _ => ⟨rfl, x, x_get_mem hl, rfl⟩) k
theorem xw_istore {i : Nat} {x : Int32} {L2 : xL} (q : x_at M j pc (.istore i) 2 y nL ret) (hn : i < nL) (hl : x_s1 L i (.int x) = L2) (k : xw sk cl kd Ts AO M base d X Rel j (pc + 2) L2 st s Φ) : xw sk cl kd Ts AO M base d X Rel j pc L (.int x :: st) s Φ :=
  xw_pu q (fun _ => by subst hl; exact ⟨rfl, hn, x, st, rfl, rfl⟩) k
theorem xw_istoren {i : Fin 4} {x : Int32} {L2 : xL} (q : x_at M j pc (.istore_n i) 1 y nL ret) (hn : (i : Nat) < nL) (hl : x_s1 L i (.int x) = L2) (k : xw sk cl kd Ts AO M base d X Rel j (pc + 1) L2 st s Φ) : xw sk cl kd Ts AO M base d X Rel j pc L (.int x :: st) s Φ :=
  xw_pu q (fun _ => by subst hl; exact ⟨rfl, hn, x, st, rfl, rfl⟩) k
theorem xw_lstore {i : Nat} {x : Int64} {L2 : xL} (q : x_at M j pc (.lstore i) 2 y nL ret) (hn : i + 1 < nL) (hl : x_s2 L i (.long x) = L2) (k : xw sk cl kd Ts AO M base d X Rel j (pc + 2) L2 st s Φ) : xw sk cl kd Ts AO M base d X Rel j pc L (.long x :: st) s Φ :=
  xw_pu q (fun _ => by subst hl; exact ⟨rfl, hn, x, st, rfl, rfl⟩) k
theorem xw_lstoren {i : Fin 4} {x : Int64} {L2 : xL} (q : x_at M j pc (.lstore_n i) 1 y nL ret) (hn : (i : Nat) + 1 < nL) (hl : x_s2 L i (.long x) = L2) (k : xw sk cl kd Ts AO M base d X Rel j (pc + 1) L2 st s Φ) : xw sk cl kd Ts AO M base d X Rel j pc L (.long x :: st) s Φ :=
  xw_pu q (fun _ => by subst hl; exact ⟨rfl, hn, x, st, rfl, rfl⟩) k
theorem xw_astore {i : Nat} {x : Option Nat} {L2 : xL} (q : x_at M j pc (.astore i) 2 y nL ret) (hn : i < nL) (hl : x_s1 L i (va_rf x) = L2) (k : xw sk cl kd Ts AO M base d X Rel j (pc + 2) L2 st s Φ) : xw sk cl kd Ts AO M base d X Rel j pc L (va_rf x :: st) s Φ :=
  xw_pu q (fun _ => by subst hl; exact ⟨rfl, hn, x, st, rfl, rfl⟩) k
theorem xw_astoren {i : Fin 4} {x : Option Nat} {L2 : xL} (q : x_at M j pc (.astore_n i) 1 y nL ret) (hn : (i : Nat) < nL) (hl : x_s1 L i (va_rf x) = L2) (k : xw sk cl kd Ts AO M base d X Rel j (pc + 1) L2 st s Φ) : xw sk cl kd Ts AO M base d X Rel j pc L (va_rf x :: st) s Φ :=
  xw_pu q (fun _ => by subst hl; exact ⟨rfl, hn, x, st, rfl, rfl⟩) k
theorem xw_iinc {i : Nat} {n : Int} {x : Int32} {L2 : xL} (q : x_at M j pc (.iinc i n) 3 y nL ret) (hg : x_get L i = some (.int x)) (hn : i < nL) (hl : x_s1 L i (.int (x + Int32.ofInt n)) = L2) (k : xw sk cl kd Ts AO M base d X Rel j (pc + 3) L2 st s Φ) : xw sk cl kd Ts AO M base d X Rel j pc L st s Φ :=
  xw_pu q (fun _ => by subst hl; exact ⟨rfl, hn, x, x_get_mem hg, rfl⟩) k
theorem xw_iadd {x y1 : Int32} (q : x_at M j pc .iadd 1 y nL ret) (k : xw sk cl kd Ts AO M base d X Rel j (pc + 1) L (.int (x + y1) :: st) s Φ) : xw sk cl kd Ts AO M base d X Rel j pc L (.int y1 :: .int x :: st) s Φ :=
  xw_pu q (fun _ => ⟨rfl, x, y1, st, rfl, rfl⟩) k
theorem xw_isub {x y1 : Int32} (q : x_at M j pc .isub 1 y nL ret) (k : xw sk cl kd Ts AO M base d X Rel j (pc + 1) L (.int (x - y1) :: st) s Φ) : xw sk cl kd Ts AO M base d X Rel j pc L (.int y1 :: .int x :: st) s Φ :=
  xw_pu q (fun _ => ⟨rfl, x, y1, st, rfl, rfl⟩) k
theorem xw_imul {x y1 : Int32} (q : x_at M j pc .imul 1 y nL ret) (k : xw sk cl kd Ts AO M base d X Rel j (pc + 1) L (.int (x * y1) :: st) s Φ) : xw sk cl kd Ts AO M base d X Rel j pc L (.int y1 :: .int x :: st) s Φ :=
  xw_pu q (fun _ => ⟨rfl, x, y1, st, rfl, rfl⟩) k
theorem xw_iand {x y1 : Int32} (q : x_at M j pc .iand 1 y nL ret) (k : xw sk cl kd Ts AO M base d X Rel j (pc + 1) L (.int (x &&& y1) :: st) s Φ) : xw sk cl kd Ts AO M base d X Rel j pc L (.int y1 :: .int x :: st) s Φ :=
  xw_pu q (fun _ => ⟨rfl, x, y1, st, rfl, rfl⟩) k
theorem xw_ior {x y1 : Int32} (q : x_at M j pc .ior 1 y nL ret) (k : xw sk cl kd Ts AO M base d X Rel j (pc + 1) L (.int (x ||| y1) :: st) s Φ) : xw sk cl kd Ts AO M base d X Rel j pc L (.int y1 :: .int x :: st) s Φ :=
  xw_pu q (fun _ => ⟨rfl, x, y1, st, rfl, rfl⟩) k
theorem xw_ixor {x y1 : Int32} (q : x_at M j pc .ixor 1 y nL ret) (k : xw sk cl kd Ts AO M base d X Rel j (pc + 1) L (.int (x ^^^ y1) :: st) s Φ) : xw sk cl kd Ts AO M base d X Rel j pc L (.int y1 :: .int x :: st) s Φ :=
  xw_pu q (fun _ => ⟨rfl, x, y1, st, rfl, rfl⟩) k
theorem xw_ishl {x y1 : Int32} (q : x_at M j pc .ishl 1 y nL ret) (k : xw sk cl kd Ts AO M base d X Rel j (pc + 1) L (.int (x <<< (y1 &&& 31)) :: st) s Φ) : xw sk cl kd Ts AO M base d X Rel j pc L (.int y1 :: .int x :: st) s Φ :=
  xw_pu q (fun _ => ⟨rfl, x, y1, st, rfl, rfl⟩) k
theorem xw_ishr {x y1 : Int32} (q : x_at M j pc .ishr 1 y nL ret) (k : xw sk cl kd Ts AO M base d X Rel j (pc + 1) L (.int (x >>> (y1 &&& 31)) :: st) s Φ) : xw sk cl kd Ts AO M base d X Rel j pc L (.int y1 :: .int x :: st) s Φ :=
  xw_pu q (fun _ => ⟨rfl, x, y1, st, rfl, rfl⟩) k
theorem xw_iushr {x y1 : Int32} (q : x_at M j pc .iushr 1 y nL ret) (k : xw sk cl kd Ts AO M base d X Rel j (pc + 1) L (.int ((x.toUInt32 >>> (y1.toUInt32 &&& Int32.toUInt32 31)).toInt32) :: st) s Φ) : xw sk cl kd Ts AO M base d X Rel j pc L (.int y1 :: .int x :: st) s Φ :=
  xw_pu q (fun _ => ⟨rfl, x, y1, st, rfl, rfl⟩) k
theorem xw_idiv {x y1 : Int32} (q : x_at M j pc .idiv 1 y nL ret) (h0 : ¬ y1 = 0) (k : xw sk cl kd Ts AO M base d X Rel j (pc + 1) L (.int (x / y1) :: st) s Φ) : xw sk cl kd Ts AO M base d X Rel j pc L (.int y1 :: .int x :: st) s Φ :=
  xw_pu q (fun _ => ⟨rfl, x, y1, st, h0, rfl, rfl⟩) k
theorem xw_irem {x y1 : Int32} (q : x_at M j pc .irem 1 y nL ret) (h0 : ¬ y1 = 0) (k : xw sk cl kd Ts AO M base d X Rel j (pc + 1) L (.int (x - x / y1 * y1) :: st) s Φ) : xw sk cl kd Ts AO M base d X Rel j pc L (.int y1 :: .int x :: st) s Φ :=
  xw_pu q (fun _ => ⟨rfl, x, y1, st, h0, rfl, rfl⟩) k
theorem xw_ineg {x : Int32} (q : x_at M j pc .ineg 1 y nL ret) (k : xw sk cl kd Ts AO M base d X Rel j (pc + 1) L (.int (-x) :: st) s Φ) : xw sk cl kd Ts AO M base d X Rel j pc L (.int x :: st) s Φ :=
  xw_pu q (fun _ => ⟨rfl, x, st, rfl, rfl⟩) k
theorem xw_ladd {x y1 : Int64} (q : x_at M j pc .ladd 1 y nL ret) (k : xw sk cl kd Ts AO M base d X Rel j (pc + 1) L (.long (x + y1) :: st) s Φ) : xw sk cl kd Ts AO M base d X Rel j pc L (.long y1 :: .long x :: st) s Φ :=
  xw_pu q (fun _ => ⟨rfl, x, y1, st, rfl, rfl⟩) k
theorem xw_lsub {x y1 : Int64} (q : x_at M j pc .lsub 1 y nL ret) (k : xw sk cl kd Ts AO M base d X Rel j (pc + 1) L (.long (x - y1) :: st) s Φ) : xw sk cl kd Ts AO M base d X Rel j pc L (.long y1 :: .long x :: st) s Φ :=
  xw_pu q (fun _ => ⟨rfl, x, y1, st, rfl, rfl⟩) k
theorem xw_lmul {x y1 : Int64} (q : x_at M j pc .lmul 1 y nL ret) (k : xw sk cl kd Ts AO M base d X Rel j (pc + 1) L (.long (x * y1) :: st) s Φ) : xw sk cl kd Ts AO M base d X Rel j pc L (.long y1 :: .long x :: st) s Φ :=
  xw_pu q (fun _ => ⟨rfl, x, y1, st, rfl, rfl⟩) k
theorem xw_land {x y1 : Int64} (q : x_at M j pc .land 1 y nL ret) (k : xw sk cl kd Ts AO M base d X Rel j (pc + 1) L (.long (x &&& y1) :: st) s Φ) : xw sk cl kd Ts AO M base d X Rel j pc L (.long y1 :: .long x :: st) s Φ :=
  xw_pu q (fun _ => ⟨rfl, x, y1, st, rfl, rfl⟩) k
theorem xw_lor {x y1 : Int64} (q : x_at M j pc .lor 1 y nL ret) (k : xw sk cl kd Ts AO M base d X Rel j (pc + 1) L (.long (x ||| y1) :: st) s Φ) : xw sk cl kd Ts AO M base d X Rel j pc L (.long y1 :: .long x :: st) s Φ :=
  xw_pu q (fun _ => ⟨rfl, x, y1, st, rfl, rfl⟩) k
theorem xw_lxor {x y1 : Int64} (q : x_at M j pc .lxor 1 y nL ret) (k : xw sk cl kd Ts AO M base d X Rel j (pc + 1) L (.long (x ^^^ y1) :: st) s Φ) : xw sk cl kd Ts AO M base d X Rel j pc L (.long y1 :: .long x :: st) s Φ :=
  xw_pu q (fun _ => ⟨rfl, x, y1, st, rfl, rfl⟩) k
theorem xw_lshl {x : Int64} {y1 : Int32} (q : x_at M j pc .lshl 1 y nL ret) (k : xw sk cl kd Ts AO M base d X Rel j (pc + 1) L (.long (x <<< (y1.toInt64 &&& 63)) :: st) s Φ) : xw sk cl kd Ts AO M base d X Rel j pc L (.int y1 :: .long x :: st) s Φ :=
  xw_pu q (fun _ => ⟨rfl, x, y1, st, rfl, rfl⟩) k
theorem xw_lshr {x : Int64} {y1 : Int32} (q : x_at M j pc .lshr 1 y nL ret) (k : xw sk cl kd Ts AO M base d X Rel j (pc + 1) L (.long (x >>> (y1.toInt64 &&& 63)) :: st) s Φ) : xw sk cl kd Ts AO M base d X Rel j pc L (.int y1 :: .long x :: st) s Φ :=
  xw_pu q (fun _ => ⟨rfl, x, y1, st, rfl, rfl⟩) k
theorem xw_lushr {x : Int64} {y1 : Int32} (q : x_at M j pc .lushr 1 y nL ret) (k : xw sk cl kd Ts AO M base d X Rel j (pc + 1) L (.long ((x.toUInt64 >>> (y1.toInt64.toUInt64 &&& Int64.toUInt64 63)).toInt64) :: st) s Φ) : xw sk cl kd Ts AO M base d X Rel j pc L (.int y1 :: .long x :: st) s Φ :=
  xw_pu q (fun _ => ⟨rfl, x, y1, st, rfl, rfl⟩) k
theorem xw_ldiv {x y1 : Int64} (q : x_at M j pc .ldiv 1 y nL ret) (h0 : ¬ y1 = 0) (k : xw sk cl kd Ts AO M base d X Rel j (pc + 1) L (.long (x / y1) :: st) s Φ) : xw sk cl kd Ts AO M base d X Rel j pc L (.long y1 :: .long x :: st) s Φ :=
  xw_pu q (fun _ => ⟨rfl, x, y1, st, h0, rfl, rfl⟩) k
theorem xw_lrem {x y1 : Int64} (q : x_at M j pc .lrem 1 y nL ret) (h0 : ¬ y1 = 0) (k : xw sk cl kd Ts AO M base d X Rel j (pc + 1) L (.long (x - x / y1 * y1) :: st) s Φ) : xw sk cl kd Ts AO M base d X Rel j pc L (.long y1 :: .long x :: st) s Φ :=
  xw_pu q (fun _ => ⟨rfl, x, y1, st, h0, rfl, rfl⟩) k
theorem xw_lneg {x : Int64} (q : x_at M j pc .lneg 1 y nL ret) (k : xw sk cl kd Ts AO M base d X Rel j (pc + 1) L (.long (-x) :: st) s Φ) : xw sk cl kd Ts AO M base d X Rel j pc L (.long x :: st) s Φ :=
  xw_pu q (fun _ => ⟨rfl, x, st, rfl, rfl⟩) k
theorem xw_lcmp {x y1 : Int64} (q : x_at M j pc .lcmp 1 y nL ret) (k : xw sk cl kd Ts AO M base d X Rel j (pc + 1) L (.int (lg_cmp x y1) :: st) s Φ) : xw sk cl kd Ts AO M base d X Rel j pc L (.long y1 :: .long x :: st) s Φ :=
  xw_pu q (fun _ => ⟨rfl, x, y1, st, rfl, rfl⟩) k
theorem xw_i2l {x : Int32} (q : x_at M j pc .i2l 1 y nL ret) (k : xw sk cl kd Ts AO M base d X Rel j (pc + 1) L (.long x.toInt64 :: st) s Φ) : xw sk cl kd Ts AO M base d X Rel j pc L (.int x :: st) s Φ :=
  xw_pu q (fun _ => ⟨rfl, x, st, rfl, rfl⟩) k
theorem xw_l2i {x : Int64} (q : x_at M j pc .l2i 1 y nL ret) (k : xw sk cl kd Ts AO M base d X Rel j (pc + 1) L (.int x.toInt32 :: st) s Φ) : xw sk cl kd Ts AO M base d X Rel j pc L (.long x :: st) s Φ :=
  xw_pu q (fun _ => ⟨rfl, x, st, rfl, rfl⟩) k
theorem xw_i2c {x : Int32} (q : x_at M j pc .i2c 1 y nL ret) (k : xw sk cl kd Ts AO M base d X Rel j (pc + 1) L (.int (x.toUInt32 % 65536).toInt32 :: st) s Φ) : xw sk cl kd Ts AO M base d X Rel j pc L (.int x :: st) s Φ :=
  xw_pu q (fun _ => ⟨rfl, x, st, rfl, rfl⟩) k
theorem xw_dup {v : Value} (q : x_at M j pc .dup 1 y nL ret) (hv : v.category = 1) (k : xw sk cl kd Ts AO M base d X Rel j (pc + 1) L (v :: v :: st) s Φ) : xw sk cl kd Ts AO M base d X Rel j pc L (v :: st) s Φ :=
  xw_pu q (fun _ => ⟨rfl, v, st, hv, rfl, rfl⟩) k
theorem xw_dup2 {v w : Value} (q : x_at M j pc .dup2 1 y nL ret) (hv : v.category = 1) (hw : w.category = 1) (k : xw sk cl kd Ts AO M base d X Rel j (pc + 1) L (v :: w :: v :: w :: st) s Φ) : xw sk cl kd Ts AO M base d X Rel j pc L (v :: w :: st) s Φ :=
  xw_pu q (fun _ => ⟨rfl, v, w, st, hv, hw, rfl, rfl⟩) k
theorem xw_dupx1 {v w : Value} (q : x_at M j pc .dup_x1 1 y nL ret) (hv : v.category = 1) (hw : w.category = 1) (k : xw sk cl kd Ts AO M base d X Rel j (pc + 1) L (v :: w :: v :: st) s Φ) : xw sk cl kd Ts AO M base d X Rel j pc L (v :: w :: st) s Φ :=
  xw_pu q (fun _ => ⟨rfl, v, w, st, hv, hw, rfl, rfl⟩) k
theorem xw_pop {v : Value} (q : x_at M j pc .pop 1 y nL ret) (hv : v.category = 1) (k : xw sk cl kd Ts AO M base d X Rel j (pc + 1) L st s Φ) : xw sk cl kd Ts AO M base d X Rel j pc L (v :: st) s Φ :=
  xw_pu q (fun _ => ⟨rfl, v, st, hv, rfl, rfl⟩) k
theorem xw_pop2 {v : Value} (q : x_at M j pc .pop2 1 y nL ret) (hv : v.category = 2) (k : xw sk cl kd Ts AO M base d X Rel j (pc + 1) L st s Φ) : xw sk cl kd Ts AO M base d X Rel j pc L (v :: st) s Φ :=
  xw_pu q (fun _ => ⟨rfl, v, st, hv, rfl, rfl⟩) k
theorem xw_goto {off : Int} {tgt : Nat} (q : x_at M j pc (.goto off) 3 y nL ret) (ht : (pc : Int) + off = (tgt : Int)) (k : xw sk cl kd Ts AO M base d X Rel j tgt L st s Φ) : xw sk cl kd Ts AO M base d X Rel j pc L st s Φ :=
  xw_pu q (fun _ => ⟨rfl, tgt, ht, rfl⟩) k
theorem xw_ifeq {x : Int32} {off : Int} {tgt : Nat} (q : x_at M j pc (.ifCond .eq off) 3 y nL ret) (ht : (pc : Int) + off = (tgt : Int)) (kt : x = 0 → xw sk cl kd Ts AO M base d X Rel j tgt L st s Φ) (kf : ¬ x = 0 → xw sk cl kd Ts AO M base d X Rel j (pc + 3) L st s Φ) : xw sk cl kd Ts AO M base d X Rel j pc L (.int x :: st) s Φ := by
  by_cases hx : x = 0
  · exact xw_pu q (fun _ => ⟨rfl, x, st, tgt, rfl, ht, Or.inl ⟨hx, rfl⟩⟩) (kt hx)
  · exact xw_pu q (fun _ => ⟨rfl, x, st, tgt, rfl, ht, Or.inr ⟨hx, rfl⟩⟩) (kf hx)
theorem xw_ifne {x : Int32} {off : Int} {tgt : Nat} (q : x_at M j pc (.ifCond .ne off) 3 y nL ret) (ht : (pc : Int) + off = (tgt : Int)) (kt : ¬ x = 0 → xw sk cl kd Ts AO M base d X Rel j tgt L st s Φ) (kf : x = 0 → xw sk cl kd Ts AO M base d X Rel j (pc + 3) L st s Φ) : xw sk cl kd Ts AO M base d X Rel j pc L (.int x :: st) s Φ := by
  by_cases hx : x = 0
  · exact xw_pu q (fun _ => ⟨rfl, x, st, tgt, rfl, ht, Or.inr ⟨fun z => z hx, rfl⟩⟩) (kf hx)
  · exact xw_pu q (fun _ => ⟨rfl, x, st, tgt, rfl, ht, Or.inl ⟨hx, rfl⟩⟩) (kt hx)
theorem xw_iflt {x : Int32} {off : Int} {tgt : Nat} (q : x_at M j pc (.ifCond .lt off) 3 y nL ret) (ht : (pc : Int) + off = (tgt : Int)) (kt : x < 0 → xw sk cl kd Ts AO M base d X Rel j tgt L st s Φ) (kf : ¬ x < 0 → xw sk cl kd Ts AO M base d X Rel j (pc + 3) L st s Φ) : xw sk cl kd Ts AO M base d X Rel j pc L (.int x :: st) s Φ := by
  by_cases hx : x < 0
  · exact xw_pu q (fun _ => ⟨rfl, x, st, tgt, rfl, ht, Or.inl ⟨hx, rfl⟩⟩) (kt hx)
  · exact xw_pu q (fun _ => ⟨rfl, x, st, tgt, rfl, ht, Or.inr ⟨hx, rfl⟩⟩) (kf hx)
theorem xw_ifge {x : Int32} {off : Int} {tgt : Nat} (q : x_at M j pc (.ifCond .ge off) 3 y nL ret) (ht : (pc : Int) + off = (tgt : Int)) (kt : 0 ≤ x → xw sk cl kd Ts AO M base d X Rel j tgt L st s Φ) (kf : ¬ 0 ≤ x → xw sk cl kd Ts AO M base d X Rel j (pc + 3) L st s Φ) : xw sk cl kd Ts AO M base d X Rel j pc L (.int x :: st) s Φ := by
  by_cases hx : 0 ≤ x
  · exact xw_pu q (fun _ => ⟨rfl, x, st, tgt, rfl, ht, Or.inl ⟨hx, rfl⟩⟩) (kt hx)
  · exact xw_pu q (fun _ => ⟨rfl, x, st, tgt, rfl, ht, Or.inr ⟨hx, rfl⟩⟩) (kf hx)
theorem xw_ifgt {x : Int32} {off : Int} {tgt : Nat} (q : x_at M j pc (.ifCond .gt off) 3 y nL ret) (ht : (pc : Int) + off = (tgt : Int)) (kt : 0 < x → xw sk cl kd Ts AO M base d X Rel j tgt L st s Φ) (kf : ¬ 0 < x → xw sk cl kd Ts AO M base d X Rel j (pc + 3) L st s Φ) : xw sk cl kd Ts AO M base d X Rel j pc L (.int x :: st) s Φ := by
  by_cases hx : 0 < x
  · exact xw_pu q (fun _ => ⟨rfl, x, st, tgt, rfl, ht, Or.inl ⟨hx, rfl⟩⟩) (kt hx)
  · exact xw_pu q (fun _ => ⟨rfl, x, st, tgt, rfl, ht, Or.inr ⟨hx, rfl⟩⟩) (kf hx)
theorem xw_ifle {x : Int32} {off : Int} {tgt : Nat} (q : x_at M j pc (.ifCond .le off) 3 y nL ret) (ht : (pc : Int) + off = (tgt : Int)) (kt : x ≤ 0 → xw sk cl kd Ts AO M base d X Rel j tgt L st s Φ) (kf : ¬ x ≤ 0 → xw sk cl kd Ts AO M base d X Rel j (pc + 3) L st s Φ) : xw sk cl kd Ts AO M base d X Rel j pc L (.int x :: st) s Φ := by
  by_cases hx : x ≤ 0
  · exact xw_pu q (fun _ => ⟨rfl, x, st, tgt, rfl, ht, Or.inl ⟨hx, rfl⟩⟩) (kt hx)
  · exact xw_pu q (fun _ => ⟨rfl, x, st, tgt, rfl, ht, Or.inr ⟨hx, rfl⟩⟩) (kf hx)
theorem xw_icmpeq {x y1 : Int32} {off : Int} {tgt : Nat} (q : x_at M j pc (.if_icmp .eq off) 3 y nL ret) (ht : (pc : Int) + off = (tgt : Int)) (kt : x = y1 → xw sk cl kd Ts AO M base d X Rel j tgt L st s Φ) (kf : ¬ x = y1 → xw sk cl kd Ts AO M base d X Rel j (pc + 3) L st s Φ) : xw sk cl kd Ts AO M base d X Rel j pc L (.int y1 :: .int x :: st) s Φ := by
  by_cases hx : x = y1
  · exact xw_pu q (fun _ => ⟨rfl, x, y1, st, tgt, rfl, ht, Or.inl ⟨hx, rfl⟩⟩) (kt hx)
  · exact xw_pu q (fun _ => ⟨rfl, x, y1, st, tgt, rfl, ht, Or.inr ⟨hx, rfl⟩⟩) (kf hx)
theorem xw_icmpne {x y1 : Int32} {off : Int} {tgt : Nat} (q : x_at M j pc (.if_icmp .ne off) 3 y nL ret) (ht : (pc : Int) + off = (tgt : Int)) (kt : ¬ x = y1 → xw sk cl kd Ts AO M base d X Rel j tgt L st s Φ) (kf : x = y1 → xw sk cl kd Ts AO M base d X Rel j (pc + 3) L st s Φ) : xw sk cl kd Ts AO M base d X Rel j pc L (.int y1 :: .int x :: st) s Φ := by
  by_cases hx : x = y1
  · exact xw_pu q (fun _ => ⟨rfl, x, y1, st, tgt, rfl, ht, Or.inr ⟨fun z => z hx, rfl⟩⟩) (kf hx)
  · exact xw_pu q (fun _ => ⟨rfl, x, y1, st, tgt, rfl, ht, Or.inl ⟨hx, rfl⟩⟩) (kt hx)
theorem xw_icmplt {x y1 : Int32} {off : Int} {tgt : Nat} (q : x_at M j pc (.if_icmp .lt off) 3 y nL ret) (ht : (pc : Int) + off = (tgt : Int)) (kt : x < y1 → xw sk cl kd Ts AO M base d X Rel j tgt L st s Φ) (kf : ¬ x < y1 → xw sk cl kd Ts AO M base d X Rel j (pc + 3) L st s Φ) : xw sk cl kd Ts AO M base d X Rel j pc L (.int y1 :: .int x :: st) s Φ := by
  by_cases hx : x < y1
  · exact xw_pu q (fun _ => ⟨rfl, x, y1, st, tgt, rfl, ht, Or.inl ⟨hx, rfl⟩⟩) (kt hx)
  · exact xw_pu q (fun _ => ⟨rfl, x, y1, st, tgt, rfl, ht, Or.inr ⟨hx, rfl⟩⟩) (kf hx)
theorem xw_icmpge {x y1 : Int32} {off : Int} {tgt : Nat} (q : x_at M j pc (.if_icmp .ge off) 3 y nL ret) (ht : (pc : Int) + off = (tgt : Int)) (kt : y1 ≤ x → xw sk cl kd Ts AO M base d X Rel j tgt L st s Φ) (kf : ¬ y1 ≤ x → xw sk cl kd Ts AO M base d X Rel j (pc + 3) L st s Φ) : xw sk cl kd Ts AO M base d X Rel j pc L (.int y1 :: .int x :: st) s Φ := by
  by_cases hx : y1 ≤ x
  · exact xw_pu q (fun _ => ⟨rfl, x, y1, st, tgt, rfl, ht, Or.inl ⟨hx, rfl⟩⟩) (kt hx)
  · exact xw_pu q (fun _ => ⟨rfl, x, y1, st, tgt, rfl, ht, Or.inr ⟨hx, rfl⟩⟩) (kf hx)
theorem xw_icmpgt {x y1 : Int32} {off : Int} {tgt : Nat} (q : x_at M j pc (.if_icmp .gt off) 3 y nL ret) (ht : (pc : Int) + off = (tgt : Int)) (kt : y1 < x → xw sk cl kd Ts AO M base d X Rel j tgt L st s Φ) (kf : ¬ y1 < x → xw sk cl kd Ts AO M base d X Rel j (pc + 3) L st s Φ) : xw sk cl kd Ts AO M base d X Rel j pc L (.int y1 :: .int x :: st) s Φ := by
  by_cases hx : y1 < x
  · exact xw_pu q (fun _ => ⟨rfl, x, y1, st, tgt, rfl, ht, Or.inl ⟨hx, rfl⟩⟩) (kt hx)
  · exact xw_pu q (fun _ => ⟨rfl, x, y1, st, tgt, rfl, ht, Or.inr ⟨hx, rfl⟩⟩) (kf hx)
theorem xw_icmple {x y1 : Int32} {off : Int} {tgt : Nat} (q : x_at M j pc (.if_icmp .le off) 3 y nL ret) (ht : (pc : Int) + off = (tgt : Int)) (kt : x ≤ y1 → xw sk cl kd Ts AO M base d X Rel j tgt L st s Φ) (kf : ¬ x ≤ y1 → xw sk cl kd Ts AO M base d X Rel j (pc + 3) L st s Φ) : xw sk cl kd Ts AO M base d X Rel j pc L (.int y1 :: .int x :: st) s Φ := by
  by_cases hx : x ≤ y1
  · exact xw_pu q (fun _ => ⟨rfl, x, y1, st, tgt, rfl, ht, Or.inl ⟨hx, rfl⟩⟩) (kt hx)
  · exact xw_pu q (fun _ => ⟨rfl, x, y1, st, tgt, rfl, ht, Or.inr ⟨hx, rfl⟩⟩) (kf hx)
theorem xw_ifnull {v : Option Nat} {off : Int} {tgt : Nat} (q : x_at M j pc (.ifnull off) 3 y nL ret) (ht : (pc : Int) + off = (tgt : Int)) (kt : v = none → xw sk cl kd Ts AO M base d X Rel j tgt L st s Φ) (kf : ¬ v = none → xw sk cl kd Ts AO M base d X Rel j (pc + 3) L st s Φ) : xw sk cl kd Ts AO M base d X Rel j pc L (va_rf v :: st) s Φ := by
  by_cases hx : v = none
  · exact xw_pu q (fun _ => ⟨rfl, v, st, tgt, rfl, ht, Or.inl ⟨hx, rfl⟩⟩) (kt hx)
  · exact xw_pu q (fun _ => ⟨rfl, v, st, tgt, rfl, ht, Or.inr ⟨hx, rfl⟩⟩) (kf hx)
theorem xw_ifnonnull {v : Option Nat} {off : Int} {tgt : Nat} (q : x_at M j pc (.ifnonnull off) 3 y nL ret) (ht : (pc : Int) + off = (tgt : Int)) (kt : ¬ v = none → xw sk cl kd Ts AO M base d X Rel j tgt L st s Φ) (kf : v = none → xw sk cl kd Ts AO M base d X Rel j (pc + 3) L st s Φ) : xw sk cl kd Ts AO M base d X Rel j pc L (va_rf v :: st) s Φ := by
  by_cases hx : v = none
  · exact xw_pu q (fun _ => ⟨rfl, v, st, tgt, rfl, ht, Or.inr ⟨hx, rfl⟩⟩) (kf hx)
  · exact xw_pu q (fun _ => ⟨rfl, v, st, tgt, rfl, ht, Or.inl ⟨hx, rfl⟩⟩) (kt hx)
theorem xw_tsw {x : Int32} {dflt lo hi : Int} {offs : Array Int} {tgt : Nat} (q : x_at M j pc (.tableswitch dflt lo hi offs) len y nL ret) (ht : ((x.toInt < lo ∨ hi < x.toInt) ∧ (pc : Int) + dflt = (tgt : Int)) ∨ (¬ x.toInt < lo ∧ ¬ hi < x.toInt ∧ ∃ off, offs[(x.toInt - lo).toNat]? = some off ∧ (pc : Int) + off = (tgt : Int))) (k : xw sk cl kd Ts AO M base d X Rel j tgt L st s Φ) : xw sk cl kd Ts AO M base d X Rel j pc L (.int x :: st) s Φ :=
  xw_pu q (fun _ => ⟨x, st, tgt, rfl, rfl, ht⟩) k
theorem xw_lsw {x : Int32} {dflt : Int} {ps : Array (Int × Int)} {tgt : Nat} (q : x_at M j pc (.lookupswitch dflt ps) len y nL ret) (hp : (ps.toList.zip (ps.toList.drop 1)).all (fun (a, next) => a.1 < next.1) = true) (ht : (pc : Int) + Jvm.Op.lookupswitch.offset ps.toList dflt x.toInt = (tgt : Int)) (k : xw sk cl kd Ts AO M base d X Rel j tgt L st s Φ) : xw sk cl kd Ts AO M base d X Rel j pc L (.int x :: st) s Φ :=
  xw_pu q (fun _ => ⟨x, st, tgt, rfl, rfl, hp, ht⟩) k
theorem xw_iret {x : Int32} {ty : FieldType} (q : x_at M j pc .ireturn 1 y nL ret) (hr : ret = some ty) (hn : narrow ty (.int x) = .int x) (k : Φ (some (.int x)) s) : xw sk cl kd Ts AO M base d X Rel j pc L [.int x] s Φ :=
  xw_ret q ⟨rfl, x, ty, rfl, rfl, hr, hn⟩ k
theorem xw_lret {x : Int64} (q : x_at M j pc .lreturn 1 y nL ret) (hr : ret = some .long) (k : Φ (some (.long x)) s) : xw sk cl kd Ts AO M base d X Rel j pc L [.long x] s Φ :=
  xw_ret q ⟨rfl, x, rfl, rfl, hr⟩ k
theorem xw_aret {v : Option Nat} {ty : FieldType} (q : x_at M j pc .areturn 1 y nL ret) (hr : ret = some ty) (ht : (∃ n, ty = .object n) ∨ ∃ t, ty = .array t) (k : Φ (some (va_rf v)) s) : xw sk cl kd Ts AO M base d X Rel j pc L [va_rf v] s Φ :=
  xw_ret q ⟨rfl, v, ty, rfl, rfl, hr, ht⟩ k
theorem xw_vret (q : x_at M j pc .return_ 1 y nL ret) (hr : ret = none) (k : Φ none s) : xw sk cl kd Ts AO M base d X Rel j pc L [] s Φ :=
  xw_ret q ⟨rfl, rfl, rfl, hr⟩ k
end XWR
