/-! WHAT A RUN THAT ENDED HAS DONE. pw: of every run of at most N steps from here the answer is inj x, and Ψ holds of x and of the cells behind it. The P_.. are what Ψ is built of: the method's own course, as a proposition. -/
def P_and {ρ : Type} (p : Prop) (A : ρ → hS → Prop) : ρ → hS → Prop := fun x s => p ∧ A x s
def P_if {ρ : Type} (p : Prop) (A B : ρ → hS → Prop) : ρ → hS → Prop := fun x s => (p ∧ A x s) ∨ (¬ p ∧ B x s)
def P_ret {ρ : Type} (v : ρ) (s0 : hS) : ρ → hS → Prop := fun x s => x = v ∧ s = s0
def P_sm {ρ : Type} (o : Option Nat) (A : Nat → ρ → hS → Prop) : ρ → hS → Prop := fun x s => ∃ q, o = some q ∧ A q x s
def P_bi {ρ τ : Type} (C : τ → hS → Prop) (A : τ → Nat → Nat → (Nat → Nat × Nat) → (Nat → Nat → Int32) → (Nat → Nat → Int64) → (Nat → Nat → Option Nat) → ρ → hS → Prop) : ρ → hS → Prop := fun x s => ∃ v n sl SH FI FL FR, C v (n, sl, SH, FI, FL, FR) ∧ A v n sl SH FI FL FR x s
/-- what stays fixed: the first cells' shapes, the final references -/
def h_FO (FR : Nat → Nat → Option Nat) : Prop := ∀ e ∈ hf_L, (hs_L.getD e.1 (0, 0)).1 < 100 → FR e.1 e.2.1 = some e.2.2
def pk (n : Nat) (SH : Nat → Nat × Nat) (FR : Nat → Nat → Option Nat) : Prop := h_S n SH ∧ h_FO FR ∧ FR 49 1 = none
def pw {ρ : Type} (inj : ρ → Option Value) (sk : xK) (base N d : Nat) (X : Option (Nat × Nat × (Nat → Int32))) (j pc : Nat) (L : xL) (st : List Value) (s : hS) (Ψ : ρ → hS → Prop) : Prop :=
  ∀ n, n ≤ N → ∀ h r h', h_Rel base s h → x_go sk vwCl x_kn x_Ts x_AO xMM base n d X j (pc, L, st, h) r h' → ∃ x s', r = inj x ∧ h_Rel base s' h' ∧ pk s'.1 s'.2.2.1 s'.2.2.2.2.2 ∧ Ψ x s'
def pj_I (x : Int32) : Option Value := some (.int x)
def pj_J (x : Int64) : Option Value := some (.long x)
def pj_V (_ : Unit) : Option Value := none
def pj_A (base : Nat) (x : Option Nat) : Option Value := some (va_rf (h_rf base x))
def x_pure (i : Jvm.ClassFile.Instr) : Bool := match i with
  | .ireturn => false
  | .lreturn => false
  | .areturn => false
  | .return_ => false
  | .invokevirtual _ => false
  | .invokestatic _ => false
  | .invokespecial _ => false
  | .ldc _ => false
  | .getfield _ => false
  | .arraylength => false
  | .baload => false
  | .getstatic _ => false
  | .i2b => false
  | _ => true
theorem x_pure_r {i : Jvm.ClassFile.Instr} (h : x_pure i = true) {ret : Option FieldType} {len : Nat} {st : List Value} {r : Option Value} (hr : x_ret ret i len st r) : False := by
  cases i <;> first | exact hr.elim | exact absurd h (by simp [x_pure])
theorem x_pure_s {i : Jvm.ClassFile.Instr} (h : x_pure i = true) {sk : xK} {Ts : List Cond} {own : String} {len : Nat} {a b : xS} (hr : x_sins sk Ts own i len a b) : False := by
  cases i <;> first | exact hr.elim | exact absurd h (by simp [x_pure])
theorem x_pure_c {i : Jvm.ClassFile.Instr} (h : x_pure i = true) {sk : xK} {cl : List vw_C} {Ts AO : List Cond} {base : Nat} {own : String} {len : Nat} {a : xS} {y : MethodName} {As rest : List Value} (hr : x_cal sk cl Ts AO base own i len a y As rest) : False := by
  obtain ⟨-, -, -, -, -, hr⟩ := hr
  cases i <;> first | exact hr.elim | exact absurd h (by simp [x_pure])
theorem x_pure_n {i : Jvm.ClassFile.Instr} (h : x_pure i = true) {kd : List FieldType} {Ts AO : List Cond} {base : Nat} {own : String} {len : Nat} {a b : xS} (hr : x_nat kd Ts AO base own i len a b) : False := by
  cases i <;> first | exact hr.elim | exact absurd h (by simp [x_pure])
theorem va_rf_inj {a b : Option Nat} (h : va_rf a = va_rf b) : a = b := by
  cases a <;> cases b <;> first | rfl | (cases h; done) | (cases h; rfl)
theorem h_rf_some {base q : Nat} {o : Option Nat} (h : va_rf (h_rf base o) = .ref (base + q)) : o = some q := by
  cases o with
  | none => cases h
  | some p =>
    have e : base + p = base + q := Value.ref.inj h
    rw [show p = q by omega]
/-- what a local is -/
theorem x_lu {L : xL} {i : Nat} {v w : Value} (h : L.filter (fun q => q.1 == i) = [(i, w)]) (hm : (i, v) ∈ L) : v = w := by
  have h1 : (i, v) ∈ L.filter (fun q => q.1 == i) := List.mem_filter.mpr ⟨hm, by simp⟩
  rw [h] at h1
  have h2 := List.mem_singleton.mp h1
  cases h2
  rfl
section PW
variable {ρ : Type} {inj : ρ → Option Value} {sk : xK} {base N d : Nat} {X : Option (Nat × Nat × (Nat → Int32))} {j : Nat} {y : MethodName} {nL : Nat} {ret : Option FieldType} {len pc : Nat} {L : xL} {st : List Value} {s : hS} {Ψ A B : ρ → hS → Prop}
theorem pw_mono {M : Nat} (k : pw inj sk base N d X j pc L st s Ψ) (h : M ≤ N) : pw inj sk base M d X j pc L st s Ψ := fun n hn => k n (Nat.le_trans hn h)
theorem pw_cons (k : pw inj sk base N d X j pc L st s A) (h : ∀ x s, A x s → B x s) : pw inj sk base N d X j pc L st s B := by
  intro n hn h0 r h' hR hg
  obtain ⟨x, s', e, h1, hp0, h2⟩ := k n hn h0 r h' hR hg
  exact ⟨x, s', e, h1, hp0, h x s' h2⟩
theorem pw_0 : pw inj sk base 0 d X j pc L st s Ψ := by
  intro n hn h r h' hR hg
  have e : n = 0 := by omega
  subst e
  exact hg.elim
theorem pw_inv {i : Jvm.ClassFile.Instr} (q : x_at xMM j pc i len y nL ret)
    (k : ∀ n, n + 1 ≤ N → ∀ h r h', h_Rel base s h →
      ((∃ b, (x_ins vwCl x_kn x_Ts x_AO X base y.cls y.name nL i len (pc, L, st, h) b ∨ x_sins sk x_Ts y.cls i len (pc, L, st, h) b) ∧ x_go sk vwCl x_kn x_Ts x_AO xMM base n d X j b r h') ∨
       (x_ret ret i len st r ∧ h = h') ∨
       (∃ d' j2 y2 cc2 nL2 ret2 As rest v h1, d = d' + 1 ∧ 0 < j2 ∧ xMM j2 = some (y2, cc2, nL2, ret2) ∧ x_cal sk vwCl x_Ts x_AO base y.cls i len (pc, L, st, h) y2 As rest ∧ (lg_sl As).length ≤ nL2 ∧ x_go sk vwCl x_kn x_Ts x_AO xMM base n d' none j2 (0, lv_args 0 As, [], h) v h1 ∧ x_go sk vwCl x_kn x_Ts x_AO xMM base n d X j (pc + 3, L, v.toList ++ rest, h1) r h') ∨
       (∃ d' b, d = d' + 1 ∧ x_nat x_kn x_Ts x_AO base y.cls i len (pc, L, st, h) b ∧ x_go sk vwCl x_kn x_Ts x_AO xMM base n d X j b r h')) →
      ∃ x s', r = inj x ∧ h_Rel base s' h' ∧ pk s'.1 s'.2.2.1 s'.2.2.2.2.2 ∧ Ψ x s') : pw inj sk base N d X j pc L st s Ψ := by
  intro n hn h r h' hR hg
  cases n with
  | zero => exact hg.elim
  | succ n =>
    obtain ⟨y', cc', nL', ret', i', len', hM, hd, hh⟩ := hg
    obtain ⟨cc, hM0, hd0⟩ := q
    rw [hM0] at hM
    have hM1 := Option.some.inj hM
    simp only [Prod.mk.injEq] at hM1
    obtain ⟨rfl, rfl, rfl, rfl⟩ := hM1
    have hd1 : decode cc pc = .ok (i', len') := hd
    rw [hd0] at hd1
    cases hd1
    exact k n hn h r h' hR hh
theorem pw_st {i : Jvm.ClassFile.Instr} (q : x_at xMM j pc i len y nL ret) (hp : x_pure i = true)
    (k : ∀ h b, h_Rel base s h → x_ins vwCl x_kn x_Ts x_AO X base y.cls y.name nL i len (pc, L, st, h) b → ∀ n, n + 1 ≤ N → ∀ r h', x_go sk vwCl x_kn x_Ts x_AO xMM base n d X j b r h' → ∃ x s', r = inj x ∧ h_Rel base s' h' ∧ pk s'.1 s'.2.2.1 s'.2.2.2.2.2 ∧ Ψ x s') : pw inj sk base N d X j pc L st s Ψ := by
  refine pw_inv q (fun n hn h r h' hR hh => ?_)
  rcases hh with ⟨b, hi | hi, hg⟩ | ⟨hr, -⟩ | ⟨_, _, _, _, _, _, _, _, _, _, _, _, _, hc, _⟩ | ⟨_, _, _, hc, _⟩
  · exact k h b hR hi n hn r h' hg
  · exact (x_pure_s hp hi).elim
  · exact (x_pure_r hp hr).elim
  · exact (x_pure_c hp hc).elim
  · exact (x_pure_n hp hc).elim
/-- a step that leaves the cells as they are -/
theorem pw_pu {i : Jvm.ClassFile.Instr} {pc' : Nat} {L' : xL} {st' : List Value} (q : x_at xMM j pc i len y nL ret) (hp : x_pure i = true) (hi : ∀ h b, x_ins vwCl x_kn x_Ts x_AO X base y.cls y.name nL i len (pc, L, st, h) b → b = (pc', L', st', h)) (k : pw inj sk base N d X j pc' L' st' s Ψ) : pw inj sk base N d X j pc L st s Ψ :=
  pw_st q hp (fun h b hR hb n hn r h' hg => by rw [hi h b hb] at hg; exact k n (by omega) h r h' hR hg)
/-- the same, and it took a step -/
theorem pw_pd {i : Jvm.ClassFile.Instr} {pc' : Nat} {L' : xL} {st' : List Value} (q : x_at xMM j pc i len y nL ret) (hp : x_pure i = true) (hi : ∀ h b, x_ins vwCl x_kn x_Ts x_AO X base y.cls y.name nL i len (pc, L, st, h) b → b = (pc', L', st', h)) (k : pw inj sk base (N - 1) d X j pc' L' st' s Ψ) : pw inj sk base N d X j pc L st s Ψ :=
  pw_st q hp (fun h b hR hb n hn r h' hg => by rw [hi h b hb] at hg; exact k n (by omega) h r h' hR hg)
theorem pw_pg {i : Jvm.ClassFile.Instr} {pc' : Nat} {L' : xL} {st' : List Value} {g : Prop} (q : x_at xMM j pc i len y nL ret) (hp : x_pure i = true) (hi : ∀ h b, x_ins vwCl x_kn x_Ts x_AO X base y.cls y.name nL i len (pc, L, st, h) b → g ∧ b = (pc', L', st', h)) (k : g → pw inj sk base N d X j pc' L' st' s A) : pw inj sk base N d X j pc L st s (P_and g A) :=
  pw_st q hp (fun h b hR hb n hn r h' hg => by
    obtain ⟨g1, g2⟩ := hi h b hb
    rw [g2] at hg
    obtain ⟨x, s', e, h1, hp0, h2⟩ := k g1 n (by omega) h r h' hR hg
    exact ⟨x, s', e, h1, hp0, g1, h2⟩)
/-- a branch -/
theorem pw_br {i : Jvm.ClassFile.Instr} {p1 p2 : Nat} {st' : List Value} {c : Prop} (q : x_at xMM j pc i len y nL ret) (hp : x_pure i = true) (hi : ∀ h b, x_ins vwCl x_kn x_Ts x_AO X base y.cls y.name nL i len (pc, L, st, h) b → (c ∧ b = (p1, L, st', h)) ∨ (¬ c ∧ b = (p2, L, st', h))) (kt : c → pw inj sk base N d X j p1 L st' s A) (kf : ¬ c → pw inj sk base N d X j p2 L st' s B) : pw inj sk base N d X j pc L st s (P_if c A B) :=
  pw_st q hp (fun h b hR hb n hn r h' hg => by
    rcases hi h b hb with ⟨g1, g2⟩ | ⟨g1, g2⟩
    · rw [g2] at hg
      obtain ⟨x, s', e, h1, hp0, h2⟩ := kt g1 n (by omega) h r h' hR hg
      exact ⟨x, s', e, h1, hp0, Or.inl ⟨g1, h2⟩⟩
    · rw [g2] at hg
      obtain ⟨x, s', e, h1, hp0, h2⟩ := kf g1 n (by omega) h r h' hR hg
      exact ⟨x, s', e, h1, hp0, Or.inr ⟨g1, h2⟩⟩)
theorem pw_case (c : Prop) (kt : c → pw inj sk base N d X j pc L st s A) (kf : ¬ c → pw inj sk base N d X j pc L st s B) : pw inj sk base N d X j pc L st s (P_if c A B) := by
  by_cases h : c
  · exact pw_cons (kt h) (fun x s hx => Or.inl ⟨h, hx⟩)
  · exact pw_cons (kf h) (fun x s hx => Or.inr ⟨h, hx⟩)
theorem pw_no {i : Jvm.ClassFile.Instr} (q : x_at xMM j pc i len y nL ret) (hp : x_pure i = true) (hi : ∀ h b, ¬ x_ins vwCl x_kn x_Ts x_AO X base y.cls y.name nL i len (pc, L, st, h) b) : pw inj sk base N d X j pc L st s Ψ :=
  pw_st q hp (fun h b hR hb => absurd hb (hi h b))
theorem pw_null (q : x_at xMM j pc .aconst_null 1 y nL ret) (k : pw inj sk base N d X j (pc + 1) L (va_rf (h_rf base none) :: st) s Ψ) : pw inj sk base N d X j pc L st s Ψ := pw_pu q rfl (fun h b hb => by obtain ⟨-, rfl⟩ := hb; rfl) k
theorem pd_null (q : x_at xMM j pc .aconst_null 1 y nL ret) (k : pw inj sk base (N - 1) d X j (pc + 1) L (va_rf (h_rf base none) :: st) s Ψ) : pw inj sk base N d X j pc L st s Ψ := pw_pd q rfl (fun h b hb => by obtain ⟨-, rfl⟩ := hb; rfl) k
theorem pw_iconst {n : Int} {v : Int32} (q : x_at xMM j pc (.iconst n) 1 y nL ret) (hv : Int32.ofInt n = v) (k : pw inj sk base N d X j (pc + 1) L (.int v :: st) s Ψ) : pw inj sk base N d X j pc L st s Ψ := pw_pu q rfl (fun h b hb => by obtain ⟨-, rfl⟩ := hb; subst hv; rfl) k
theorem pd_iconst {n : Int} {v : Int32} (q : x_at xMM j pc (.iconst n) 1 y nL ret) (hv : Int32.ofInt n = v) (k : pw inj sk base (N - 1) d X j (pc + 1) L (.int v :: st) s Ψ) : pw inj sk base N d X j pc L st s Ψ := pw_pd q rfl (fun h b hb => by obtain ⟨-, rfl⟩ := hb; subst hv; rfl) k
theorem pw_bipush {n : Int} {v : Int32} (q : x_at xMM j pc (.bipush n) 2 y nL ret) (hv : (Int8.ofInt n).toInt32 = v) (k : pw inj sk base N d X j (pc + 2) L (.int v :: st) s Ψ) : pw inj sk base N d X j pc L st s Ψ := pw_pu q rfl (fun h b hb => by obtain ⟨-, rfl⟩ := hb; subst hv; rfl) k
theorem pd_bipush {n : Int} {v : Int32} (q : x_at xMM j pc (.bipush n) 2 y nL ret) (hv : (Int8.ofInt n).toInt32 = v) (k : pw inj sk base (N - 1) d X j (pc + 2) L (.int v :: st) s Ψ) : pw inj sk base N d X j pc L st s Ψ := pw_pd q rfl (fun h b hb => by obtain ⟨-, rfl⟩ := hb; subst hv; rfl) k
theorem pw_sipush {n : Int} {v : Int32} (q : x_at xMM j pc (.sipush n) 3 y nL ret) (hv : (Int16.ofInt n).toInt32 = v) (k : pw inj sk base N d X j (pc + 3) L (.int v :: st) s Ψ) : pw inj sk base N d X j pc L st s Ψ := pw_pu q rfl (fun h b hb => by obtain ⟨-, rfl⟩ := hb; subst hv; rfl) k
theorem pd_sipush {n : Int} {v : Int32} (q : x_at xMM j pc (.sipush n) 3 y nL ret) (hv : (Int16.ofInt n).toInt32 = v) (k : pw inj sk base (N - 1) d X j (pc + 3) L (.int v :: st) s Ψ) : pw inj sk base N d X j pc L st s Ψ := pw_pd q rfl (fun h b hb => by obtain ⟨-, rfl⟩ := hb; subst hv; rfl) k
theorem pw_lconst {n : Fin 2} {v : Int64} (q : x_at xMM j pc (.lconst n) 1 y nL ret) (hv : Int64.ofNat (n : Nat) = v) (k : pw inj sk base N d X j (pc + 1) L (.long v :: st) s Ψ) : pw inj sk base N d X j pc L st s Ψ := pw_pu q rfl (fun h b hb => by obtain ⟨-, rfl⟩ := hb; subst hv; rfl) k
theorem pd_lconst {n : Fin 2} {v : Int64} (q : x_at xMM j pc (.lconst n) 1 y nL ret) (hv : Int64.ofNat (n : Nat) = v) (k : pw inj sk base (N - 1) d X j (pc + 1) L (.long v :: st) s Ψ) : pw inj sk base N d X j pc L st s Ψ := pw_pd q rfl (fun h b hb => by obtain ⟨-, rfl⟩ := hb; subst hv; rfl) k
theorem pw_ldc2 {idx : Nat} {v : Int64} (q : x_at xMM j pc (.ldc2_w idx) 3 y nL ret) (hu : ∀ v2, Cond.constantLong y.cls idx v2 ∈ x_Ts → v2 = v) (k : pw inj sk base N d X j (pc + 3) L (.long v :: st) s Ψ) : pw inj sk base N d X j pc L st s Ψ := pw_pu q rfl (fun h b hb => by obtain ⟨-, v2, hc, rfl⟩ := hb; rw [hu v2 hc]; rfl) k
theorem pd_ldc2 {idx : Nat} {v : Int64} (q : x_at xMM j pc (.ldc2_w idx) 3 y nL ret) (hu : ∀ v2, Cond.constantLong y.cls idx v2 ∈ x_Ts → v2 = v) (k : pw inj sk base (N - 1) d X j (pc + 3) L (.long v :: st) s Ψ) : pw inj sk base N d X j pc L st s Ψ := pw_pd q rfl (fun h b hb => by obtain ⟨-, v2, hc, rfl⟩ := hb; rw [hu v2 hc]; rfl) k
theorem pw_iload {i : Nat} {x : Int32} (q : x_at xMM j pc (.iload i) 2 y nL ret) (hl : L.filter (fun q => q.1 == (i : Nat)) = [((i : Nat), .int x)]) (k : pw inj sk base N d X j (pc + 2) L (.int x :: st) s Ψ) : pw inj sk base N d X j pc L st s Ψ := pw_pu q rfl (fun h b hb => by obtain ⟨-, z, hm, rfl⟩ := hb; have e := x_lu hl hm; cases e; rfl) k
theorem pd_iload {i : Nat} {x : Int32} (q : x_at xMM j pc (.iload i) 2 y nL ret) (hl : L.filter (fun q => q.1 == (i : Nat)) = [((i : Nat), .int x)]) (k : pw inj sk base (N - 1) d X j (pc + 2) L (.int x :: st) s Ψ) : pw inj sk base N d X j pc L st s Ψ := pw_pd q rfl (fun h b hb => by obtain ⟨-, z, hm, rfl⟩ := hb; have e := x_lu hl hm; cases e; rfl) k
theorem pw_iloadn {i : Fin 4} {x : Int32} (q : x_at xMM j pc (.iload_n i) 1 y nL ret) (hl : L.filter (fun q => q.1 == (i : Nat)) = [((i : Nat), .int x)]) (k : pw inj sk base N d X j (pc + 1) L (.int x :: st) s Ψ) : pw inj sk base N d X j pc L st s Ψ := pw_pu q rfl (fun h b hb => by obtain ⟨-, z, hm, rfl⟩ := hb; have e := x_lu hl hm; cases e; rfl) k
theorem pd_iloadn {i : Fin 4} {x : Int32} (q : x_at xMM j pc (.iload_n i) 1 y nL ret) (hl : L.filter (fun q => q.1 == (i : Nat)) = [((i : Nat), .int x)]) (k : pw inj sk base (N - 1) d X j (pc + 1) L (.int x :: st) s Ψ) : pw inj sk base N d X j pc L st s Ψ := pw_pd q rfl (fun h b hb => by obtain ⟨-, z, hm, rfl⟩ := hb; have e := x_lu hl hm; cases e; rfl) k
theorem pw_lload {i : Nat} {x : Int64} (q : x_at xMM j pc (.lload i) 2 y nL ret) (hl : L.filter (fun q => q.1 == (i : Nat)) = [((i : Nat), .long x)]) (k : pw inj sk base N d X j (pc + 2) L (.long x :: st) s Ψ) : pw inj sk base N d X j pc L st s Ψ := pw_pu q rfl (fun h b hb => by obtain ⟨-, z, hm, rfl⟩ := hb; have e := x_lu hl hm; cases e; rfl) k
theorem pd_lload {i : Nat} {x : Int64} (q : x_at xMM j pc (.lload i) 2 y nL ret) (hl : L.filter (fun q => q.1 == (i : Nat)) = [((i : Nat), .long x)]) (k : pw inj sk base (N - 1) d X j (pc + 2) L (.long x :: st) s Ψ) : pw inj sk base N d X j pc L st s Ψ := pw_pd q rfl (fun h b hb => by obtain ⟨-, z, hm, rfl⟩ := hb; have e := x_lu hl hm; cases e; rfl) k
theorem pw_lloadn {i : Fin 4} {x : Int64} (q : x_at xMM j pc (.lload_n i) 1 y nL ret) (hl : L.filter (fun q => q.1 == (i : Nat)) = [((i : Nat), .long x)]) (k : pw inj sk base N d X j (pc + 1) L (.long x :: st) s Ψ) : pw inj sk base N d X j pc L st s Ψ := pw_pu q rfl (fun h b hb => by obtain ⟨-, z, hm, rfl⟩ := hb; have e := x_lu hl hm; cases e; rfl) k
theorem pd_lloadn {i : Fin 4} {x : Int64} (q : x_at xMM j pc (.lload_n i) 1 y nL ret) (hl : L.filter (fun q => q.1 == (i : Nat)) = [((i : Nat), .long x)]) (k : pw inj sk base (N - 1) d X j (pc + 1) L (.long x :: st) s Ψ) : pw inj sk base N d X j pc L st s Ψ := pw_pd q rfl (fun h b hb => by obtain ⟨-, z, hm, rfl⟩ := hb; have e := x_lu hl hm; cases e; rfl) k
theorem pw_aload {i : Nat} {v : Value} (q : x_at xMM j pc (.aload i) 2 y nL ret) (hl : L.filter (fun q => q.1 == (i : Nat)) = [((i : Nat), v)]) (k : pw inj sk base N d X j (pc + 2) L (v :: st) s Ψ) : pw inj sk base N d X j pc L st s Ψ := pw_pu q rfl (fun h b hb => by obtain ⟨-, z, hm, rfl⟩ := hb; have e := x_lu hl hm; subst e; rfl) k
theorem pd_aload {i : Nat} {v : Value} (q : x_at xMM j pc (.aload i) 2 y nL ret) (hl : L.filter (fun q => q.1 == (i : Nat)) = [((i : Nat), v)]) (k : pw inj sk base (N - 1) d X j (pc + 2) L (v :: st) s Ψ) : pw inj sk base N d X j pc L st s Ψ := pw_pd q rfl (fun h b hb => by obtain ⟨-, z, hm, rfl⟩ := hb; have e := x_lu hl hm; subst e; rfl) k
theorem pw_aloadn {i : Fin 4} {v : Value} (q : x_at xMM j pc (.aload_n i) 1 y nL ret) (hl : L.filter (fun q => q.1 == (i : Nat)) = [((i : Nat), v)]) (k : pw inj sk base N d X j (pc + 1) L (v :: st) s Ψ) : pw inj sk base N d X j pc L st s Ψ := pw_pu q rfl (fun h b hb => by obtain ⟨-, z, hm, rfl⟩ := hb; have e := x_lu hl hm; subst e; rfl) k
theorem pd_aloadn {i : Fin 4} {v : Value} (q : x_at xMM j pc (.aload_n i) 1 y nL ret) (hl : L.filter (fun q => q.1 == (i : Nat)) = [((i : Nat), v)]) (k : pw inj sk base (N - 1) d X j (pc + 1) L (v :: st) s Ψ) : pw inj sk base N d X j pc L st s Ψ := pw_pd q rfl (fun h b hb => by obtain ⟨-, z, hm, rfl⟩ := hb; have e := x_lu hl hm; subst e; rfl) k
theorem pw_istore {i : Nat} {x : Int32} {L2 : xL} (q : x_at xMM j pc (.istore i) 2 y nL ret) (hl : x_s1 L i (.int x) = L2) (k : pw inj sk base N d X j (pc + 2) L2 st s Ψ) : pw inj sk base N d X j pc L (.int x :: st) s Ψ := pw_pu q rfl (fun h b hb => by obtain ⟨-, -, x2, r, e, rfl⟩ := hb; cases e; subst hl; rfl) k
theorem pd_istore {i : Nat} {x : Int32} {L2 : xL} (q : x_at xMM j pc (.istore i) 2 y nL ret) (hl : x_s1 L i (.int x) = L2) (k : pw inj sk base (N - 1) d X j (pc + 2) L2 st s Ψ) : pw inj sk base N d X j pc L (.int x :: st) s Ψ := pw_pd q rfl (fun h b hb => by obtain ⟨-, -, x2, r, e, rfl⟩ := hb; cases e; subst hl; rfl) k
theorem pw_istoren {i : Fin 4} {x : Int32} {L2 : xL} (q : x_at xMM j pc (.istore_n i) 1 y nL ret) (hl : x_s1 L i (.int x) = L2) (k : pw inj sk base N d X j (pc + 1) L2 st s Ψ) : pw inj sk base N d X j pc L (.int x :: st) s Ψ := pw_pu q rfl (fun h b hb => by obtain ⟨-, -, x2, r, e, rfl⟩ := hb; cases e; subst hl; rfl) k
theorem pd_istoren {i : Fin 4} {x : Int32} {L2 : xL} (q : x_at xMM j pc (.istore_n i) 1 y nL ret) (hl : x_s1 L i (.int x) = L2) (k : pw inj sk base (N - 1) d X j (pc + 1) L2 st s Ψ) : pw inj sk base N d X j pc L (.int x :: st) s Ψ := pw_pd q rfl (fun h b hb => by obtain ⟨-, -, x2, r, e, rfl⟩ := hb; cases e; subst hl; rfl) k
theorem pw_lstore {i : Nat} {x : Int64} {L2 : xL} (q : x_at xMM j pc (.lstore i) 2 y nL ret) (hl : x_s2 L i (.long x) = L2) (k : pw inj sk base N d X j (pc + 2) L2 st s Ψ) : pw inj sk base N d X j pc L (.long x :: st) s Ψ := pw_pu q rfl (fun h b hb => by obtain ⟨-, -, x2, r, e, rfl⟩ := hb; cases e; subst hl; rfl) k
theorem pd_lstore {i : Nat} {x : Int64} {L2 : xL} (q : x_at xMM j pc (.lstore i) 2 y nL ret) (hl : x_s2 L i (.long x) = L2) (k : pw inj sk base (N - 1) d X j (pc + 2) L2 st s Ψ) : pw inj sk base N d X j pc L (.long x :: st) s Ψ := pw_pd q rfl (fun h b hb => by obtain ⟨-, -, x2, r, e, rfl⟩ := hb; cases e; subst hl; rfl) k
theorem pw_lstoren {i : Fin 4} {x : Int64} {L2 : xL} (q : x_at xMM j pc (.lstore_n i) 1 y nL ret) (hl : x_s2 L i (.long x) = L2) (k : pw inj sk base N d X j (pc + 1) L2 st s Ψ) : pw inj sk base N d X j pc L (.long x :: st) s Ψ := pw_pu q rfl (fun h b hb => by obtain ⟨-, -, x2, r, e, rfl⟩ := hb; cases e; subst hl; rfl) k
theorem pd_lstoren {i : Fin 4} {x : Int64} {L2 : xL} (q : x_at xMM j pc (.lstore_n i) 1 y nL ret) (hl : x_s2 L i (.long x) = L2) (k : pw inj sk base (N - 1) d X j (pc + 1) L2 st s Ψ) : pw inj sk base N d X j pc L (.long x :: st) s Ψ := pw_pd q rfl (fun h b hb => by obtain ⟨-, -, x2, r, e, rfl⟩ := hb; cases e; subst hl; rfl) k
theorem pw_astore {i : Nat} {v : Value} {L2 : xL} (q : x_at xMM j pc (.astore i) 2 y nL ret) (hl : x_s1 L i v = L2) (k : pw inj sk base N d X j (pc + 2) L2 st s Ψ) : pw inj sk base N d X j pc L (v :: st) s Ψ := pw_pu q rfl (fun h b hb => by obtain ⟨-, -, x2, r, e, rfl⟩ := hb; cases e; subst hl; rfl) k
theorem pd_astore {i : Nat} {v : Value} {L2 : xL} (q : x_at xMM j pc (.astore i) 2 y nL ret) (hl : x_s1 L i v = L2) (k : pw inj sk base (N - 1) d X j (pc + 2) L2 st s Ψ) : pw inj sk base N d X j pc L (v :: st) s Ψ := pw_pd q rfl (fun h b hb => by obtain ⟨-, -, x2, r, e, rfl⟩ := hb; cases e; subst hl; rfl) k
theorem pw_astoren {i : Fin 4} {v : Value} {L2 : xL} (q : x_at xMM j pc (.astore_n i) 1 y nL ret) (hl : x_s1 L i v = L2) (k : pw inj sk base N d X j (pc + 1) L2 st s Ψ) : pw inj sk base N d X j pc L (v :: st) s Ψ := pw_pu q rfl (fun h b hb => by obtain ⟨-, -, x2, r, e, rfl⟩ := hb; cases e; subst hl; rfl) k
theorem pd_astoren {i : Fin 4} {v : Value} {L2 : xL} (q : x_at xMM j pc (.astore_n i) 1 y nL ret) (hl : x_s1 L i v = L2) (k : pw inj sk base (N - 1) d X j (pc + 1) L2 st s Ψ) : pw inj sk base N d X j pc L (v :: st) s Ψ := pw_pd q rfl (fun h b hb => by obtain ⟨-, -, x2, r, e, rfl⟩ := hb; cases e; subst hl; rfl) k
theorem pw_iinc {i : Nat} {n : Int} {x v : Int32} {L2 : xL} (q : x_at xMM j pc (.iinc i n) 3 y nL ret) (hg : L.filter (fun q => q.1 == i) = [(i, .int x)]) (hv : x + Int32.ofInt n = v) (hl : x_s1 L i (.int v) = L2) (k : pw inj sk base N d X j (pc + 3) L2 st s Ψ) : pw inj sk base N d X j pc L st s Ψ := pw_pu q rfl (fun h b hb => by obtain ⟨-, -, z, hm, rfl⟩ := hb; have e := x_lu hg hm; cases e; subst hv; subst hl; rfl) k
theorem pd_iinc {i : Nat} {n : Int} {x v : Int32} {L2 : xL} (q : x_at xMM j pc (.iinc i n) 3 y nL ret) (hg : L.filter (fun q => q.1 == i) = [(i, .int x)]) (hv : x + Int32.ofInt n = v) (hl : x_s1 L i (.int v) = L2) (k : pw inj sk base (N - 1) d X j (pc + 3) L2 st s Ψ) : pw inj sk base N d X j pc L st s Ψ := pw_pd q rfl (fun h b hb => by obtain ⟨-, -, z, hm, rfl⟩ := hb; have e := x_lu hg hm; cases e; subst hv; subst hl; rfl) k
theorem pw_iadd {x y1 : Int32} (q : x_at xMM j pc .iadd 1 y nL ret) (k : pw inj sk base N d X j (pc + 1) L (.int (x + y1) :: st) s Ψ) : pw inj sk base N d X j pc L (.int y1 :: .int x :: st) s Ψ := pw_pu q rfl (fun h b hb => by obtain ⟨-, x2, y2, r, e, rfl⟩ := hb; cases e; rfl) k
theorem pd_iadd {x y1 : Int32} (q : x_at xMM j pc .iadd 1 y nL ret) (k : pw inj sk base (N - 1) d X j (pc + 1) L (.int (x + y1) :: st) s Ψ) : pw inj sk base N d X j pc L (.int y1 :: .int x :: st) s Ψ := pw_pd q rfl (fun h b hb => by obtain ⟨-, x2, y2, r, e, rfl⟩ := hb; cases e; rfl) k
theorem pw_isub {x y1 : Int32} (q : x_at xMM j pc .isub 1 y nL ret) (k : pw inj sk base N d X j (pc + 1) L (.int (x - y1) :: st) s Ψ) : pw inj sk base N d X j pc L (.int y1 :: .int x :: st) s Ψ := pw_pu q rfl (fun h b hb => by obtain ⟨-, x2, y2, r, e, rfl⟩ := hb; cases e; rfl) k
theorem pd_isub {x y1 : Int32} (q : x_at xMM j pc .isub 1 y nL ret) (k : pw inj sk base (N - 1) d X j (pc + 1) L (.int (x - y1) :: st) s Ψ) : pw inj sk base N d X j pc L (.int y1 :: .int x :: st) s Ψ := pw_pd q rfl (fun h b hb => by obtain ⟨-, x2, y2, r, e, rfl⟩ := hb; cases e; rfl) k
theorem pw_imul {x y1 : Int32} (q : x_at xMM j pc .imul 1 y nL ret) (k : pw inj sk base N d X j (pc + 1) L (.int (x * y1) :: st) s Ψ) : pw inj sk base N d X j pc L (.int y1 :: .int x :: st) s Ψ := pw_pu q rfl (fun h b hb => by obtain ⟨-, x2, y2, r, e, rfl⟩ := hb; cases e; rfl) k
theorem pd_imul {x y1 : Int32} (q : x_at xMM j pc .imul 1 y nL ret) (k : pw inj sk base (N - 1) d X j (pc + 1) L (.int (x * y1) :: st) s Ψ) : pw inj sk base N d X j pc L (.int y1 :: .int x :: st) s Ψ := pw_pd q rfl (fun h b hb => by obtain ⟨-, x2, y2, r, e, rfl⟩ := hb; cases e; rfl) k
theorem pw_iand {x y1 : Int32} (q : x_at xMM j pc .iand 1 y nL ret) (k : pw inj sk base N d X j (pc + 1) L (.int (x &&& y1) :: st) s Ψ) : pw inj sk base N d X j pc L (.int y1 :: .int x :: st) s Ψ := pw_pu q rfl (fun h b hb => by obtain ⟨-, x2, y2, r, e, rfl⟩ := hb; cases e; rfl) k
theorem pd_iand {x y1 : Int32} (q : x_at xMM j pc .iand 1 y nL ret) (k : pw inj sk base (N - 1) d X j (pc + 1) L (.int (x &&& y1) :: st) s Ψ) : pw inj sk base N d X j pc L (.int y1 :: .int x :: st) s Ψ := pw_pd q rfl (fun h b hb => by obtain ⟨-, x2, y2, r, e, rfl⟩ := hb; cases e; rfl) k
theorem pw_ior {x y1 : Int32} (q : x_at xMM j pc .ior 1 y nL ret) (k : pw inj sk base N d X j (pc + 1) L (.int (x ||| y1) :: st) s Ψ) : pw inj sk base N d X j pc L (.int y1 :: .int x :: st) s Ψ := pw_pu q rfl (fun h b hb => by obtain ⟨-, x2, y2, r, e, rfl⟩ := hb; cases e; rfl) k
theorem pd_ior {x y1 : Int32} (q : x_at xMM j pc .ior 1 y nL ret) (k : pw inj sk base (N - 1) d X j (pc + 1) L (.int (x ||| y1) :: st) s Ψ) : pw inj sk base N d X j pc L (.int y1 :: .int x :: st) s Ψ := pw_pd q rfl (fun h b hb => by obtain ⟨-, x2, y2, r, e, rfl⟩ := hb; cases e; rfl) k
theorem pw_ixor {x y1 : Int32} (q : x_at xMM j pc .ixor 1 y nL ret) (k : pw inj sk base N d X j (pc + 1) L (.int (x ^^^ y1) :: st) s Ψ) : pw inj sk base N d X j pc L (.int y1 :: .int x :: st) s Ψ := pw_pu q rfl (fun h b hb => by obtain ⟨-, x2, y2, r, e, rfl⟩ := hb; cases e; rfl) k
theorem pd_ixor {x y1 : Int32} (q : x_at xMM j pc .ixor 1 y nL ret) (k : pw inj sk base (N - 1) d X j (pc + 1) L (.int (x ^^^ y1) :: st) s Ψ) : pw inj sk base N d X j pc L (.int y1 :: .int x :: st) s Ψ := pw_pd q rfl (fun h b hb => by obtain ⟨-, x2, y2, r, e, rfl⟩ := hb; cases e; rfl) k
theorem pw_ishl {x y1 : Int32} (q : x_at xMM j pc .ishl 1 y nL ret) (k : pw inj sk base N d X j (pc + 1) L (.int (x <<< (y1 &&& 31)) :: st) s Ψ) : pw inj sk base N d X j pc L (.int y1 :: .int x :: st) s Ψ := pw_pu q rfl (fun h b hb => by obtain ⟨-, x2, y2, r, e, rfl⟩ := hb; cases e; rfl) k
theorem pd_ishl {x y1 : Int32} (q : x_at xMM j pc .ishl 1 y nL ret) (k : pw inj sk base (N - 1) d X j (pc + 1) L (.int (x <<< (y1 &&& 31)) :: st) s Ψ) : pw inj sk base N d X j pc L (.int y1 :: .int x :: st) s Ψ := pw_pd q rfl (fun h b hb => by obtain ⟨-, x2, y2, r, e, rfl⟩ := hb; cases e; rfl) k
theorem pw_ishr {x y1 : Int32} (q : x_at xMM j pc .ishr 1 y nL ret) (k : pw inj sk base N d X j (pc + 1) L (.int (x >>> (y1 &&& 31)) :: st) s Ψ) : pw inj sk base N d X j pc L (.int y1 :: .int x :: st) s Ψ := pw_pu q rfl (fun h b hb => by obtain ⟨-, x2, y2, r, e, rfl⟩ := hb; cases e; rfl) k
theorem pd_ishr {x y1 : Int32} (q : x_at xMM j pc .ishr 1 y nL ret) (k : pw inj sk base (N - 1) d X j (pc + 1) L (.int (x >>> (y1 &&& 31)) :: st) s Ψ) : pw inj sk base N d X j pc L (.int y1 :: .int x :: st) s Ψ := pw_pd q rfl (fun h b hb => by obtain ⟨-, x2, y2, r, e, rfl⟩ := hb; cases e; rfl) k
theorem pw_iushr {x y1 : Int32} (q : x_at xMM j pc .iushr 1 y nL ret) (k : pw inj sk base N d X j (pc + 1) L (.int ((x.toUInt32 >>> (y1.toUInt32 &&& Int32.toUInt32 31)).toInt32) :: st) s Ψ) : pw inj sk base N d X j pc L (.int y1 :: .int x :: st) s Ψ := pw_pu q rfl (fun h b hb => by obtain ⟨-, x2, y2, r, e, rfl⟩ := hb; cases e; rfl) k
theorem pd_iushr {x y1 : Int32} (q : x_at xMM j pc .iushr 1 y nL ret) (k : pw inj sk base (N - 1) d X j (pc + 1) L (.int ((x.toUInt32 >>> (y1.toUInt32 &&& Int32.toUInt32 31)).toInt32) :: st) s Ψ) : pw inj sk base N d X j pc L (.int y1 :: .int x :: st) s Ψ := pw_pd q rfl (fun h b hb => by obtain ⟨-, x2, y2, r, e, rfl⟩ := hb; cases e; rfl) k
theorem pw_ladd {x y1 : Int64} (q : x_at xMM j pc .ladd 1 y nL ret) (k : pw inj sk base N d X j (pc + 1) L (.long (x + y1) :: st) s Ψ) : pw inj sk base N d X j pc L (.long y1 :: .long x :: st) s Ψ := pw_pu q rfl (fun h b hb => by obtain ⟨-, x2, y2, r, e, rfl⟩ := hb; cases e; rfl) k
theorem pd_ladd {x y1 : Int64} (q : x_at xMM j pc .ladd 1 y nL ret) (k : pw inj sk base (N - 1) d X j (pc + 1) L (.long (x + y1) :: st) s Ψ) : pw inj sk base N d X j pc L (.long y1 :: .long x :: st) s Ψ := pw_pd q rfl (fun h b hb => by obtain ⟨-, x2, y2, r, e, rfl⟩ := hb; cases e; rfl) k
theorem pw_lsub {x y1 : Int64} (q : x_at xMM j pc .lsub 1 y nL ret) (k : pw inj sk base N d X j (pc + 1) L (.long (x - y1) :: st) s Ψ) : pw inj sk base N d X j pc L (.long y1 :: .long x :: st) s Ψ := pw_pu q rfl (fun h b hb => by obtain ⟨-, x2, y2, r, e, rfl⟩ := hb; cases e; rfl) k
theorem pd_lsub {x y1 : Int64} (q : x_at xMM j pc .lsub 1 y nL ret) (k : pw inj sk base (N - 1) d X j (pc + 1) L (.long (x - y1) :: st) s Ψ) : pw inj sk base N d X j pc L (.long y1 :: .long x :: st) s Ψ := pw_pd q rfl (fun h b hb => by obtain ⟨-, x2, y2, r, e, rfl⟩ := hb; cases e; rfl) k
theorem pw_lmul {x y1 : Int64} (q : x_at xMM j pc .lmul 1 y nL ret) (k : pw inj sk base N d X j (pc + 1) L (.long (x * y1) :: st) s Ψ) : pw inj sk base N d X j pc L (.long y1 :: .long x :: st) s Ψ := pw_pu q rfl (fun h b hb => by obtain ⟨-, x2, y2, r, e, rfl⟩ := hb; cases e; rfl) k
theorem pd_lmul {x y1 : Int64} (q : x_at xMM j pc .lmul 1 y nL ret) (k : pw inj sk base (N - 1) d X j (pc + 1) L (.long (x * y1) :: st) s Ψ) : pw inj sk base N d X j pc L (.long y1 :: .long x :: st) s Ψ := pw_pd q rfl (fun h b hb => by obtain ⟨-, x2, y2, r, e, rfl⟩ := hb; cases e; rfl) k
theorem pw_land {x y1 : Int64} (q : x_at xMM j pc .land 1 y nL ret) (k : pw inj sk base N d X j (pc + 1) L (.long (x &&& y1) :: st) s Ψ) : pw inj sk base N d X j pc L (.long y1 :: .long x :: st) s Ψ := pw_pu q rfl (fun h b hb => by obtain ⟨-, x2, y2, r, e, rfl⟩ := hb; cases e; rfl) k
theorem pd_land {x y1 : Int64} (q : x_at xMM j pc .land 1 y nL ret) (k : pw inj sk base (N - 1) d X j (pc + 1) L (.long (x &&& y1) :: st) s Ψ) : pw inj sk base N d X j pc L (.long y1 :: .long x :: st) s Ψ := pw_pd q rfl (fun h b hb => by obtain ⟨-, x2, y2, r, e, rfl⟩ := hb; cases e; rfl) k
theorem pw_lor {x y1 : Int64} (q : x_at xMM j pc .lor 1 y nL ret) (k : pw inj sk base N d X j (pc + 1) L (.long (x ||| y1) :: st) s Ψ) : pw inj sk base N d X j pc L (.long y1 :: .long x :: st) s Ψ := pw_pu q rfl (fun h b hb => by obtain ⟨-, x2, y2, r, e, rfl⟩ := hb; cases e; rfl) k
theorem pd_lor {x y1 : Int64} (q : x_at xMM j pc .lor 1 y nL ret) (k : pw inj sk base (N - 1) d X j (pc + 1) L (.long (x ||| y1) :: st) s Ψ) : pw inj sk base N d X j pc L (.long y1 :: .long x :: st) s Ψ := pw_pd q rfl (fun h b hb => by obtain ⟨-, x2, y2, r, e, rfl⟩ := hb; cases e; rfl) k
theorem pw_lxor {x y1 : Int64} (q : x_at xMM j pc .lxor 1 y nL ret) (k : pw inj sk base N d X j (pc + 1) L (.long (x ^^^ y1) :: st) s Ψ) : pw inj sk base N d X j pc L (.long y1 :: .long x :: st) s Ψ := pw_pu q rfl (fun h b hb => by obtain ⟨-, x2, y2, r, e, rfl⟩ := hb; cases e; rfl) k
theorem pd_lxor {x y1 : Int64} (q : x_at xMM j pc .lxor 1 y nL ret) (k : pw inj sk base (N - 1) d X j (pc + 1) L (.long (x ^^^ y1) :: st) s Ψ) : pw inj sk base N d X j pc L (.long y1 :: .long x :: st) s Ψ := pw_pd q rfl (fun h b hb => by obtain ⟨-, x2, y2, r, e, rfl⟩ := hb; cases e; rfl) k
theorem pw_lshl {x : Int64} {y1 : Int32} (q : x_at xMM j pc .lshl 1 y nL ret) (k : pw inj sk base N d X j (pc + 1) L (.long (x <<< (y1.toInt64 &&& 63)) :: st) s Ψ) : pw inj sk base N d X j pc L (.int y1 :: .long x :: st) s Ψ := pw_pu q rfl (fun h b hb => by obtain ⟨-, x2, y2, r, e, rfl⟩ := hb; cases e; rfl) k
theorem pd_lshl {x : Int64} {y1 : Int32} (q : x_at xMM j pc .lshl 1 y nL ret) (k : pw inj sk base (N - 1) d X j (pc + 1) L (.long (x <<< (y1.toInt64 &&& 63)) :: st) s Ψ) : pw inj sk base N d X j pc L (.int y1 :: .long x :: st) s Ψ := pw_pd q rfl (fun h b hb => by obtain ⟨-, x2, y2, r, e, rfl⟩ := hb; cases e; rfl) k
theorem pw_lshr {x : Int64} {y1 : Int32} (q : x_at xMM j pc .lshr 1 y nL ret) (k : pw inj sk base N d X j (pc + 1) L (.long (x >>> (y1.toInt64 &&& 63)) :: st) s Ψ) : pw inj sk base N d X j pc L (.int y1 :: .long x :: st) s Ψ := pw_pu q rfl (fun h b hb => by obtain ⟨-, x2, y2, r, e, rfl⟩ := hb; cases e; rfl) k
theorem pd_lshr {x : Int64} {y1 : Int32} (q : x_at xMM j pc .lshr 1 y nL ret) (k : pw inj sk base (N - 1) d X j (pc + 1) L (.long (x >>> (y1.toInt64 &&& 63)) :: st) s Ψ) : pw inj sk base N d X j pc L (.int y1 :: .long x :: st) s Ψ := pw_pd q rfl (fun h b hb => by obtain ⟨-, x2, y2, r, e, rfl⟩ := hb; cases e; rfl) k
theorem pw_lushr {x : Int64} {y1 : Int32} (q : x_at xMM j pc .lushr 1 y nL ret) (k : pw inj sk base N d X j (pc + 1) L (.long ((x.toUInt64 >>> (y1.toInt64.toUInt64 &&& Int64.toUInt64 63)).toInt64) :: st) s Ψ) : pw inj sk base N d X j pc L (.int y1 :: .long x :: st) s Ψ := pw_pu q rfl (fun h b hb => by obtain ⟨-, x2, y2, r, e, rfl⟩ := hb; cases e; rfl) k
theorem pd_lushr {x : Int64} {y1 : Int32} (q : x_at xMM j pc .lushr 1 y nL ret) (k : pw inj sk base (N - 1) d X j (pc + 1) L (.long ((x.toUInt64 >>> (y1.toInt64.toUInt64 &&& Int64.toUInt64 63)).toInt64) :: st) s Ψ) : pw inj sk base N d X j pc L (.int y1 :: .long x :: st) s Ψ := pw_pd q rfl (fun h b hb => by obtain ⟨-, x2, y2, r, e, rfl⟩ := hb; cases e; rfl) k
theorem pw_ineg {x : Int32} (q : x_at xMM j pc .ineg 1 y nL ret) (k : pw inj sk base N d X j (pc + 1) L (.int (-x) :: st) s Ψ) : pw inj sk base N d X j pc L (.int x :: st) s Ψ := pw_pu q rfl (fun h b hb => by obtain ⟨-, x2, r, e, rfl⟩ := hb; cases e; rfl) k
theorem pd_ineg {x : Int32} (q : x_at xMM j pc .ineg 1 y nL ret) (k : pw inj sk base (N - 1) d X j (pc + 1) L (.int (-x) :: st) s Ψ) : pw inj sk base N d X j pc L (.int x :: st) s Ψ := pw_pd q rfl (fun h b hb => by obtain ⟨-, x2, r, e, rfl⟩ := hb; cases e; rfl) k
theorem pw_lneg {x : Int64} (q : x_at xMM j pc .lneg 1 y nL ret) (k : pw inj sk base N d X j (pc + 1) L (.long (-x) :: st) s Ψ) : pw inj sk base N d X j pc L (.long x :: st) s Ψ := pw_pu q rfl (fun h b hb => by obtain ⟨-, x2, r, e, rfl⟩ := hb; cases e; rfl) k
theorem pd_lneg {x : Int64} (q : x_at xMM j pc .lneg 1 y nL ret) (k : pw inj sk base (N - 1) d X j (pc + 1) L (.long (-x) :: st) s Ψ) : pw inj sk base N d X j pc L (.long x :: st) s Ψ := pw_pd q rfl (fun h b hb => by obtain ⟨-, x2, r, e, rfl⟩ := hb; cases e; rfl) k
theorem pw_lcmp {x y1 : Int64} (q : x_at xMM j pc .lcmp 1 y nL ret) (k : pw inj sk base N d X j (pc + 1) L (.int (lg_cmp x y1) :: st) s Ψ) : pw inj sk base N d X j pc L (.long y1 :: .long x :: st) s Ψ := pw_pu q rfl (fun h b hb => by obtain ⟨-, x2, y2, r, e, rfl⟩ := hb; cases e; rfl) k
theorem pd_lcmp {x y1 : Int64} (q : x_at xMM j pc .lcmp 1 y nL ret) (k : pw inj sk base (N - 1) d X j (pc + 1) L (.int (lg_cmp x y1) :: st) s Ψ) : pw inj sk base N d X j pc L (.long y1 :: .long x :: st) s Ψ := pw_pd q rfl (fun h b hb => by obtain ⟨-, x2, y2, r, e, rfl⟩ := hb; cases e; rfl) k
theorem pw_i2l {x : Int32} (q : x_at xMM j pc .i2l 1 y nL ret) (k : pw inj sk base N d X j (pc + 1) L (.long x.toInt64 :: st) s Ψ) : pw inj sk base N d X j pc L (.int x :: st) s Ψ := pw_pu q rfl (fun h b hb => by obtain ⟨-, x2, r, e, rfl⟩ := hb; cases e; rfl) k
theorem pd_i2l {x : Int32} (q : x_at xMM j pc .i2l 1 y nL ret) (k : pw inj sk base (N - 1) d X j (pc + 1) L (.long x.toInt64 :: st) s Ψ) : pw inj sk base N d X j pc L (.int x :: st) s Ψ := pw_pd q rfl (fun h b hb => by obtain ⟨-, x2, r, e, rfl⟩ := hb; cases e; rfl) k
theorem pw_l2i {x : Int64} (q : x_at xMM j pc .l2i 1 y nL ret) (k : pw inj sk base N d X j (pc + 1) L (.int x.toInt32 :: st) s Ψ) : pw inj sk base N d X j pc L (.long x :: st) s Ψ := pw_pu q rfl (fun h b hb => by obtain ⟨-, x2, r, e, rfl⟩ := hb; cases e; rfl) k
theorem pd_l2i {x : Int64} (q : x_at xMM j pc .l2i 1 y nL ret) (k : pw inj sk base (N - 1) d X j (pc + 1) L (.int x.toInt32 :: st) s Ψ) : pw inj sk base N d X j pc L (.long x :: st) s Ψ := pw_pd q rfl (fun h b hb => by obtain ⟨-, x2, r, e, rfl⟩ := hb; cases e; rfl) k
theorem pw_i2c {x : Int32} (q : x_at xMM j pc .i2c 1 y nL ret) (k : pw inj sk base N d X j (pc + 1) L (.int (x.toUInt32 % 65536).toInt32 :: st) s Ψ) : pw inj sk base N d X j pc L (.int x :: st) s Ψ := pw_pu q rfl (fun h b hb => by obtain ⟨-, x2, r, e, rfl⟩ := hb; cases e; rfl) k
theorem pd_i2c {x : Int32} (q : x_at xMM j pc .i2c 1 y nL ret) (k : pw inj sk base (N - 1) d X j (pc + 1) L (.int (x.toUInt32 % 65536).toInt32 :: st) s Ψ) : pw inj sk base N d X j pc L (.int x :: st) s Ψ := pw_pd q rfl (fun h b hb => by obtain ⟨-, x2, r, e, rfl⟩ := hb; cases e; rfl) k
theorem pw_dup {v : Value} (q : x_at xMM j pc .dup 1 y nL ret) (k : pw inj sk base N d X j (pc + 1) L (v :: v :: st) s Ψ) : pw inj sk base N d X j pc L (v :: st) s Ψ := pw_pu q rfl (fun h b hb => by obtain ⟨-, v2, r, -, e, rfl⟩ := hb; cases e; rfl) k
theorem pd_dup {v : Value} (q : x_at xMM j pc .dup 1 y nL ret) (k : pw inj sk base (N - 1) d X j (pc + 1) L (v :: v :: st) s Ψ) : pw inj sk base N d X j pc L (v :: st) s Ψ := pw_pd q rfl (fun h b hb => by obtain ⟨-, v2, r, -, e, rfl⟩ := hb; cases e; rfl) k
theorem pw_dup2 {v w : Value} (q : x_at xMM j pc .dup2 1 y nL ret) (k : pw inj sk base N d X j (pc + 1) L (v :: w :: v :: w :: st) s Ψ) : pw inj sk base N d X j pc L (v :: w :: st) s Ψ := pw_pu q rfl (fun h b hb => by obtain ⟨-, v2, w2, r, -, -, e, rfl⟩ := hb; cases e; rfl) k
theorem pd_dup2 {v w : Value} (q : x_at xMM j pc .dup2 1 y nL ret) (k : pw inj sk base (N - 1) d X j (pc + 1) L (v :: w :: v :: w :: st) s Ψ) : pw inj sk base N d X j pc L (v :: w :: st) s Ψ := pw_pd q rfl (fun h b hb => by obtain ⟨-, v2, w2, r, -, -, e, rfl⟩ := hb; cases e; rfl) k
theorem pw_pop {v : Value} (q : x_at xMM j pc .pop 1 y nL ret) (k : pw inj sk base N d X j (pc + 1) L st s Ψ) : pw inj sk base N d X j pc L (v :: st) s Ψ := pw_pu q rfl (fun h b hb => by obtain ⟨-, v2, r, -, e, rfl⟩ := hb; cases e; rfl) k
theorem pd_pop {v : Value} (q : x_at xMM j pc .pop 1 y nL ret) (k : pw inj sk base (N - 1) d X j (pc + 1) L st s Ψ) : pw inj sk base N d X j pc L (v :: st) s Ψ := pw_pd q rfl (fun h b hb => by obtain ⟨-, v2, r, -, e, rfl⟩ := hb; cases e; rfl) k
theorem pw_pop2 {v : Value} (q : x_at xMM j pc .pop2 1 y nL ret) (k : pw inj sk base N d X j (pc + 1) L st s Ψ) : pw inj sk base N d X j pc L (v :: st) s Ψ := pw_pu q rfl (fun h b hb => by obtain ⟨-, v2, r, -, e, rfl⟩ := hb; cases e; rfl) k
theorem pd_pop2 {v : Value} (q : x_at xMM j pc .pop2 1 y nL ret) (k : pw inj sk base (N - 1) d X j (pc + 1) L st s Ψ) : pw inj sk base N d X j pc L (v :: st) s Ψ := pw_pd q rfl (fun h b hb => by obtain ⟨-, v2, r, -, e, rfl⟩ := hb; cases e; rfl) k
theorem pw_goto {off : Int} {tgt : Nat} (q : x_at xMM j pc (.goto off) 3 y nL ret) (ht : (pc : Int) + off = (tgt : Int)) (k : pw inj sk base N d X j tgt L st s Ψ) : pw inj sk base N d X j pc L st s Ψ := pw_pu q rfl (fun h b hb => by obtain ⟨-, t2, ht2, rfl⟩ := hb; have e2 : t2 = tgt := (by dsimp only at ht2; omega); subst e2; rfl) k
theorem pd_goto {off : Int} {tgt : Nat} (q : x_at xMM j pc (.goto off) 3 y nL ret) (ht : (pc : Int) + off = (tgt : Int)) (k : pw inj sk base (N - 1) d X j tgt L st s Ψ) : pw inj sk base N d X j pc L st s Ψ := pw_pd q rfl (fun h b hb => by obtain ⟨-, t2, ht2, rfl⟩ := hb; have e2 : t2 = tgt := (by dsimp only at ht2; omega); subst e2; rfl) k
theorem pw_idiv {x y1 : Int32} (q : x_at xMM j pc .idiv 1 y nL ret) (k : ¬ y1 = 0 → pw inj sk base N d X j (pc + 1) L (.int (x / y1) :: st) s A) : pw inj sk base N d X j pc L (.int y1 :: .int x :: st) s (P_and (¬ y1 = 0) A) := pw_pg q rfl (fun h b hb => by obtain ⟨-, x2, y2, r, h0, e, rfl⟩ := hb; cases e; exact ⟨h0, rfl⟩) k
theorem pw_irem {x y1 : Int32} (q : x_at xMM j pc .irem 1 y nL ret) (k : ¬ y1 = 0 → pw inj sk base N d X j (pc + 1) L (.int (x - x / y1 * y1) :: st) s A) : pw inj sk base N d X j pc L (.int y1 :: .int x :: st) s (P_and (¬ y1 = 0) A) := pw_pg q rfl (fun h b hb => by obtain ⟨-, x2, y2, r, h0, e, rfl⟩ := hb; cases e; exact ⟨h0, rfl⟩) k
theorem pw_ldiv {x y1 : Int64} (q : x_at xMM j pc .ldiv 1 y nL ret) (k : ¬ y1 = 0 → pw inj sk base N d X j (pc + 1) L (.long (x / y1) :: st) s A) : pw inj sk base N d X j pc L (.long y1 :: .long x :: st) s (P_and (¬ y1 = 0) A) := pw_pg q rfl (fun h b hb => by obtain ⟨-, x2, y2, r, h0, e, rfl⟩ := hb; cases e; exact ⟨h0, rfl⟩) k
theorem pw_lrem {x y1 : Int64} (q : x_at xMM j pc .lrem 1 y nL ret) (k : ¬ y1 = 0 → pw inj sk base N d X j (pc + 1) L (.long (x - x / y1 * y1) :: st) s A) : pw inj sk base N d X j pc L (.long y1 :: .long x :: st) s (P_and (¬ y1 = 0) A) := pw_pg q rfl (fun h b hb => by obtain ⟨-, x2, y2, r, h0, e, rfl⟩ := hb; cases e; exact ⟨h0, rfl⟩) k
theorem c0_eq (x : Int32) : x = 0 ↔ x.toInt = 0 := ⟨fun h => by rw [h]; rfl, fun h => i_eqv h⟩
theorem c0_lt (x : Int32) : x < 0 ↔ x.toInt < 0 := by rw [Int32.lt_iff_toInt_lt]; rfl
theorem c0_gt (x : Int32) : 0 < x ↔ 0 < x.toInt := by rw [Int32.lt_iff_toInt_lt]; rfl
theorem c0_ge (x : Int32) : 0 ≤ x ↔ ¬ x.toInt < 0 := by rw [Int32.le_iff_toInt_le, Int.not_lt]; rfl
theorem c0_le (x : Int32) : x ≤ 0 ↔ ¬ 0 < x.toInt := by rw [Int32.le_iff_toInt_le, Int.not_lt]; rfl
theorem c2_eq (x y : Int32) : x = y ↔ x.toInt = y.toInt := ⟨fun h => by rw [h], fun h => i_eqv h⟩
theorem c2_lt (x y : Int32) : x < y ↔ x.toInt < y.toInt := Int32.lt_iff_toInt_lt
theorem c2_ge (x y : Int32) : y ≤ x ↔ ¬ x.toInt < y.toInt := by rw [Int32.le_iff_toInt_le, Int.not_lt]
theorem c2_le (x y : Int32) : x ≤ y ↔ ¬ y.toInt < x.toInt := by rw [Int32.le_iff_toInt_le, Int.not_lt]
theorem pw_ifeq {x : Int32} {off : Int} {tgt : Nat} (q : x_at xMM j pc (.ifCond .eq off) 3 y nL ret) (ht : (pc : Int) + off = (tgt : Int)) (kt : x.toInt = 0 → pw inj sk base N d X j tgt L st s A) (kf : ¬ x.toInt = 0 → pw inj sk base N d X j (pc + 3) L st s B) : pw inj sk base N d X j pc L (.int x :: st) s (P_if (x.toInt = 0) A B) := pw_br q rfl (fun h b hb => by { obtain ⟨-, x2, r, t2, e, ht2, hb⟩ := hb; cases e; dsimp only at ht2; have e2 : t2 = tgt := (by omega); rcases hb with ⟨h1, rfl⟩ | ⟨h1, rfl⟩; { exact Or.inl ⟨(c0_eq x).mp h1, by rw [e2]; rfl⟩ }; { exact Or.inr ⟨fun z => h1 ((c0_eq x).mpr z), rfl⟩ } }) kt kf
theorem pw_ifne {x : Int32} {off : Int} {tgt : Nat} (q : x_at xMM j pc (.ifCond .ne off) 3 y nL ret) (ht : (pc : Int) + off = (tgt : Int)) (kt : x.toInt = 0 → pw inj sk base N d X j (pc + 3) L st s A) (kf : ¬ x.toInt = 0 → pw inj sk base N d X j tgt L st s B) : pw inj sk base N d X j pc L (.int x :: st) s (P_if (x.toInt = 0) A B) := pw_br q rfl (fun h b hb => by { obtain ⟨-, x2, r, t2, e, ht2, hb⟩ := hb; cases e; dsimp only at ht2; have e2 : t2 = tgt := (by omega); rcases hb with ⟨h1, rfl⟩ | ⟨h1, rfl⟩; { exact Or.inr ⟨fun z => h1 ((c0_eq x).mpr z), by rw [e2]; rfl⟩ }; { exact Or.inl ⟨(c0_eq x).mp (Classical.not_not.mp h1), rfl⟩ } }) kt kf
theorem pw_iflt {x : Int32} {off : Int} {tgt : Nat} (q : x_at xMM j pc (.ifCond .lt off) 3 y nL ret) (ht : (pc : Int) + off = (tgt : Int)) (kt : x.toInt < 0 → pw inj sk base N d X j tgt L st s A) (kf : ¬ x.toInt < 0 → pw inj sk base N d X j (pc + 3) L st s B) : pw inj sk base N d X j pc L (.int x :: st) s (P_if (x.toInt < 0) A B) := pw_br q rfl (fun h b hb => by { obtain ⟨-, x2, r, t2, e, ht2, hb⟩ := hb; cases e; dsimp only at ht2; have e2 : t2 = tgt := (by omega); rcases hb with ⟨h1, rfl⟩ | ⟨h1, rfl⟩; { exact Or.inl ⟨(c0_lt x).mp h1, by rw [e2]; rfl⟩ }; { exact Or.inr ⟨fun z => h1 ((c0_lt x).mpr z), rfl⟩ } }) kt kf
theorem pw_ifge {x : Int32} {off : Int} {tgt : Nat} (q : x_at xMM j pc (.ifCond .ge off) 3 y nL ret) (ht : (pc : Int) + off = (tgt : Int)) (kt : x.toInt < 0 → pw inj sk base N d X j (pc + 3) L st s A) (kf : ¬ x.toInt < 0 → pw inj sk base N d X j tgt L st s B) : pw inj sk base N d X j pc L (.int x :: st) s (P_if (x.toInt < 0) A B) := pw_br q rfl (fun h b hb => by { obtain ⟨-, x2, r, t2, e, ht2, hb⟩ := hb; cases e; dsimp only at ht2; have e2 : t2 = tgt := (by omega); rcases hb with ⟨h1, rfl⟩ | ⟨h1, rfl⟩; { exact Or.inr ⟨(c0_ge x).mp h1, by rw [e2]; rfl⟩ }; { exact Or.inl ⟨Classical.not_not.mp (fun z => h1 ((c0_ge x).mpr z)), rfl⟩ } }) kt kf
theorem pw_ifgt {x : Int32} {off : Int} {tgt : Nat} (q : x_at xMM j pc (.ifCond .gt off) 3 y nL ret) (ht : (pc : Int) + off = (tgt : Int)) (kt : 0 < x.toInt → pw inj sk base N d X j tgt L st s A) (kf : ¬ 0 < x.toInt → pw inj sk base N d X j (pc + 3) L st s B) : pw inj sk base N d X j pc L (.int x :: st) s (P_if (0 < x.toInt) A B) := pw_br q rfl (fun h b hb => by { obtain ⟨-, x2, r, t2, e, ht2, hb⟩ := hb; cases e; dsimp only at ht2; have e2 : t2 = tgt := (by omega); rcases hb with ⟨h1, rfl⟩ | ⟨h1, rfl⟩; { exact Or.inl ⟨(c0_gt x).mp h1, by rw [e2]; rfl⟩ }; { exact Or.inr ⟨fun z => h1 ((c0_gt x).mpr z), rfl⟩ } }) kt kf
theorem pw_ifle {x : Int32} {off : Int} {tgt : Nat} (q : x_at xMM j pc (.ifCond .le off) 3 y nL ret) (ht : (pc : Int) + off = (tgt : Int)) (kt : 0 < x.toInt → pw inj sk base N d X j (pc + 3) L st s A) (kf : ¬ 0 < x.toInt → pw inj sk base N d X j tgt L st s B) : pw inj sk base N d X j pc L (.int x :: st) s (P_if (0 < x.toInt) A B) := pw_br q rfl (fun h b hb => by { obtain ⟨-, x2, r, t2, e, ht2, hb⟩ := hb; cases e; dsimp only at ht2; have e2 : t2 = tgt := (by omega); rcases hb with ⟨h1, rfl⟩ | ⟨h1, rfl⟩; { exact Or.inr ⟨(c0_le x).mp h1, by rw [e2]; rfl⟩ }; { exact Or.inl ⟨Classical.not_not.mp (fun z => h1 ((c0_le x).mpr z)), rfl⟩ } }) kt kf
theorem pw_iceq {x y1 : Int32} {off : Int} {tgt : Nat} (q : x_at xMM j pc (.if_icmp .eq off) 3 y nL ret) (ht : (pc : Int) + off = (tgt : Int)) (kt : x.toInt = y1.toInt → pw inj sk base N d X j tgt L st s A) (kf : ¬ x.toInt = y1.toInt → pw inj sk base N d X j (pc + 3) L st s B) : pw inj sk base N d X j pc L (.int y1 :: .int x :: st) s (P_if (x.toInt = y1.toInt) A B) := pw_br q rfl (fun h b hb => by { obtain ⟨-, x2, y2, r, t2, e, ht2, hb⟩ := hb; cases e; dsimp only at ht2; have e2 : t2 = tgt := (by omega); rcases hb with ⟨h1, rfl⟩ | ⟨h1, rfl⟩; { exact Or.inl ⟨(c2_eq x y1).mp h1, by rw [e2]; rfl⟩ }; { exact Or.inr ⟨fun z => h1 ((c2_eq x y1).mpr z), rfl⟩ } }) kt kf
theorem pw_icne {x y1 : Int32} {off : Int} {tgt : Nat} (q : x_at xMM j pc (.if_icmp .ne off) 3 y nL ret) (ht : (pc : Int) + off = (tgt : Int)) (kt : x.toInt = y1.toInt → pw inj sk base N d X j (pc + 3) L st s A) (kf : ¬ x.toInt = y1.toInt → pw inj sk base N d X j tgt L st s B) : pw inj sk base N d X j pc L (.int y1 :: .int x :: st) s (P_if (x.toInt = y1.toInt) A B) := pw_br q rfl (fun h b hb => by { obtain ⟨-, x2, y2, r, t2, e, ht2, hb⟩ := hb; cases e; dsimp only at ht2; have e2 : t2 = tgt := (by omega); rcases hb with ⟨h1, rfl⟩ | ⟨h1, rfl⟩; { exact Or.inr ⟨fun z => h1 ((c2_eq x y1).mpr z), by rw [e2]; rfl⟩ }; { exact Or.inl ⟨(c2_eq x y1).mp (Classical.not_not.mp h1), rfl⟩ } }) kt kf
theorem pw_iclt {x y1 : Int32} {off : Int} {tgt : Nat} (q : x_at xMM j pc (.if_icmp .lt off) 3 y nL ret) (ht : (pc : Int) + off = (tgt : Int)) (kt : x.toInt < y1.toInt → pw inj sk base N d X j tgt L st s A) (kf : ¬ x.toInt < y1.toInt → pw inj sk base N d X j (pc + 3) L st s B) : pw inj sk base N d X j pc L (.int y1 :: .int x :: st) s (P_if (x.toInt < y1.toInt) A B) := pw_br q rfl (fun h b hb => by { obtain ⟨-, x2, y2, r, t2, e, ht2, hb⟩ := hb; cases e; dsimp only at ht2; have e2 : t2 = tgt := (by omega); rcases hb with ⟨h1, rfl⟩ | ⟨h1, rfl⟩; { exact Or.inl ⟨(c2_lt x y1).mp h1, by rw [e2]; rfl⟩ }; { exact Or.inr ⟨fun z => h1 ((c2_lt x y1).mpr z), rfl⟩ } }) kt kf
theorem pw_icge {x y1 : Int32} {off : Int} {tgt : Nat} (q : x_at xMM j pc (.if_icmp .ge off) 3 y nL ret) (ht : (pc : Int) + off = (tgt : Int)) (kt : x.toInt < y1.toInt → pw inj sk base N d X j (pc + 3) L st s A) (kf : ¬ x.toInt < y1.toInt → pw inj sk base N d X j tgt L st s B) : pw inj sk base N d X j pc L (.int y1 :: .int x :: st) s (P_if (x.toInt < y1.toInt) A B) := pw_br q rfl (fun h b hb => by { obtain ⟨-, x2, y2, r, t2, e, ht2, hb⟩ := hb; cases e; dsimp only at ht2; have e2 : t2 = tgt := (by omega); rcases hb with ⟨h1, rfl⟩ | ⟨h1, rfl⟩; { exact Or.inr ⟨(c2_ge x y1).mp h1, by rw [e2]; rfl⟩ }; { exact Or.inl ⟨Classical.not_not.mp (fun z => h1 ((c2_ge x y1).mpr z)), rfl⟩ } }) kt kf
theorem pw_icgt {x y1 : Int32} {off : Int} {tgt : Nat} (q : x_at xMM j pc (.if_icmp .gt off) 3 y nL ret) (ht : (pc : Int) + off = (tgt : Int)) (kt : y1.toInt < x.toInt → pw inj sk base N d X j tgt L st s A) (kf : ¬ y1.toInt < x.toInt → pw inj sk base N d X j (pc + 3) L st s B) : pw inj sk base N d X j pc L (.int y1 :: .int x :: st) s (P_if (y1.toInt < x.toInt) A B) := pw_br q rfl (fun h b hb => by { obtain ⟨-, x2, y2, r, t2, e, ht2, hb⟩ := hb; cases e; dsimp only at ht2; have e2 : t2 = tgt := (by omega); rcases hb with ⟨h1, rfl⟩ | ⟨h1, rfl⟩; { exact Or.inl ⟨(c2_lt y1 x).mp h1, by rw [e2]; rfl⟩ }; { exact Or.inr ⟨fun z => h1 ((c2_lt y1 x).mpr z), rfl⟩ } }) kt kf
theorem pw_icle {x y1 : Int32} {off : Int} {tgt : Nat} (q : x_at xMM j pc (.if_icmp .le off) 3 y nL ret) (ht : (pc : Int) + off = (tgt : Int)) (kt : y1.toInt < x.toInt → pw inj sk base N d X j (pc + 3) L st s A) (kf : ¬ y1.toInt < x.toInt → pw inj sk base N d X j tgt L st s B) : pw inj sk base N d X j pc L (.int y1 :: .int x :: st) s (P_if (y1.toInt < x.toInt) A B) := pw_br q rfl (fun h b hb => by { obtain ⟨-, x2, y2, r, t2, e, ht2, hb⟩ := hb; cases e; dsimp only at ht2; have e2 : t2 = tgt := (by omega); rcases hb with ⟨h1, rfl⟩ | ⟨h1, rfl⟩; { exact Or.inr ⟨(c2_le x y1).mp h1, by rw [e2]; rfl⟩ }; { exact Or.inl ⟨Classical.not_not.mp (fun z => h1 ((c2_le x y1).mpr z)), rfl⟩ } }) kt kf
theorem pw_lceq {x y1 : Int64} {off : Int} {tgt : Nat} (q1 : x_at xMM j pc .lcmp 1 y nL ret) (q : x_at xMM j (pc + 1) (.ifCond .eq off) 3 y nL ret) (ht : ((pc + 1 : Nat) : Int) + off = (tgt : Int)) (kt : x.toInt = y1.toInt → pw inj sk base N d X j tgt L st s A) (kf : ¬ x.toInt = y1.toInt → pw inj sk base N d X j (pc + 1 + 3) L st s B) : pw inj sk base N d X j pc L (.long y1 :: .long x :: st) s (P_if (x.toInt = y1.toInt) A B) := by
  have h3 := lg_cmp3 x y1
  have hc : (lg_cmp x y1).toInt = 0 ↔ x.toInt = y1.toInt := by split at h3 <;> (try split at h3) <;> omega
  refine pw_lcmp q1 (pw_cons (pw_ifeq (A := A) (B := B) q ht (fun h => kt (hc.mp h)) (fun h => kf (fun z => h (hc.mpr z)))) (fun v s hv => ?_))
  rcases hv with ⟨h1, h2⟩ | ⟨h1, h2⟩
  · exact Or.inl ⟨hc.mp h1, h2⟩
  · exact Or.inr ⟨fun z => h1 (hc.mpr z), h2⟩
theorem pw_lcne {x y1 : Int64} {off : Int} {tgt : Nat} (q1 : x_at xMM j pc .lcmp 1 y nL ret) (q : x_at xMM j (pc + 1) (.ifCond .ne off) 3 y nL ret) (ht : ((pc + 1 : Nat) : Int) + off = (tgt : Int)) (kt : x.toInt = y1.toInt → pw inj sk base N d X j (pc + 1 + 3) L st s A) (kf : ¬ x.toInt = y1.toInt → pw inj sk base N d X j tgt L st s B) : pw inj sk base N d X j pc L (.long y1 :: .long x :: st) s (P_if (x.toInt = y1.toInt) A B) := by
  have h3 := lg_cmp3 x y1
  have hc : (lg_cmp x y1).toInt = 0 ↔ x.toInt = y1.toInt := by split at h3 <;> (try split at h3) <;> omega
  refine pw_lcmp q1 (pw_cons (pw_ifne (A := A) (B := B) q ht (fun h => kt (hc.mp h)) (fun h => kf (fun z => h (hc.mpr z)))) (fun v s hv => ?_))
  rcases hv with ⟨h1, h2⟩ | ⟨h1, h2⟩
  · exact Or.inl ⟨hc.mp h1, h2⟩
  · exact Or.inr ⟨fun z => h1 (hc.mpr z), h2⟩
theorem pw_lclt {x y1 : Int64} {off : Int} {tgt : Nat} (q1 : x_at xMM j pc .lcmp 1 y nL ret) (q : x_at xMM j (pc + 1) (.ifCond .lt off) 3 y nL ret) (ht : ((pc + 1 : Nat) : Int) + off = (tgt : Int)) (kt : x.toInt < y1.toInt → pw inj sk base N d X j tgt L st s A) (kf : ¬ x.toInt < y1.toInt → pw inj sk base N d X j (pc + 1 + 3) L st s B) : pw inj sk base N d X j pc L (.long y1 :: .long x :: st) s (P_if (x.toInt < y1.toInt) A B) := by
  have h3 := lg_cmp3 x y1
  have hc : (lg_cmp x y1).toInt < 0 ↔ x.toInt < y1.toInt := by split at h3 <;> (try split at h3) <;> omega
  refine pw_lcmp q1 (pw_cons (pw_iflt (A := A) (B := B) q ht (fun h => kt (hc.mp h)) (fun h => kf (fun z => h (hc.mpr z)))) (fun v s hv => ?_))
  rcases hv with ⟨h1, h2⟩ | ⟨h1, h2⟩
  · exact Or.inl ⟨hc.mp h1, h2⟩
  · exact Or.inr ⟨fun z => h1 (hc.mpr z), h2⟩
theorem pw_lcge {x y1 : Int64} {off : Int} {tgt : Nat} (q1 : x_at xMM j pc .lcmp 1 y nL ret) (q : x_at xMM j (pc + 1) (.ifCond .ge off) 3 y nL ret) (ht : ((pc + 1 : Nat) : Int) + off = (tgt : Int)) (kt : x.toInt < y1.toInt → pw inj sk base N d X j (pc + 1 + 3) L st s A) (kf : ¬ x.toInt < y1.toInt → pw inj sk base N d X j tgt L st s B) : pw inj sk base N d X j pc L (.long y1 :: .long x :: st) s (P_if (x.toInt < y1.toInt) A B) := by
  have h3 := lg_cmp3 x y1
  have hc : (lg_cmp x y1).toInt < 0 ↔ x.toInt < y1.toInt := by split at h3 <;> (try split at h3) <;> omega
  refine pw_lcmp q1 (pw_cons (pw_ifge (A := A) (B := B) q ht (fun h => kt (hc.mp h)) (fun h => kf (fun z => h (hc.mpr z)))) (fun v s hv => ?_))
  rcases hv with ⟨h1, h2⟩ | ⟨h1, h2⟩
  · exact Or.inl ⟨hc.mp h1, h2⟩
  · exact Or.inr ⟨fun z => h1 (hc.mpr z), h2⟩
theorem pw_lcgt {x y1 : Int64} {off : Int} {tgt : Nat} (q1 : x_at xMM j pc .lcmp 1 y nL ret) (q : x_at xMM j (pc + 1) (.ifCond .gt off) 3 y nL ret) (ht : ((pc + 1 : Nat) : Int) + off = (tgt : Int)) (kt : y1.toInt < x.toInt → pw inj sk base N d X j tgt L st s A) (kf : ¬ y1.toInt < x.toInt → pw inj sk base N d X j (pc + 1 + 3) L st s B) : pw inj sk base N d X j pc L (.long y1 :: .long x :: st) s (P_if (y1.toInt < x.toInt) A B) := by
  have h3 := lg_cmp3 x y1
  have hc : 0 < (lg_cmp x y1).toInt ↔ y1.toInt < x.toInt := by split at h3 <;> (try split at h3) <;> omega
  refine pw_lcmp q1 (pw_cons (pw_ifgt (A := A) (B := B) q ht (fun h => kt (hc.mp h)) (fun h => kf (fun z => h (hc.mpr z)))) (fun v s hv => ?_))
  rcases hv with ⟨h1, h2⟩ | ⟨h1, h2⟩
  · exact Or.inl ⟨hc.mp h1, h2⟩
  · exact Or.inr ⟨fun z => h1 (hc.mpr z), h2⟩
theorem pw_lcle {x y1 : Int64} {off : Int} {tgt : Nat} (q1 : x_at xMM j pc .lcmp 1 y nL ret) (q : x_at xMM j (pc + 1) (.ifCond .le off) 3 y nL ret) (ht : ((pc + 1 : Nat) : Int) + off = (tgt : Int)) (kt : y1.toInt < x.toInt → pw inj sk base N d X j (pc + 1 + 3) L st s A) (kf : ¬ y1.toInt < x.toInt → pw inj sk base N d X j tgt L st s B) : pw inj sk base N d X j pc L (.long y1 :: .long x :: st) s (P_if (y1.toInt < x.toInt) A B) := by
  have h3 := lg_cmp3 x y1
  have hc : 0 < (lg_cmp x y1).toInt ↔ y1.toInt < x.toInt := by split at h3 <;> (try split at h3) <;> omega
  refine pw_lcmp q1 (pw_cons (pw_ifle (A := A) (B := B) q ht (fun h => kt (hc.mp h)) (fun h => kf (fun z => h (hc.mpr z)))) (fun v s hv => ?_))
  rcases hv with ⟨h1, h2⟩ | ⟨h1, h2⟩
  · exact Or.inl ⟨hc.mp h1, h2⟩
  · exact Or.inr ⟨fun z => h1 (hc.mpr z), h2⟩
theorem pw_ifnull {v : Option Nat} {off : Int} {tgt : Nat} (q : x_at xMM j pc (.ifnull off) 3 y nL ret) (ht : (pc : Int) + off = (tgt : Int)) (kt : v = none → pw inj sk base N d X j tgt L st s A) (kf : ¬ v = none → pw inj sk base N d X j (pc + 3) L st s B) : pw inj sk base N d X j pc L (va_rf v :: st) s (P_if (v = none) A B) := pw_br q rfl (fun h b hb => by { obtain ⟨-, v2, r, t2, e, ht2, hb⟩ := hb; have h0 : v2 = v := (va_rf_inj (List.cons.inj e).1).symm; have e3 := (List.cons.inj e).2; subst e3; dsimp only at ht2; have e2 : t2 = tgt := (by omega); rcases hb with ⟨h1, rfl⟩ | ⟨h1, rfl⟩; { exact Or.inl ⟨h0.symm.trans h1, by rw [e2]; rfl⟩ }; { exact Or.inr ⟨fun z => h1 (h0.trans z), rfl⟩ } }) kt kf
theorem pw_ifnonnull {v : Option Nat} {off : Int} {tgt : Nat} (q : x_at xMM j pc (.ifnonnull off) 3 y nL ret) (ht : (pc : Int) + off = (tgt : Int)) (kt : v = none → pw inj sk base N d X j (pc + 3) L st s A) (kf : ¬ v = none → pw inj sk base N d X j tgt L st s B) : pw inj sk base N d X j pc L (va_rf v :: st) s (P_if (v = none) A B) := pw_br q rfl (fun h b hb => by { obtain ⟨-, v2, r, t2, e, ht2, hb⟩ := hb; have h0 : v2 = v := (va_rf_inj (List.cons.inj e).1).symm; have e3 := (List.cons.inj e).2; subst e3; dsimp only at ht2; have e2 : t2 = tgt := (by omega); rcases hb with ⟨h1, rfl⟩ | ⟨h1, rfl⟩; { exact Or.inr ⟨fun z => h1 (h0.trans z), by rw [e2]; rfl⟩ }; { exact Or.inl ⟨h0.symm.trans h1, rfl⟩ } }) kt kf
theorem pw_tsw {x : Int32} {dflt lo hi : Int} {offs : Array Int} (q : x_at xMM j pc (.tableswitch dflt lo hi offs) len y nL ret) (k : ∀ tgt : Nat, (((x.toInt < lo ∨ hi < x.toInt) ∧ (pc : Int) + dflt = (tgt : Int)) ∨ (¬ x.toInt < lo ∧ ¬ hi < x.toInt ∧ ∃ off, offs[(x.toInt - lo).toNat]? = some off ∧ (pc : Int) + off = (tgt : Int))) → pw inj sk base N d X j tgt L st s Ψ) : pw inj sk base N d X j pc L (.int x :: st) s Ψ :=
  pw_st q rfl (fun h b hR hb n hn r h' hg => by
    obtain ⟨x2, r2, tgt, e, rfl, ht⟩ := hb
    cases e
    exact k tgt ht n (by omega) h r h' hR hg)
theorem pw_lsw {x : Int32} {dflt : Int} {ps : Array (Int × Int)} (q : x_at xMM j pc (.lookupswitch dflt ps) len y nL ret) (k : ∀ tgt : Nat, (pc : Int) + Jvm.Op.lookupswitch.offset ps.toList dflt x.toInt = (tgt : Int) → pw inj sk base N d X j tgt L st s Ψ) : pw inj sk base N d X j pc L (.int x :: st) s Ψ :=
  pw_st q rfl (fun h b hR hb n hn r h' hg => by
    obtain ⟨x2, r2, tgt, e, rfl, -, ht⟩ := hb
    cases e
    exact k tgt ht n (by omega) h r h' hR hg)
theorem pw_throw (q : x_at xMM j pc .athrow len y nL ret) : pw inj sk base N d X j pc L st s Ψ := pw_no q rfl (fun h b hb => hb)
theorem pw_iret {x : Int32} (q : x_at xMM j pc .ireturn len y nL ret) (ho : pk s.1 s.2.2.1 s.2.2.2.2.2) : pw pj_I sk base N d X j pc L (.int x :: st) s (P_ret x s) :=
  pw_inv q (fun n hn h r h' hR hh => by
    rcases hh with ⟨b, hi | hi, hg⟩ | ⟨⟨-, x2, ty, e, rfl, -⟩, rfl⟩ | ⟨_, _, _, _, _, _, _, _, _, _, _, _, _, hc, _⟩ | ⟨_, _, _, hc, _⟩
    · exact hi.elim
    · exact hi.elim
    · cases e
      exact ⟨_, s, rfl, hR, ho, rfl, rfl⟩
    · exact hc.2.2.2.2.2.elim
    · exact hc.elim)
theorem pw_lret {x : Int64} (q : x_at xMM j pc .lreturn len y nL ret) (ho : pk s.1 s.2.2.1 s.2.2.2.2.2) : pw pj_J sk base N d X j pc L (.long x :: st) s (P_ret x s) :=
  pw_inv q (fun n hn h r h' hR hh => by
    rcases hh with ⟨b, hi | hi, hg⟩ | ⟨⟨-, x2, e, rfl, -⟩, rfl⟩ | ⟨_, _, _, _, _, _, _, _, _, _, _, _, _, hc, _⟩ | ⟨_, _, _, hc, _⟩
    · exact hi.elim
    · exact hi.elim
    · cases e
      exact ⟨_, s, rfl, hR, ho, rfl, rfl⟩
    · exact hc.2.2.2.2.2.elim
    · exact hc.elim)
theorem pw_aret {o : Option Nat} (q : x_at xMM j pc .areturn len y nL ret) (ho : pk s.1 s.2.2.1 s.2.2.2.2.2) : pw (pj_A base) sk base N d X j pc L (va_rf (h_rf base o) :: st) s (P_ret o s) :=
  pw_inv q (fun n hn h r h' hR hh => by
    rcases hh with ⟨b, hi | hi, hg⟩ | ⟨⟨-, v, ty, e, rfl, -⟩, rfl⟩ | ⟨_, _, _, _, _, _, _, _, _, _, _, _, _, hc, _⟩ | ⟨_, _, _, hc, _⟩
    · exact hi.elim
    · exact hi.elim
    · refine ⟨o, s, ?_, hR, ho, rfl, rfl⟩
      rw [← (List.cons.inj e).1]
      rfl
    · exact hc.2.2.2.2.2.elim
    · exact hc.elim)
theorem pw_vret (q : x_at xMM j pc .return_ len y nL ret) (ho : pk s.1 s.2.2.1 s.2.2.2.2.2) : pw pj_V sk base N d X j pc L st s (P_ret () s) :=
  pw_inv q (fun n hn h r h' hR hh => by
    rcases hh with ⟨b, hi | hi, hg⟩ | ⟨⟨-, e, rfl, -⟩, rfl⟩ | ⟨_, _, _, _, _, _, _, _, _, _, _, _, _, hc, _⟩ | ⟨_, _, _, hc, _⟩
    · exact hi.elim
    · exact hi.elim
    · exact ⟨(), s, rfl, hR, ho, rfl, rfl⟩
    · exact hc.2.2.2.2.2.elim
    · exact hc.elim)
end PW
