/-! STRINGS, read backwards. -/
def u_c0 (own : String) (idx : Nat) : Bool := lw_tbl.all (fun w => match w with
  | .constant o i _ => !(i == idx && o == own)
  | _ => true)
theorem u_c0_of {own : String} {idx : Nat} (h : u_c0 own idx = true) : ∀ z, Cond.constant own idx z ∈ x_Ts → False := by
  intro z hz
  have h3 := List.all_eq_true.mp h _ (List.mem_filter.mp hz).1
  simp at h3
def u_sf (own : String) (idx : Nat) (f : String) : Bool := lw_tbl.all (fun w => match w with
  | .fieldLink o i _ n _ => !(i == idx && o == own) || n == f
  | _ => true)
theorem u_sf_of {own : String} {idx : Nat} {f : String} (h : u_sf own idx f = true) : ∀ c n z, Cond.fieldLink own idx c n z ∈ x_Ts → n = f := by
  intro c n z hz
  have h3 := List.all_eq_true.mp h _ (List.mem_filter.mp hz).1
  simpa using h3
def u_nm (own : String) (idx : Nat) : Bool := lw_tbl.all (fun w => match w with
  | .methodLink o i _ => !(i == idx && o == own)
  | .methodLinkNest o i _ _ => !(i == idx && o == own)
  | _ => true)
theorem u_nm_of {own : String} {idx : Nat} (h : u_nm own idx = true) : ∀ z, x_lk x_Ts x_AO own idx z → False := by
  intro z hz
  rcases hz with hz | ⟨host, hz⟩
  · have h3 := List.all_eq_true.mp h _ (List.mem_filter.mp hz).1
    simp at h3
  · have h3 := List.all_eq_true.mp h _ (List.mem_filter.mp hz).1
    simp at h3
theorem x_strI_inj : ∀ a b : Fin 11, x_strI.getD a.val 0 = x_strI.getD b.val 0 → a = b := by decide
section PSS
variable {ρ : Type} {inj : ρ → Option Value} {sk : xK} {base N d : Nat} {j : Nat} {y : MethodName} {nL : Nat} {ret : Option FieldType} {len pc : Nat} {L : xL} {st : List Value} {s : hS} {Ψ : ρ → hS → Prop}
theorem pw_ldcS {idx : Nat} {k : Fin 11} (q : x_at xMM j pc (.ldc idx) 2 y nL ret) (hi : idx = x_strI.getD k.val 0) (hc : ∀ z, Cond.constant y.cls idx z ∈ x_Ts → False) (kk : pw inj sk base N d none j (pc + 2) L (.ref (sk.1 k.val) :: st) s Ψ) : pw inj sk base N d none j pc L st s Ψ :=
  pw_inv q (fun m hm h r h' hR hh => by
    rcases hh with ⟨b, hb | hb, hg⟩ | ⟨hr, -⟩ | ⟨_, _, _, _, _, _, _, _, _, _, _, _, _, hx, _⟩ | ⟨_, _, _, hx, _⟩
    · obtain ⟨-, v, hv, -⟩ := hb
      exact (hc v hv).elim
    · obtain ⟨-, k2, hk2, -, he, rfl⟩ := hb
      have e : k = ⟨k2, hk2⟩ := x_strI_inj k ⟨k2, hk2⟩ (by rw [← hi]; exact he)
      have e2 : k2 = k.val := by rw [e]
      subst e2
      exact kk m (by omega) h r h' hR hg
    · exact hr.elim
    · exact hx.2.2.2.2.2.elim
    · exact hx.elim)
theorem pw_sval {idx : Nat} {k : Fin 11} (hkb : x_kb sk base) (q : x_at xMM j pc (.getfield idx) 3 y nL ret) (hu : ∀ c n z, Cond.fieldLink y.cls idx c n z ∈ x_Ts → n = "value") (kk : pw inj sk base N d none j (pc + 3) L (.ref (sk.2.1 k.val) :: st) s Ψ) : pw inj sk base N d none j pc L (.ref (sk.1 k.val) :: st) s Ψ :=
  pw_inv q (fun m hm h r h' hR hh => by
    rcases hh with ⟨b, hb | hb, hg⟩ | ⟨hr, -⟩ | ⟨_, _, _, _, _, _, _, _, _, _, _, _, _, hx, _⟩ | ⟨_, _, _, hx, _⟩
    · exfalso
      obtain ⟨-, ci, k2, C, T, N2, q2, fs, v2, r2, hf, e, -⟩ := hb
      have e1 : sk.1 k.val = base + q2 := Value.ref.inj (List.cons.inj e).1
      have := (hkb.1 k.val k.isLt).1
      omega
    · obtain ⟨-, k2, r2, hk2, e, hh⟩ := hb
      have e1 := ((hkb.2 k.val k2 k.isLt hk2).1 (Value.ref.inj (List.cons.inj e).1))
      have e2 := (List.cons.inj e).2
      subst e1 e2
      rcases hh with ⟨hw, rfl⟩ | ⟨hw, -⟩
      · exact kk m (by omega) h r h' hR hg
      · exact absurd (hu _ _ _ hw) (by decide)
    · exact hr.elim
    · exact hx.2.2.2.2.2.elim
    · exact hx.elim)
theorem pw_scod {idx : Nat} {k : Fin 11} (hkb : x_kb sk base) (q : x_at xMM j pc (.getfield idx) 3 y nL ret) (hu : ∀ c n z, Cond.fieldLink y.cls idx c n z ∈ x_Ts → n = "coder") (kk : pw inj sk base N d none j (pc + 3) L (.int (0 : Int32) :: st) s Ψ) : pw inj sk base N d none j pc L (.ref (sk.1 k.val) :: st) s Ψ :=
  pw_inv q (fun m hm h r h' hR hh => by
    rcases hh with ⟨b, hb | hb, hg⟩ | ⟨hr, -⟩ | ⟨_, _, _, _, _, _, _, _, _, _, _, _, _, hx, _⟩ | ⟨_, _, _, hx, _⟩
    · exfalso
      obtain ⟨-, ci, k2, C, T, N2, q2, fs, v2, r2, hf, e, -⟩ := hb
      have e1 : sk.1 k.val = base + q2 := Value.ref.inj (List.cons.inj e).1
      have := (hkb.1 k.val k.isLt).1
      omega
    · obtain ⟨-, k2, r2, hk2, e, hh⟩ := hb
      have e2 := (List.cons.inj e).2
      subst e2
      rcases hh with ⟨hw, -⟩ | ⟨hw, rfl⟩
      · exact absurd (hu _ _ _ hw) (by decide)
      · exact kk m (by omega) h r h' hR hg
    · exact hr.elim
    · exact hx.2.2.2.2.2.elim
    · exact hx.elim)
theorem pw_strl {k : Fin 11} (hkb : x_kb sk base) (q : x_at xMM j pc .arraylength 1 y nL ret) (kk : pw inj sk base N d none j (pc + 1) L (.int (Int32.ofNat (x_strN.getD k.val 0)) :: st) s Ψ) : pw inj sk base N d none j pc L (.ref (sk.2.1 k.val) :: st) s Ψ :=
  pw_inv q (fun m hm h r h' hR hh => by
    rcases hh with ⟨b, hb | hb, hg⟩ | ⟨hr, -⟩ | ⟨_, _, _, _, _, _, _, _, _, _, _, _, _, hx, _⟩ | ⟨_, _, _, hx, _⟩
    · exfalso
      obtain ⟨-, r2, hb⟩ := hb
      rcases hb with ⟨q2, k2, x2, hk2, e, -⟩ | ⟨q2, n2, f, hX, -⟩
      · have e1 : sk.2.1 k.val = base + q2 := Value.ref.inj (List.cons.inj e).1
        have := (hkb.1 k.val k.isLt).2
        omega
      · cases hX
    · obtain ⟨-, k2, r2, hk2, e, rfl⟩ := hb
      have e1 := ((hkb.2 k.val k2 k.isLt hk2).2 (Value.ref.inj (List.cons.inj e).1))
      have e2 := (List.cons.inj e).2
      subst e1 e2
      exact kk m (by omega) h r h' hR hg
    · exact hr.elim
    · exact hx.2.2.2.2.2.elim
    · exact hx.elim)
theorem pw_sbld {i : Int32} {k : Fin 11} {A : ρ → hS → Prop} (hkb : x_kb sk base) (q : x_at xMM j pc .baload 1 y nL ret) (kk : p_in i (x_strN.getD k.val 0) → pw inj sk base N d none j (pc + 1) L (.int ((x_strB.getD k.val []).getD i.toInt.toNat 0) :: st) s A) : pw inj sk base N d none j pc L (.int i :: .ref (sk.2.1 k.val) :: st) s (P_and (p_in i (x_strN.getD k.val 0)) A) :=
  pw_inv q (fun m hm h r h' hR hh => by
    rcases hh with ⟨b, hb | hb, hg⟩ | ⟨hr, -⟩ | ⟨_, _, _, _, _, _, _, _, _, _, _, _, _, hx, _⟩ | ⟨_, _, _, hx, _⟩
    · exfalso
      obtain ⟨-, x2, r2, q2, k2, n2, f, hk2, hin, e, -⟩ := hb
      have e1 : sk.2.1 k.val = base + q2 := Value.ref.inj (List.cons.inj (List.cons.inj e).2).1
      have := (hkb.1 k.val k.isLt).2
      omega
    · obtain ⟨-, k2, x2, r2, hk2, hin, e, rfl⟩ := hb
      have e0 := Value.int.inj (List.cons.inj e).1
      have e1 := ((hkb.2 k.val k2 k.isLt hk2).2 (Value.ref.inj (List.cons.inj (List.cons.inj e).2).1))
      have e2 := (List.cons.inj (List.cons.inj e).2).2
      subst e0 e1 e2
      have hp := p_in_of hin
      obtain ⟨x, s', e4, g1, hp0, g2⟩ := kk hp m (by omega) h r h' hR hg
      exact ⟨x, s', e4, g1, hp0, hp, g2⟩
    · exact hr.elim
    · exact hx.2.2.2.2.2.elim
    · exact hx.elim)
theorem pw_sone {idx : Nat} (q : x_at xMM j pc (.getstatic idx) 3 y nL ret) (hu : ∀ c n z, Cond.fieldLink y.cls idx c n z ∈ x_Ts → n = "COMPACT_STRINGS") (kk : pw inj sk base N d none j (pc + 3) L (.int (1 : Int32) :: st) s Ψ) : pw inj sk base N d none j pc L st s Ψ :=
  pw_inv q (fun m hm h r h' hR hh => by
    rcases hh with ⟨b, hb | hb, hg⟩ | ⟨hr, -⟩ | ⟨_, _, _, _, _, _, _, _, _, _, _, _, _, hx, _⟩ | ⟨_, _, _, hx, _⟩
    · exact hb.elim
    · obtain ⟨-, hh⟩ := hb
      rcases hh with ⟨hw, rfl⟩ | ⟨hw, -⟩
      · exact kk m (by omega) h r h' hR hg
      · exact absurd (hu _ _ _ hw) (by decide)
    · exact hr.elim
    · exact hx.2.2.2.2.2.elim
    · exact hx.elim)
theorem pw_sfmt {idx : Nat} (q : x_at xMM j pc (.getstatic idx) 3 y nL ret) (hu : ∀ c n z, Cond.fieldLink y.cls idx c n z ∈ x_Ts → n = "SIOOBE_FORMATTER") (kk : pw inj sk base N d none j (pc + 3) L (va_rf sk.2.2 :: st) s Ψ) : pw inj sk base N d none j pc L st s Ψ :=
  pw_inv q (fun m hm h r h' hR hh => by
    rcases hh with ⟨b, hb | hb, hg⟩ | ⟨hr, -⟩ | ⟨_, _, _, _, _, _, _, _, _, _, _, _, _, hx, _⟩ | ⟨_, _, _, hx, _⟩
    · exact hb.elim
    · obtain ⟨-, hh⟩ := hb
      rcases hh with ⟨hw, -⟩ | ⟨hw, rfl⟩
      · exact absurd (hu _ _ _ hw) (by decide)
      · exact kk m (by omega) h r h' hR hg
    · exact hr.elim
    · exact hx.2.2.2.2.2.elim
    · exact hx.elim)
theorem pw_i2b {x : Int32} (q : x_at xMM j pc .i2b 1 y nL ret) (kk : pw inj sk base N d none j (pc + 1) L (.int x.toInt8.toInt32 :: st) s Ψ) : pw inj sk base N d none j pc L (.int x :: st) s Ψ :=
  pw_inv q (fun m hm h r h' hR hh => by
    rcases hh with ⟨b, hb | hb, hg⟩ | ⟨hr, -⟩ | ⟨_, _, _, _, _, _, _, _, _, _, _, _, _, hx, _⟩ | ⟨_, _, _, hx, _⟩
    · exact hb.elim
    · obtain ⟨-, x2, r2, e, rfl⟩ := hb
      cases e
      exact kk m (by omega) h r h' hR hg
    · exact hr.elim
    · exact hx.2.2.2.2.2.elim
    · exact hx.elim)
/-- a call to what is not linked is not made -/
theorem pw_nolk {idx : Nat} (q : x_at xMM j pc (.invokestatic idx) 3 y nL ret) (hu : ∀ z, x_lk x_Ts x_AO y.cls idx z → False) : pw inj sk base N d none j pc L st s Ψ :=
  pw_inv q (fun m hm h r h' hR hh => by
    rcases hh with ⟨b, hb | hb, hg⟩ | ⟨hr, -⟩ | ⟨_, _, y3, _, _, _, _, _, _, _, _, _, _, hx, _⟩ | ⟨_, _, _, hx, _⟩
    · exact hb.elim
    · exact hb.elim
    · exact hr.elim
    · exact (hu _ hx.2.2.2.2.2.1).elim
    · exact (hu _ (Or.inl hx.2.1)).elim)
theorem pw_ite1 {X : Option (Nat × Nat × (Nat → Int32))} {c : Prop} {A : ρ → hS → Prop} (k : pw inj sk base N d X j pc L st s (P_if c A (fun _ _ => False))) : pw inj sk base N d X j pc L st s A := pw_cons k (fun x s h => by
  rcases h with ⟨-, h⟩ | ⟨-, h⟩
  · exact h
  · exact h.elim)
theorem pw_ite2 {X : Option (Nat × Nat × (Nat → Int32))} {c : Prop} {A : ρ → hS → Prop} (k : pw inj sk base N d X j pc L st s (P_if c (fun _ _ => False) A)) : pw inj sk base N d X j pc L st s A := pw_cons k (fun x s h => by
  rcases h with ⟨-, h⟩ | ⟨-, h⟩
  · exact h.elim
  · exact h)
end PSS
section PST
variable {ρ τ : Type} {inj : ρ → Option Value} {inj2 : τ → Option Value} {sk : xK} {base N d : Nat} {j : Nat} {y : MethodName} {nL : Nat} {ret : Option FieldType} {len pc : Nat} {L : xL} {n sl : Nat} {SH : Nat → Nat × Nat} {FI : Nat → Nat → Int32} {FL : Nat → Nat → Int64} {FR : Nat → Nat → Option Nat} {C : τ → hS → Prop} {A : τ → Nat → Nat → (Nat → Nat × Nat) → (Nat → Nat → Int32) → (Nat → Nat → Int64) → (Nat → Nat → Option Nat) → ρ → hS → Prop}
theorem pw_callT {idx j2 : Nat} {k : Fin 11} {y2 : MethodName} {Bs rest st0 : List Value} {L2 : xL} (hkb : x_kb sk base) (q : x_at xMM j pc (.invokevirtual idx) 3 y nL ret) (hu : x_uM y.cls idx y2) (hj : x_uJ y2 j2) (hn : x_pn y2 Bs.length) (hcn : y2 ≠ ⟨"[I", "clone", "()Ljava/lang/Object;"⟩) (hst : st0 = Bs.reverse ++ .ref (sk.1 k.val) :: rest) (hL : lv_args 0 (.ref (sk.1 k.val) :: Bs) = L2)
    (k1 : ∀ d, pw inj2 sk base (N - 1) d none j2 0 L2 [] (n, sl, SH, FI, FL, FR) C)
    (k2 : ∀ v n sl SH FI FL FR, pk n SH FR → C v (n, sl, SH, FI, FL, FR) → pw inj sk base N d none j (pc + 3) L ((inj2 v).toList ++ rest) (n, sl, SH, FI, FL, FR) (A v n sl SH FI FL FR)) : pw inj sk base N d none j pc L st0 (n, sl, SH, FI, FL, FR) (P_bi C A) :=
  pw_inv q (fun m hm h r h' hR hh => by
    rcases hh with ⟨b, hi | hi, hg⟩ | ⟨hr, -⟩ | ⟨d', j3, y3, cc3, nL3, ret3, As, rest3, v, h1, -, -, hM3, hc, -, g1, g2⟩ | ⟨_, _, _, hc, _⟩
    · exact hi.elim
    · exact hi.elim
    · exact hr.elim
    · obtain ⟨-, -, -, -, -, hlk, -, -, hh⟩ := hc
      have e1 := hu y3 hlk
      subst e1
      have e2 := hj j3 _ _ _ hM3
      subst e2
      rcases hh with ⟨q2, ci, fs, T, N2, Bs2, rfl, e, -, -, hp⟩ | ⟨k2', Bs2, hk2, -, rfl, e, hp⟩
      · exfalso
        have hl := x_pn_u hp hn
        dsimp only at e
        rw [hst] at e
        obtain ⟨e3, e4⟩ := x_app_u e (by simp [hl])
        have e6 : sk.1 k.val = base + q2 := Value.ref.inj (List.cons.inj e4).1
        have := (hkb.1 k.val k.isLt).1
        omega
      · have hl := x_pn_u hp hn
        dsimp only at e
        rw [hst] at e
        obtain ⟨e3, e4⟩ := x_app_u e (by simp [hl])
        have e5 : Bs = Bs2 := by simpa using e3
        have e6 := (List.cons.inj e4).1
        have e7 := (List.cons.inj e4).2
        subst e5; subst e7
        rw [← e6] at g1
        rw [← hL] at k1
        exact pw_call0 hm hR k1 k2 g1 g2
    · exfalso
      obtain ⟨-, hlk, -⟩ := hc
      exact hcn (hu _ (Or.inl hlk)).symm)
end PST
