/-! Copies of arrays, casts, a `new` that is not linked: read backwards. -/
def u_cn (own : String) (idx : Nat) : Bool := lw_tbl.all (fun w => match w with
  | .classLink o i _ => !(i == idx && o == own)
  | _ => true)
theorem u_cn_of {own : String} {idx : Nat} (h : u_cn own idx = true) : ∀ z, Cond.classLink own idx z ∈ x_Ts → False := by
  intro z hz
  have h3 := List.all_eq_true.mp h _ (List.mem_filter.mp hz).1
  simp at h3
def P_cl (c n sl : Nat) (SH : Nat → Nat × Nat) (FI : Nat → Nat → Int32) (FL : Nat → Nat → Int64) (FR : Nat → Nat → Option Nat) : Unit → hS → Prop := fun _ s => (SH c).1 = 100 ∧ s = (n + 1, sl + (SH c).2, va_up SH n (SH c), va_up FI n (FI c), va_up FL n (fun _ => 0), va_up FR n (fun _ => none))
def P_cp (c e : Nat) (sp dp m : Int32) (n sl : Nat) (SH : Nat → Nat × Nat) (FI : Nat → Nat → Int32) (FL : Nat → Nat → Int64) (FR : Nat → Nat → Option Nat) : Unit → hS → Prop := fun _ s => 0 ≤ sp.toInt ∧ 0 ≤ dp.toInt ∧ 0 ≤ m.toInt ∧ sp.toInt + m.toInt ≤ ((SH c).2 : Int) ∧ dp.toInt + m.toInt ≤ ((SH e).2 : Int) ∧ s = (n, sl, SH, va_up FI e (va_cpy (FI c) (FI e) sp.toInt.toNat dp.toInt.toNat m.toInt.toNat), FL, FR)
theorem x_noC : x_uJ ⟨"[I", "clone", "()Ljava/lang/Object;"⟩ 100000 := x_uJ_of (by decide +kernel)
theorem x_noA : x_uJ arraycopyName 100000 := x_uJ_of (by decide +kernel)
theorem h_rf_ni {base : Nat} {o : Option Nat} : h_rf base o = none ↔ o = none := by cases o <;> simp [h_rf]
theorem P_if_c {ρ : Type} {p q : Prop} {A B : ρ → hS → Prop} (h : p ↔ q) : P_if p A B = P_if q A B := by rw [propext h]
section PN
variable {ρ : Type} {inj : ρ → Option Value} {sk : xK} {base N d : Nat} {j : Nat} {y : MethodName} {nL : Nat} {ret : Option FieldType} {len pc : Nat} {L : xL} {st : List Value} {s : hS} {A B : ρ → hS → Prop} {X : Option (Nat × Nat × (Nat → Int32))}
theorem pw_inull {o : Option Nat} {off : Int} {tgt : Nat} (q : x_at xMM j pc (.ifnull off) 3 y nL ret) (ht : (pc : Int) + off = (tgt : Int)) (kt : o = none → pw inj sk base N d X j tgt L st s A) (kf : ¬ o = none → pw inj sk base N d X j (pc + 3) L st s B) : pw inj sk base N d X j pc L (va_rf (h_rf base o) :: st) s (P_if (o = none) A B) := by
  rw [← P_if_c (h_rf_ni (base := base) (o := o))]
  exact pw_ifnull q ht (fun h => kt (h_rf_ni.mp h)) (fun h => kf (fun e => h (h_rf_ni.mpr e)))
theorem pw_innull {o : Option Nat} {off : Int} {tgt : Nat} (q : x_at xMM j pc (.ifnonnull off) 3 y nL ret) (ht : (pc : Int) + off = (tgt : Int)) (kt : o = none → pw inj sk base N d X j (pc + 3) L st s A) (kf : ¬ o = none → pw inj sk base N d X j tgt L st s B) : pw inj sk base N d X j pc L (va_rf (h_rf base o) :: st) s (P_if (o = none) A B) := by
  rw [← P_if_c (h_rf_ni (base := base) (o := o))]
  exact pw_ifnonnull q ht (fun h => kt (h_rf_ni.mp h)) (fun h => kf (fun e => h (h_rf_ni.mpr e)))
end PN
section PB
variable {ρ : Type} {inj : ρ → Option Value} {sk : xK} {base N d : Nat} {j : Nat} {y : MethodName} {nL : Nat} {ret : Option FieldType} {len pc : Nat} {L : xL} {st : List Value} {s : hS} {Ψ : ρ → hS → Prop} {n sl : Nat} {SH : Nat → Nat × Nat} {FI : Nat → Nat → Int32} {FL : Nat → Nat → Int64} {FR : Nat → Nat → Option Nat} {A : Unit → Nat → Nat → (Nat → Nat × Nat) → (Nat → Nat → Int32) → (Nat → Nat → Int64) → (Nat → Nat → Option Nat) → ρ → hS → Prop}
theorem pw_cast {idx : Nat} {v : Value} (q : x_at xMM j pc (.checkcast idx) 3 y nL ret) (kk : pw inj sk base N d none j (pc + 3) L (v :: st) s Ψ) : pw inj sk base N d none j pc L (v :: st) s Ψ := pw_pu q rfl (fun h b hb => by
  obtain ⟨-, q2, k2, x2, r2, -, -, e, -, rfl⟩ := hb
  dsimp only at e
  rw [← e]
  rfl) kk
theorem pw_nonew {idx : Nat} (q : x_at xMM j pc (.new idx) 3 y nL ret) (hu : ∀ z, Cond.classLink y.cls idx z ∈ x_Ts → False) : pw inj sk base N d none j pc L st s Ψ := pw_st q rfl (fun h b hR hb m hm r h' hg => by
  obtain ⟨-, ci, C, T, N2, ty, hci, hty, hl, -⟩ := hb
  exact (hu _ hl).elim)
theorem pw_clone {idx : Nat} {o : Option Nat} {A : Nat → Unit → Nat → Nat → (Nat → Nat × Nat) → (Nat → Nat → Int32) → (Nat → Nat → Int64) → (Nat → Nat → Option Nat) → ρ → hS → Prop} (hok : pk n SH FR) (q : x_at xMM j pc (.invokevirtual idx) 3 y nL ret) (hu : x_uM y.cls idx ⟨"[I", "clone", "()Ljava/lang/Object;"⟩) (kk : ∀ c, o = some c → ∀ v n1 sl1 SH1 FI1 FL1 FR1, pk n1 SH1 FR1 → P_cl c n sl SH FI FL FR v (n1, sl1, SH1, FI1, FL1, FR1) → pw inj sk base N d none j (pc + 3) L (.ref (base + n) :: st) (n1, sl1, SH1, FI1, FL1, FR1) (A c v n1 sl1 SH1 FI1 FL1 FR1)) : pw inj sk base N d none j pc L (va_rf (h_rf base o) :: st) (n, sl, SH, FI, FL, FR) (P_sm o (fun c => P_bi (P_cl c n sl SH FI FL FR) (A c))) :=
  pw_inv q (fun m hm h r h' hR hh => by
    rcases hh with ⟨b, hi | hi, hg⟩ | ⟨hr, -⟩ | ⟨d', j3, y3, cc3, nL3, ret3, As, rest3, w, h1, -, -, hM3, hc, -, g1, g2⟩ | ⟨d', b, -, hc, hg⟩
    · exact hi.elim
    · exact hi.elim
    · exact hr.elim
    · exfalso
      obtain ⟨-, -, -, -, -, hlk, -⟩ := hc
      have e1 := hu y3 hlk
      subst e1
      have e2 := x_noC j3 _ _ _ hM3
      subst e2
      have h9 : x_ml[100000]? = some (_, cc3, nL3, ret3) := hM3
      have h8 := (List.getElem?_eq_some_iff.mp h9).1
      exact absurd h8 (by decide +kernel)
    · obtain ⟨-, -, -, -, -, -, -, q2, k2, n2, f, r2, hk2, hq, -, e, rfl⟩ := hc
      dsimp only at e hq
      have ho := h_rf_some (List.cons.inj e).1
      have e3 := (List.cons.inj e).2
      subst e3
      have hk0 := (x_kn_0 hk2).1 rfl
      subst hk0
      obtain ⟨hlt, hcl⟩ := h_at hR hq
      obtain ⟨s1, s2⟩ := h_cell_a hcl
      have hf : f = FI q2 := by cases s2; rfl
      subst hf
      have hR2 := h_push (sh := SH q2) (f := FI q2) (g := fun _ => 0) (r := fun _ => none) (c := .inl (0, n2, .inl (FI q2))) (z := n2) hR (by rw [s1]; exact h_arr rfl) rfl
      have hlen : h.length = n := hR.1
      have hsz : (SH q2).2 = n2 := by rw [s1]
      have hg2 : x_go sk vwCl x_kn x_Ts x_AO xMM base m d none j (pc + 3, L, .ref (base + n) :: st, h ++ [.inl (0, n2, .inl (FI q2))]) r h' := by rw [← hlen]; exact hg
      have hP : P_cl q2 n sl SH FI FL FR () (n + 1, sl + n2, va_up SH n (SH q2), va_up FI n (FI q2), va_up FL n (fun _ => 0), va_up FR n (fun _ => none)) := ⟨by rw [s1], by rw [hsz]⟩
      obtain ⟨x, s', e4, g1, hp0, g2⟩ := kk q2 ho () _ _ _ _ _ _ (pk_n hok (by decide +kernel)) hP m (by omega) _ r h' hR2 hg2
      exact ⟨x, s', e4, g1, hp0, q2, ho, (), _, _, _, _, _, _, hP, g2⟩)
theorem pw_cpy {idx : Nat} {o0 o1 : Option Nat} {sp dp mm : Int32} {A : Nat → Nat → Unit → Nat → Nat → (Nat → Nat × Nat) → (Nat → Nat → Int32) → (Nat → Nat → Int64) → (Nat → Nat → Option Nat) → ρ → hS → Prop} (hok : pk n SH FR) (q : x_at xMM j pc (.invokestatic idx) 3 y nL ret) (hu : x_uM y.cls idx arraycopyName) (kk : ∀ c e, o0 = some c → o1 = some e → ∀ v n1 sl1 SH1 FI1 FL1 FR1, pk n1 SH1 FR1 → P_cp c e sp dp mm n sl SH FI FL FR v (n1, sl1, SH1, FI1, FL1, FR1) → pw inj sk base N d none j (pc + 3) L st (n1, sl1, SH1, FI1, FL1, FR1) (A c e v n1 sl1 SH1 FI1 FL1 FR1)) : pw inj sk base N d none j pc L (.int mm :: .int dp :: va_rf (h_rf base o1) :: .int sp :: va_rf (h_rf base o0) :: st) (n, sl, SH, FI, FL, FR) (P_sm o0 (fun c => P_sm o1 (fun e => P_bi (P_cp c e sp dp mm n sl SH FI FL FR) (A c e)))) :=
  pw_inv q (fun m hm h r h' hR hh => by
    rcases hh with ⟨b, hi | hi, hg⟩ | ⟨hr, -⟩ | ⟨d', j3, y3, cc3, nL3, ret3, As, rest3, w, h1, -, -, hM3, hc, -, g1, g2⟩ | ⟨d', b, -, hc, hg⟩
    · exact hi.elim
    · exact hi.elim
    · exact hr.elim
    · exfalso
      obtain ⟨-, -, -, -, -, hlk, -⟩ := hc
      have e1 := hu y3 hlk
      subst e1
      have e2 := x_noA j3 _ _ _ hM3
      subst e2
      have h9 : x_ml[100000]? = some (_, cc3, nL3, ret3) := hM3
      have h8 := (List.getElem?_eq_some_iff.mp h9).1
      exact absurd h8 (by decide +kernel)
    · obtain ⟨-, -, -, -, -, q0, q1, k2, n0, n1, f, g, sp2, dp2, m2, r2, hk2, hq0, hq1, h1, h2, h3, h4, h5, -, e, rfl⟩ := hc
      dsimp only at e hq0 hq1
      have g1 := List.cons.inj e
      have g2 := List.cons.inj g1.2
      have g3 := List.cons.inj g2.2
      have g4 := List.cons.inj g3.2
      have g5 := List.cons.inj g4.2
      have u1 : mm = m2 := Value.int.inj g1.1
      have u2 : dp = dp2 := Value.int.inj g2.1
      have u3 : sp = sp2 := Value.int.inj g4.1
      have u4 : st = r2 := g5.2
      have e3 := g3.1
      have e5 := g5.1
      clear g1 g2 g3 g4 g5 e
      subst u1
      subst u2
      subst u3
      subst u4
      have ho1 := h_rf_some e3
      have ho0 := h_rf_some e5
      have hk0 := (x_kn_0 hk2).1 rfl
      subst hk0
      obtain ⟨hl0, hcl0⟩ := h_at hR hq0
      obtain ⟨hl1, hcl1⟩ := h_at hR hq1
      obtain ⟨s0, f0⟩ := h_cell_a hcl0
      obtain ⟨s1, f1⟩ := h_cell_a hcl1
      have hf : f = FI q0 := by cases f0; rfl
      have hgg : g = FI q1 := by cases f1; rfl
      subst hf
      subst hgg
      have i0 : ((0 : Int32)).toInt = 0 := by decide
      have nz : ∀ x : Int32, ¬ x < 0 → 0 ≤ x.toInt := fun x hx => by rw [Int32.lt_iff_toInt_lt, i0] at hx; omega
      have p1 := nz _ h1
      have p2 := nz _ h2
      have p3 := nz _ h3
      have t4 : sp.toInt.toNat + mm.toInt.toNat ≤ n0 := h4
      have t5 : dp.toInt.toNat + mm.toInt.toNat ≤ n1 := h5
      have hz0 : (SH q0).2 = n0 := by rw [s0]
      have hz1 : (SH q1).2 = n1 := by rw [s1]
      have hR2 := h_arr_set (k := 0) (f' := va_cpy (FI q0) (FI q1) sp.toNatClampNeg dp.toNatClampNeg mm.toNatClampNeg) (g' := FL q1) (r' := FR q1) hR hl1 s1
      rw [h_same FL, h_same FR] at hR2
      have hP : P_cp q0 q1 sp dp mm n sl SH FI FL FR () (n, sl, SH, va_up FI q1 (va_cpy (FI q0) (FI q1) sp.toNatClampNeg dp.toNatClampNeg mm.toNatClampNeg), FL, FR) := ⟨p1, p2, p3, by omega, by omega, rfl⟩
      obtain ⟨x, s', e4, g1, hp0, g2⟩ := kk q0 q1 ho0 ho1 () _ _ _ _ _ _ hok hP m (by omega) _ r h' hR2 hg
      exact ⟨x, s', e4, g1, hp0, q0, ho0, q1, ho1, (), _, _, _, _, _, _, hP, g2⟩)
end PB
