/-! Arrays written, lengths, new cells, calls. -/
section PA
variable {ρ : Type} {inj : ρ → Option Value} {sk : xK} {base N d : Nat} {j : Nat} {y : MethodName} {nL : Nat} {ret : Option FieldType} {len pc : Nat} {L : xL} {st : List Value} {n sl : Nat} {SH : Nat → Nat × Nat} {FI : Nat → Nat → Int32} {FL : Nat → Nat → Int64} {FR : Nat → Nat → Option Nat} {A : Nat → ρ → hS → Prop} {B : ρ → hS → Prop}
theorem pw_zald {i : Int32} {o : Option Nat} {ix : Nat} (hkb : x_kb sk base) (q : x_at xMM j pc .baload 1 y nL ret) (hik : i.toInt.toNat = ix) (kk : ∀ c, o = some c → c < n → p_in i (SH c).2 → pw inj sk base N d none j (pc + 1) L (.int (FI c ix) :: st) (n, sl, SH, FI, FL, FR) (A c)) : pw inj sk base N d none j pc L (.int i :: va_rf (h_rf base o) :: st) (n, sl, SH, FI, FL, FR) (P_sm o (fun c => P_and (p_in i (SH c).2) (A c))) :=
  pw_inv q (fun m hm h r h' hR hh => by
    subst hik
    rcases hh with ⟨b, hi | hi, hg⟩ | ⟨hr, -⟩ | ⟨_, _, _, _, _, _, _, _, _, _, _, _, _, hc, _⟩ | ⟨_, _, _, hc, _⟩
    · obtain ⟨-, x2, r2, q2, k, n2, f, hk, hin, e, hq, rfl⟩ := hi
      have e1 : x2 = i := by cases (List.cons.inj e).1; rfl
      have e6 := (List.cons.inj e).2
      have ho := h_rf_some (List.cons.inj e6).1
      have e3 := (List.cons.inj e6).2
      subst e1; subst e3
      have hk0 := (x_kn_0 hk).2.2.1 rfl
      subst hk0
      obtain ⟨hlt, hc⟩ := h_at hR hq
      obtain ⟨h1, h2⟩ := h_cell_a hc
      have hf : f = FI q2 := by cases h2; rfl
      subst hf
      have hz : (SH q2).2 = n2 := by rw [h1]
      have hin2 : p_in x2 (SH q2).2 := by rw [hz]; exact p_in_of hin
      obtain ⟨x, s', e4, g1, hp0, g2⟩ := kk q2 ho hlt hin2 m (by omega) h r h' hR hg
      exact ⟨x, s', e4, g1, hp0, q2, ho, hin2, g2⟩
    · exfalso
      obtain ⟨-, k, x2, r2, hk, -, e, -⟩ := hi
      have e6 := (List.cons.inj e).2
      have e7 := (List.cons.inj e6).1
      have hlt := (hkb.1 k hk).2
      cases o with
      | none => cases e7
      | some c =>
        have e8 : base + c = sk.2.1 k := Value.ref.inj e7
        omega
    · exact hr.elim
    · exact hc.2.2.2.2.2.elim
    · exact hc.elim)
theorem pw_aald {i : Int32} {o : Option Nat} {ix : Nat} (q : x_at xMM j pc .aaload 1 y nL ret) (hik : i.toInt.toNat = ix) (kk : ∀ c, o = some c → c < n → p_in i (SH c).2 → pw inj sk base N d none j (pc + 1) L (va_rf (h_rf base (FR c ix)) :: st) (n, sl, SH, FI, FL, FR) (A c)) : pw inj sk base N d none j pc L (.int i :: va_rf (h_rf base o) :: st) (n, sl, SH, FI, FL, FR) (P_sm o (fun c => P_and (p_in i (SH c).2) (A c))) :=
  pw_st q rfl (fun h b hR hb m hm r h' hg => by
    subst hik
    obtain ⟨-, x2, r2, q2, k, n2, f, ty, hk, hty, hin, e, hq, rfl⟩ := hb
    have e1 : x2 = i := by cases (List.cons.inj e).1; rfl
    have e6 := (List.cons.inj e).2
    have ho := h_rf_some (List.cons.inj e6).1
    have e3 := (List.cons.inj e6).2
    subst e1; subst e3
    have hk0 := (x_kn_0 hk).2.2.2 hty
    obtain ⟨hlt, hc⟩ := h_at hR hq
    obtain ⟨h1, h2⟩ := h_cell_a hc
    have hf : f = fun i => h_rf base (FR q2 i) := by
      obtain ⟨k, rfl⟩ : ∃ k', k = k' + 3 := ⟨k - 3, by omega⟩
      cases h2; rfl
    subst hf
    have hz : (SH q2).2 = n2 := by rw [h1]
    have hin2 : p_in x2 (SH q2).2 := by rw [hz]; exact p_in_of hin
    obtain ⟨x, s', e4, g1, hp0, g2⟩ := kk q2 ho hlt hin2 m (by omega) h r h' hR hg
    exact ⟨x, s', e4, g1, hp0, q2, ho, hin2, g2⟩)
theorem pw_iast {i v : Int32} {o : Option Nat} {ix : Nat} (q : x_at xMM j pc .iastore 1 y nL ret) (hik : i.toInt.toNat = ix) (kk : ∀ c, o = some c → c < n → p_in i (SH c).2 → pw inj sk base N d none j (pc + 1) L st (n, sl, SH, h_up FI c ix v, FL, FR) (A c)) : pw inj sk base N d none j pc L (.int v :: .int i :: va_rf (h_rf base o) :: st) (n, sl, SH, FI, FL, FR) (P_sm o (fun c => P_and (p_in i (SH c).2) (A c))) :=
  pw_st q rfl (fun h b hR hb m hm r h' hg => by
    subst hik
    obtain ⟨-, x2, v2, r2, q2, k, n2, f, hk, hin, e, hq, rfl⟩ := hb
    have e1 : v2 = v := by cases (List.cons.inj e).1; rfl
    have e5 := (List.cons.inj e).2
    have e2 : x2 = i := by cases (List.cons.inj e5).1; rfl
    have e6 := (List.cons.inj e5).2
    have ho := h_rf_some (List.cons.inj e6).1
    have e3 := (List.cons.inj e6).2
    subst e1; subst e2; subst e3
    have hk0 := (x_kn_0 hk).1 rfl
    subst hk0
    obtain ⟨hlt, hc⟩ := h_at hR hq
    obtain ⟨h1, h2⟩ := h_cell_a hc
    have hf : f = FI q2 := by cases h2; rfl
    subst hf
    have hz : (SH q2).2 = n2 := by rw [h1]
    have hin2 : p_in x2 (SH q2).2 := by rw [hz]; exact p_in_of hin
    have e9 := h_arr_set (k := 0) (f' := va_up (FI q2) x2.toNatClampNeg v2) (g' := FL q2) (r' := FR q2) hR hlt h1
    rw [h_same FL, h_same FR] at e9
    rw [h_upd] at hg
    obtain ⟨x, s', e4, g1, hp0, g2⟩ := kk q2 ho hlt hin2 m (by omega) _ r h' e9 hg
    exact ⟨x, s', e4, g1, hp0, q2, ho, hin2, g2⟩)
theorem pw_last {i : Int32} {v : Int64} {o : Option Nat} {ix : Nat} (q : x_at xMM j pc .lastore 1 y nL ret) (hik : i.toInt.toNat = ix) (kk : ∀ c, o = some c → c < n → p_in i (SH c).2 → pw inj sk base N d none j (pc + 1) L st (n, sl, SH, FI, h_up FL c ix v, FR) (A c)) : pw inj sk base N d none j pc L (.long v :: .int i :: va_rf (h_rf base o) :: st) (n, sl, SH, FI, FL, FR) (P_sm o (fun c => P_and (p_in i (SH c).2) (A c))) :=
  pw_st q rfl (fun h b hR hb m hm r h' hg => by
    subst hik
    obtain ⟨-, x2, v2, r2, q2, k, n2, f, hk, hin, e, hq, rfl⟩ := hb
    have e1 : v2 = v := by cases (List.cons.inj e).1; rfl
    have e5 := (List.cons.inj e).2
    have e2 : x2 = i := by cases (List.cons.inj e5).1; rfl
    have e6 := (List.cons.inj e5).2
    have ho := h_rf_some (List.cons.inj e6).1
    have e3 := (List.cons.inj e6).2
    subst e1; subst e2; subst e3
    have hk0 := (x_kn_0 hk).2.1 rfl
    subst hk0
    obtain ⟨hlt, hc⟩ := h_at hR hq
    obtain ⟨h1, h2⟩ := h_cell_a hc
    have hf : f = FL q2 := by cases h2; rfl
    subst hf
    have hz : (SH q2).2 = n2 := by rw [h1]
    have hin2 : p_in x2 (SH q2).2 := by rw [hz]; exact p_in_of hin
    have e9 := h_arr_set (k := 1) (f' := FI q2) (g' := va_up (FL q2) x2.toNatClampNeg v2) (r' := FR q2) hR hlt h1
    rw [h_same FI, h_same FR] at e9
    rw [h_updL] at hg
    obtain ⟨x, s', e4, g1, hp0, g2⟩ := kk q2 ho hlt hin2 m (by omega) _ r h' e9 hg
    exact ⟨x, s', e4, g1, hp0, q2, ho, hin2, g2⟩)
theorem pw_zast {i v : Int32} {o : Option Nat} {ix : Nat} (q : x_at xMM j pc .bastore 1 y nL ret) (hik : i.toInt.toNat = ix) (kk : ∀ c, o = some c → c < n → p_in i (SH c).2 → pw inj sk base N d none j (pc + 1) L st (n, sl, SH, h_up FI c ix (vp_nar .boolean v), FL, FR) (A c)) : pw inj sk base N d none j pc L (.int v :: .int i :: va_rf (h_rf base o) :: st) (n, sl, SH, FI, FL, FR) (P_sm o (fun c => P_and (p_in i (SH c).2) (A c))) :=
  pw_st q rfl (fun h b hR hb m hm r h' hg => by
    subst hik
    obtain ⟨-, x2, v2, r2, q2, k, n2, f, hk, hin, e, hq, rfl⟩ := hb
    have e1 : v2 = v := by cases (List.cons.inj e).1; rfl
    have e5 := (List.cons.inj e).2
    have e2 : x2 = i := by cases (List.cons.inj e5).1; rfl
    have e6 := (List.cons.inj e5).2
    have ho := h_rf_some (List.cons.inj e6).1
    have e3 := (List.cons.inj e6).2
    subst e1; subst e2; subst e3
    have hk0 := (x_kn_0 hk).2.2.1 rfl
    subst hk0
    obtain ⟨hlt, hc⟩ := h_at hR hq
    obtain ⟨h1, h2⟩ := h_cell_a hc
    have hf : f = FI q2 := by cases h2; rfl
    subst hf
    have hz : (SH q2).2 = n2 := by rw [h1]
    have hin2 : p_in x2 (SH q2).2 := by rw [hz]; exact p_in_of hin
    have e9 := h_arr_set (k := 2) (f' := va_up (FI q2) x2.toNatClampNeg (vp_nar .boolean v2)) (g' := FL q2) (r' := FR q2) hR hlt h1
    rw [h_same FL, h_same FR] at e9
    rw [h_upd] at hg
    obtain ⟨x, s', e4, g1, hp0, g2⟩ := kk q2 ho hlt hin2 m (by omega) _ r h' e9 hg
    exact ⟨x, s', e4, g1, hp0, q2, ho, hin2, g2⟩)
theorem pw_aast {i : Int32} {o p : Option Nat} {ix : Nat} (q : x_at xMM j pc .aastore 1 y nL ret) (hik : i.toInt.toNat = ix) (kk : ∀ c v, o = some c → p = some v → c < n → v < n → p_in i (SH c).2 → 100 ≤ (SH c).1 → pw inj sk base N d none j (pc + 1) L st (n, sl, SH, FI, FL, h_up FR c ix p) (A c)) : pw inj sk base N d none j pc L (va_rf (h_rf base p) :: .int i :: va_rf (h_rf base o) :: st) (n, sl, SH, FI, FL, FR) (P_sm o (fun c => P_and (p_in i (SH c).2 ∧ ∃ v, p = some v) (A c))) :=
  pw_st q rfl (fun h b hR hb m hm r h' hg => by
    subst hik
    obtain ⟨-, x2, v2, r2, q2, k, n2, f, hin, e, hq, rfl, hd⟩ := hb
    have hp := h_rf_some (List.cons.inj e).1
    have e5 := (List.cons.inj e).2
    have e2 : x2 = i := by cases (List.cons.inj e5).1; rfl
    have e6 := (List.cons.inj e5).2
    have ho := h_rf_some (List.cons.inj e6).1
    have e3 := (List.cons.inj e6).2
    subst e2; subst e3
    have hk0 : 3 ≤ k ∧ k < 7 := by
      rcases hd with ⟨ci, fs, C, T, N2, hk, -⟩ | ⟨k2, z, hk, -⟩
      · exact (x_kn_0 hk).2.2.2 rfl
      · exact (x_kn_0 hk).2.2.2 rfl
    have hv : v2 < n := by
      rcases hd with ⟨ci, fs, C, T, N2, -, -, hq2⟩ | ⟨k2, z, -, -, -, hq2⟩
      · exact (h_at hR hq2).1
      · exact (h_at hR hq2).1
    obtain ⟨hlt, hc⟩ := h_at hR hq
    obtain ⟨h1, h2⟩ := h_cell_a hc
    obtain ⟨k, rfl⟩ : ∃ k', k = k' + 3 := ⟨k - 3, by omega⟩
    have hf : f = fun i => h_rf base (FR q2 i) := by cases h2; rfl
    subst hf
    have hz : (SH q2).2 = n2 := by rw [h1]
    have hin2 : p_in x2 (SH q2).2 := by rw [hz]; exact p_in_of hin
    have e9 := h_arr_set (k := k + 3) (f' := FI q2) (g' := FL q2) (r' := va_up (FR q2) x2.toNatClampNeg (some v2)) hR hlt h1
    rw [h_same FI, h_same FL] at e9
    have e10 : (va_up (fun i => h_rf base (FR q2 i)) x2.toNatClampNeg (some (base + v2))) = fun i2 => h_rf base (va_up (FR q2) x2.toNatClampNeg (some v2) i2) := by
      funext i2
      by_cases h9 : i2 = x2.toNatClampNeg
      · simp [va_up, h9, h_rf]
      · simp [va_up, h9]
    rw [e10] at hg
    have k1 := kk q2 v2 ho hp hlt hv hin2 (by rw [h1]; exact Nat.le_add_right 100 _)
    rw [hp] at k1
    obtain ⟨x, s', e4, g1, hp0, g2⟩ := k1 m (by omega) _ r h' e9 hg
    exact ⟨x, s', e4, g1, hp0, q2, ho, ⟨hin2, v2, hp⟩, g2⟩)
theorem pw_alen {o : Option Nat} (hkb : x_kb sk base) (q : x_at xMM j pc .arraylength 1 y nL ret) (kk : ∀ c, o = some c → c < n → pw inj sk base N d none j (pc + 1) L (.int (Int32.ofNat (SH c).2) :: st) (n, sl, SH, FI, FL, FR) (A c)) : pw inj sk base N d none j pc L (va_rf (h_rf base o) :: st) (n, sl, SH, FI, FL, FR) (P_sm o A) :=
  pw_inv q (fun m hm h r h' hR hh => by
    rcases hh with ⟨b, hi | hi, hg⟩ | ⟨hr, -⟩ | ⟨_, _, _, _, _, _, _, _, _, _, _, _, _, hc, _⟩ | ⟨_, _, _, hc, _⟩
    · obtain ⟨-, r2, hb⟩ := hi
      rcases hb with ⟨q2, k, x2, hk, e, hq, rfl⟩ | ⟨q2, n2, f, hX, -⟩
      · have ho := h_rf_some (List.cons.inj e).1
        have e3 := (List.cons.inj e).2
        subst e3
        obtain ⟨hlt, hc⟩ := h_at hR hq
        obtain ⟨h1, h2⟩ := h_cell_a (m := x2.1) (z := x2.2) hc
        have hz : (SH q2).2 = x2.1 := by rw [h1]
        have k1 := kk q2 ho hlt
        rw [hz] at k1
        obtain ⟨x, s', e4, g1, hp0, g2⟩ := k1 m (by omega) h r h' hR hg
        exact ⟨x, s', e4, g1, hp0, q2, ho, g2⟩
      · cases hX
    · exfalso
      obtain ⟨-, k, r2, hk, e, -⟩ := hi
      have e7 := (List.cons.inj e).1
      have hlt := (hkb.1 k hk).2
      cases o with
      | none => cases e7
      | some c =>
        have e8 : base + c = sk.2.1 k := Value.ref.inj e7
        omega
    · exact hr.elim
    · exact hc.2.2.2.2.2.elim
    · exact hc.elim)
end PA
/-! Calls. -/
def x_uJ (y : MethodName) (j : Nat) : Prop := ∀ (j2 : Nat) (cc : ByteArray) (nL : Nat) (ret : Option FieldType), xMM j2 = some (y, cc, nL, ret) → j2 = j
def u_j (y : MethodName) (j : Nat) : Bool := (List.range x_ml.length).all (fun i => match x_ml[i]? with
  | some q => !(decide (q.1 = y)) || i == j
  | none => true)
theorem x_uJ_of {y : MethodName} {j : Nat} (h : u_j y j = true) : x_uJ y j := by
  intro j2 cc nL ret hM
  have hM2 : x_ml[j2]? = some (y, cc, nL, ret) := hM
  have hlt := (List.getElem?_eq_some_iff.mp hM2).1
  have h3 := List.all_eq_true.mp h j2 (List.mem_range.mpr hlt)
  rw [hM2] at h3
  simpa using h3
theorem x_pn_u {y : MethodName} {a b : Nat} (h : x_pn y a) (h2 : x_pn y b) : a = b := by
  unfold x_pn at h h2
  rw [h] at h2
  exact Option.some.inj h2
theorem x_app_u {α : Type} {a b c d : List α} (h : a ++ b = c ++ d) (hl : a.length = c.length) : a = c ∧ b = d := List.append_inj h hl
section PC
variable {ρ τ : Type} {inj : ρ → Option Value} {inj2 : τ → Option Value} {sk : xK} {base N d : Nat} {j : Nat} {y : MethodName} {nL : Nat} {ret : Option FieldType} {len pc : Nat} {L : xL} {n sl : Nat} {SH : Nat → Nat × Nat} {FI : Nat → Nat → Int32} {FL : Nat → Nat → Int64} {FR : Nat → Nat → Option Nat} {C : τ → hS → Prop} {A : τ → Nat → Nat → (Nat → Nat × Nat) → (Nat → Nat → Int32) → (Nat → Nat → Int64) → (Nat → Nat → Option Nat) → ρ → hS → Prop}
/-- what a call does, over what is known of the callee -/
theorem pw_call0 {s : hS} {j2 : Nat} {As rest : List Value} {m : Nat} {h : List xC} {r : Option Value} {h' : List xC} {d' : Nat} {v : Option Value} {h1 : List xC} (hm : m + 1 ≤ N) (hR : h_Rel base s h)
    (k1 : ∀ d, pw inj2 sk base (N - 1) d none j2 0 (lv_args 0 As) [] s C)
    (k2 : ∀ v n sl SH FI FL FR, pk n SH FR → C v (n, sl, SH, FI, FL, FR) → pw inj sk base N d none j (pc + 3) L ((inj2 v).toList ++ rest) (n, sl, SH, FI, FL, FR) (A v n sl SH FI FL FR))
    (g1 : x_go sk vwCl x_kn x_Ts x_AO xMM base m d' none j2 (0, lv_args 0 As, [], h) v h1) (g2 : x_go sk vwCl x_kn x_Ts x_AO xMM base m d none j (pc + 3, L, v.toList ++ rest, h1) r h') : ∃ x s', r = inj x ∧ h_Rel base s' h' ∧ pk s'.1 s'.2.2.1 s'.2.2.2.2.2 ∧ P_bi C A x s' := by
  obtain ⟨x1, s1, e1, hR1, hp1, c1⟩ := k1 d' m (by omega) h v h1 hR g1
  subst e1
  obtain ⟨n1, sl1, SH1, FI1, FL1, FR1⟩ := s1
  obtain ⟨x, s', e4, q1, hp0, q2⟩ := k2 x1 n1 sl1 SH1 FI1 FL1 FR1 hp1 c1 m (by omega) h1 r h' hR1 g2
  exact ⟨x, s', e4, q1, hp0, x1, n1, sl1, SH1, FI1, FL1, FR1, c1, q2⟩
theorem pw_callV {idx j2 c : Nat} {y2 : MethodName} {Bs rest st0 : List Value} {L2 : xL} (q : x_at xMM j pc (.invokevirtual idx) 3 y nL ret) (hu : x_uM y.cls idx y2) (hj : x_uJ y2 j2) (hn : x_pn y2 Bs.length) (hcl : y2.cls ≠ "java/lang/String") (hcn : y2 ≠ ⟨"[I", "clone", "()Ljava/lang/Object;"⟩) (hst : st0 = Bs.reverse ++ .ref (base + c) :: rest) (hL : lv_args 0 (.ref (base + c) :: Bs) = L2)
    (k1 : ∀ d, pw inj2 sk base (N - 1) d none j2 0 L2 [] (n, sl, SH, FI, FL, FR) C)
    (k2 : ∀ v n sl SH FI FL FR, pk n SH FR → C v (n, sl, SH, FI, FL, FR) → pw inj sk base N d none j (pc + 3) L ((inj2 v).toList ++ rest) (n, sl, SH, FI, FL, FR) (A v n sl SH FI FL FR)) : pw inj sk base N d none j pc L st0 (n, sl, SH, FI, FL, FR) (P_bi C A) :=
  pw_inv q (fun m hm h r h' hR hh => by
    rcases hh with ⟨b, hi | hi, hg⟩ | ⟨hr, -⟩ | ⟨d', j3, y3, cc3, nL3, ret3, As, rest3, v, h1, -, -, hM3, hc, -, g1, g2⟩ | ⟨_, _, _, hc, _⟩
    · exact hi.elim
    · exact hi.elim
    · exact hr.elim
    · obtain ⟨-, -, -, -, -, hlk, -, -, hh⟩ := hc
      have e1 := hu y3 hlk
      subst e1
      have e2 := hj j3 _ _ _ hM3
      subst e2
      rcases hh with ⟨q2, ci, fs, T, N2, Bs2, rfl, e, -, -, hp⟩ | ⟨k, Bs2, -, hs, -⟩
      · have hl := x_pn_u hp hn
        dsimp only at e
        rw [hst] at e
        obtain ⟨e3, e4⟩ := x_app_u e (by simp [hl])
        have e5 : Bs = Bs2 := by simpa using e3
        have e6 := (List.cons.inj e4).1
        have e7 := (List.cons.inj e4).2
        subst e5; subst e7
        rw [← e6] at g1
        rw [← hL] at k1
        exact pw_call0 hm hR k1 k2 g1 g2
      · exact absurd hs hcl
    · exfalso
      obtain ⟨-, hlk, -⟩ := hc
      exact hcn (hu _ (Or.inl hlk)).symm)
theorem pw_callVo {idx j2 : Nat} {o : Option Nat} {y2 : MethodName} {Bs rest st0 : List Value} {L2 : Nat → xL} {C : Nat → τ → hS → Prop} {A : Nat → τ → Nat → Nat → (Nat → Nat × Nat) → (Nat → Nat → Int32) → (Nat → Nat → Int64) → (Nat → Nat → Option Nat) → ρ → hS → Prop} (q : x_at xMM j pc (.invokevirtual idx) 3 y nL ret) (hu : x_uM y.cls idx y2) (hj : x_uJ y2 j2) (hn : x_pn y2 Bs.length) (hcl : y2.cls ≠ "java/lang/String") (hcn : y2 ≠ ⟨"[I", "clone", "()Ljava/lang/Object;"⟩) (hst : st0 = Bs.reverse ++ va_rf (h_rf base o) :: rest) (hL : ∀ c, lv_args 0 (.ref (base + c) :: Bs) = L2 c)
    (k1 : ∀ c, o = some c → ∀ d, pw inj2 sk base (N - 1) d none j2 0 (L2 c) [] (n, sl, SH, FI, FL, FR) (C c))
    (k2 : ∀ c, o = some c → ∀ v n sl SH FI FL FR, pk n SH FR → C c v (n, sl, SH, FI, FL, FR) → pw inj sk base N d none j (pc + 3) L ((inj2 v).toList ++ rest) (n, sl, SH, FI, FL, FR) (A c v n sl SH FI FL FR)) : pw inj sk base N d none j pc L st0 (n, sl, SH, FI, FL, FR) (P_sm o (fun c => P_bi (C c) (A c))) := by
  cases o with
  | none =>
    refine pw_inv q (fun m hm h r h' hR hh => ?_)
    exfalso
    rcases hh with ⟨b, hi | hi, hg⟩ | ⟨hr, -⟩ | ⟨d', j3, y3, cc3, nL3, ret3, As, rest3, v, h1, -, -, hM3, hc, -, g1, g2⟩ | ⟨_, _, _, hc, _⟩
    · exact hi.elim
    · exact hi.elim
    · exact hr.elim
    · obtain ⟨-, -, -, -, -, hlk, -, -, hh⟩ := hc
      have e1 := hu y3 hlk
      subst e1
      rcases hh with ⟨q2, ci, fs, T, N2, Bs2, rfl, e, -, -, hp⟩ | ⟨k, Bs2, -, hs, -⟩
      · have hl := x_pn_u hp hn
        dsimp only at e
        rw [hst] at e
        obtain ⟨e3, e4⟩ := x_app_u e (by simp [hl])
        have e6 := (List.cons.inj e4).1
        cases e6
      · exact absurd hs hcl
    · obtain ⟨-, hlk, -⟩ := hc
      exact hcn (hu _ (Or.inl hlk)).symm
  | some c => exact pw_cons (pw_callV q hu hj hn hcl hcn hst (hL c) (k1 c rfl) (k2 c rfl)) (fun x s h => ⟨c, rfl, h⟩)
theorem pw_callS {idx j2 : Nat} {y2 : MethodName} {As rest st0 : List Value} {L2 : xL} (q : x_at xMM j pc (.invokestatic idx) 3 y nL ret) (hu : x_uM y.cls idx y2) (hj : x_uJ y2 j2) (hn : x_pn y2 As.length) (hac : y2 ≠ arraycopyName) (hst : st0 = As.reverse ++ rest) (hL : lv_args 0 As = L2)
    (k1 : ∀ d, pw inj2 sk base (N - 1) d none j2 0 L2 [] (n, sl, SH, FI, FL, FR) C)
    (k2 : ∀ v n sl SH FI FL FR, pk n SH FR → C v (n, sl, SH, FI, FL, FR) → pw inj sk base N d none j (pc + 3) L ((inj2 v).toList ++ rest) (n, sl, SH, FI, FL, FR) (A v n sl SH FI FL FR)) : pw inj sk base N d none j pc L st0 (n, sl, SH, FI, FL, FR) (P_bi C A) :=
  pw_inv q (fun m hm h r h' hR hh => by
    rcases hh with ⟨b, hi | hi, hg⟩ | ⟨hr, -⟩ | ⟨d', j3, y3, cc3, nL3, ret3, As2, rest3, v, h1, -, -, hM3, hc, -, g1, g2⟩ | ⟨_, _, _, hc, _⟩
    · exact hi.elim
    · exact hi.elim
    · exact hr.elim
    · obtain ⟨-, -, -, -, -, hlk, e, hp, -⟩ := hc
      have e1 := hu y3 hlk
      subst e1
      have e2 := hj j3 _ _ _ hM3
      subst e2
      have hl := x_pn_u hp hn
      dsimp only at e
      rw [hst] at e
      obtain ⟨e3, e4⟩ := x_app_u e (by simp [hl])
      have e5 : As = As2 := by simpa using e3
      subst e5; subst e4
      rw [← hL] at k1
      exact pw_call0 hm hR k1 k2 g1 g2
    · exfalso
      obtain ⟨-, hlk, -⟩ := hc
      exact hac (hu _ (Or.inl hlk)).symm)
theorem pw_callN {idx j2 c : Nat} {y2 : MethodName} {Bs rest st0 : List Value} {L2 : xL} (q : x_at xMM j pc (.invokespecial idx) 3 y nL ret) (hu : x_uM y.cls idx y2) (hj : x_uJ y2 j2) (hn : x_pn y2 Bs.length) (hoi : y2 ≠ Jvm.Lib.objectInit) (hst : st0 = Bs.reverse ++ .ref (base + c) :: rest) (hL : lv_args 0 (.ref (base + c) :: Bs) = L2)
    (k1 : ∀ d, pw inj2 sk base (N - 1) d none j2 0 L2 [] (n, sl, SH, FI, FL, FR) C)
    (k2 : ∀ v n sl SH FI FL FR, pk n SH FR → C v (n, sl, SH, FI, FL, FR) → pw inj sk base N d none j (pc + 3) L ((inj2 v).toList ++ rest) (n, sl, SH, FI, FL, FR) (A v n sl SH FI FL FR)) : pw inj sk base N d none j pc L st0 (n, sl, SH, FI, FL, FR) (P_bi C A) :=
  pw_inv q (fun m hm h r h' hR hh => by
    rcases hh with ⟨b, hi | hi, hg⟩ | ⟨hr, -⟩ | ⟨d', j3, y3, cc3, nL3, ret3, As, rest3, v, h1, -, -, hM3, hc, -, g1, g2⟩ | ⟨_, _, _, hc, _⟩
    · exact hi.elim
    · exact hi.elim
    · exact hr.elim
    · obtain ⟨-, -, -, -, -, hlk, -, q2, Bs2, rfl, e, hp, -⟩ := hc
      have e1 := hu y3 hlk
      subst e1
      have e2 := hj j3 _ _ _ hM3
      subst e2
      have hl := x_pn_u hp hn
      dsimp only at e
      rw [hst] at e
      obtain ⟨e3, e4⟩ := x_app_u e (by simp [hl])
      have e5 : Bs = Bs2 := by simpa using e3
      have e6 := (List.cons.inj e4).1
      have e7 := (List.cons.inj e4).2
      subst e5; subst e7
      rw [← e6] at g1
      rw [← hL] at k1
      exact pw_call0 hm hR k1 k2 g1 g2
    · exfalso
      obtain ⟨-, -, -, -, -, hlk, -⟩ := hc
      exact hoi (hu _ (Or.inl hlk)).symm)
end PC
