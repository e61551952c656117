/-! New cells, copies. -/
def x_uN (own : String) (idx t : Nat) : Prop := ∀ (ci : Nat) (C : String) (T : u_T) (N : Nat), vwCl[ci]? = some (C, T, N) → Cond.classLink own idx C ∈ x_Ts → ci = t
def u_nl (own : String) (idx : Nat) (c0 : String) : Bool := lw_tbl.all (fun w => match w with
  | .classLink o i c => !(i == idx && o == own) || c == c0
  | _ => true)
def u_nt (c0 : String) (t : Nat) : Bool := (List.range 13).all (fun ci => match vwCl[ci]? with
  | none => true
  | some (C, _, _) => !(C == c0) || ci == t)
theorem x_uN_of {own : String} {idx t : Nat} {c0 : String} (h1 : u_nl own idx c0 = true) (h2 : u_nt c0 t = true) : x_uN own idx t := by
  intro ci C T N hci hl
  have h3 := List.all_eq_true.mp h1 _ (List.mem_filter.mp hl).1
  have hC : C = c0 := by simpa using h3
  have hlt : ci < 13 := (List.getElem?_eq_some_iff.mp hci).1
  have h4 := List.all_eq_true.mp h2 ci (List.mem_range.mpr hlt)
  rw [hci] at h4
  simpa [hC] using h4
def x_uQ (own : String) (idx k : Nat) : Prop := ∀ (k2 : Nat) (C : String), x_kn[k2]? = some (.object C) → Cond.classLink own idx C ∈ x_Ts → k2 = k
def u_qt (c0 : String) (k : Nat) : Bool := (List.range 7).all (fun i => match x_kn[i]? with
  | some (.object C) => !(C == c0) || i == k
  | _ => true)
theorem x_uQ_of {own : String} {idx k : Nat} {c0 : String} (h1 : u_nl own idx c0 = true) (h2 : u_qt c0 k = true) : x_uQ own idx k := by
  intro k2 C hk hl
  have h3 := List.all_eq_true.mp h1 _ (List.mem_filter.mp hl).1
  have hC : C = c0 := by simpa using h3
  have hlt : k2 < 7 := (List.getElem?_eq_some_iff.mp hk).1
  have h4 := List.all_eq_true.mp h2 k2 (List.mem_range.mpr hlt)
  rw [hk] at h4
  simpa [hC] using h4
def P_nw (t n sl : Nat) (SH : Nat → Nat × Nat) (FI : Nat → Nat → Int32) (FL : Nat → Nat → Int64) (FR : Nat → Nat → Option Nat) : Unit → hS → Prop := fun _ s => s = (n + 1, sl + h_nf t, va_up SH n (t, 0), va_up FI n (fun _ => 0), va_up FL n (fun _ => 0), va_up FR n (fun _ => none))
def P_na (k z n sl : Nat) (SH : Nat → Nat × Nat) (FI : Nat → Nat → Int32) (FL : Nat → Nat → Int64) (FR : Nat → Nat → Option Nat) : Unit → hS → Prop := fun _ s => s = (n + 1, sl + z, va_up SH n (100 + k, z), va_up FI n (fun _ => 0), va_up FL n (fun _ => 0), va_up FR n (fun _ => none))
theorem pk_n {n : Nat} {SH : Nat → Nat × Nat} {FR : Nat → Nat → Option Nat} {sh : Nat × Nat} {f : Nat → Option Nat} (h : pk n SH FR) (m : hf_L.all (fun e => decide (e.1 < 176)) = true) : pk (n + 1) (va_up SH n sh) (va_up FR n f) := by
  obtain ⟨⟨h1, h2⟩, h3, h4⟩ := h
  refine ⟨⟨by omega, fun q hq => ?_⟩, fun e he ht => ?_, ?_⟩
  · have e : q ≠ n := by omega
    simp only [va_up, if_neg e]
    exact h2 q hq
  · have h4 := of_decide_eq_true (List.all_eq_true.mp m e he)
    have e2 : e.1 ≠ n := by omega
    simp only [va_up, if_neg e2]
    exact h3 e he ht
  · have e2 : (49 : Nat) ≠ n := by omega
    simp only [va_up, if_neg e2]
    exact h4
theorem h_newc {base t N : Nat} {C : String} {T : u_T} {ty : Nat → FieldType} (ht : vwCl[t]? = some (C, T, N)) (hty : ∀ k, k < N → parseFieldDescriptor (T k).2.2.1 = some (ty k)) : h_cell base (t, 0) (fun _ => 0) (fun _ => 0) (fun _ => none) = .inr (t, (List.range N).map (fun k => defaultValue (ty k))) := by
  have ht2 : t < 100 := Nat.lt_trans (List.getElem?_eq_some_iff.mp ht).1 (by decide)
  rw [h_obj rfl ht2]
  congr 2
  unfold h_fs
  rw [h_nf_of ht]
  apply List.map_congr_left
  intro k hk
  have hk2 : k < N := List.mem_range.mp hk
  have ht3 : t < 13 := (List.getElem?_eq_some_iff.mp ht).1
  have h105 := h_nle t ht3
  rw [h_nf_of ht] at h105
  have e0 : h_ty t k = ty k := Option.some.inj ((h_ty_ok ht hk2).symm.trans (hty k hk2))
  rw [← e0]
  obtain ⟨f1, f2⟩ := h_noF t ht3 k (by omega)
  cases e : h_ty t k with
  | float => exact absurd e f1
  | double => exact absurd e f2
  | _ => rfl
section PN
variable {ρ : Type} {inj : ρ → Option Value} {sk : xK} {base N d : Nat} {j : Nat} {y : MethodName} {nL : Nat} {ret : Option FieldType} {len pc : Nat} {L : xL} {st : List Value} {n sl : Nat} {SH : Nat → Nat × Nat} {FI : Nat → Nat → Int32} {FL : Nat → Nat → Int64} {FR : Nat → Nat → Option Nat} {A : Unit → Nat → Nat → (Nat → Nat × Nat) → (Nat → Nat → Int32) → (Nat → Nat → Int64) → (Nat → Nat → Option Nat) → ρ → hS → Prop}
theorem pw_new {idx t : Nat} (hok : pk n SH FR) (q : x_at xMM j pc (.new idx) 3 y nL ret) (hu : x_uN y.cls idx t) (kk : ∀ v n1 sl1 SH1 FI1 FL1 FR1, pk n1 SH1 FR1 → P_nw t n sl SH FI FL FR v (n1, sl1, SH1, FI1, FL1, FR1) → pw inj sk base N d none j (pc + 3) L (.ref (base + n) :: st) (n1, sl1, SH1, FI1, FL1, FR1) (A v n1 sl1 SH1 FI1 FL1 FR1)) : pw inj sk base N d none j pc L st (n, sl, SH, FI, FL, FR) (P_bi (P_nw t n sl SH FI FL FR) A) :=
  pw_st q rfl (fun h b hR hb m hm r h' hg => by
    obtain ⟨-, ci, C, T, N2, ty, hci, hty, hl, -, -, rfl⟩ := hb
    have e := hu _ _ _ _ hci hl
    subst e
    have hR2 := h_push hR (h_newc (base := base) hci hty) (z := h_nf ci) (by rw [h_nf_of hci]; simp [x_n])
    have hlen : h.length = n := hR.1
    have hg2 : x_go sk vwCl x_kn x_Ts x_AO xMM base m d none j (pc + 3, L, .ref (base + n) :: st, h ++ [.inr (ci, (List.range N2).map (fun k => defaultValue (ty k)))]) r h' := by rw [← hlen]; exact hg
    obtain ⟨x, s', e4, g1, hp0, g2⟩ := kk () _ _ _ _ _ _ (pk_n hok (by decide +kernel)) rfl m (by omega) _ r h' hR2 hg2
    exact ⟨x, s', e4, g1, hp0, (), _, _, _, _, _, _, rfl, g2⟩)
theorem pw_newq {idx k : Nat} {z : Int32} {zz : Nat} (hok : pk n SH FR) (q : x_at xMM j pc (.anewarray idx) 3 y nL ret) (hu : x_uQ y.cls idx k) (hz : z.toInt.toNat = zz) (kk : ∀ v n1 sl1 SH1 FI1 FL1 FR1, pk n1 SH1 FR1 → P_na k zz n sl SH FI FL FR v (n1, sl1, SH1, FI1, FL1, FR1) → pw inj sk base N d none j (pc + 3) L (.ref (base + n) :: st) (n1, sl1, SH1, FI1, FL1, FR1) (A v n1 sl1 SH1 FI1 FL1 FR1)) : pw inj sk base N d none j pc L (.int z :: st) (n, sl, SH, FI, FL, FR) (P_bi (P_na k zz n sl SH FI FL FR) A) :=
  pw_st q rfl (fun h b hR hb m hm r h' hg => by
    obtain ⟨-, z2, r2, k2, C, hk, hl, -, -, -, e, rfl⟩ := hb
    cases e
    subst hz
    have e := hu _ _ hk hl
    subst e
    have hk3 := (x_kn_0 hk).2.2.2 rfl
    obtain ⟨k, rfl⟩ : ∃ k', k2 = k' + 3 := ⟨k2 - 3, by omega⟩
    have hR2 := h_push (sh := (100 + (k + 3), z.toNatClampNeg)) (f := fun _ => 0) (g := fun _ => 0) (r := fun _ => none) (c := .inl (k + 3, z.toNatClampNeg, .inr (.inr (.inr (.inr (fun _ => none)))))) (z := z.toNatClampNeg) hR (h_arr rfl) rfl
    have hlen : h.length = n := hR.1
    have hg2 : x_go sk vwCl x_kn x_Ts x_AO xMM base m d none j (pc + 3, L, .ref (base + n) :: st, h ++ [.inl (k + 3, z.toNatClampNeg, .inr (.inr (.inr (.inr (fun _ => none)))))]) r h' := by rw [← hlen]; exact hg
    obtain ⟨x, s', e4, g1, hp0, g2⟩ := kk () _ _ _ _ _ _ (pk_n hok (by decide +kernel)) rfl m (by omega) _ r h' hR2 hg2
    exact ⟨x, s', e4, g1, hp0, (), _, _, _, _, _, _, rfl, g2⟩)
end PN
section PO
variable {ρ : Type} {inj : ρ → Option Value} {sk : xK} {base N d : Nat} {j : Nat} {y : MethodName} {nL : Nat} {ret : Option FieldType} {len pc : Nat} {L : xL} {st : List Value} {s : hS} {B : ρ → hS → Prop}
theorem x_noJ : x_uJ Jvm.Lib.objectInit 100000 := x_uJ_of (by decide +kernel)
theorem pw_oinit {idx : Nat} {v : Value} (q : x_at xMM j pc (.invokespecial idx) 3 y nL ret) (hu : x_uM y.cls idx Jvm.Lib.objectInit) (kk : pw inj sk base N d none j (pc + 3) L st s B) : pw inj sk base N d none j pc L (v :: st) s B :=
  pw_inv q (fun m hm h r h' hR hh => by
    rcases hh with ⟨b, hi | hi, hg⟩ | ⟨hr, -⟩ | ⟨d', j3, y3, cc3, nL3, ret3, As, rest3, w, h1, -, -, hM3, hc, -, g1, g2⟩ | ⟨d', b, -, hc, hg⟩
    · exact hi.elim
    · exact hi.elim
    · exact hr.elim
    · exfalso
      obtain ⟨-, -, -, -, -, hlk, -⟩ := hc
      have e1 := hu y3 hlk
      subst e1
      have e2 := x_noJ j3 _ _ _ hM3
      subst e2
      have h9 : x_ml[100000]? = some (Jvm.Lib.objectInit, cc3, nL3, ret3) := hM3
      have h8 := (List.getElem?_eq_some_iff.mp h9).1
      exact absurd h8 (by decide +kernel)
    · obtain ⟨-, q2, r2, e, -, -, -, -, rfl⟩ := hc
      have e3 := (List.cons.inj e).2
      subst e3
      exact kk m (by omega) h r h' hR hg)
end PO
