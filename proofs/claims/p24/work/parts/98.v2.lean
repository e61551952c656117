/-! The same over cells: fields, arrays, new cells; which field, which method an instruction names is one alone. -/
def x_uF (own : String) (idx t k : Nat) : Prop := ∀ (ci k2 : Nat) (C : String) (T : u_T) (N : Nat), x_fl vwCl x_Ts x_AO own idx ci k2 C T N → ci = t ∧ k2 = k
def x_nS (own : String) (idx : Nat) : Prop := ∀ n d, Cond.fieldLink own idx "java/lang/String" n d ∈ x_Ts → False
def x_uM (own : String) (idx : Nat) (y : MethodName) : Prop := ∀ y2 : MethodName, x_lk x_Ts x_AO own idx y2 → y2 = y
def u_fl (own : String) (idx : Nat) (c0 n0 : String) : Bool := lw_tbl.all (fun w => match w with
  | .fieldLink o i c n _ => !(i == idx && o == own) || (c == c0 && n == n0)
  | .fieldLinkNest o i c n _ _ => !(i == idx && o == own) || (c == c0 && n == n0)
  | _ => true)
def u_ml (own : String) (idx : Nat) (y : MethodName) : Bool := lw_tbl.all (fun w => match w with
  | .methodLink o i z => !(i == idx && o == own) || decide (z = y)
  | .methodLinkNest o i z _ => !(i == idx && o == own) || decide (z = y)
  | _ => true)
def u_tb (c0 n0 : String) (t k : Nat) : Bool := (List.range 13).all (fun ci => match vwCl[ci]? with
  | none => true
  | some (_, T, N) => (List.range N).all (fun k2 => !((T k2).1 == c0 && (T k2).2.1 == n0) || (ci == t && k2 == k)))
theorem x_uF_of {own : String} {idx t k : Nat} {c0 n0 : String} (h1 : u_fl own idx c0 n0 = true) (h2 : u_tb c0 n0 t k = true) : x_uF own idx t k := by
  intro ci k2 C T N h
  obtain ⟨hci, hk, hl⟩ := h
  have hcn : (T k2).1 = c0 ∧ (T k2).2.1 = n0 := by
    rcases hl with hl | ⟨host, hl⟩
    · have h3 := List.all_eq_true.mp h1 _ (List.mem_filter.mp hl).1
      simpa using h3
    · have h3 := List.all_eq_true.mp h1 _ (List.mem_filter.mp hl).1
      simpa using h3
  have hlt : ci < 13 := (List.getElem?_eq_some_iff.mp hci).1
  have h3 := List.all_eq_true.mp h2 ci (List.mem_range.mpr hlt)
  rw [hci] at h3
  have h4 := List.all_eq_true.mp h3 k2 (List.mem_range.mpr hk)
  simpa [hcn.1, hcn.2] using h4
theorem x_nS_of {own : String} {idx : Nat} {c0 n0 : String} (h1 : u_fl own idx c0 n0 = true) (h2 : c0 ≠ "java/lang/String") : x_nS own idx := by
  intro n d hl
  have h3 := List.all_eq_true.mp h1 _ (List.mem_filter.mp hl).1
  have h4 : "java/lang/String" = c0 ∧ n = n0 := by simpa using h3
  exact h2 h4.1.symm
theorem x_uM_of {own : String} {idx : Nat} {y : MethodName} (h1 : u_ml own idx y = true) : x_uM own idx y := by
  intro y2 hl
  rcases hl with hl | ⟨host, hl⟩
  · have h3 := List.all_eq_true.mp h1 _ (List.mem_filter.mp hl).1
    simpa using h3
  · have h3 := List.all_eq_true.mp h1 _ (List.mem_filter.mp hl).1
    simpa using h3
section HA
variable {base n sl : Nat} {SH : Nat → Nat × Nat} {FI : Nat → Nat → Int32} {FL : Nat → Nat → Int64} {FR : Nat → Nat → Option Nat} {h : List xC}
theorem h_at {q : Nat} {c : xC} (hR : h_Rel base (n, sl, SH, FI, FL, FR) h) (e : h[q]? = some c) : q < n ∧ h_cell base (SH q) (FI q) (FL q) (FR q) = c := by
  have h1 : q < h.length := (List.getElem?_eq_some_iff.mp e).1
  have h0 : h.length = n := hR.1
  have h2 := hR.2.2 q (by dsimp only; omega)
  rw [e] at h2
  exact ⟨by omega, (Option.some.inj h2).symm⟩
theorem h_cell_o {sh : Nat × Nat} {f : Nat → Int32} {g : Nat → Int64} {r : Nat → Option Nat} {ci : Nat} {fs : List Value} (e : h_cell base sh f g r = .inr (ci, fs)) : sh.1 = ci ∧ sh.1 < 100 ∧ fs = h_fs base ci f g r := by
  unfold h_cell at e
  split at e
  · rename_i h1
    cases e
    exact ⟨rfl, h1, rfl⟩
  · cases e
theorem h_cell_a {sh : Nat × Nat} {f : Nat → Int32} {g : Nat → Int64} {r : Nat → Option Nat} {k m : Nat} {z : (Nat → Int32) ⊕ (Nat → Int64) ⊕ (Nat → UInt32) ⊕ (Nat → UInt64) ⊕ (Nat → Option Nat)} (e : h_cell base sh f g r = .inl (k, m, z)) : sh = (100 + k, m) ∧ z = h_av base k f g r := by
  unfold h_cell at e
  split at e
  · cases e
  · rename_i h1
    cases e
    refine ⟨Prod.ext ?_ rfl, rfl⟩
    dsimp only
    omega
theorem h_put {c t k : Nat} {v : Value} {f' : Nat → Int32} {g' : Nat → Int64} {r' : Nat → Option Nat} (hR : h_Rel base (n, sl, SH, FI, FL, FR) h) (hc : c < n) (hs : (SH c).1 = t) (ht : t < 100) (hk : k < h_nf t) (hv : h_fv base (h_ty t k) (f' k) (g' k) (r' k) = v) (ho : ∀ i, i ≠ k → f' i = FI c i ∧ g' i = FL c i ∧ r' i = FR c i) :
    h_Rel base (n, sl, SH, va_up FI c f', va_up FL c g', va_up FR c r') (h.set c (.inr (t, (h_fs base t (FI c) (FL c) (FR c)).set k v))) := by
  refine h_set hR hc ?_ ?_ (fun i hi => ⟨if_neg hi, if_neg hi, if_neg hi⟩)
  · rw [h_obj hs ht]
    have e : (h_fs base t (FI c) (FL c) (FR c)).set k v = h_fs base t f' g' r' := h_fs_set hk hv (fun i hi => by obtain ⟨a1, a2, a3⟩ := ho i hi; rw [a1, a2, a3])
    rw [show va_up FI c f' c = f' from if_pos rfl, show va_up FL c g' c = g' from if_pos rfl, show va_up FR c r' c = r' from if_pos rfl, e]
  · rw [h_obj hs ht]
    simp [x_n]
end HA
theorem x_kn_0 {k : Nat} {ty : FieldType} (h : x_kn[k]? = some ty) : (ty = .int → k = 0) ∧ (ty = .long → k = 1) ∧ (ty = .boolean → k = 2) ∧ (ty.isReference = true → 3 ≤ k ∧ k < 7) := by
  match k, h with
  | 0, h => cases h; exact ⟨fun _ => rfl, fun e => (by cases e), fun e => (by cases e), fun e => (by cases e)⟩
  | 1, h => cases h; exact ⟨fun e => (by cases e), fun _ => rfl, fun e => (by cases e), fun e => (by cases e)⟩
  | 2, h => cases h; exact ⟨fun e => (by cases e), fun e => (by cases e), fun _ => rfl, fun e => (by cases e)⟩
  | 3, h => cases h; exact ⟨fun e => (by cases e), fun e => (by cases e), fun e => (by cases e), fun _ => by decide⟩
  | 4, h => cases h; exact ⟨fun e => (by cases e), fun e => (by cases e), fun e => (by cases e), fun _ => by decide⟩
  | 5, h => cases h; exact ⟨fun e => (by cases e), fun e => (by cases e), fun e => (by cases e), fun _ => by decide⟩
  | 6, h => cases h; exact ⟨fun e => (by cases e), fun e => (by cases e), fun e => (by cases e), fun _ => by decide⟩
  | k + 7, h => simp [x_kn] at h
section PH
variable {ρ : Type} {inj : ρ → Option Value} {sk : xK} {base N d : Nat} {j : Nat} {y : MethodName} {nL : Nat} {ret : Option FieldType} {len pc : Nat} {L : xL} {st : List Value} {n sl : Nat} {SH : Nat → Nat × Nat} {FI : Nat → Nat → Int32} {FL : Nat → Nat → Int64} {FR : Nat → Nat → Option Nat} {A : Nat → ρ → hS → Prop} {B : ρ → hS → Prop}
theorem pw_get {idx t k : Nat} {o : Option Nat} {v : Nat → Value} (q : x_at xMM j pc (.getfield idx) 3 y nL ret) (hu : x_uF y.cls idx t k) (hn : x_nS y.cls idx) (hv : ∀ c, h_fv base (h_ty t k) (FI c k) (FL c k) (FR c k) = v c) (kk : ∀ c, o = some c → c < n → (SH c).1 = t → pw inj sk base N d none j (pc + 3) L (v c :: st) (n, sl, SH, FI, FL, FR) (A c)) : pw inj sk base N d none j pc L (va_rf (h_rf base o) :: st) (n, sl, SH, FI, FL, FR) (P_sm o A) :=
  pw_inv q (fun m hm h r h' hR hh => by
    rcases hh with ⟨b, hi | hi, hg⟩ | ⟨hr, -⟩ | ⟨_, _, _, _, _, _, _, _, _, _, _, _, _, hc, _⟩ | ⟨_, _, _, hc, _⟩
    · obtain ⟨-, ci, k2, C, T, N2, q2, fs, v2, r2, hf, e, hq, hk, rfl⟩ := hi
      obtain ⟨e1, e2⟩ := hu _ _ _ _ _ hf
      subst e1; subst e2
      have ho := h_rf_some (List.cons.inj e).1
      have e3 := (List.cons.inj e).2
      subst e3
      obtain ⟨hlt, hc⟩ := h_at hR hq
      obtain ⟨h1, h2, h3⟩ := h_cell_o hc
      have hv2 : v2 = v q2 := by
        rw [h3, h_fs_at (by rw [h_nf_of hf.1]; exact hf.2.1), hv] at hk
        exact (Option.some.inj hk).symm
      subst hv2
      obtain ⟨x, s', e4, g1, hp0, g2⟩ := kk q2 ho hlt h1 m (by omega) h r h' hR hg
      exact ⟨x, s', e4, g1, hp0, q2, ho, g2⟩
    · obtain ⟨-, k2, r2, -, -, hh⟩ := hi
      rcases hh with ⟨hw, -⟩ | ⟨hw, -⟩
      · exact (hn _ _ hw).elim
      · exact (hn _ _ hw).elim
    · exact hr.elim
    · exact hc.2.2.2.2.2.elim
    · exact hc.elim)
theorem pw_getr {idx t k c : Nat} {v : Value} (q : x_at xMM j pc (.getfield idx) 3 y nL ret) (hu : x_uF y.cls idx t k) (hn : x_nS y.cls idx) (hv : h_fv base (h_ty t k) (FI c k) (FL c k) (FR c k) = v) (kk : pw inj sk base N d none j (pc + 3) L (v :: st) (n, sl, SH, FI, FL, FR) B) : pw inj sk base N d none j pc L (.ref (base + c) :: st) (n, sl, SH, FI, FL, FR) B :=
  pw_cons (pw_get (o := some c) (v := fun c => h_fv base (h_ty t k) (FI c k) (FL c k) (FR c k)) (A := fun _ => B) q hu hn (fun _ => rfl) (fun c2 e _ _ => by cases e; rw [hv]; exact kk)) (fun x s h => by obtain ⟨q, -, h⟩ := h; exact h)
theorem pw_put {idx t k : Nat} {o : Option Nat} {v : Value} {FI' : Nat → Nat → Nat → Int32} {FL' : Nat → Nat → Nat → Int64} {FR' : Nat → Nat → Nat → Option Nat} (q : x_at xMM j pc (.putfield idx) 3 y nL ret) (hu : x_uF y.cls idx t k) (hv : ∀ c, h_fv base (h_ty t k) (FI' c c k) (FL' c c k) (FR' c c k) = v) (ho : ∀ c i, i ≠ k → FI' c c i = FI c i ∧ FL' c c i = FL c i ∧ FR' c c i = FR c i) (ho2 : ∀ c c2, c2 ≠ c → FI' c c2 = FI c2 ∧ FL' c c2 = FL c2 ∧ FR' c c2 = FR c2) (kk : ∀ c, o = some c → c < n → (SH c).1 = t → pw inj sk base N d none j (pc + 3) L st (n, sl, SH, FI' c, FL' c, FR' c) (A c)) : pw inj sk base N d none j pc L (v :: va_rf (h_rf base o) :: st) (n, sl, SH, FI, FL, FR) (P_sm o A) :=
  pw_st q rfl (fun h b hR hb m hm r h' hg => by
    obtain ⟨-, ci, k2, C, T, N2, q2, fs, v2, r2, ty, hf, e, hq, hk, -, -, -, -, rfl⟩ := hb
    obtain ⟨e1, e2⟩ := hu _ _ _ _ _ hf
    subst e1; subst e2
    have e5 := (List.cons.inj e).1
    subst e5
    have e6 := (List.cons.inj e).2
    have ho3 := h_rf_some (List.cons.inj e6).1
    have e3 := (List.cons.inj e6).2
    subst e3
    obtain ⟨hlt, hc⟩ := h_at hR hq
    obtain ⟨h1, h2, h3⟩ := h_cell_o hc
    subst h3
    have hR2 := h_put (f' := FI' q2 q2) (g' := FL' q2 q2) (r' := FR' q2 q2) hR hlt h1 (by omega) (by rw [h_nf_of hf.1]; exact hf.2.1) (hv q2) (fun i hi => ho q2 i hi)
    have e7 : va_up FI q2 (FI' q2 q2) = FI' q2 := by
      funext c2
      by_cases h9 : c2 = q2
      · subst h9; simp [va_up]
      · simp [va_up, h9, (ho2 q2 c2 h9).1]
    have e8 : va_up FL q2 (FL' q2 q2) = FL' q2 := by
      funext c2
      by_cases h9 : c2 = q2
      · subst h9; simp [va_up]
      · simp [va_up, h9, (ho2 q2 c2 h9).2.1]
    have e9 : va_up FR q2 (FR' q2 q2) = FR' q2 := by
      funext c2
      by_cases h9 : c2 = q2
      · subst h9; simp [va_up]
      · simp [va_up, h9, (ho2 q2 c2 h9).2.2]
    rw [e7, e8, e9] at hR2
    obtain ⟨x, s', e4, g1, hp0, g2⟩ := kk q2 ho3 hlt h1 m (by omega) _ r h' hR2 hg
    exact ⟨x, s', e4, g1, hp0, q2, ho3, g2⟩)
theorem h_up_o {α : Type} {F : Nat → Nat → α} {c k i : Nat} {x : α} (h : i ≠ k) : h_up F c k x c i = F c i := h_up_ne h
theorem pw_puti {idx t k : Nat} {o : Option Nat} {x : Int32} (q : x_at xMM j pc (.putfield idx) 3 y nL ret) (hu : x_uF y.cls idx t k) (hty : ∀ (x : Int32) (y : Int64) (r : Option Nat), h_fv base (h_ty t k) x y r = .int x) (kk : ∀ c, o = some c → c < n → (SH c).1 = t → pw inj sk base N d none j (pc + 3) L st (n, sl, SH, h_up FI c k x, FL, FR) (A c)) : pw inj sk base N d none j pc L (.int x :: va_rf (h_rf base o) :: st) (n, sl, SH, FI, FL, FR) (P_sm o A) :=
  pw_put (FI' := fun c => h_up FI c k x) (FL' := fun _ => FL) (FR' := fun _ => FR) q hu (fun c => by rw [hty, h_up_eq]) (fun c i hi => ⟨h_up_ne hi, rfl, rfl⟩) (fun c c2 h => ⟨h_up_nc h, rfl, rfl⟩) kk
theorem pw_putl {idx t k : Nat} {o : Option Nat} {x : Int64} (q : x_at xMM j pc (.putfield idx) 3 y nL ret) (hu : x_uF y.cls idx t k) (hty : ∀ (x : Int32) (y : Int64) (r : Option Nat), h_fv base (h_ty t k) x y r = .long y) (kk : ∀ c, o = some c → c < n → (SH c).1 = t → pw inj sk base N d none j (pc + 3) L st (n, sl, SH, FI, h_up FL c k x, FR) (A c)) : pw inj sk base N d none j pc L (.long x :: va_rf (h_rf base o) :: st) (n, sl, SH, FI, FL, FR) (P_sm o A) :=
  pw_put (FI' := fun _ => FI) (FL' := fun c => h_up FL c k x) (FR' := fun _ => FR) q hu (fun c => by rw [hty, h_up_eq]) (fun c i hi => ⟨rfl, h_up_ne hi, rfl⟩) (fun c c2 h => ⟨rfl, h_up_nc h, rfl⟩) kk
theorem pw_putr {idx t k : Nat} {o p : Option Nat} (q : x_at xMM j pc (.putfield idx) 3 y nL ret) (hu : x_uF y.cls idx t k) (hty : ∀ (x : Int32) (y : Int64) (r : Option Nat), h_fv base (h_ty t k) x y r = va_rf (h_rf base r)) (kk : ∀ c, o = some c → c < n → (SH c).1 = t → pw inj sk base N d none j (pc + 3) L st (n, sl, SH, FI, FL, h_up FR c k p) (A c)) : pw inj sk base N d none j pc L (va_rf (h_rf base p) :: va_rf (h_rf base o) :: st) (n, sl, SH, FI, FL, FR) (P_sm o A) :=
  pw_put (FI' := fun _ => FI) (FL' := fun _ => FL) (FR' := fun c => h_up FR c k p) q hu (fun c => by rw [hty, h_up_eq]) (fun c i hi => ⟨rfl, rfl, h_up_ne hi⟩) (fun c c2 h => ⟨rfl, rfl, h_up_nc h⟩) kk
theorem P_sm_lit {c : Nat} {x : ρ} {s : hS} (h : P_sm (some c) (fun _ => B) x s) : B x s := by obtain ⟨q, -, h⟩ := h; exact h
theorem pw_putri {idx t k c : Nat} {x : Int32} (q : x_at xMM j pc (.putfield idx) 3 y nL ret) (hu : x_uF y.cls idx t k) (hty : ∀ (x : Int32) (y : Int64) (r : Option Nat), h_fv base (h_ty t k) x y r = .int x) (kk : (SH c).1 = t → pw inj sk base N d none j (pc + 3) L st (n, sl, SH, h_up FI c k x, FL, FR) B) : pw inj sk base N d none j pc L (.int x :: .ref (base + c) :: st) (n, sl, SH, FI, FL, FR) B :=
  pw_cons (pw_puti (o := some c) (A := fun _ => B) q hu hty (fun c2 e _ ht => by cases e; exact kk ht)) (fun x s h => P_sm_lit h)
theorem pw_putrl {idx t k c : Nat} {x : Int64} (q : x_at xMM j pc (.putfield idx) 3 y nL ret) (hu : x_uF y.cls idx t k) (hty : ∀ (x : Int32) (y : Int64) (r : Option Nat), h_fv base (h_ty t k) x y r = .long y) (kk : (SH c).1 = t → pw inj sk base N d none j (pc + 3) L st (n, sl, SH, FI, h_up FL c k x, FR) B) : pw inj sk base N d none j pc L (.long x :: .ref (base + c) :: st) (n, sl, SH, FI, FL, FR) B :=
  pw_cons (pw_putl (o := some c) (A := fun _ => B) q hu hty (fun c2 e _ ht => by cases e; exact kk ht)) (fun x s h => P_sm_lit h)
theorem pw_putrr {idx t k c : Nat} {p : Option Nat} (q : x_at xMM j pc (.putfield idx) 3 y nL ret) (hu : x_uF y.cls idx t k) (hty : ∀ (x : Int32) (y : Int64) (r : Option Nat), h_fv base (h_ty t k) x y r = va_rf (h_rf base r)) (kk : (SH c).1 = t → pw inj sk base N d none j (pc + 3) L st (n, sl, SH, FI, FL, h_up FR c k p) B) : pw inj sk base N d none j pc L (va_rf (h_rf base p) :: .ref (base + c) :: st) (n, sl, SH, FI, FL, FR) B :=
  pw_cons (pw_putr (o := some c) (A := fun _ => B) q hu hty (fun c2 e _ ht => by cases e; exact kk ht)) (fun x s h => P_sm_lit h)
def p_in (i : Int32) (z : Nat) : Prop := 0 ≤ i.toInt ∧ i.toInt < (z : Int)
theorem p_in_of {i : Int32} {z : Nat} (h : vp_in i z) : p_in i z := by
  have := vp_in_iff.mp h
  exact ⟨by omega, by omega⟩
theorem pw_iald {i : Int32} {o : Option Nat} {ix : Nat} (q : x_at xMM j pc .iaload 1 y nL ret) (hik : i.toInt.toNat = ix) (kk : ∀ c, o = some c → c < n → p_in i (SH c).2 → pw inj sk base N d none j (pc + 1) L (.int (FI c ix) :: st) (n, sl, SH, FI, FL, FR) (A c)) : pw inj sk base N d none j pc L (.int i :: va_rf (h_rf base o) :: st) (n, sl, SH, FI, FL, FR) (P_sm o (fun c => P_and (p_in i (SH c).2) (A c))) :=
  pw_st q rfl (fun h b hR hb m hm r h' hg => by
    subst hik
    obtain ⟨-, x2, r2, hb⟩ := hb
    rcases hb with ⟨q2, k, n2, f, hk, hin, e, hq, rfl⟩ | ⟨q2, n2, f, hX, -⟩
    · have e1 : x2 = i := by cases (List.cons.inj e).1; rfl
      have e6 := (List.cons.inj e).2
      have ho := h_rf_some (List.cons.inj e6).1
      have e3 := (List.cons.inj e6).2
      subst e1; subst e3
      have hk0 := (x_kn_0 hk).1 rfl
      subst hk0
      obtain ⟨hlt, hc⟩ := h_at hR hq
      obtain ⟨h1, h2⟩ := h_cell_a hc
      have hf : f = FI q2 := by cases h2; rfl
      subst hf
      have hz : (SH q2).2 = n2 := by rw [h1]
      have hin2 : p_in x2 (SH q2).2 := by rw [hz]; exact p_in_of hin
      obtain ⟨x, s', e4, g1, hp0, g2⟩ := kk q2 ho hlt hin2 m (by omega) h r h' hR hg
      exact ⟨x, s', e4, g1, hp0, q2, ho, hin2, g2⟩
    · cases hX)
theorem pw_lald {i : Int32} {o : Option Nat} {ix : Nat} (q : x_at xMM j pc .laload 1 y nL ret) (hik : i.toInt.toNat = ix) (kk : ∀ c, o = some c → c < n → p_in i (SH c).2 → pw inj sk base N d none j (pc + 1) L (.long (FL c ix) :: st) (n, sl, SH, FI, FL, FR) (A c)) : pw inj sk base N d none j pc L (.int i :: va_rf (h_rf base o) :: st) (n, sl, SH, FI, FL, FR) (P_sm o (fun c => P_and (p_in i (SH c).2) (A c))) :=
  pw_st q rfl (fun h b hR hb m hm r h' hg => by
    subst hik
    obtain ⟨-, x2, r2, q2, k, n2, f, hk, hin, e, hq, rfl⟩ := hb
    have e1 : x2 = i := by cases (List.cons.inj e).1; rfl
    have e6 := (List.cons.inj e).2
    have ho := h_rf_some (List.cons.inj e6).1
    have e3 := (List.cons.inj e6).2
    subst e1; subst e3
    have hk0 := (x_kn_0 hk).2.1 rfl
    subst hk0
    obtain ⟨hlt, hc⟩ := h_at hR hq
    obtain ⟨h1, h2⟩ := h_cell_a hc
    have hf : f = FL q2 := by cases h2; rfl
    subst hf
    have hz : (SH q2).2 = n2 := by rw [h1]
    have hin2 : p_in x2 (SH q2).2 := by rw [hz]; exact p_in_of hin
    obtain ⟨x, s', e4, g1, hp0, g2⟩ := kk q2 ho hlt hin2 m (by omega) h r h' hR hg
    exact ⟨x, s', e4, g1, hp0, q2, ho, hin2, g2⟩)
end PH
