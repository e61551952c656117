/-! THE CELLS AS FUNCTIONS: n cells, their shapes (class, or 100 + kind of array; how many places), ints, longs and references by cell and place. -/
abbrev hS : Type := Nat × Nat × (Nat → Nat × Nat) × (Nat → Nat → Int32) × (Nat → Nat → Int64) × (Nat → Nat → Option Nat)
def h_nf (t : Nat) : Nat := match vwCl[t]? with
  | some q => q.2.2
  | none => 0
def h_ty (t : Nat) : Nat → FieldType := match t with
  | 0 => tyX0
  | 1 => tyX1
  | 2 => tyX2
  | 3 => tyX3
  | 4 => tyX4
  | 5 => tyX5
  | 6 => tyX6
  | 7 => tyX7
  | 8 => tyX8
  | 9 => tyX9
  | 10 => tyX10
  | 11 => tyX11
  | _ => tyX12
theorem h_ty_ok {t : Nat} {C : String} {T : u_T} {N k : Nat} (h : vwCl[t]? = some (C, T, N)) (hk : k < N) : parseFieldDescriptor (T k).2.2.1 = some (h_ty t k) := by
  match t, h with
  | 0, h => cases h; exact tyX0_ok k hk
  | 1, h => cases h; exact tyX1_ok k hk
  | 2, h => cases h; exact tyX2_ok k hk
  | 3, h => cases h; exact tyX3_ok k hk
  | 4, h => cases h; exact tyX4_ok k hk
  | 5, h => cases h; exact tyX5_ok k hk
  | 6, h => cases h; exact tyX6_ok k hk
  | 7, h => cases h; exact tyX7_ok k hk
  | 8, h => cases h; exact tyX8_ok k hk
  | 9, h => cases h; exact tyX9_ok k hk
  | 10, h => cases h; exact tyX10_ok k hk
  | 11, h => cases h; exact tyX11_ok k hk
  | 12, h => cases h; exact tyX12_ok k hk
  | t + 13, h => simp [vwCl] at h
theorem h_nf_of {t : Nat} {C : String} {T : u_T} {N : Nat} (h : vwCl[t]? = some (C, T, N)) : h_nf t = N := by
  unfold h_nf; rw [h]
def h_rf (base : Nat) (r : Option Nat) : Option Nat := r.map (fun q => base + q)
/-- a field's value, by its type -/
def h_fv (base : Nat) (ty : FieldType) (x : Int32) (y : Int64) (r : Option Nat) : Value := match ty with
  | .long => .long y
  | .object _ => va_rf (h_rf base r)
  | .array _ => va_rf (h_rf base r)
  | _ => .int x
/-- an array's contents, by its kind -/
def h_av (base : Nat) (k : Nat) (f : Nat → Int32) (g : Nat → Int64) (r : Nat → Option Nat) : (Nat → Int32) ⊕ (Nat → Int64) ⊕ (Nat → UInt32) ⊕ (Nat → UInt64) ⊕ (Nat → Option Nat) := match k with
  | 0 => .inl f
  | 1 => .inr (.inl g)
  | 2 => .inl f
  | _ => .inr (.inr (.inr (.inr (fun i => h_rf base (r i)))))
def h_fs (base t : Nat) (f : Nat → Int32) (g : Nat → Int64) (r : Nat → Option Nat) : List Value := (List.range (h_nf t)).map (fun k => h_fv base (h_ty t k) (f k) (g k) (r k))
def h_cell (base : Nat) (sh : Nat × Nat) (f : Nat → Int32) (g : Nat → Int64) (r : Nat → Option Nat) : xC :=
  if sh.1 < 100 then .inr (sh.1, h_fs base sh.1 f g r) else .inl (sh.1 - 100, sh.2, h_av base (sh.1 - 100) f g r)
def h_Rel (base : Nat) (s : hS) (h : List xC) : Prop := h.length = s.1 ∧ x_sl h = s.2.1 ∧ ∀ q, q < s.1 → h[q]? = some (h_cell base (s.2.2.1 q) (s.2.2.2.1 q) (s.2.2.2.2.1 q) (s.2.2.2.2.2 q))
theorem h_obj {base : Nat} {sh : Nat × Nat} {f : Nat → Int32} {g : Nat → Int64} {r : Nat → Option Nat} {t : Nat} (h : sh.1 = t) (ht : t < 100) : h_cell base sh f g r = .inr (t, h_fs base t f g r) := by
  subst h; unfold h_cell; rw [if_pos ht]
theorem h_arr {base : Nat} {sh : Nat × Nat} {f : Nat → Int32} {g : Nat → Int64} {r : Nat → Option Nat} {k z : Nat} (h : sh = (100 + k, z)) : h_cell base sh f g r = .inl (k, z, h_av base k f g r) := by
  subst h; unfold h_cell; rw [if_neg (by dsimp only; omega)]; dsimp only; rw [show 100 + k - 100 = k by omega]
theorem h_fs_at {base t k : Nat} {f : Nat → Int32} {g : Nat → Int64} {r : Nat → Option Nat} (hk : k < h_nf t) : (h_fs base t f g r)[k]? = some (h_fv base (h_ty t k) (f k) (g k) (r k)) := by
  unfold h_fs
  rw [List.getElem?_map, List.getElem?_range hk]; rfl
theorem h_fs_set {base t k : Nat} {f f' : Nat → Int32} {g g' : Nat → Int64} {r r' : Nat → Option Nat} {v : Value} (hk : k < h_nf t) (hv : h_fv base (h_ty t k) (f' k) (g' k) (r' k) = v) (ho : ∀ i, i ≠ k → h_fv base (h_ty t i) (f' i) (g' i) (r' i) = h_fv base (h_ty t i) (f i) (g i) (r i)) : (h_fs base t f g r).set k v = h_fs base t f' g' r' := by
  apply List.ext_getElem?
  intro i
  rw [List.getElem?_set]
  by_cases hik : k = i
  · subst hik
    rw [if_pos rfl, h_fs_at hk, hv]
    simp [h_fs, hk]
  · rw [if_neg hik]
    unfold h_fs
    rw [List.getElem?_map, List.getElem?_map]
    by_cases hi : i < h_nf t
    · rw [List.getElem?_range hi]
      exact congrArg some (ho i (fun e => hik e.symm)).symm
    · rw [List.getElem?_eq_none (by simpa using Nat.le_of_not_lt hi)]
      rfl
/-- one cell set, as the functions say it -/
theorem h_set {base n sl : Nat} {SH : Nat → Nat × Nat} {FI FI' : Nat → Nat → Int32} {FL FL' : Nat → Nat → Int64} {FR FR' : Nat → Nat → Option Nat} {h : List xC} {q : Nat} {c : xC} (hR : h_Rel base (n, sl, SH, FI, FL, FR) h) (hq : q < n) (hc : h_cell base (SH q) (FI' q) (FL' q) (FR' q) = c) (hn : x_n c = x_n (h_cell base (SH q) (FI q) (FL q) (FR q))) (ho : ∀ i, i ≠ q → FI' i = FI i ∧ FL' i = FL i ∧ FR' i = FR i) : h_Rel base (n, sl, SH, FI', FL', FR') (h.set q c) := by
  obtain ⟨h1, h2, h3⟩ := hR
  refine ⟨by rw [List.length_set]; exact h1, (x_sl_set (h3 q hq) hn).trans h2, fun i hi => ?_⟩
  dsimp only at h1 h3 hi ⊢
  rw [List.getElem?_set]
  by_cases hiq : q = i
  · subst hiq
    rw [if_pos rfl, if_pos (by omega), hc]
  · obtain ⟨e1, e2, e3⟩ := ho i (fun e => hiq e.symm)
    rw [if_neg hiq, e1, e2, e3]
    exact h3 i hi
theorem h_push {base n sl : Nat} {SH : Nat → Nat × Nat} {FI : Nat → Nat → Int32} {FL : Nat → Nat → Int64} {FR : Nat → Nat → Option Nat} {h : List xC} {sh : Nat × Nat} {f : Nat → Int32} {g : Nat → Int64} {r : Nat → Option Nat} {c : xC} {z : Nat} (hR : h_Rel base (n, sl, SH, FI, FL, FR) h) (hc : h_cell base sh f g r = c) (hz : x_n c = z) : h_Rel base (n + 1, sl + z, va_up SH n sh, va_up FI n f, va_up FL n g, va_up FR n r) (h ++ [c]) := by
  obtain ⟨h1, h2, h3⟩ := hR
  dsimp only at h1 h2 h3
  refine ⟨by simp [h1], by rw [x_sl_app, h2, hz], fun i hi => ?_⟩
  dsimp only at hi ⊢
  by_cases hin : i < n
  · rw [List.getElem?_append_left (by omega)]
    have e : i ≠ n := by omega
    simp only [va_up, if_neg e]
    exact h3 i hin
  · have e : i = n := by omega
    subst e
    rw [List.getElem?_append_right (by omega), h1]
    simp [va_up, hc]
