/-! Which field, which method: by one table a class. -/
def u_lF (own : String) (tb : List (Nat × (String × String))) : Bool := lw_tbl.all (fun w => match w with
  | .fieldLink o i c n _ => !(o == own) || (tb.lookup i == some (c, n))
  | .fieldLinkNest o i c n _ _ => !(o == own) || (tb.lookup i == some (c, n))
  | _ => true)
def u_lM (own : String) (tb : List (Nat × MethodName)) : Bool := lw_tbl.all (fun w => match w with
  | .methodLink o i z => !(o == own) || decide (tb.lookup i = some z)
  | .methodLinkNest o i z _ => !(o == own) || decide (tb.lookup i = some z)
  | _ => true)
def u_lC (own : String) (tb : List (Nat × Int64)) : Bool := lw_tbl.all (fun w => match w with
  | .constantLong o i z => !(o == own) || decide (tb.lookup i = some z)
  | _ => true)
theorem x_uF_tb {own : String} {tb : List (Nat × (String × String))} {idx t k : Nat} {c0 n0 : String} (h : u_lF own tb = true) (e : tb.lookup idx = some (c0, n0)) (h2 : u_tb c0 n0 t k = true) : x_uF own idx t k := by
  intro ci k2 C T N hf
  obtain ⟨hci, hk, hl⟩ := hf
  have hcn : (T k2).1 = c0 ∧ (T k2).2.1 = n0 := by
    rcases hl with hl | ⟨host, hl⟩
    · have h3 := List.all_eq_true.mp h _ (List.mem_filter.mp hl).1
      have h4 : tb.lookup idx = some ((T k2).1, (T k2).2.1) := by simpa using h3
      rw [e] at h4
      cases h4
      exact ⟨rfl, rfl⟩
    · have h3 := List.all_eq_true.mp h _ (List.mem_filter.mp hl).1
      have h4 : tb.lookup idx = some ((T k2).1, (T k2).2.1) := by simpa using h3
      rw [e] at h4
      cases h4
      exact ⟨rfl, rfl⟩
  have hlt : ci < 13 := (List.getElem?_eq_some_iff.mp hci).1
  have h3 := List.all_eq_true.mp h2 ci (List.mem_range.mpr hlt)
  rw [hci] at h3
  have h4 := List.all_eq_true.mp h3 k2 (List.mem_range.mpr hk)
  simpa [hcn.1, hcn.2] using h4
theorem x_nS_tb {own : String} {tb : List (Nat × (String × String))} {idx : Nat} {c0 n0 : String} (h : u_lF own tb = true) (e : tb.lookup idx = some (c0, n0)) (h2 : c0 ≠ "java/lang/String") : x_nS own idx := by
  intro n d hl
  have h3 := List.all_eq_true.mp h _ (List.mem_filter.mp hl).1
  have h4 : tb.lookup idx = some ("java/lang/String", n) := by simpa using h3
  rw [e] at h4
  cases h4
  exact h2 rfl
theorem x_uM_tb {own : String} {tb : List (Nat × MethodName)} {idx : Nat} {y : MethodName} (h : u_lM own tb = true) (e : tb.lookup idx = some y) : x_uM own idx y := by
  intro y2 hl
  rcases hl with hl | ⟨host, hl⟩
  · have h3 := List.all_eq_true.mp h _ (List.mem_filter.mp hl).1
    have h4 : tb.lookup idx = some y2 := by simpa using h3
    rw [e] at h4
    exact (Option.some.inj h4).symm
  · have h3 := List.all_eq_true.mp h _ (List.mem_filter.mp hl).1
    have h4 : tb.lookup idx = some y2 := by simpa using h3
    rw [e] at h4
    exact (Option.some.inj h4).symm
theorem x_uC_tb {own : String} {tb : List (Nat × Int64)} {idx : Nat} {v : Int64} (h : u_lC own tb = true) (e : tb.lookup idx = some v) : ∀ z, Cond.constantLong own idx z ∈ x_Ts → z = v := by
  intro z hl
  have h3 := List.all_eq_true.mp h _ (List.mem_filter.mp hl).1
  have h4 : tb.lookup idx = some z := by simpa using h3
  rw [e] at h4
  exact (Option.some.inj h4).symm
def u_nd : List (MethodName × ByteArray × Nat × Option FieldType) → Bool
  | [] => true
  | q :: l => l.all (fun z => !(z.1.name == q.1.name && (z.1.desc == q.1.desc && z.1.cls == q.1.cls))) && u_nd l
theorem u_nd_at : ∀ {l : List (MethodName × ByteArray × Nat × Option FieldType)} {i j : Nat} {a b : MethodName × ByteArray × Nat × Option FieldType}, u_nd l = true → l[i]? = some a → l[j]? = some b → a.1 = b.1 → i = j
  | [], i, j, a, b, _, h, _, _ => by simp at h
  | q :: l, i, j, a, b, h, hi, hj, e => by
    rw [u_nd, Bool.and_eq_true] at h
    obtain ⟨h1, h2⟩ := h
    match i, j with
    | 0, 0 => rfl
    | 0, j + 1 =>
      exfalso
      have hq : q = a := Option.some.inj hi
      have hm : b ∈ l := List.mem_of_getElem? (show l[j]? = some b from hj)
      have h3 := List.all_eq_true.mp h1 b hm
      rw [hq, e] at h3
      simp at h3
    | i + 1, 0 =>
      exfalso
      have hq : q = b := Option.some.inj hj
      have hm : a ∈ l := List.mem_of_getElem? (show l[i]? = some a from hi)
      have h3 := List.all_eq_true.mp h1 a hm
      rw [hq, e] at h3
      simp at h3
    | i + 1, j + 1 => rw [u_nd_at h2 (show l[i]? = some a from hi) (show l[j]? = some b from hj) e]
theorem x_ml_nd : u_nd x_ml = true := by decide +kernel
theorem x_uJ_nd {y : MethodName} {j : Nat} {cc : ByteArray} {nL : Nat} {ret : Option FieldType} (h : xMM j = some (y, cc, nL, ret)) : x_uJ y j := fun j2 _ _ _ h2 => u_nd_at x_ml_nd h2 h rfl
