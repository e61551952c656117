/-! References of the class: what they point at. -/
def own (q : Nat) : Prop := q < 121 ∨ 176 ≤ q
def g_ty (t k : Nat) : Nat :=
  if t = 0 then 100 else
  if t = 1 then (if k = 0 then 101 else if k = 1 then 100 else 106) else
  if t = 2 then (if k = 0 then 1 else if k = 1 then 9 else if k = 2 then 8 else 5) else
  if t = 3 then 3 else
  if t = 4 then (if k = 0 then 7 else if k = 1 then 100 else 104) else
  if t = 5 then 100 else
  if t = 6 then (if k = 2 then 3 else if k = 3 then 100 else 6) else
  if t = 7 then (if k = 1 then 101 else 100) else
  if t = 8 then 103 else
  if t = 9 then (if k = 0 then 1 else if k = 1 then 9 else if k = 2 then 101 else if k = 3 then 5 else 8) else
  if t = 10 then (if k = 2 ∨ k = 3 then 101 else if k = 4 then 105 else 100) else
  if t = 11 then (if k = 0 then 1 else if k = 1 then 9 else if k = 2 then 2 else if k = 3 then 4 else if k = 4 then 0 else if k = 5 then 8 else if k = 11 then 104 else 100) else
  if t = 103 then 5 else if t = 104 then 10 else if t = 105 then 6 else 100
def g_dt (t : Nat) : Prop := t = 3 ∨ t = 6 ∨ t = 10 ∨ t = 100 ∨ t = 101 ∨ t = 104 ∨ t = 105
/-- what is never null -/
def g_nn (c k : Nat) : Prop := (c = 0 ∧ k = 11) ∨ (c = 110 ∧ k = 2) ∨ (c = 111 ∧ k = 5) ∨ (c = 26 ∧ k < 16) ∨ (c = 43 ∧ k < 4)
def g_R (n : Nat) (SH : Nat → Nat × Nat) (FR : Nat → Nat → Option Nat) : Prop := (∀ c, 176 ≤ c → c < n → g_dt (SH c).1) ∧ (∀ c k r, c < n → own c → FR c k = some r → r < n ∧ own r ∧ (SH r).1 = g_ty (SH c).1 k ∧ (176 ≤ c → 176 ≤ r)) ∧ (∀ c k, g_nn c k → FR c k ≠ none) ∧ FR 49 1 = none
def hf_ck (t k : Nat) : Bool := hf_L.all (fun e => decide (e.1 < 176) && !((hs_L.getD e.1 (0, 0)).1 == t && e.2.1 == k))
def hf_ca (t : Nat) : Bool := hf_L.all (fun e => decide (e.1 < 176) && !((hs_L.getD e.1 (0, 0)).1 == t))
/-- the shapes, those of cells that came later marked -/
def shd (SH : Nat → Nat × Nat) : Nat → Nat × Nat := fun c => if 176 ≤ c then ((SH c).1 + 1000, (SH c).2) else if 121 ≤ c then ((SH c).1 + 2000, (SH c).2) else SH c
theorem shd_f {SH : Nat → Nat × Nat} {c t z : Nat} (h : c < 121) (hs : SH c = (t, z)) : shd SH c = (t, z) := by unfold shd; rw [if_neg (by omega), if_neg (by omega)]; exact hs
theorem shd_d {SH : Nat → Nat × Nat} {c t z : Nat} (h : 176 ≤ c) (hs : SH c = (t, z)) : shd SH c = (t + 1000, z) := by unfold shd; rw [if_pos h, hs]
section CR
variable {n : Nat} {SH : Nat → Nat × Nat} {FR FR2 : Nat → Nat → Option Nat} {c k t z r : Nat} {o : Option Nat}
theorem gR_get (h : g_R n SH FR) (hc : c < n) (ho : own c) (hs : SH c = (t, z)) (e : FR c k = some r) : r < n ∧ own r ∧ SH r = (g_ty t k, (SH r).2) := by
  obtain ⟨h1, h2, h3, -⟩ := h.2.1 c k r hc ho e
  rw [hs] at h3
  exact ⟨h1, h2, Prod.ext h3 rfl⟩
theorem gR_nn (h : g_R n SH FR) (hn : g_nn c k) (e : FR c k = o) : ∃ r, o = some r := by
  subst e
  exact Option.ne_none_iff_exists'.mp (h.2.2.1 c k hn)
theorem gR_dyn (h : g_R n SH FR) (hc : c < n) (hd : 176 ≤ c) (e : FR c k = some r) : 176 ≤ r := (h.2.1 c k r hc (Or.inr hd) e).2.2.2 hd
theorem gR_up (h : g_R n SH FR) (u : FR2 = h_up FR c k o) (hs : SH c = (t, z)) (ho : ∀ r, o = some r → r < n ∧ own r ∧ (SH r).1 = g_ty t k) (hd : 176 ≤ c → ∀ r, o = some r → 176 ≤ r) (hn : g_nn c k → o ≠ none) (hz : ¬ (c = 49 ∧ k = 1)) : g_R n SH FR2 := by
  refine ⟨h.1, ?_, fun c2 k2 h2 => by
    by_cases e : c2 = c
    · by_cases e2 : k2 = k
      · subst e; subst e2; rw [up_eq u]; exact hn h2
      · rw [up_k u e2 rfl]; exact h.2.2.1 c2 k2 h2
    · rw [up_c u e rfl]; exact h.2.2.1 c2 k2 h2, by
    by_cases e : c = 49
    · by_cases e2 : k = 1
      · exact absurd ⟨e, e2⟩ hz
      · exact up_k u (fun q => e2 q.symm) h.2.2.2
    · exact up_c u (fun q => e q.symm) h.2.2.2⟩
  intro c2 k2 r2 h1 h2 h3
  by_cases e : c2 = c
  · by_cases e2 : k2 = k
    · subst e; subst e2
      rw [up_eq u] at h3
      obtain ⟨a, b, d⟩ := ho r2 h3
      rw [hs]
      exact ⟨a, b, d, fun h9 => hd h9 r2 h3⟩
    · rw [up_k u e2 rfl] at h3
      exact h.2.1 c2 k2 r2 h1 h2 h3
  · rw [up_c u e rfl] at h3
    exact h.2.1 c2 k2 r2 h1 h2 h3
theorem hs_len : hs_L.length = 176 := by decide +kernel
theorem hs_mem {c : Nat} (h : c < 176) : hs_L.getD c (0, 0) ∈ hs_L := by
  have hl : c < hs_L.length := by rw [hs_len]; exact h
  have e : hs_L.getD c (0, 0) = hs_L[c] := by simp [List.getD_eq_getElem?_getD, List.getElem?_eq_getElem hl]
  rw [e]
  exact List.getElem_mem hl
theorem dyn_tag (hS : h_S n SH) (hs : SH c = (t, z)) (m : hs_L.all (fun e => e.1 != t) = true) : 176 ≤ c := by
  rcases Nat.lt_or_ge c 176 with h | h
  · exfalso
    have h1 := List.all_eq_true.mp m _ (hs_mem h)
    rw [← hS.2 c h, hs] at h1
    simp at h1
  · exact h
theorem fix_tag (hR : g_R n SH FR) (hc : c < n) (hs : SH c = (t, z)) (m : ¬ g_dt t) : c < 176 := by
  rcases Nat.lt_or_ge c 176 with h | h
  · exact h
  · have := hR.1 c h hc
    rw [hs] at this
    exact absurd this m
theorem fix_t2 (hS : h_S n SH) (hR : g_R n SH FR) (hc : c < n) (hs : SH c = (t, z)) (m : ¬ g_dt t) (m2 : (List.range 55).all (fun i => (hs_L.getD (121 + i) (0, 0)).1 != t) = true) : c < 121 := by
  have h := fix_tag hR hc hs m
  rcases Nat.lt_or_ge c 121 with h1 | h1
  · exact h1
  · exfalso
    have h2 := List.all_eq_true.mp m2 (c - 121) (List.mem_range.mpr (by omega))
    rw [show 121 + (c - 121) = c by omega, ← hS.2 c h, hs] at h2
    simp at h2
theorem ne_tag {a b t2 z2 : Nat} (h1 : SH a = (t, z)) (h2 : SH b = (t2, z2)) (h : t ≠ t2) : a ≠ b := by
  intro e; subst e; rw [h1] at h2; exact h (congrArg Prod.fst h2)
def g_nk (t k : Nat) : Bool := (List.range 176).all (fun c => (hs_L.getD c (0, 0)).1 != t || decide (g_r c k = g_F))
theorem gU_g {F F2 : Nat → Nat → Int32} {x : Int32} (hI : g_I F) (hS : h_S n SH) (u : F2 = h_up F c k x) (hs : SH c = (t, z)) (m : g_nk t k = true) : g_I F2 := by
  refine gU_F hI u ?_
  rcases Nat.lt_or_ge c 176 with h | h
  · have h1 := List.all_eq_true.mp m c (List.mem_range.mpr h)
    rw [← hS.2 c h, hs] at h1
    simpa using h1
  · exact g_hi h
def g_kr (t k : Nat) (lo hi : Int) : Bool := (List.range 176).all (fun c => (hs_L.getD c (0, 0)).1 != t || decide (g_r c k = (lo, hi)))
theorem g_kr_e {lo hi : Int} (hS : h_S n SH) (hR : g_R n SH FR) (hc : c < n) (hs : SH c = (t, z)) (hg : ¬ g_dt t) (m : g_kr t k lo hi = true) : g_r c k = (lo, hi) := by
  have h := fix_tag hR hc hs hg
  have h1 := List.all_eq_true.mp m c (List.mem_range.mpr h)
  rw [← hS.2 c h, hs] at h1
  simpa using h1
theorem gI_s {F : Nat → Nat → Int32} {lo hi : Int} (hI : g_I F) (hS : h_S n SH) (hR : g_R n SH FR) (hc : c < n) (hs : SH c = (t, z)) (hg : ¬ g_dt t) (m : g_kr t k lo hi = true) : lo ≤ (F c k).toInt ∧ (F c k).toInt ≤ hi := by
  have h := hI c k
  rw [g_kr_e hS hR hc hs hg m] at h
  exact h
theorem gU_s {F F2 : Nat → Nat → Int32} {x : Int32} {lo hi : Int} (hI : g_I F) (hS : h_S n SH) (hR : g_R n SH FR) (hc : c < n) (hs : SH c = (t, z)) (hg : ¬ g_dt t) (m : g_kr t k lo hi = true) (u : F2 = h_up F c k x) (h1 : lo ≤ x.toInt) (h2 : x.toInt ≤ hi) : g_I F2 := g_up hI u (by rw [g_kr_e hS hR hc hs hg m]; exact ⟨h1, h2⟩)
theorem g_th (hS : h_S n SH) (hF : h_FR FR) (hR : g_R n SH FR) (hc : c < n) (hs : SH c = (103, z)) {i : Nat} (hi : i < 16) : ∃ r, FR c i = some r := by
  have h := fix_tag hR hc hs (by unfold g_dt; omega)
  have h1 : (hs_L.getD c (0, 0)).1 = 103 := by rw [← hS.2 c h, hs]
  have h2 : ∀ c, c < 176 → (hs_L.getD c (0, 0)).1 = 103 → ∀ i, i < 16 → hf_L.any (fun e => e.1 == c && e.2.1 == i) = true := by decide +kernel
  obtain ⟨e, he, h3⟩ := List.any_eq_true.mp (h2 c h h1 i hi)
  rw [Bool.and_eq_true] at h3
  have h4 := hF e he
  rw [eq_of_beq h3.1, eq_of_beq h3.2] at h4
  exact ⟨_, h4⟩
def g_nk2 (t k ty zz : Nat) : Bool := (List.range 176).all (fun c => (hs_L.getD c (0, 0)).1 != t || hf_L.any (fun e => e.1 == c && (e.2.1 == k && (decide (e.2.2 < 121) && hs_L.getD e.2.2 (0, 0) == (ty, zz)))))
theorem g_nz {ty zz : Nat} (hS : h_S n SH) (hF : h_FR FR) (hR : g_R n SH FR) (hc : c < n) (hs : SH c = (t, z)) (hg : ¬ g_dt t) (m : g_nk2 t k ty zz = true) : ∃ r, FR c k = some r ∧ r < n ∧ own r ∧ SH r = (ty, zz) ∧ r < 121 := by
  have h := fix_tag hR hc hs hg
  have h1 := List.all_eq_true.mp m c (List.mem_range.mpr h)
  rw [← hS.2 c h, hs] at h1
  rw [Bool.or_eq_true] at h1
  rcases h1 with h1 | h1
  · simp at h1
  · obtain ⟨e, he, h3⟩ := List.any_eq_true.mp h1
    rw [Bool.and_eq_true, Bool.and_eq_true, Bool.and_eq_true] at h3
    have h4 := hF e he
    rw [eq_of_beq h3.1, eq_of_beq h3.2.1] at h4
    have h5 : e.2.2 < 121 := of_decide_eq_true h3.2.2.1
    refine ⟨_, h4, Nat.lt_of_lt_of_le (by omega) hS.1, Or.inl h5, ?_, by omega⟩
    rw [hS.2 _ (by omega)]
    exact eq_of_beq h3.2.2.2
def g_nk3 (t k l : Nat) : Bool := (List.range 176).all (fun c => (hs_L.getD c (0, 0)).1 != t || hf_L.contains (c, k, l))
theorem g_nl {l : Nat} (hS : h_S n SH) (hF : h_FR FR) (hR : g_R n SH FR) (hc : c < n) (hs : SH c = (t, z)) (hg : ¬ g_dt t) (m : g_nk3 t k l = true) : FR c k = some l := by
  have h := fix_tag hR hc hs hg
  have h1 := List.all_eq_true.mp m c (List.mem_range.mpr h)
  rw [← hS.2 c h, hs] at h1
  rw [Bool.or_eq_true] at h1
  rcases h1 with h1 | h1
  · simp at h1
  · exact hF (c, k, l) (by simpa using h1)
theorem hF_up (hS : h_S n SH) (h : h_FR FR) (u : FR2 = h_up FR c k o) (hs : SH c = (t, z)) (m : hf_ck t k = true) : h_FR FR2 := by
  intro e he
  have h1 := List.all_eq_true.mp m e he
  rw [Bool.and_eq_true] at h1
  have h9 : e.1 < 176 := of_decide_eq_true h1.1
  by_cases e1 : e.1 = c
  · by_cases e2 : e.2.1 = k
    · exfalso
      have h2 : (hs_L.getD e.1 (0, 0)).1 = t := by rw [← hS.2 e.1 h9, e1, hs]
      have h3 := h1.2
      rw [h2, e2] at h3
      simp at h3
    · rw [up_k u e2 rfl]; exact h e he
  · rw [up_c u e1 rfl]; exact h e he
theorem hF_ua (hS : h_S n SH) (h : h_FR FR) (u : FR2 = h_up FR c k o) (hs : SH c = (t, z)) (m : hf_ca t = true) : h_FR FR2 := by
  intro e he
  have h1 := List.all_eq_true.mp m e he
  rw [Bool.and_eq_true] at h1
  have h9 : e.1 < 176 := of_decide_eq_true h1.1
  by_cases e1 : e.1 = c
  · exfalso
    have h2 : (hs_L.getD e.1 (0, 0)).1 = t := by rw [← hS.2 e.1 h9, e1, hs]
    have h3 := h1.2
    rw [h2] at h3
    simp at h3
  · rw [up_c u e1 rfl]; exact h e he
theorem gf_as {α : Type} {F F2 : Nat → Nat → α} {v : α} {L : List (Nat × Nat)} {A T : List Nat} {t2 : Nat} (hS : h_S n SH) (f : g_fr n (shd SH) L A T F F2) (hc : c < n) (hs : SH c = (t, z)) (hsd : shd SH c = (t2, z)) (m : (L.all (fun p => decide (p.1 < 176) && (hs_L.getD p.1 (0, 0)).1 != t) && (A.all (fun q => decide (q < 176) && (hs_L.getD q (0, 0)).1 != t) && !(T.contains t2))) = true) (p : F c k = v) : F2 c k = v := by
  rw [Bool.and_eq_true, Bool.and_eq_true] at m
  obtain ⟨m1, m2, m3⟩ := m
  have key : ∀ q, (decide (q < 176) && (hs_L.getD q (0, 0)).1 != t) = true → q ≠ c := by
    intro q hq e
    subst e
    rw [Bool.and_eq_true] at hq
    have h1 : q < 176 := of_decide_eq_true hq.1
    have h2 := hq.2
    rw [← hS.2 q h1, hs] at h2
    simp at h2
  refine (f c k hc (fun h => ?_) (fun h => ?_) (fun h => ?_)).trans p
  · exact key c (List.all_eq_true.mp m1 (c, k) h) rfl
  · exact key c (List.all_eq_true.mp m2 c h) rfl
  · rw [hsd] at h
    simp [h] at m3
theorem h_rf_n {base : Nat} (h : h_rf base o = none) : o = none := by cases o with | none => rfl | some q => cases h
theorem h_rf_s {base : Nat} (h : ¬ h_rf base o = none) : ∃ r, o = some r := by cases o with | none => exact absurd rfl h | some q => exact ⟨q, rfl⟩
theorem i_len {z : Nat} : (Int32.ofNat z).toInt ≤ (z : Int) := by
  rw [Int32.toInt_ofNat', show Int32.size = 4294967296 from rfl]
  have h1 := Int.bmod_le (x := (z : Int)) (m := 4294967296) (by decide)
  rcases Nat.lt_or_ge z 2147483648 with h | h
  · rw [Int.bmod_eq_of_le (by omega) (by omega)]; exact Int.le_refl _
  · omega
end CR
section CV
variable {base d : Nat} {X : Option (Nat × Nat × (Nat → Int32))} {j : Nat} {y : MethodName} {nL : Nat} {ret : Option FieldType} {pc : Nat} {L : xL} {st : List Value} {Φ : Option Value → hS → Prop} {n sl : Nat} {SH : Nat → Nat × Nat} {FI : Nat → Nat → Int32} {FL : Nat → Nat → Int64} {FR : Nat → Nat → Option Nat}
theorem hv_putr {sk : xK} {idx t k N c z : Nat} {C : String} {T : u_T} {r : Option Nat} (q : x_at xMM j pc (.putfield idx) 3 y nL ret) (hf : x_fl vwCl x_Ts x_AO y.cls idx t k C T N) (hc : c < n) (hs : SH c = (t, z)) (ht : t < 100) (hty : (∃ C2, h_ty t k = .object C2) ∨ ∃ t2, h_ty t k = .array t2) (hfin : (T k).2.2.2 = false ∨ ((T k).2.2.2 = true ∧ y.name = "<init>" ∧ (T k).1 = y.cls ∧ Cond.fieldLink y.cls idx (T k).1 (T k).2.1 (T k).2.2.1 ∈ x_Ts)) (kk : ∀ F2, F2 = h_up FR c k r → hw sk base d X j (pc + 3) L st (n, sl, SH, FI, FL, F2) Φ) : hw sk base d X j pc L (va_rf (h_rf base r) :: .ref (base + c) :: st) (n, sl, SH, FI, FL, FR) Φ := hw_putr q hf hc hs ht hty hfin (kk _ rfl)
end CV
