/-! THE CONSTRUCTORS: closed functions; what was written so far, as lists. -/
def hsF : Nat → Nat × Nat := fun q => hs_L.getD q (0, 0)
def lk {α : Type} (W : List (Nat × Nat × α)) (c k : Nat) : Option α := match W with
  | [] => none
  | e :: W => if e.1 = c ∧ e.2.1 = k then some e.2.2 else lk W c k
def fI (W : List (Nat × Nat × Int32)) : Nat → Nat → Int32 := fun c k => (lk W c k).getD 0
def fZ : Nat → Nat → Int64 := fun _ _ => 0
def fB (c k : Nat) : Option Nat := if c = 26 ∧ k < 16 then some (27 + k) else if c = 43 ∧ k < 4 then some (44 + k) else none
def fR (V : List (Nat × Nat × Option Nat)) : Nat → Nat → Option Nat := fun c k => (lk V c k).getD (fB c k)
theorem lk_no {α : Type} {W : List (Nat × Nat × α)} {c k : Nat} (h : W.all (fun e => e.1 != c) = true) : lk W c k = none := by
  induction W with
  | nil => rfl
  | cons e W ih =>
    rw [List.all_cons, Bool.and_eq_true] at h
    have h1 : e.1 ≠ c := by simpa using h.1
    unfold lk
    rw [if_neg (fun q => h1 q.1)]
    exact ih h.2
theorem fI_up {W : List (Nat × Nat × Int32)} {c k : Nat} {x : Int32} : h_up (fI W) c k x = fI ((c, k, x) :: W) := by
  funext a b
  by_cases h1 : a = c
  · subst h1
    by_cases h2 : b = k
    · subst h2; rw [h_up_eq]; simp [fI, lk]
    · rw [h_up_ne h2]
      show fI W a b = (if a = a ∧ k = b then some x else lk W a b).getD 0
      rw [if_neg (fun q => h2 q.2.symm)]; rfl
  · rw [h_up_nc h1]
    show fI W a b = (if c = a ∧ k = b then some x else lk W a b).getD 0
    rw [if_neg (fun q => h1 q.1.symm)]; rfl
theorem fR_up {V : List (Nat × Nat × Option Nat)} {c k : Nat} {x : Option Nat} : h_up (fR V) c k x = fR ((c, k, x) :: V) := by
  funext a b
  by_cases h1 : a = c
  · subst h1
    by_cases h2 : b = k
    · subst h2; rw [h_up_eq]; simp [fR, lk]
    · rw [h_up_ne h2]
      show fR V a b = (if a = a ∧ k = b then some x else lk V a b).getD (fB a b)
      rw [if_neg (fun q => h2 q.2.symm)]; rfl
  · rw [h_up_nc h1]
    show fR V a b = (if c = a ∧ k = b then some x else lk V a b).getD (fB a b)
    rw [if_neg (fun q => h1 q.1.symm)]; rfl
theorem fI_new {W : List (Nat × Nat × Int32)} {n : Nat} (h : W.all (fun e => e.1 != n) = true) : va_up (fI W) n (fun _ => 0) = fI W := by
  funext a
  by_cases e : a = n
  · subst e; funext k; simp [va_up, fI, lk_no h]
  · simp [va_up, e]
theorem fZ_new {n : Nat} : va_up fZ n (fun _ => 0) = fZ := by
  funext a
  by_cases e : a = n
  · subst e; simp [va_up, fZ]; rfl
  · simp [va_up, e]
theorem fR_new {V : List (Nat × Nat × Option Nat)} {n : Nat} (h : V.all (fun e => e.1 != n) = true) (h26 : n ≠ 26) (h43 : n ≠ 43) : va_up (fR V) n (fun _ => none) = fR V := by
  funext a
  by_cases e : a = n
  · subst e; funext k; simp [va_up, fR, lk_no h, fB, h26, h43]
  · simp [va_up, e]
theorem hs_new {n t z : Nat} (h : hsF n = (t, z)) : va_up hsF n (t, z) = hsF := by
  funext a
  by_cases e : a = n
  · subst e; simp [va_up, h]
  · simp [va_up, e]
section CT
variable {base d : Nat} {X : Option (Nat × Nat × (Nat → Int32))} {j : Nat} {y : MethodName} {nL : Nat} {ret : Option FieldType} {pc : Nat} {L : xL} {st : List Value} {Φ : Option Value → hS → Prop} {n sl n2 sl2 : Nat} {W : List (Nat × Nat × Int32)} {V : List (Nat × Nat × Option Nat)}
theorem cw_new {sk : xK} {idx t N : Nat} {C : String} {T : u_T} (q : x_at xMM j pc (.new idx) 3 y nL ret) (ht : vwCl[t]? = some (C, T, N)) (hl : Cond.classLink y.cls idx C ∈ x_Ts) (hi : Cond.initialized C ∈ x_Ts) (hs : hsF n = (t, 0)) (hn : n + 1 = n2) (hsl : sl + N = sl2) (w1 : W.all (fun e => e.1 != n) = true) (w2 : V.all (fun e => e.1 != n) = true) (h26 : n ≠ 26) (h43 : n ≠ 43) (kk : hw sk base d X j (pc + 3) L (.ref (base + n) :: st) (n2, sl2, hsF, fI W, fZ, fR V) Φ) : hw sk base d X j pc L st (n, sl, hsF, fI W, fZ, fR V) Φ := by
  refine hw_new q ht hl hi ?_
  rw [hs_new hs, fI_new w1, fZ_new, fR_new w2 h26 h43, hn, hsl]
  exact kk
theorem cw_newa {sk : xK} {aty : ArrayType} {k z : Nat} {m : Int32} (q : x_at xMM j pc (.newarray aty) 2 y nL ret) (hk : x_kn[k]? = some (Jvm.Op.newarray.typeOf aty)) (hk2 : k < 3) (hl : Cond.arrayClass (Jvm.Op.newarray.typeOf aty) ∈ x_Ts) (hm : ¬ m < 0) (hz : m.toNatClampNeg = z) (hb : z * 8 ≤ 536870912) (hs : hsF n = (100 + k, z)) (hn : n + 1 = n2) (hsl : sl + z = sl2) (w1 : W.all (fun e => e.1 != n) = true) (w2 : V.all (fun e => e.1 != n) = true) (h26 : n ≠ 26) (h43 : n ≠ 43) (kk : hw sk base d X j (pc + 2) L (.ref (base + n) :: st) (n2, sl2, hsF, fI W, fZ, fR V) Φ) : hw sk base d X j pc L (.int m :: st) (n, sl, hsF, fI W, fZ, fR V) Φ := by
  refine hw_newa q hk hk2 hl hm hz hb ?_
  rw [hs_new hs, fI_new w1, fZ_new, fR_new w2 h26 h43, hn, hsl]
  exact kk
theorem cw_newq {sk : xK} {idx k z : Nat} {C : String} {m : Int32} (q : x_at xMM j pc (.anewarray idx) 3 y nL ret) (hk : x_kn[k]? = some (.object C)) (hk3 : 3 ≤ k) (hl : Cond.classLink y.cls idx C ∈ x_Ts) (ha : Cond.arrayOver (.object C) ∈ x_AO) (hm : ¬ m < 0) (hz : m.toNatClampNeg = z) (hb : z * 4 ≤ 536870912) (hs : hsF n = (100 + k, z)) (hn : n + 1 = n2) (hsl : sl + z = sl2) (w1 : W.all (fun e => e.1 != n) = true) (w2 : V.all (fun e => e.1 != n) = true) (h26 : n ≠ 26) (h43 : n ≠ 43) (kk : hw sk base d X j (pc + 3) L (.ref (base + n) :: st) (n2, sl2, hsF, fI W, fZ, fR V) Φ) : hw sk base d X j pc L (.int m :: st) (n, sl, hsF, fI W, fZ, fR V) Φ := by
  refine hw_newq q hk hk3 hl ha hm hz hb ?_
  rw [hs_new hs, fI_new w1, fZ_new, fR_new w2 h26 h43, hn, hsl]
  exact kk
theorem lk_hi {α : Type} {W : List (Nat × Nat × α)} {m c k : Nat} (h : W.all (fun e => decide (e.1 < m)) = true) (hc : m ≤ c) : lk W c k = none := by
  refine lk_no (List.all_eq_true.mpr fun e he => ?_)
  have := of_decide_eq_true (List.all_eq_true.mp h e he)
  have : e.1 ≠ c := by omega
  simpa using this
theorem cw_mna {sk : xK} {idx : Nat} {m w : Int32} {N K : Nat} (q : x_at xMM j pc (.multianewarray idx 2) 4 y nL ret) (h3 : Cond.classLink y.cls idx ("[" ++ (FieldType.array .int).toString) ∈ x_Ts) (h4 : Cond.arrayOver (.array .int) ∈ x_AO) (h5 : Cond.arrayClass .int ∈ x_Ts) (hm : ¬ m < 0) (hw0 : ¬ w < 0) (hN : m.toNatClampNeg = N) (hK : w.toNatClampNeg = K) (b1 : N * 4 ≤ 536870912) (b2 : K * 4 ≤ 536870912) (hs : hsF n = (106, N)) (hr : (List.range N).all (fun i => hsF (n + 1 + i) == (100, K)) = true) (hn : n + 1 + N = n2) (hsl : sl + N + N * K = sl2) (w1 : W.all (fun e => decide (e.1 < n)) = true) (w2 : V.all (fun e => decide (e.1 < n)) = true) (hb : ∀ k, fB n k = if k < N then some (n + 1 + k) else none) (hb2 : (List.range N).all (fun i => (n + 1 + i != 26) && (n + 1 + i != 43)) = true) (kk : hw sk base d X j (pc + 4) L (.ref (base + n) :: st) (n2, sl2, hsF, fI W, fZ, fR V) Φ) : hw sk base d X j pc L (.int w :: .int m :: st) (n, sl, hsF, fI W, fZ, fR V) Φ := by
  refine hw_mna q h3 h4 h5 hm hw0 hN hK b1 b2 ?_
  have e1 : (fun q => if n + 1 ≤ q ∧ q < n + 1 + N then (100, K) else va_up hsF n (106, N) q) = hsF := by
    funext a
    by_cases h : n + 1 ≤ a ∧ a < n + 1 + N
    · rw [if_pos h]
      have h9 := eq_of_beq (List.all_eq_true.mp hr (a - (n + 1)) (List.mem_range.mpr (by omega)))
      rw [show n + 1 + (a - (n + 1)) = a by omega] at h9
      exact h9.symm
    · rw [if_neg h, hs_new hs]
  have e2 : (fun q => if n + 1 ≤ q ∧ q < n + 1 + N then (fun _ => 0) else va_up (fI W) n (fun _ => 0) q) = fI W := by
    funext a k
    by_cases h : n + 1 ≤ a ∧ a < n + 1 + N
    · rw [if_pos h]; simp [fI, lk_hi w1 (show n ≤ a by omega)]
    · rw [if_neg h]
      by_cases h2 : a = n
      · subst h2; simp [va_up, fI, lk_hi w1 (Nat.le_refl a)]
      · simp [va_up, h2]
  have e3 : (fun q => if n + 1 ≤ q ∧ q < n + 1 + N then (fun _ => 0) else va_up fZ n (fun _ => 0) q) = fZ := by
    funext a
    by_cases h : n + 1 ≤ a ∧ a < n + 1 + N
    · rw [if_pos h]; rfl
    · rw [if_neg h, fZ_new]
  have e4 : (fun q => if n + 1 ≤ q ∧ q < n + 1 + N then (fun _ => none) else va_up (fR V) n (fun i => if i < N then some (n + 1 + i) else none) q) = fR V := by
    funext a k
    by_cases h : n + 1 ≤ a ∧ a < n + 1 + N
    · rw [if_pos h]
      have h9 := List.all_eq_true.mp hb2 (a - (n + 1)) (List.mem_range.mpr (by omega))
      rw [show n + 1 + (a - (n + 1)) = a by omega] at h9
      have h8 : a ≠ 26 ∧ a ≠ 43 := by simpa using h9
      simp [fR, lk_hi w2 (show n ≤ a by omega), fB, h8.1, h8.2]
    · rw [if_neg h]
      by_cases h2 : a = n
      · subst h2; simp only [va_up, fR, lk_hi w2 (Nat.le_refl a), if_pos]; exact (hb k).symm
      · simp [va_up, h2]
  rw [e1, e2, e3, e4, hn, hsl]
  exact kk
end CT
