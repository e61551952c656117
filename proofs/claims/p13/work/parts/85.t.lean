/-! Trees of Nodes and rows of Places, by weights: gp the parent, gw the weight, gs where a link of a chain begins. -/
def g_w (gw : Nat → Nat) (o : Option Nat) : Nat := match o with
  | none => 0
  | some r => gw r
def g_T (n : Nat) (SH : Nat → Nat × Nat) (FI : Nat → Nat → Int32) (FR : Nat → Nat → Option Nat) (gp gw gs : Nat → Nat) : Prop :=
  (∀ c, c < n → (SH c).1 = 3 → 20 ≤ gw c ∧
    ((FI c 0).toInt ≠ 25 → g_w gw (FR c 3) + g_w gw (FR c 4) + g_w gw (FR c 5) + 20 ≤ gw c ∧ ∀ k r, k = 3 ∨ k = 4 ∨ k = 5 → FR c k = some r → gp r = c) ∧
    ((FI c 0).toInt = 25 → ∀ r, FR c 3 = some r → gp r = c) ∧
    (∀ r, FR c 6 = some r → gp r = gp c ∧ gp c ≠ 0 ∧ gs c + gw c + 20 ≤ gs r) ∧
    (gp c < n ∧ ((SH (gp c)).1 = 3 → (FI (gp c) 0).toInt = 25 → gs c + gw c + 20 ≤ gw (gp c)))) ∧
  (∀ c, c < n → (SH c).1 = 6 → g_w gw (FR c 2) + 200 ≤ gw c ∧ (∀ r, FR c 3 = some r → (SH r).2 ≤ 64) ∧ (∀ r, FR c 5 = some r → gs c + gw c + 20 ≤ gs r) ∧ gs c + gw c ≤ 200000000 ∧ ∀ r, FR c 2 = some r → gp r = c)
section GT
variable {n : Nat} {SH : Nat → Nat × Nat} {FI FI2 : Nat → Nat → Int32} {FR : Nat → Nat → Option Nat} {gp gw gs : Nat → Nat} {c z m r f : Nat} {o o1 o2 o3 : Option Nat} {x : Int32}
theorem gT_1 (h : g_T n SH FI FR gp gw gs) (hc : c < n) (hs : SH c = (3, z)) : 20 ≤ gw c := (h.1 c hc (by rw [hs])).1
theorem gT_u (h : g_T n SH FI FR gp gw gs) (hc : c < n) (hs : SH c = (3, z)) (hx : FI c 0 = x) (hk : x.toInt ≠ 25) (e1 : FR c 3 = o1) (e2 : FR c 4 = o2) (e3 : FR c 5 = o3) : g_w gw o1 + g_w gw o2 + g_w gw o3 + 20 ≤ gw c := by
  subst e1; subst e2; subst e3; subst hx
  exact ((h.1 c hc (by rw [hs])).2.1 hk).1
theorem gT_f (h : g_T n SH FI FR gp gw gs) (hc : c < n) (hs : SH c = (3, z)) (hx : FI c 0 = x) (hk : x.toInt = 25) (e : FR c 3 = some f) : gp f = c := by
  subst hx
  exact (h.1 c hc (by rw [hs])).2.2.1 hk f e
theorem gT_n (h : g_T n SH FI FR gp gw gs) (hc : m < n) (hs : SH m = (3, z)) (hp : gp m = c) (e : FR m 6 = some r) : gp r = c ∧ gs m + gw m + 20 ≤ gs r := by
  have := (h.1 m hc (by rw [hs])).2.2.2.1 r e
  exact ⟨this.1.trans hp, this.2.2⟩
theorem gT_d {z2 : Nat} (h : g_T n SH FI FR gp gw gs) (hm : m < n) (hs : SH m = (3, z)) (hp : gp m = c) (hs2 : SH c = (3, z2)) (hx : FI c 0 = x) (hk : x.toInt = 25) : gs m + gw m + 20 ≤ gw c := by
  subst hx; subst hp
  exact (h.1 m hm (by rw [hs])).2.2.2.2.2 (by rw [hs2]) hk
theorem gT_e (h : g_T n SH FI FR gp gw gs) (hc : c < n) (hs : SH c = (6, z)) (e : FR c 2 = o) : g_w gw o + 200 ≤ gw c := by
  subst e; exact (h.2 c hc (by rw [hs])).1
theorem gT_b (h : g_T n SH FI FR gp gw gs) (hc : c < n) (hs : SH c = (6, z)) (e : FR c 3 = some r) : (SH r).2 ≤ 64 := (h.2 c hc (by rw [hs])).2.1 r e
theorem gT_l (h : g_T n SH FI FR gp gw gs) (hc : c < n) (hs : SH c = (6, z)) (e : FR c 5 = some r) : gs c + gw c + 20 ≤ gs r := (h.2 c hc (by rw [hs])).2.2.1 r e
theorem gT_m (h : g_T n SH FI FR gp gw gs) (hc : c < n) (hs : SH c = (6, z)) : gs c + gw c ≤ 200000000 := (h.2 c hc (by rw [hs])).2.2.2.1
theorem gT_mv {L : List (Nat × Nat)} {A T : List Nat} (hS : h_S n SH) (h : g_T n SH FI FR gp gw gs) (f : g_fr n (shd SH) L A T FI FI2) (m : (L.all (fun p => decide (p.1 < 176)) && (A.all (fun q => decide (q < 176)) && !(T.contains 1003))) = true) : g_T n SH FI2 FR gp gw gs := by
  rw [Bool.and_eq_true, Bool.and_eq_true] at m
  obtain ⟨m1, m2, m3⟩ := m
  have key : ∀ c, c < n → (SH c).1 = 3 → FI2 c 0 = FI c 0 := by
    intro c hc hs
    have hd : 176 ≤ c := dyn_tag (z := (SH c).2) hS (Prod.ext hs rfl) (by decide +kernel)
    refine f c 0 hc (fun h => ?_) (fun h => ?_) (fun h => ?_)
    · have := of_decide_eq_true (List.all_eq_true.mp m1 (c, 0) h)
      dsimp only at this
      omega
    · have := of_decide_eq_true (List.all_eq_true.mp m2 c h)
      omega
    · unfold shd at h
      rw [if_pos hd, hs] at h
      simp [h] at m3
  refine ⟨fun c hc hs => ?_, h.2⟩
  obtain ⟨h1, h2, h3, h4, h5, h6⟩ := h.1 c hc hs
  refine ⟨h1, fun hk => h2 (by rw [← key c hc hs]; exact hk), fun hk => h3 (by rw [← key c hc hs]; exact hk), h4, h5, fun ht hk => h6 ht ?_⟩
  rw [← key _ h5 ht]
  exact hk
/-- how far a chain still goes -/
def g_ms (gs : Nat → Nat) (W : Nat) (o : Option Nat) : Nat := match o with
  | none => 0
  | some m => W - gs m + 1
end GT
theorem va_cat (r : Option Nat) : (va_rf r).category = 1 := by cases r <;> rfl
theorem va_ci (x : Int32) : (Value.int x).category = 1 := rfl
theorem va_cl (x : Int64) : (Value.long x).category = 2 := rfl
theorem va_cr (a : Addr) : (Value.ref a).category = 1 := rfl
theorem va_cn : Value.null.category = 1 := rfl
section CO
variable {base d : Nat} {X : Option (Nat × Nat × (Nat → Int32))} {j : Nat} {y : MethodName} {nL : Nat} {ret : Option FieldType} {pc : Nat} {L : xL} {Φ : Option Value → hS → Prop} {n sl : Nat} {SH : Nat → Nat × Nat} {FI : Nat → Nat → Int32} {FL : Nat → Nat → Int64} {FR : Nat → Nat → Option Nat}
theorem hw_callVo {sk : xK} {idx j2 nL2 c t z N nb : Nat} {y2 : MethodName} {cc2 : ByteArray} {ret2 : Option FieldType} {T : u_T} {st0 Bs rest : List Value} {L2 : xL} {Φ2 : Option Value → hS → Prop} (q : x_at xMM j pc (.invokevirtual idx) 3 y nL ret) (w : x_cw y.cls idx y2 nb) (hj2 : 0 < j2) (hM2 : xMM j2 = some (y2, cc2, nL2, ret2)) (wi : Cond.instanceMethod y2 ∈ x_Ts) (wv : Cond.selects y2.cls y2 y2 ∈ x_Ts) (hc : c < n) (hs : SH c = (t, z)) (ht : vwCl[t]? = some (y2.cls, T, N)) (hn : Bs.length = nb) (hst : st0 = Bs.reverse ++ .ref (base + c) :: rest) (hsum : (rest.map fun v => v.category).sum ≤ 8) (hl : (lg_sl (.ref (base + c) :: Bs)).length ≤ nL2) (hL : lv_args 0 (.ref (base + c) :: Bs) = L2) (k1 : hw sk base d none j2 0 L2 [] (n, sl, SH, FI, FL, FR) Φ2) (k2 : ∀ v s', Φ2 v s' → hw sk base (d + 1) X j (pc + 3) L (v.toList ++ rest) s' Φ) : hw sk base (d + 1) X j pc L st0 (n, sl, SH, FI, FL, FR) Φ := by
  subst hL
  exact hw_callV q w hj2 hM2 wi wv hc hs ht hn hst hsum hl k1 k2
theorem hw_callSo {sk : xK} {idx j2 nL2 nb : Nat} {y2 : MethodName} {cc2 : ByteArray} {ret2 : Option FieldType} {st0 As rest : List Value} {L2 : xL} {Φ2 : Option Value → hS → Prop} {s : hS} (q : x_at xMM j pc (.invokestatic idx) 3 y nL ret) (w : x_cw y.cls idx y2 nb) (hj2 : 0 < j2) (hM2 : xMM j2 = some (y2, cc2, nL2, ret2)) (wt : Cond.static y2 ∈ x_Ts) (hn : As.length = nb) (hst : st0 = As.reverse ++ rest) (hsum : (rest.map fun v => v.category).sum ≤ 8) (hl : (lg_sl As).length ≤ nL2) (hL : lv_args 0 As = L2) (k1 : hw sk base d none j2 0 L2 [] s Φ2) (k2 : ∀ v s', Φ2 v s' → hw sk base (d + 1) X j (pc + 3) L (v.toList ++ rest) s' Φ) : hw sk base (d + 1) X j pc L st0 s Φ := by
  subst hL
  exact hw_callS q w hj2 hM2 wt hn hst hsum hl k1 k2
end CO
