/-! New cells: what stays, what is there. -/
section AL
variable {n n0 n2 : Nat} {SH SH2 S : Nat → Nat × Nat} {c t z : Nat}
theorem ex_shd (h : g_ex n SH n2 SH2) : g_ex n (shd SH) n2 (shd SH2) := ⟨h.1, fun c hc => by unfold shd; rw [h.2 c hc]⟩
theorem ex_lt (h : g_ex n SH n2 SH2) (hc : c < n) : c < n2 := Nat.lt_of_lt_of_le hc h.1
theorem ex_sh (h : g_ex n SH n2 SH2) (hc : c < n) (hs : SH c = (t, z)) : SH2 c = (t, z) := (h.2 c hc).trans hs
theorem ex_ty {o : Option Nat} (h : g_ex n SH n2 SH2) (ht : ∀ q, o = some q → q < n ∧ own q ∧ SH q = (t, (SH q).2)) : ∀ q, o = some q → q < n2 ∧ own q ∧ SH2 q = (t, (SH2 q).2) := fun q hq => by
  obtain ⟨h1, h2, h3⟩ := ht q hq
  have h4 := ex_sh h h1 h3
  exact ⟨ex_lt h h1, h2, by rw [h4]⟩
theorem gf_al {α : Type} {F F1 F2 : Nat → Nat → α} {L : List (Nat × Nat)} {A T : List Nat} (h : g_fr n0 S L A T F F1) (hn : n0 ≤ n) (e : ∀ c k, c ≠ n → F2 c k = F1 c k) : g_fr n0 S L A T F F2 := fun c k h1 h2 h3 h4 => (e c k (by omega)).trans (h c k h1 h2 h3 h4)
theorem gf_tx {α : Type} {F F1 F2 : Nat → Nat → α} {L : List (Nat × Nat)} {A T : List Nat} {k : Nat} {x : α} (e : g_ex n0 S n SH) (h : g_fr n0 S L A T F F1) (u : F2 = h_up F1 c k x) (hs : SH c = (t, z)) (m : t ∈ T) : g_fr n0 S L A T F F2 := fun c2 k2 h1 h2 h3 h4 => by
  by_cases hcc : c2 = c
  · subst hcc
    rw [← e.2 c2 h1, hs] at h4
    exact absurd m h4
  · exact up_c u hcc (h c2 k2 h1 h2 h3 h4)
theorem gs_new {FR FR2 : Nat → Nat → Option Nat} (hS : h_S n SH) (e : ∀ c k, c ≠ n → FR2 c k = FR c k) (h : h_FR FR) (m : hf_L.all (fun e => decide (e.1 < 176)) = true) : h_FR FR2 := fun q hq => by
  have := of_decide_eq_true (List.all_eq_true.mp m q hq)
  rw [e _ _ (by have := hS.1; omega)]
  exact h q hq
theorem hf_low : hf_L.all (fun e => decide (e.1 < 176)) = true := by decide +kernel
theorem gI_new {F F2 : Nat → Nat → Int32} (hn : 176 ≤ n) (e : ∀ c k, c ≠ n → F2 c k = F c k) (h : g_I F) : g_I F2 := fun c k => by
  by_cases hc : c = n
  · subst hc; rw [g_hi hn]; exact i_rng _
  · rw [e c k hc]; exact h c k
theorem gR_new {FR FR2 : Nat → Nat → Option Nat} (hS : h_S n SH) (ex : g_ex n SH (n + 1) SH2) (hs : g_dt (SH2 n).1) (e : ∀ c k, c ≠ n → FR2 c k = FR c k) (e0 : ∀ k, FR2 n k = none) (h : g_R n SH FR) : g_R (n + 1) SH2 FR2 := by
  have hn := hS.1
  refine ⟨fun c h1 h2 => ?_, fun c k r h1 h2 h3 => ?_, fun c k h1 => ?_, ?_⟩
  · by_cases hc : c = n
    · subst hc; exact hs
    · rw [ex.2 c (by omega)]; exact h.1 c h1 (by omega)
  · by_cases hc : c = n
    · subst hc; rw [e0] at h3; cases h3
    · rw [e c k hc] at h3
      obtain ⟨a1, a2, a3, a4⟩ := h.2.1 c k r (by omega) h2 h3
      rw [ex.2 c (by omega), ex.2 r a1]
      exact ⟨by omega, a2, a3, a4⟩
  · have : c ≠ n := by unfold g_nn at h1; omega
    rw [e c k this]; exact h.2.2.1 c k h1
  · rw [e 49 1 (by omega)]; exact h.2.2.2
/-- what holds behind a new cell of shape (t, z) -/
def g_nw (n : Nat) (SH : Nat → Nat × Nat) (FI : Nat → Nat → Int32) (FL : Nat → Nat → Int64) (FR : Nat → Nat → Option Nat) (t z n2 : Nat) (SH2 : Nat → Nat × Nat) (F2 : Nat → Nat → Int32) (G2 : Nat → Nat → Int64) (R2 : Nat → Nat → Option Nat) : Prop :=
  n2 = n + 1 ∧ g_ex n SH n2 SH2 ∧ h_S n2 SH2 ∧ h_FR R2 ∧ g_I F2 ∧ g_R n2 SH2 R2 ∧ n < n2 ∧ SH2 n = (t, z) ∧ 176 ≤ n ∧ (∀ c k, c ≠ n → F2 c k = FI c k) ∧ (∀ c k, c ≠ n → G2 c k = FL c k) ∧ (∀ c k, c ≠ n → R2 c k = FR c k) ∧ (∀ k, F2 n k = 0) ∧ (∀ k, G2 n k = 0) ∧ ∀ k, R2 n k = none
theorem g_nw_i {FI : Nat → Nat → Int32} {FL : Nat → Nat → Int64} {FR : Nat → Nat → Option Nat} (hS : h_S n SH) (hF : h_FR FR) (hI : g_I FI) (hR : g_R n SH FR) (hd : g_dt t) : g_nw n SH FI FL FR t z (n + 1) (va_up SH n (t, z)) (va_up FI n (fun _ => 0)) (va_up FL n (fun _ => 0)) (va_up FR n (fun _ => none)) := by
  have hn := hS.1
  have ex : g_ex n SH (n + 1) (va_up SH n (t, z)) := ⟨by omega, fun c hc => if_neg (by omega)⟩
  have eI : ∀ c k, c ≠ n → va_up FI n (fun _ => 0) c k = FI c k := fun c k h => by simp [va_up, h]
  have eL : ∀ c k, c ≠ n → va_up FL n (fun _ => 0) c k = FL c k := fun c k h => by simp [va_up, h]
  have eR : ∀ c k, c ≠ n → va_up FR n (fun _ => none) c k = FR c k := fun c k h => by simp [va_up, h]
  have hs : va_up SH n (t, z) n = (t, z) := if_pos rfl
  refine ⟨rfl, ex, ⟨by omega, fun q hq => (ex.2 q (by omega)).trans (hS.2 q hq)⟩, gs_new hS eR hF hf_low, gI_new hn eI hI, gR_new hS ex (by rw [hs]; exact hd) eR (fun k => by simp [va_up]) hR, by omega, hs, hn, eI, eL, eR, fun k => by simp [va_up], fun k => by simp [va_up], fun k => by simp [va_up]⟩
end AL
section AV
variable {base d : Nat} {X : Option (Nat × Nat × (Nat → Int32))} {j : Nat} {y : MethodName} {nL : Nat} {ret : Option FieldType} {pc : Nat} {L : xL} {st : List Value} {Φ : Option Value → hS → Prop} {n sl : Nat} {SH : Nat → Nat × Nat} {FI : Nat → Nat → Int32} {FL : Nat → Nat → Int64} {FR : Nat → Nat → Option Nat}
theorem hv_new {sk : xK} {idx t N : Nat} {C : String} {T : u_T} (hS : h_S n SH) (hF : h_FR FR) (hI : g_I FI) (hR : g_R n SH FR) (hd : g_dt t) (q : x_at xMM j pc (.new idx) 3 y nL ret) (ht : vwCl[t]? = some (C, T, N)) (hl : Cond.classLink y.cls idx C ∈ x_Ts) (hi : Cond.initialized C ∈ x_Ts) (kk : ∀ n2 sl2 SH2 F2 G2 R2, sl2 = sl + N → g_nw n SH FI FL FR t 0 n2 SH2 F2 G2 R2 → hw sk base d X j (pc + 3) L (.ref (base + n) :: st) (n2, sl2, SH2, F2, G2, R2) Φ) : hw sk base d X j pc L st (n, sl, SH, FI, FL, FR) Φ := hw_new q ht hl hi (kk _ _ _ _ _ _ rfl (g_nw_i hS hF hI hR hd))
theorem hv_newa {sk : xK} {aty : ArrayType} {k z : Nat} {m : Int32} (hS : h_S n SH) (hF : h_FR FR) (hI : g_I FI) (hR : g_R n SH FR) (hd : g_dt (100 + k)) (q : x_at xMM j pc (.newarray aty) 2 y nL ret) (hk : x_kn[k]? = some (Jvm.Op.newarray.typeOf aty)) (hk2 : k < 3) (hl : Cond.arrayClass (Jvm.Op.newarray.typeOf aty) ∈ x_Ts) (hm : ¬ m < 0) (hz : m.toNatClampNeg = z) (hb : z * 8 ≤ 536870912) (kk : ∀ n2 sl2 SH2 F2 G2 R2, sl2 = sl + z → g_nw n SH FI FL FR (100 + k) z n2 SH2 F2 G2 R2 → hw sk base d X j (pc + 2) L (.ref (base + n) :: st) (n2, sl2, SH2, F2, G2, R2) Φ) : hw sk base d X j pc L (.int m :: st) (n, sl, SH, FI, FL, FR) Φ := hw_newa q hk hk2 hl hm hz hb (kk _ _ _ _ _ _ rfl (g_nw_i hS hF hI hR hd))
theorem hv_newq {sk : xK} {idx k z : Nat} {C : String} {m : Int32} (hS : h_S n SH) (hF : h_FR FR) (hI : g_I FI) (hR : g_R n SH FR) (hd : g_dt (100 + k)) (q : x_at xMM j pc (.anewarray idx) 3 y nL ret) (hk : x_kn[k]? = some (.object C)) (hk3 : 3 ≤ k) (hl : Cond.classLink y.cls idx C ∈ x_Ts) (ha : Cond.arrayOver (.object C) ∈ x_AO) (hm : ¬ m < 0) (hz : m.toNatClampNeg = z) (hb : z * 4 ≤ 536870912) (kk : ∀ n2 sl2 SH2 F2 G2 R2, sl2 = sl + z → g_nw n SH FI FL FR (100 + k) z n2 SH2 F2 G2 R2 → hw sk base d X j (pc + 3) L (.ref (base + n) :: st) (n2, sl2, SH2, F2, G2, R2) Φ) : hw sk base d X j pc L (.int m :: st) (n, sl, SH, FI, FL, FR) Φ := hw_newq q hk hk3 hl ha hm hz hb (kk _ _ _ _ _ _ rfl (g_nw_i hS hF hI hR hd))
theorem hv_aast {sk : xK} {c v k z ci zv N i2 : Nat} {i : Int32} {C : String} {T : u_T} (q : x_at xMM j pc .aastore 1 y nL ret) (hc : c < n) (hs : SH c = (100 + k, z)) (hk : x_kn[k]? = some (.object C)) (hk3 : 3 ≤ k) (hcv : v < n) (hsv : SH v = (ci, zv)) (hci : vwCl[ci]? = some (C, T, N)) (hin : vp_in i z) (hi2 : i.toNatClampNeg = i2) (kk : ∀ F2, F2 = h_up FR c i2 (some v) → hw sk base d X j (pc + 1) L st (n, sl, SH, FI, FL, F2) Φ) : hw sk base d X j pc L (.ref (base + v) :: .int i :: .ref (base + c) :: st) (n, sl, SH, FI, FL, FR) Φ := by
  subst hi2
  exact hw_aast q hc hs hk hk3 hcv hsv hci hin (kk _ rfl)
theorem hv_aastI {sk : xK} {c v z zv i2 : Nat} {i : Int32} (q : x_at xMM j pc .aastore 1 y nL ret) (hc : c < n) (hs : SH c = (106, z)) (hA : Cond.arrayOver (.array .int) ∈ x_AO) (hcv : v < n) (hsv : SH v = (100, zv)) (hin : vp_in i z) (hi2 : i.toNatClampNeg = i2) (kk : ∀ F2, F2 = h_up FR c i2 (some v) → hw sk base d X j (pc + 1) L st (n, sl, SH, FI, FL, F2) Φ) : hw sk base d X j pc L (.ref (base + v) :: .int i :: .ref (base + c) :: st) (n, sl, SH, FI, FL, FR) Φ := by
  subst hi2
  exact hw_aastI q hc hs hA hcv hsv hin (kk _ rfl)
end AV
theorem i_cn {x : Int32} (h : 0 ≤ x.toInt) : (x.toNatClampNeg : Int) = x.toInt := by
  show ((x.toInt.toNat : Nat) : Int) = x.toInt
  omega
theorem gf_lo {α : Type} {F F2 : Nat → Nat → α} {n0 c : Nat} {S : Nat → Nat × Nat} {L : List (Nat × Nat)} {A T : List Nat} (h : g_fr c S L A T F F2) (hn : n0 ≤ c) : g_fr n0 S L A T F F2 := fun c2 k h1 h2 h3 h4 => h c2 k (by omega) h2 h3 h4
theorem i_nn {x : Int32} (h : 0 ≤ x.toInt) : ¬ x < 0 := by
  rw [Int32.lt_iff_toInt_lt]
  have : (0 : Int32).toInt = 0 := by decide
  omega
section AF
variable {base d : Nat} {X : Option (Nat × Nat × (Nat → Int32))} {j : Nat} {y : MethodName} {nL : Nat} {ret : Option FieldType} {pc : Nat} {L : xL} {st : List Value} {Φ : Option Value → hS → Prop} {n sl : Nat} {SH : Nat → Nat × Nat} {FI : Nat → Nat → Int32} {FL : Nat → Nat → Int64} {FR : Nat → Nat → Option Nat}
theorem hv_putiF {sk : xK} {idx t k N c z : Nat} {C : String} {T : u_T} {x : Int32} (q : x_at xMM j pc (.putfield idx) 3 y nL ret) (hf : x_fl vwCl x_Ts x_AO y.cls idx t k C T N) (hc : c < n) (hs : SH c = (t, z)) (ht : t < 100) (hty : h_ty t k = .int) (hfin : (T k).2.2.2 = true ∧ y.name = "<init>" ∧ (T k).1 = y.cls ∧ Cond.fieldLink y.cls idx (T k).1 (T k).2.1 (T k).2.2.1 ∈ x_Ts) (kk : ∀ F2, F2 = h_up FI c k x → hw sk base d X j (pc + 3) L st (n, sl, SH, F2, FL, FR) Φ) : hw sk base d X j pc L (.int x :: .ref (base + c) :: st) (n, sl, SH, FI, FL, FR) Φ := by
  refine hw_put q hf hc hs ht (by rw [hty]; rfl) (by rw [hty]; rfl) (Or.inr hfin) (f' := va_up (FI c) k x) (g' := FL c) (r' := FR c) (by rw [hty]; simp [h_fv, va_up]) (fun i hi => ⟨by simp [va_up, hi], rfl, rfl⟩) ?_
  rw [h_same FL, h_same FR]
  exact kk _ rfl
end AF
