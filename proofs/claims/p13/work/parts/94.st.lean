/-! Strings, copies of arrays. -/
theorem s_n : ∀ k, k < 11 → (Int32.ofNat (x_strN.getD k 0)).toInt = ((x_strN.getD k 0 : Nat) : Int) ∧ x_strN.getD k 0 ≤ 22 := by decide
theorem i_sh0 {x y : Int32} {A : Int} (hx : x.toInt = A) (hy : y.toInt = 0) : (x >>> (y &&& 31)).toInt = A := by
  have e : y = 0 := Int32.toInt_inj.mp (by rw [hy]; rfl)
  subst e
  rw [← hx]
  simp
theorem i_ofl {z : Nat} (h : z < 2147483648) : (Int32.ofNat z).toInt = (z : Int) := by
  rw [Int32.toInt_ofNat', show Int32.size = 4294967296 from rfl, Int.bmod_eq_of_le (by omega) (by omega)]
theorem gI_off {FI F2 : Nat → Nat → Int32} {c1 : Nat} (hI : g_I FI) (h : 176 ≤ c1) (e : ∀ c k, c ≠ c1 → F2 c k = FI c k) : g_I F2 := fun c k => by
  by_cases hc : c = c1
  · subst hc; exact g_full (g_hi h)
  · rw [e c k hc]; exact hI c k
/-- what holds behind a copy of an int[] of z places -/
def g_nc (n : Nat) (SH : Nat → Nat × Nat) (FI : Nat → Nat → Int32) (FL : Nat → Nat → Int64) (FR : Nat → Nat → Option Nat) (t z n2 : Nat) (SH2 : Nat → Nat × Nat) (F2 : Nat → Nat → Int32) (G2 : Nat → Nat → Int64) (R2 : Nat → Nat → Option Nat) : Prop :=
  n2 = n + 1 ∧ g_ex n SH n2 SH2 ∧ h_S n2 SH2 ∧ h_FR R2 ∧ g_I F2 ∧ g_R n2 SH2 R2 ∧ n < n2 ∧ SH2 n = (t, z) ∧ 176 ≤ n ∧ (∀ c k, c ≠ n → F2 c k = FI c k) ∧ (∀ c k, c ≠ n → G2 c k = FL c k) ∧ (∀ c k, c ≠ n → R2 c k = FR c k) ∧ True ∧ (∀ k, G2 n k = 0) ∧ ∀ k, R2 n k = none
theorem g_nc_i {n z t : Nat} {SH : Nat → Nat × Nat} {FI : Nat → Nat → Int32} {FL : Nat → Nat → Int64} {FR : Nat → Nat → Option Nat} {f : Nat → Int32} (hS : h_S n SH) (hF : h_FR FR) (hI : g_I FI) (hR : g_R n SH FR) (hd : g_dt t) : g_nc n SH FI FL FR t z (n + 1) (va_up SH n (t, z)) (va_up FI n f) (va_up FL n (fun _ => 0)) (va_up FR n (fun _ => none)) := by
  obtain ⟨a1, a2, a3, a4, a5, a6, a7, a8, a9, b1, b2, b3, b4, b5, b6⟩ := g_nw_i (z := z) (FL := FL) hS hF hI hR hd
  have eI : ∀ c k, c ≠ n → va_up FI n f c k = FI c k := fun c k h => by simp [va_up, h]
  exact ⟨a1, a2, a3, a4, gI_off hI a9 eI, a6, a7, a8, a9, eI, b2, b3, trivial, b5, b6⟩
section SR
variable {base d : Nat} {X : Option (Nat × Nat × (Nat → Int32))} {j : Nat} {y : MethodName} {nL : Nat} {ret : Option FieldType} {pc : Nat} {L : xL} {st : List Value} {Φ : Option Value → hS → Prop} {n sl : Nat} {SH : Nat → Nat × Nat} {FI : Nat → Nat → Int32} {FL : Nat → Nat → Int64} {FR : Nat → Nat → Option Nat}
theorem hw_tiP {sk : xK} {s : hS} {x : Int32} {P : Int32 → Prop} (h : P x) (k : ∀ y, P y → hw sk base d X j pc L (.int y :: st) s Φ) : hw sk base d X j pc L (.int x :: st) s Φ := k x h
theorem hv_clone {sk : xK} {idx c z : Nat} (hS : h_S n SH) (hF : h_FR FR) (hI : g_I FI) (hR : g_R n SH FR) (q : x_at xMM j pc (.invokevirtual idx) 3 y nL ret) (w1 : Cond.methodLink y.cls idx ⟨"[I", "clone", "()Ljava/lang/Object;"⟩ ∈ x_Ts) (w2 : Cond.sameMethod "[I" "java/lang/Object" "clone" "()Ljava/lang/Object;" ∈ x_Ts) (w3 : Cond.native ⟨"java/lang/Object", "clone", "()Ljava/lang/Object;"⟩ ∈ x_Ts) (w4 : Cond.instanceMethod ⟨"java/lang/Object", "clone", "()Ljava/lang/Object;"⟩ ∈ x_Ts) (w5 : Cond.selects "[I" ⟨"[I", "clone", "()Ljava/lang/Object;"⟩ ⟨"java/lang/Object", "clone", "()Ljava/lang/Object;"⟩ ∈ x_Ts) (w6 : Cond.castable "[I" "java/lang/Cloneable" ∈ x_AO) (hc : c < n) (hs : SH c = (100, z)) (hsum : (st.map fun v => v.category).sum ≤ 8) (kk : ∀ n2 sl2 SH2 F2 G2 R2, sl2 = sl + z → g_nc n SH FI FL FR 100 z n2 SH2 F2 G2 R2 → hw sk base (d + 1) X j (pc + 3) L (.ref (base + n) :: st) (n2, sl2, SH2, F2, G2, R2) Φ) : hw sk base (d + 1) X j pc L (.ref (base + c) :: st) (n, sl, SH, FI, FL, FR) Φ := hw_clone q w1 w2 w3 w4 w5 w6 hc hs hsum (kk _ _ _ _ _ _ rfl (g_nc_i hS hF hI hR (by unfold g_dt; omega)))
theorem hv_cpy {sk : xK} {idx c0 c1 z0 z1 : Nat} {sp dp m : Int32} (q : x_at xMM j pc (.invokestatic idx) 3 y nL ret) (w1 : Cond.methodLink y.cls idx arraycopyName ∈ x_Ts) (w2 : Cond.native arraycopyName ∈ x_Ts) (w3 : Cond.static arraycopyName ∈ x_Ts) (w4 : Cond.initialized "java/lang/System" ∈ x_Ts) (hc0 : c0 < n) (hs0 : SH c0 = (100, z0)) (hc1 : c1 < n) (hs1 : SH c1 = (100, z1)) (h1 : ¬ sp < 0) (h2 : ¬ dp < 0) (h3 : ¬ m < 0) (h4 : sp.toNatClampNeg + m.toNatClampNeg ≤ z0) (h5 : dp.toNatClampNeg + m.toNatClampNeg ≤ z1) (hsum : (st.map fun v => v.category).sum ≤ 8) (kk : ∀ F2 : Nat → Nat → Int32, (∀ c k, c ≠ c1 → F2 c k = FI c k) → hw sk base (d + 1) X j (pc + 3) L st (n, sl, SH, F2, FL, FR) Φ) : hw sk base (d + 1) X j pc L (.int m :: .int dp :: .ref (base + c1) :: .int sp :: .ref (base + c0) :: st) (n, sl, SH, FI, FL, FR) Φ := hw_cpy q w1 w2 w3 w4 hc0 hs0 hc1 hs1 h1 h2 h3 h4 h5 hsum (kk _ (fun c k h => by simp [va_up, h]))
end SR
def nJ7_copyOf_59c91 : Nat := 0xb02c9600b83001b81bbe2a032c032a4d0abc1bb03d01c03c01b62a0b00a0be2a1b
theorem bJ7_copyOf_59c91 : cJ7_copyOf_59c91.data.toList.map UInt8.toNat = x_un nJ7_copyOf_59c91 33 := by decide +kernel
def iJ7_copyOf_59c91 : List (Nat × Jvm.ClassFile.Instr × Nat) := [(0, .iload_n 1, 1), (1, .aload_n 0, 1), (2, .arraylength, 1), (3, .if_icmp .ne 11, 3), (6, .aload_n 0, 1), (7, .invokevirtual 316, 3), (10, .checkcast 317, 3), (13, .areturn, 1), (14, .iload_n 1, 1), (15, .newarray .int, 2), (17, .astore_n 2, 1), (18, .aload_n 0, 1), (19, .iconst 0, 1), (20, .aload_n 2, 1), (21, .iconst 0, 1), (22, .aload_n 0, 1), (23, .arraylength, 1), (24, .iload_n 1, 1), (25, .invokestatic 304, 3), (28, .invokestatic 150, 3), (31, .aload_n 2, 1), (32, .areturn, 1)]
theorem dJ7_copyOf_59c91 : x_il nJ7_copyOf_59c91 33 iJ7_copyOf_59c91 = true := by decide +kernel
theorem aJ7_copyOf_59c91 (k : Nat) {pc : Nat} {i : Jvm.ClassFile.Instr} {len : Nat} (hk : iJ7_copyOf_59c91[k]? = some (pc, i, len)) : x_at xMM 297 pc i len yJ7_copyOf_59c91 3 (some (.array .int)) := ⟨cJ7_copyOf_59c91, rfl, x_il_ok bJ7_copyOf_59c91 dJ7_copyOf_59c91 k hk⟩
set_option maxHeartbeats 4000000 in
set_option maxRecDepth 100000 in
theorem k_copyOf19 {sk : xK} {base d n sl : Nat} {SH : Nat → Nat × Nat} {FI : Nat → Nat → Int32} {FL : Nat → Nat → Int64} {FR : Nat → Nat → Option Nat} (hS : h_S n SH) (hF : h_FR FR) (hI : g_I FI) (hR : g_R n SH FR) (a2 : Int32) (g0 : 0 ≤ (a2).toInt ∧ (a2).toInt ≤ 1001) : hw sk base (d + 1) none 297 0 [(0, .ref (base + 19)), (1, .int (a2))] [] (n, sl, SH, FI, FL, FR) (h_A base (fun r s => ∃ n' sl' SH' FI' FL' FR', s = (n', sl', SH', FI', FL', FR') ∧ g_ex n SH n' SH' ∧ h_S n' SH' ∧ g_I FI' ∧ g_fr n (shd SH) [] [] [] FI FI' ∧ g_fr n (shd SH) [] [] [] FL FL' ∧ g_fr n (shd SH) [] [] [] FR FR' ∧ h_FR FR' ∧ g_R n' SH' FR' ∧ (n' = n + 1) ∧ ((sl' : Int) = sl + (a2).toInt) ∧ (∀ q, r = some q → SH' q = (100, (a2).toNatClampNeg)) ∧ (∀ q, r = some q → q < n' ∧ own q ∧ SH' q = (100, (SH' q).2)) ∧ r ≠ none ∧ (∀ q, r = some q → n ≤ q))) := by
  have rg_a2 := i_rng a2
  refine xw_iloadn (aJ7_copyOf_59c91 0 rfl) rfl ?_
  refine hw_aloadn (aJ7_copyOf_59c91 1 rfl) rfl ?_
  refine hw_alen (k := 0) (z := 1000) (v := (1000 : Int32)) (aJ7_copyOf_59c91 2 rfl) (c19 hS) (s19 hS) (by decide) (by decide) ?_
  refine hw_icne (tgt := 14) (aJ7_copyOf_59c91 3 rfl) (by decide) rfl (by decide : (1000 : Int32).toInt = 1000) (fun cd1 => ?_) (fun cd1 => ?_)
  · refine xw_iloadn (aJ7_copyOf_59c91 8 rfl) rfl ?_
    have h03 : 0 ≤ (a2).toInt ∧ (a2).toInt ≤ 4000 := by omega
    have hz2 := i_cn h03.1
    refine hv_newa (k := 0) (z := (a2).toNatClampNeg) hS hF hI hR (by unfold g_dt; omega) (aJ7_copyOf_59c91 9 rfl) rfl (by decide) (tin_1 (i := 149) rfl rfl) (i_nn h03.1) rfl (by omega) (fun n4 sl5 SH6 FI7 FL8 FR9 hsl10 nw11 => ?_)
    obtain ⟨hn12, ex13, hS14, hF15, hI16, hR17, lt18, sh19, dy20, eI21, eL22, eR23, zI24, zL25, zR26⟩ := nw11
    refine hw_astoren (L2 := [(2, .ref (base + n)), (0, .ref (base + 19)), (1, .int (a2))]) (aJ7_copyOf_59c91 10 rfl) (by decide) rfl ?_
    refine hw_aloadn (aJ7_copyOf_59c91 11 rfl) rfl ?_
    refine hw_ic (v := (0 : Int32)) (aJ7_copyOf_59c91 12 rfl) (by decide) ?_
    refine hw_aloadn (aJ7_copyOf_59c91 13 rfl) rfl ?_
    refine hw_ic (v := (0 : Int32)) (aJ7_copyOf_59c91 14 rfl) (by decide) ?_
    refine hw_aloadn (aJ7_copyOf_59c91 15 rfl) rfl ?_
    refine hw_alen (k := 0) (z := 1000) (v := (1000 : Int32)) (aJ7_copyOf_59c91 16 rfl) (c19 hS14) (s19 hS14) (by decide) (by decide) ?_
    refine xw_iloadn (aJ7_copyOf_59c91 17 rfl) rfl ?_
    refine hw_callS (As := [.int ((1000 : Int32)), .int (a2)]) (rest := [.int ((0 : Int32)), .ref (base + n), .int ((0 : Int32)), .ref (base + 19)]) (aJ7_copyOf_59c91 18 rfl) wc_RJ7_304 (by decide) rfl wt_yJ9_min_7cf53 rfl rfl (Nat.le_of_ble_eq_true rfl) (Nat.le_of_ble_eq_true rfl) (k_J9_min_7cf53 (d := d) hS14 hF15 hI16 hR17 ((1000 : Int32)) (a2) ) (fun v27 sv28 p29 => ?_)
    have := ((by decide : (1000 : Int32).toInt = 1000) : ((1000 : Int32)).toInt = 1000)
    have := ((by decide : (1000 : Int32).toInt = 1000) : ((1000 : Int32)).toInt = 1000)
    obtain ⟨r30, rfl, rfl, t34, t35⟩ := p29
    have rg_r30 := i_rng r30
    show hw sk base _ _ _ _ _ [.int (r30), .int ((0 : Int32)), .ref (base + n), .int ((0 : Int32)), .ref (base + 19)] _ _
    have hc38 : 0 ≤ ((0 : Int32)).toInt ∧ (((0 : Int32)).toNatClampNeg : Int) = 0 := by decide
    have hc39 : 0 ≤ ((0 : Int32)).toInt ∧ (((0 : Int32)).toNatClampNeg : Int) = 0 := by decide
    have hc40z : 0 ≤ (r30).toInt := by omega
    have hc40 : 0 ≤ (r30).toInt ∧ ((r30).toNatClampNeg : Int) = (r30).toInt := ⟨hc40z, i_cn hc40z⟩
    refine hv_cpy (aJ7_copyOf_59c91 19 rfl) (tin_2 (i := 174) rfl rfl) (tin_2 (i := 176) rfl rfl) (tin_2 (i := 175) rfl rfl) (tin_1 (i := 13) rfl rfl) (c19 hS14) (s19 hS14) lt18 sh19 (i_nn hc38.1) (i_nn hc39.1) (i_nn hc40.1) (by have := ((by decide : (0 : Int32).toInt = 0) : ((0 : Int32)).toInt = 0); omega) (by have := ((by decide : (0 : Int32).toInt = 0) : ((0 : Int32)).toInt = 0); omega) (Nat.le_of_ble_eq_true rfl) (fun FI41 e42 => ?_)
    have hI43 := gI_off hI16 dy20 e42
    refine hw_aloadn (aJ7_copyOf_59c91 20 rfl) rfl ?_
    refine xw_aret (v := h_rf base (some (n))) (aJ7_copyOf_59c91 21 rfl) rfl (by first | exact Or.inl ⟨_, rfl⟩ | exact Or.inr ⟨_, rfl⟩) ?_
    exact ⟨some (n), rfl, n4, sl5, SH6, FI41, FL8, FR9, rfl, ex13, hS14, hI43, (gf_al (gf_al gf_rf (Nat.le_refl _) eI21) (Nat.le_refl _) e42), (gf_al gf_rf (Nat.le_refl _) eL22), (gf_al gf_rf (Nat.le_refl _) eR23), hF15, hR17, (by omega), (by omega), (by intro q e; cases e; have h9 := i_cn (x := a2) (by omega); exact (sh19).trans (Prod.ext rfl (by show _ = (a2).toNatClampNeg; omega))), ((fun r e => by cases e; exact ⟨lt18, (Or.inr dy20), by rw [sh19]⟩)), (by simp), (fun q e => by cases e; exact (Nat.le_refl _))⟩
  · refine hw_aloadn (aJ7_copyOf_59c91 4 rfl) rfl ?_
    refine hv_clone (z := 1000) hS hF hI hR (aJ7_copyOf_59c91 5 rfl) (tin_2 (i := 164) rfl rfl) (tin_2 (i := 165) rfl rfl) (tin_2 (i := 166) rfl rfl) (tin_2 (i := 167) rfl rfl) (tin_2 (i := 168) rfl rfl) (nin_2 (i := 169) rfl rfl) (c19 hS) (s19 hS) (Nat.le_of_ble_eq_true rfl) (fun n44 sl45 SH46 FI47 FL48 FR49 hsl50 nw51 => ?_)
    obtain ⟨hn52, ex53, hS54, hF55, hI56, hR57, lt58, sh59, dy60, eI61, eL62, eR63, zI64, zL65, zR66⟩ := nw51
    refine hw_cast (aJ7_copyOf_59c91 6 rfl) (tin_2 (i := 170) rfl rfl) lt58 sh59 ?_
    refine xw_aret (v := h_rf base (some (n))) (aJ7_copyOf_59c91 7 rfl) rfl (by first | exact Or.inl ⟨_, rfl⟩ | exact Or.inr ⟨_, rfl⟩) ?_
    exact ⟨some (n), rfl, n44, sl45, SH46, FI47, FL48, FR49, rfl, ex53, hS54, hI56, (gf_al gf_rf (Nat.le_refl _) eI61), (gf_al gf_rf (Nat.le_refl _) eL62), (gf_al gf_rf (Nat.le_refl _) eR63), hF55, hR57, (by omega), (by omega), (by intro q e; cases e; have h9 := i_cn (x := a2) (by omega); exact (sh59).trans (Prod.ext rfl (by show _ = (a2).toNatClampNeg; omega))), ((fun r e => by cases e; exact ⟨lt58, (Or.inr dy60), by rw [sh59]⟩)), (by simp), (fun q e => by cases e; exact (Nat.le_refl _))⟩
set_option maxHeartbeats 4000000 in
set_option maxRecDepth 100000 in
theorem k_copyOf117 {sk : xK} {base d n sl : Nat} {SH : Nat → Nat × Nat} {FI : Nat → Nat → Int32} {FL : Nat → Nat → Int64} {FR : Nat → Nat → Option Nat} (hS : h_S n SH) (hF : h_FR FR) (hI : g_I FI) (hR : g_R n SH FR) (a2 : Int32) (g0 : 0 ≤ (a2).toInt ∧ (a2).toInt ≤ 1001) : hw sk base (d + 1) none 297 0 [(0, .ref (base + 117)), (1, .int (a2))] [] (n, sl, SH, FI, FL, FR) (h_A base (fun r s => ∃ n' sl' SH' FI' FL' FR', s = (n', sl', SH', FI', FL', FR') ∧ g_ex n SH n' SH' ∧ h_S n' SH' ∧ g_I FI' ∧ g_fr n (shd SH) [] [] [] FI FI' ∧ g_fr n (shd SH) [] [] [] FL FL' ∧ g_fr n (shd SH) [] [] [] FR FR' ∧ h_FR FR' ∧ g_R n' SH' FR' ∧ (n' = n + 1) ∧ ((sl' : Int) = sl + (a2).toInt) ∧ (∀ q, r = some q → SH' q = (100, (a2).toNatClampNeg)) ∧ (∀ q, r = some q → q < n' ∧ own q ∧ SH' q = (100, (SH' q).2)) ∧ r ≠ none ∧ (∀ q, r = some q → n ≤ q))) := by
  have rg_a2 := i_rng a2
  refine xw_iloadn (aJ7_copyOf_59c91 0 rfl) rfl ?_
  refine hw_aloadn (aJ7_copyOf_59c91 1 rfl) rfl ?_
  refine hw_alen (k := 0) (z := 64) (v := (64 : Int32)) (aJ7_copyOf_59c91 2 rfl) (c117 hS) (s117 hS) (by decide) (by decide) ?_
  refine hw_icne (tgt := 14) (aJ7_copyOf_59c91 3 rfl) (by decide) rfl (by decide : (64 : Int32).toInt = 64) (fun cd1 => ?_) (fun cd1 => ?_)
  · refine xw_iloadn (aJ7_copyOf_59c91 8 rfl) rfl ?_
    have h03 : 0 ≤ (a2).toInt ∧ (a2).toInt ≤ 4000 := by omega
    have hz2 := i_cn h03.1
    refine hv_newa (k := 0) (z := (a2).toNatClampNeg) hS hF hI hR (by unfold g_dt; omega) (aJ7_copyOf_59c91 9 rfl) rfl (by decide) (tin_1 (i := 149) rfl rfl) (i_nn h03.1) rfl (by omega) (fun n4 sl5 SH6 FI7 FL8 FR9 hsl10 nw11 => ?_)
    obtain ⟨hn12, ex13, hS14, hF15, hI16, hR17, lt18, sh19, dy20, eI21, eL22, eR23, zI24, zL25, zR26⟩ := nw11
    refine hw_astoren (L2 := [(2, .ref (base + n)), (0, .ref (base + 117)), (1, .int (a2))]) (aJ7_copyOf_59c91 10 rfl) (by decide) rfl ?_
    refine hw_aloadn (aJ7_copyOf_59c91 11 rfl) rfl ?_
    refine hw_ic (v := (0 : Int32)) (aJ7_copyOf_59c91 12 rfl) (by decide) ?_
    refine hw_aloadn (aJ7_copyOf_59c91 13 rfl) rfl ?_
    refine hw_ic (v := (0 : Int32)) (aJ7_copyOf_59c91 14 rfl) (by decide) ?_
    refine hw_aloadn (aJ7_copyOf_59c91 15 rfl) rfl ?_
    refine hw_alen (k := 0) (z := 64) (v := (64 : Int32)) (aJ7_copyOf_59c91 16 rfl) (c117 hS14) (s117 hS14) (by decide) (by decide) ?_
    refine xw_iloadn (aJ7_copyOf_59c91 17 rfl) rfl ?_
    refine hw_callS (As := [.int ((64 : Int32)), .int (a2)]) (rest := [.int ((0 : Int32)), .ref (base + n), .int ((0 : Int32)), .ref (base + 117)]) (aJ7_copyOf_59c91 18 rfl) wc_RJ7_304 (by decide) rfl wt_yJ9_min_7cf53 rfl rfl (Nat.le_of_ble_eq_true rfl) (Nat.le_of_ble_eq_true rfl) (k_J9_min_7cf53 (d := d) hS14 hF15 hI16 hR17 ((64 : Int32)) (a2) ) (fun v27 sv28 p29 => ?_)
    have := ((by decide : (64 : Int32).toInt = 64) : ((64 : Int32)).toInt = 64)
    have := ((by decide : (64 : Int32).toInt = 64) : ((64 : Int32)).toInt = 64)
    obtain ⟨r30, rfl, rfl, t34, t35⟩ := p29
    have rg_r30 := i_rng r30
    show hw sk base _ _ _ _ _ [.int (r30), .int ((0 : Int32)), .ref (base + n), .int ((0 : Int32)), .ref (base + 117)] _ _
    have hc38 : 0 ≤ ((0 : Int32)).toInt ∧ (((0 : Int32)).toNatClampNeg : Int) = 0 := by decide
    have hc39 : 0 ≤ ((0 : Int32)).toInt ∧ (((0 : Int32)).toNatClampNeg : Int) = 0 := by decide
    have hc40z : 0 ≤ (r30).toInt := by omega
    have hc40 : 0 ≤ (r30).toInt ∧ ((r30).toNatClampNeg : Int) = (r30).toInt := ⟨hc40z, i_cn hc40z⟩
    refine hv_cpy (aJ7_copyOf_59c91 19 rfl) (tin_2 (i := 174) rfl rfl) (tin_2 (i := 176) rfl rfl) (tin_2 (i := 175) rfl rfl) (tin_1 (i := 13) rfl rfl) (c117 hS14) (s117 hS14) lt18 sh19 (i_nn hc38.1) (i_nn hc39.1) (i_nn hc40.1) (by have := ((by decide : (0 : Int32).toInt = 0) : ((0 : Int32)).toInt = 0); omega) (by have := ((by decide : (0 : Int32).toInt = 0) : ((0 : Int32)).toInt = 0); omega) (Nat.le_of_ble_eq_true rfl) (fun FI41 e42 => ?_)
    have hI43 := gI_off hI16 dy20 e42
    refine hw_aloadn (aJ7_copyOf_59c91 20 rfl) rfl ?_
    refine xw_aret (v := h_rf base (some (n))) (aJ7_copyOf_59c91 21 rfl) rfl (by first | exact Or.inl ⟨_, rfl⟩ | exact Or.inr ⟨_, rfl⟩) ?_
    exact ⟨some (n), rfl, n4, sl5, SH6, FI41, FL8, FR9, rfl, ex13, hS14, hI43, (gf_al (gf_al gf_rf (Nat.le_refl _) eI21) (Nat.le_refl _) e42), (gf_al gf_rf (Nat.le_refl _) eL22), (gf_al gf_rf (Nat.le_refl _) eR23), hF15, hR17, (by omega), (by omega), (by intro q e; cases e; have h9 := i_cn (x := a2) (by omega); exact (sh19).trans (Prod.ext rfl (by show _ = (a2).toNatClampNeg; omega))), ((fun r e => by cases e; exact ⟨lt18, (Or.inr dy20), by rw [sh19]⟩)), (by simp), (fun q e => by cases e; exact (Nat.le_refl _))⟩
  · refine hw_aloadn (aJ7_copyOf_59c91 4 rfl) rfl ?_
    refine hv_clone (z := 64) hS hF hI hR (aJ7_copyOf_59c91 5 rfl) (tin_2 (i := 164) rfl rfl) (tin_2 (i := 165) rfl rfl) (tin_2 (i := 166) rfl rfl) (tin_2 (i := 167) rfl rfl) (tin_2 (i := 168) rfl rfl) (nin_2 (i := 169) rfl rfl) (c117 hS) (s117 hS) (Nat.le_of_ble_eq_true rfl) (fun n44 sl45 SH46 FI47 FL48 FR49 hsl50 nw51 => ?_)
    obtain ⟨hn52, ex53, hS54, hF55, hI56, hR57, lt58, sh59, dy60, eI61, eL62, eR63, zI64, zL65, zR66⟩ := nw51
    refine hw_cast (aJ7_copyOf_59c91 6 rfl) (tin_2 (i := 170) rfl rfl) lt58 sh59 ?_
    refine xw_aret (v := h_rf base (some (n))) (aJ7_copyOf_59c91 7 rfl) rfl (by first | exact Or.inl ⟨_, rfl⟩ | exact Or.inr ⟨_, rfl⟩) ?_
    exact ⟨some (n), rfl, n44, sl45, SH46, FI47, FL48, FR49, rfl, ex53, hS54, hI56, (gf_al gf_rf (Nat.le_refl _) eI61), (gf_al gf_rf (Nat.le_refl _) eL62), (gf_al gf_rf (Nat.le_refl _) eR63), hF55, hR57, (by omega), (by omega), (by intro q e; cases e; have h9 := i_cn (x := a2) (by omega); exact (sh59).trans (Prod.ext rfl (by show _ = (a2).toNatClampNeg; omega))), ((fun r e => by cases e; exact ⟨lt58, (Or.inr dy60), by rw [sh59]⟩)), (by simp), (fun q e => by cases e; exact (Nat.le_refl _))⟩
set_option maxHeartbeats 4000000 in
set_option maxRecDepth 100000 in
theorem k_copyOf120 {sk : xK} {base d n sl : Nat} {SH : Nat → Nat × Nat} {FI : Nat → Nat → Int32} {FL : Nat → Nat → Int64} {FR : Nat → Nat → Option Nat} (hS : h_S n SH) (hF : h_FR FR) (hI : g_I FI) (hR : g_R n SH FR) (a2 : Int32) (g0 : 0 ≤ (a2).toInt ∧ (a2).toInt ≤ 1001) : hw sk base (d + 1) none 297 0 [(0, .ref (base + 120)), (1, .int (a2))] [] (n, sl, SH, FI, FL, FR) (h_A base (fun r s => ∃ n' sl' SH' FI' FL' FR', s = (n', sl', SH', FI', FL', FR') ∧ g_ex n SH n' SH' ∧ h_S n' SH' ∧ g_I FI' ∧ g_fr n (shd SH) [] [] [] FI FI' ∧ g_fr n (shd SH) [] [] [] FL FL' ∧ g_fr n (shd SH) [] [] [] FR FR' ∧ h_FR FR' ∧ g_R n' SH' FR' ∧ (n' = n + 1) ∧ ((sl' : Int) = sl + (a2).toInt) ∧ (∀ q, r = some q → SH' q = (100, (a2).toNatClampNeg)) ∧ (∀ q, r = some q → q < n' ∧ own q ∧ SH' q = (100, (SH' q).2)) ∧ r ≠ none ∧ (∀ q, r = some q → n ≤ q))) := by
  have rg_a2 := i_rng a2
  refine xw_iloadn (aJ7_copyOf_59c91 0 rfl) rfl ?_
  refine hw_aloadn (aJ7_copyOf_59c91 1 rfl) rfl ?_
  refine hw_alen (k := 0) (z := 600) (v := (600 : Int32)) (aJ7_copyOf_59c91 2 rfl) (c120 hS) (s120 hS) (by decide) (by decide) ?_
  refine hw_icne (tgt := 14) (aJ7_copyOf_59c91 3 rfl) (by decide) rfl (by decide : (600 : Int32).toInt = 600) (fun cd1 => ?_) (fun cd1 => ?_)
  · refine xw_iloadn (aJ7_copyOf_59c91 8 rfl) rfl ?_
    have h03 : 0 ≤ (a2).toInt ∧ (a2).toInt ≤ 4000 := by omega
    have hz2 := i_cn h03.1
    refine hv_newa (k := 0) (z := (a2).toNatClampNeg) hS hF hI hR (by unfold g_dt; omega) (aJ7_copyOf_59c91 9 rfl) rfl (by decide) (tin_1 (i := 149) rfl rfl) (i_nn h03.1) rfl (by omega) (fun n4 sl5 SH6 FI7 FL8 FR9 hsl10 nw11 => ?_)
    obtain ⟨hn12, ex13, hS14, hF15, hI16, hR17, lt18, sh19, dy20, eI21, eL22, eR23, zI24, zL25, zR26⟩ := nw11
    refine hw_astoren (L2 := [(2, .ref (base + n)), (0, .ref (base + 120)), (1, .int (a2))]) (aJ7_copyOf_59c91 10 rfl) (by decide) rfl ?_
    refine hw_aloadn (aJ7_copyOf_59c91 11 rfl) rfl ?_
    refine hw_ic (v := (0 : Int32)) (aJ7_copyOf_59c91 12 rfl) (by decide) ?_
    refine hw_aloadn (aJ7_copyOf_59c91 13 rfl) rfl ?_
    refine hw_ic (v := (0 : Int32)) (aJ7_copyOf_59c91 14 rfl) (by decide) ?_
    refine hw_aloadn (aJ7_copyOf_59c91 15 rfl) rfl ?_
    refine hw_alen (k := 0) (z := 600) (v := (600 : Int32)) (aJ7_copyOf_59c91 16 rfl) (c120 hS14) (s120 hS14) (by decide) (by decide) ?_
    refine xw_iloadn (aJ7_copyOf_59c91 17 rfl) rfl ?_
    refine hw_callS (As := [.int ((600 : Int32)), .int (a2)]) (rest := [.int ((0 : Int32)), .ref (base + n), .int ((0 : Int32)), .ref (base + 120)]) (aJ7_copyOf_59c91 18 rfl) wc_RJ7_304 (by decide) rfl wt_yJ9_min_7cf53 rfl rfl (Nat.le_of_ble_eq_true rfl) (Nat.le_of_ble_eq_true rfl) (k_J9_min_7cf53 (d := d) hS14 hF15 hI16 hR17 ((600 : Int32)) (a2) ) (fun v27 sv28 p29 => ?_)
    have := ((by decide : (600 : Int32).toInt = 600) : ((600 : Int32)).toInt = 600)
    have := ((by decide : (600 : Int32).toInt = 600) : ((600 : Int32)).toInt = 600)
    obtain ⟨r30, rfl, rfl, t34, t35⟩ := p29
    have rg_r30 := i_rng r30
    show hw sk base _ _ _ _ _ [.int (r30), .int ((0 : Int32)), .ref (base + n), .int ((0 : Int32)), .ref (base + 120)] _ _
    have hc38 : 0 ≤ ((0 : Int32)).toInt ∧ (((0 : Int32)).toNatClampNeg : Int) = 0 := by decide
    have hc39 : 0 ≤ ((0 : Int32)).toInt ∧ (((0 : Int32)).toNatClampNeg : Int) = 0 := by decide
    have hc40z : 0 ≤ (r30).toInt := by omega
    have hc40 : 0 ≤ (r30).toInt ∧ ((r30).toNatClampNeg : Int) = (r30).toInt := ⟨hc40z, i_cn hc40z⟩
    refine hv_cpy (aJ7_copyOf_59c91 19 rfl) (tin_2 (i := 174) rfl rfl) (tin_2 (i := 176) rfl rfl) (tin_2 (i := 175) rfl rfl) (tin_1 (i := 13) rfl rfl) (c120 hS14) (s120 hS14) lt18 sh19 (i_nn hc38.1) (i_nn hc39.1) (i_nn hc40.1) (by have := ((by decide : (0 : Int32).toInt = 0) : ((0 : Int32)).toInt = 0); omega) (by have := ((by decide : (0 : Int32).toInt = 0) : ((0 : Int32)).toInt = 0); omega) (Nat.le_of_ble_eq_true rfl) (fun FI41 e42 => ?_)
    have hI43 := gI_off hI16 dy20 e42
    refine hw_aloadn (aJ7_copyOf_59c91 20 rfl) rfl ?_
    refine xw_aret (v := h_rf base (some (n))) (aJ7_copyOf_59c91 21 rfl) rfl (by first | exact Or.inl ⟨_, rfl⟩ | exact Or.inr ⟨_, rfl⟩) ?_
    exact ⟨some (n), rfl, n4, sl5, SH6, FI41, FL8, FR9, rfl, ex13, hS14, hI43, (gf_al (gf_al gf_rf (Nat.le_refl _) eI21) (Nat.le_refl _) e42), (gf_al gf_rf (Nat.le_refl _) eL22), (gf_al gf_rf (Nat.le_refl _) eR23), hF15, hR17, (by omega), (by omega), (by intro q e; cases e; have h9 := i_cn (x := a2) (by omega); exact (sh19).trans (Prod.ext rfl (by show _ = (a2).toNatClampNeg; omega))), ((fun r e => by cases e; exact ⟨lt18, (Or.inr dy20), by rw [sh19]⟩)), (by simp), (fun q e => by cases e; exact (Nat.le_refl _))⟩
  · refine hw_aloadn (aJ7_copyOf_59c91 4 rfl) rfl ?_
    refine hv_clone (z := 600) hS hF hI hR (aJ7_copyOf_59c91 5 rfl) (tin_2 (i := 164) rfl rfl) (tin_2 (i := 165) rfl rfl) (tin_2 (i := 166) rfl rfl) (tin_2 (i := 167) rfl rfl) (tin_2 (i := 168) rfl rfl) (nin_2 (i := 169) rfl rfl) (c120 hS) (s120 hS) (Nat.le_of_ble_eq_true rfl) (fun n44 sl45 SH46 FI47 FL48 FR49 hsl50 nw51 => ?_)
    obtain ⟨hn52, ex53, hS54, hF55, hI56, hR57, lt58, sh59, dy60, eI61, eL62, eR63, zI64, zL65, zR66⟩ := nw51
    refine hw_cast (aJ7_copyOf_59c91 6 rfl) (tin_2 (i := 170) rfl rfl) lt58 sh59 ?_
    refine xw_aret (v := h_rf base (some (n))) (aJ7_copyOf_59c91 7 rfl) rfl (by first | exact Or.inl ⟨_, rfl⟩ | exact Or.inr ⟨_, rfl⟩) ?_
    exact ⟨some (n), rfl, n44, sl45, SH46, FI47, FL48, FR49, rfl, ex53, hS54, hI56, (gf_al gf_rf (Nat.le_refl _) eI61), (gf_al gf_rf (Nat.le_refl _) eL62), (gf_al gf_rf (Nat.le_refl _) eR63), hF55, hR57, (by omega), (by omega), (by intro q e; cases e; have h9 := i_cn (x := a2) (by omega); exact (sh59).trans (Prod.ext rfl (by show _ = (a2).toNatClampNeg; omega))), ((fun r e => by cases e; exact ⟨lt58, (Or.inr dy60), by rw [sh59]⟩)), (by simp), (fun q e => by cases e; exact (Nat.le_refl _))⟩
