section
/-! Trees of Nodes and rows of Places, by weights: gp the parent, gw the weight, gs where a link of a chain begins. -/
def g_w (gw : Nat → Nat) (o : Option Nat) : Nat := match o with
  | none => 0
  | some r => gw r
def g_T (n : Nat) (SH : Nat → Nat × Nat) (FI : Nat → Nat → Int32) (FR : Nat → Nat → Option Nat) (gp gw gs : Nat → Nat) : Prop :=
  (∀ c, c < n → (SH c).1 = 3 → 20 ≤ gw c ∧
    ((FI c 0).toInt ≠ 25 → g_w gw (FR c 3) + g_w gw (FR c 4) + g_w gw (FR c 5) + 20 ≤ gw c ∧ ∀ k r, k = 3 ∨ k = 4 ∨ k = 5 → FR c k = some r → gp r = c) ∧
    ((FI c 0).toInt = 25 → ∀ r, FR c 3 = some r → gp r = c) ∧
    (∀ r, FR c 6 = some r → gp r = gp c ∧ gp c ≠ 0 ∧ gs c + gw c + 20 ≤ gs r) ∧
    (gp c < n ∧ ((SH (gp c)).1 = 3 → (FI (gp c) 0).toInt = 25 → gs c + gw c + 20 ≤ gw (gp c)))) ∧
  (∀ c, c < n → (SH c).1 = 6 → g_w gw (FR c 2) + 200 ≤ gw c ∧ (∀ r, FR c 3 = some r → (SH r).2 ≤ 64) ∧ (∀ r, FR c 5 = some r → gs c + gw c + 20 ≤ gs r) ∧ gs c + gw c ≤ 200000000 ∧ ∀ r, FR c 2 = some r → gp r = c)
section GT
variable {n : Nat} {SH : Nat → Nat × Nat} {FI FI2 : Nat → Nat → Int32} {FR : Nat → Nat → Option Nat} {gp gw gs : Nat → Nat} {c z m r f : Nat} {o o1 o2 o3 : Option Nat} {x : Int32}
theorem gT_1 (h : g_T n SH FI FR gp gw gs) (hc : c < n) (hs : SH c = (3, z)) : 20 ≤ gw c := (h.1 c hc (by rw [hs])).1
theorem gT_u (h : g_T n SH FI FR gp gw gs) (hc : c < n) (hs : SH c = (3, z)) (hx : FI c 0 = x) (hk : x.toInt ≠ 25) (e1 : FR c 3 = o1) (e2 : FR c 4 = o2) (e3 : FR c 5 = o3) : g_w gw o1 + g_w gw o2 + g_w gw o3 + 20 ≤ gw c := by
  subst e1; subst e2; subst e3; subst hx
  exact ((h.1 c hc (by rw [hs])).2.1 hk).1
theorem gT_f (h : g_T n SH FI FR gp gw gs) (hc : c < n) (hs : SH c = (3, z)) (hx : FI c 0 = x) (hk : x.toInt = 25) (e : FR c 3 = some f) : gp f = c := by
  subst hx
  exact (h.1 c hc (by rw [hs])).2.2.1 hk f e
theorem gT_n (h : g_T n SH FI FR gp gw gs) (hc : m < n) (hs : SH m = (3, z)) (hp : gp m = c) (e : FR m 6 = some r) : gp r = c ∧ gs m + gw m + 20 ≤ gs r := by
  have := (h.1 m hc (by rw [hs])).2.2.2.1 r e
  exact ⟨this.1.trans hp, this.2.2⟩
theorem gT_d {z2 : Nat} (h : g_T n SH FI FR gp gw gs) (hm : m < n) (hs : SH m = (3, z)) (hp : gp m = c) (hs2 : SH c = (3, z2)) (hx : FI c 0 = x) (hk : x.toInt = 25) : gs m + gw m + 20 ≤ gw c := by
  subst hx; subst hp
  exact (h.1 m hm (by rw [hs])).2.2.2.2.2 (by rw [hs2]) hk
theorem gT_e (h : g_T n SH FI FR gp gw gs) (hc : c < n) (hs : SH c = (6, z)) (e : FR c 2 = o) : g_w gw o + 200 ≤ gw c := by
  subst e; exact (h.2 c hc (by rw [hs])).1
theorem gT_b (h : g_T n SH FI FR gp gw gs) (hc : c < n) (hs : SH c = (6, z)) (e : FR c 3 = some r) : (SH r).2 ≤ 64 := (h.2 c hc (by rw [hs])).2.1 r e
theorem gT_l (h : g_T n SH FI FR gp gw gs) (hc : c < n) (hs : SH c = (6, z)) (e : FR c 5 = some r) : gs c + gw c + 20 ≤ gs r := (h.2 c hc (by rw [hs])).2.2.1 r e
theorem gT_m (h : g_T n SH FI FR gp gw gs) (hc : c < n) (hs : SH c = (6, z)) : gs c + gw c ≤ 200000000 := (h.2 c hc (by rw [hs])).2.2.2.1
theorem gT_mv {L : List (Nat × Nat)} {A T : List Nat} (hS : h_S n SH) (h : g_T n SH FI FR gp gw gs) (f : g_fr n (shd SH) L A T FI FI2) (m : (L.all (fun p => decide (p.1 < 176)) && (A.all (fun q => decide (q < 176)) && !(T.contains 1003))) = true) : g_T n SH FI2 FR gp gw gs := by
  rw [Bool.and_eq_true, Bool.and_eq_true] at m
  obtain ⟨m1, m2, m3⟩ := m
  have key : ∀ c, c < n → (SH c).1 = 3 → FI2 c 0 = FI c 0 := by
    intro c hc hs
    have hd : 176 ≤ c := dyn_tag (z := (SH c).2) hS (Prod.ext hs rfl) (by decide +kernel)
    refine f c 0 hc (fun h => ?_) (fun h => ?_) (fun h => ?_)
    · have := of_decide_eq_true (List.all_eq_true.mp m1 (c, 0) h)
      dsimp only at this
      omega
    · have := of_decide_eq_true (List.all_eq_true.mp m2 c h)
      omega
    · unfold shd at h
      rw [if_pos hd, hs] at h
      simp [h] at m3
  refine ⟨fun c hc hs => ?_, h.2⟩
  obtain ⟨h1, h2, h3, h4, h5, h6⟩ := h.1 c hc hs
  refine ⟨h1, fun hk => h2 (by rw [← key c hc hs]; exact hk), fun hk => h3 (by rw [← key c hc hs]; exact hk), h4, h5, fun ht hk => h6 ht ?_⟩
  rw [← key _ h5 ht]
  exact hk
/-- how far a chain still goes -/
def g_ms (gs : Nat → Nat) (W : Nat) (o : Option Nat) : Nat := match o with
  | none => 0
  | some m => W - gs m + 1
end GT
theorem va_cat (r : Option Nat) : (va_rf r).category = 1 := by cases r <;> rfl
theorem va_ci (x : Int32) : (Value.int x).category = 1 := rfl
theorem va_cl (x : Int64) : (Value.long x).category = 2 := rfl
theorem va_cr (a : Addr) : (Value.ref a).category = 1 := rfl
theorem va_cn : Value.null.category = 1 := rfl
section CO
variable {base d : Nat} {X : Option (Nat × Nat × (Nat → Int32))} {j : Nat} {y : MethodName} {nL : Nat} {ret : Option FieldType} {pc : Nat} {L : xL} {Φ : Option Value → hS → Prop} {n sl : Nat} {SH : Nat → Nat × Nat} {FI : Nat → Nat → Int32} {FL : Nat → Nat → Int64} {FR : Nat → Nat → Option Nat}
theorem hw_callVo {sk : xK} {idx j2 nL2 c t z N nb : Nat} {y2 : MethodName} {cc2 : ByteArray} {ret2 : Option FieldType} {T : u_T} {st0 Bs rest : List Value} {L2 : xL} {Φ2 : Option Value → hS → Prop} (q : x_at xMM j pc (.invokevirtual idx) 3 y nL ret) (w : x_cw y.cls idx y2 nb) (hj2 : 0 < j2) (hM2 : xMM j2 = some (y2, cc2, nL2, ret2)) (wi : Cond.instanceMethod y2 ∈ x_Ts) (wv : Cond.selects y2.cls y2 y2 ∈ x_Ts) (hc : c < n) (hs : SH c = (t, z)) (ht : vwCl[t]? = some (y2.cls, T, N)) (hn : Bs.length = nb) (hst : st0 = Bs.reverse ++ .ref (base + c) :: rest) (hsum : (rest.map fun v => v.category).sum ≤ 8) (hl : (lg_sl (.ref (base + c) :: Bs)).length ≤ nL2) (hL : lv_args 0 (.ref (base + c) :: Bs) = L2) (k1 : hw sk base d none j2 0 L2 [] (n, sl, SH, FI, FL, FR) Φ2) (k2 : ∀ v s', Φ2 v s' → hw sk base (d + 1) X j (pc + 3) L (v.toList ++ rest) s' Φ) : hw sk base (d + 1) X j pc L st0 (n, sl, SH, FI, FL, FR) Φ := by
  subst hL
  exact hw_callV q w hj2 hM2 wi wv hc hs ht hn hst hsum hl k1 k2
theorem hw_callSo {sk : xK} {idx j2 nL2 nb : Nat} {y2 : MethodName} {cc2 : ByteArray} {ret2 : Option FieldType} {st0 As rest : List Value} {L2 : xL} {Φ2 : Option Value → hS → Prop} {s : hS} (q : x_at xMM j pc (.invokestatic idx) 3 y nL ret) (w : x_cw y.cls idx y2 nb) (hj2 : 0 < j2) (hM2 : xMM j2 = some (y2, cc2, nL2, ret2)) (wt : Cond.static y2 ∈ x_Ts) (hn : As.length = nb) (hst : st0 = As.reverse ++ rest) (hsum : (rest.map fun v => v.category).sum ≤ 8) (hl : (lg_sl As).length ≤ nL2) (hL : lv_args 0 As = L2) (k1 : hw sk base d none j2 0 L2 [] s Φ2) (k2 : ∀ v s', Φ2 v s' → hw sk base (d + 1) X j (pc + 3) L (v.toList ++ rest) s' Φ) : hw sk base (d + 1) X j pc L st0 s Φ := by
  subst hL
  exact hw_callS q w hj2 hM2 wt hn hst hsum hl k1 k2
end CO
end
section
def nX0_putBased : Nat := 0xb19600b6202a3e00b69100110600a760886300b42b70100e00a025106000b42b2a
theorem bX0_putBased : cX0_putBased.data.toList.map UInt8.toNat = x_un nX0_putBased 33 := by decide +kernel
def iX0_putBased : List (Nat × Jvm.ClassFile.Instr × Nat) := [(0, .aload_n 0, 1), (1, .aload_n 1, 1), (2, .getfield 96, 3), (5, .bipush 37, 2), (7, .if_icmp .ne 14, 3), (10, .bipush 112, 2), (12, .aload_n 1, 1), (13, .getfield 99, 3), (16, .l2i, 1), (17, .iadd, 1), (18, .goto 6, 3), (21, .sipush 145, 3), (24, .invokevirtual 62, 3), (27, .aload_n 0, 1), (28, .lload_n 2, 1), (29, .invokevirtual 150, 3), (32, .return_, 1)]
theorem dX0_putBased : x_il nX0_putBased 33 iX0_putBased = true := by decide +kernel
theorem aX0_putBased (k : Nat) {pc : Nat} {i : Jvm.ClassFile.Instr} {len : Nat} (hk : iX0_putBased[k]? = some (pc, i, len)) : x_at xMM 12 pc i len yX0_putBased 4 none := ⟨cX0_putBased, rfl, x_il_ok bX0_putBased dX0_putBased k hk⟩
set_option maxHeartbeats 4000000 in
set_option maxRecDepth 100000 in
theorem k_X0_putBased {sk : xK} {base d n sl : Nat} {SH : Nat → Nat × Nat} {FI : Nat → Nat → Int32} {FL : Nat → Nat → Int64} {FR : Nat → Nat → Option Nat} (hS : h_S n SH) (hF : h_FR FR) (hI : g_I FI) (hR : g_R n SH FR) (a1 : Nat) {z1 : Nat} (ha1l : a1 < n) (ha1s : SH a1 = (3, z1)) (ha1o : own a1) (a2 : Int64) (g0 : (FI 119 1).toInt ≤ 1999999960) : hw sk base (d + 2) none 12 0 [(0, .ref (base + 119)), (1, .ref (base + a1)), (2, .long (a2))] [] (n, sl, SH, FI, FL, FR) (h_V (fun s => ∃ FI', s = (n, sl, SH, FI', FL, FR) ∧ g_I FI' ∧ g_fr n (shd SH) [(119, 1)] [120] [] FI FI' ∧ ((FI' 119 1).toInt ≤ (FI 119 1).toInt + 11) ∧ ((FI 119 1).toInt ≤ (FI' 119 1).toInt))) := by
  have rg_a2 := l_rng a2
  obtain ⟨x1, h2⟩ : ∃ y, FI 119 1 = y := ⟨_, rfl⟩
  have h2l := congrArg Int32.toInt h2
  have b3 := gI_119_1 hI; rw [h2] at b3
  refine hw_aloadn (aX0_putBased 0 rfl) rfl ?_
  refine hw_aloadn (aX0_putBased 1 rfl) rfl ?_
  obtain ⟨x4, h5⟩ : ∃ y, FI a1 0 = y := ⟨_, rfl⟩
  have h5l := congrArg Int32.toInt h5
  have := i_rng x4
  refine hw_get (v := .int (x4)) (aX0_putBased 2 rfl) wf_RX0_96 ha1l ha1s (by decide) (congrArg Value.int (show FI a1 0 = x4 from h5)) ?_
  refine hw_bp (v := (37 : Int32)) (aX0_putBased 3 rfl) (by decide) ?_
  refine hw_icne (tgt := 21) (aX0_putBased 4 rfl) (by decide) rfl (by decide : (37 : Int32).toInt = 37) (fun cd6 => ?_) (fun cd6 => ?_)
  · refine hw_sp (v := (145 : Int32)) (aX0_putBased 11 rfl) (by decide) ?_
    refine hw_callV (Bs := [.int ((145 : Int32))]) (rest := []) (aX0_putBased 12 rfl) wc_RX0_62 (by decide) rfl wi_yX0_put wv_yX0_put (c119 hS) (s119 hS) rfl rfl rfl (Nat.le_of_ble_eq_true rfl) (Nat.le_of_ble_eq_true rfl) (k_X0_put (d := d + 1) hS hF hI hR ((145 : Int32)) (by have := congrArg Int32.toInt (show FI 119 1 = x1 from h2); omega)) (fun v7 sv8 p9 => ?_)
    have := congrArg Int32.toInt (show FI 119 1 = x1 from h2)
    obtain ⟨rfl, FI11, rfl, hI12, f13, t16⟩ := p9
    obtain ⟨x19, h20⟩ : ∃ y, FI11 119 1 = y := ⟨_, rfl⟩
    have h20l := congrArg Int32.toInt h20
    have b21 := gI_119_1 hI12; rw [h20] at b21
    show hw sk base _ _ _ _ _ [] _ _
    refine hw_aloadn (aX0_putBased 13 rfl) rfl ?_
    refine xw_lloadn (aX0_putBased 14 rfl) rfl ?_
    refine hw_callV (Bs := [.long (a2)]) (rest := []) (aX0_putBased 15 rfl) wc_RX0_150 (by decide) rfl wi_yX0_putSignedLeb wv_yX0_putSignedLeb (c119 hS) (s119 hS) rfl rfl rfl (Nat.le_of_ble_eq_true rfl) (Nat.le_of_ble_eq_true rfl) (k_X0_putSignedLeb (d := d) hS hF hI12 hR (a2) (by have := congrArg Int32.toInt (show FI11 119 1 = x19 from h20); omega)) (fun v22 sv23 p24 => ?_)
    have := congrArg Int32.toInt (show FI11 119 1 = x19 from h20)
    have := congrArg Int32.toInt (show FI11 119 1 = x19 from h20)
    obtain ⟨rfl, FI26, rfl, hI27, f28, t31, t32⟩ := p24
    obtain ⟨x35, h36⟩ : ∃ y, FI26 119 1 = y := ⟨_, rfl⟩
    have h36l := congrArg Int32.toInt h36
    have b37 := gI_119_1 hI27; rw [h36] at b37
    show hw sk base _ _ _ _ _ [] _ _
    refine xw_vret (aX0_putBased 16 rfl) rfl ?_
    exact ⟨rfl, FI26, rfl, hI27, (gf_tr ex_rf (gf_tr ex_rf gf_rf f13 rfl rfl rfl) f28 rfl rfl rfl), (by have := congrArg Int32.toInt (show FI26 119 1 = x35 from h36); omega), (by have := congrArg Int32.toInt (show FI26 119 1 = x35 from h36); omega)⟩
  · refine hw_bp (v := (112 : Int32)) (aX0_putBased 5 rfl) (by decide) ?_
    refine hw_aloadn (aX0_putBased 6 rfl) rfl ?_
    obtain ⟨x38, h39⟩ : ∃ y, FL a1 1 = y := ⟨_, rfl⟩
    have h39l := congrArg Int64.toInt h39
    have := l_rng x38
    refine hw_get (v := .long (x38)) (aX0_putBased 7 rfl) wf_RX0_99 ha1l ha1s (by decide) (congrArg Value.long (show FL a1 1 = x38 from h39)) ?_
    refine xw_l2i (aX0_putBased 8 rfl) ?_
    refine hw_ti (fun x40 => ?_)
    have b41 := i_rng x40
    refine xw_iadd (aX0_putBased 9 rfl) ?_
    have := i_rng (((112 : Int32)) + (x40))
    refine xw_goto (tgt := 24) (aX0_putBased 10 rfl) (by decide) ?_
    refine hw_callV (Bs := [.int ((((112 : Int32)) + (x40)))]) (rest := []) (aX0_putBased 12 rfl) wc_RX0_62 (by decide) rfl wi_yX0_put wv_yX0_put (c119 hS) (s119 hS) rfl rfl rfl (Nat.le_of_ble_eq_true rfl) (Nat.le_of_ble_eq_true rfl) (k_X0_put (d := d + 1) hS hF hI hR ((((112 : Int32)) + (x40))) (by have := congrArg Int32.toInt (show FI 119 1 = x1 from h2); omega)) (fun v42 sv43 p44 => ?_)
    have := congrArg Int32.toInt (show FI 119 1 = x1 from h2)
    obtain ⟨rfl, FI46, rfl, hI47, f48, t51⟩ := p44
    obtain ⟨x54, h55⟩ : ∃ y, FI46 119 1 = y := ⟨_, rfl⟩
    have h55l := congrArg Int32.toInt h55
    have b56 := gI_119_1 hI47; rw [h55] at b56
    show hw sk base _ _ _ _ _ [] _ _
    refine hw_aloadn (aX0_putBased 13 rfl) rfl ?_
    refine xw_lloadn (aX0_putBased 14 rfl) rfl ?_
    refine hw_callV (Bs := [.long (a2)]) (rest := []) (aX0_putBased 15 rfl) wc_RX0_150 (by decide) rfl wi_yX0_putSignedLeb wv_yX0_putSignedLeb (c119 hS) (s119 hS) rfl rfl rfl (Nat.le_of_ble_eq_true rfl) (Nat.le_of_ble_eq_true rfl) (k_X0_putSignedLeb (d := d) hS hF hI47 hR (a2) (by have := congrArg Int32.toInt (show FI46 119 1 = x54 from h55); omega)) (fun v57 sv58 p59 => ?_)
    have := congrArg Int32.toInt (show FI46 119 1 = x54 from h55)
    have := congrArg Int32.toInt (show FI46 119 1 = x54 from h55)
    obtain ⟨rfl, FI61, rfl, hI62, f63, t66, t67⟩ := p59
    obtain ⟨x70, h71⟩ : ∃ y, FI61 119 1 = y := ⟨_, rfl⟩
    have h71l := congrArg Int32.toInt h71
    have b72 := gI_119_1 hI62; rw [h71] at b72
    show hw sk base _ _ _ _ _ [] _ _
    refine xw_vret (aX0_putBased 16 rfl) rfl ?_
    exact ⟨rfl, FI61, rfl, hI62, (gf_tr ex_rf (gf_tr ex_rf gf_rf f48 rfl rfl rfl) f63 rfl rfl rfl), (by have := congrArg Int32.toInt (show FI61 119 1 = x70 from h71); omega), (by have := congrArg Int32.toInt (show FI61 119 1 = x70 from h71); omega)⟩
def nX0_putConstant : Nat := 0xb12400b608101f2a3e00b60e102a1000a72400b6071f2a3e00b60c102a12009d949f00141f2700a72400b6051f2a3e00b60a102a12009d949d00141f3e00a72400b6041f2a3e00b608102a12009d949b00141f5500a73e00b660881f30102a0f009d949900141f
theorem bX0_putConstant : cX0_putConstant.data.toList.map UInt8.toNat = x_un nX0_putConstant 103 := by decide +kernel
def iX0_putConstant : List (Nat × Jvm.ClassFile.Instr × Nat) := [(0, .lload_n 1, 1), (1, .ldc2_w 153, 3), (4, .lcmp, 1), (5, .ifCond .gt 15, 3), (8, .aload_n 0, 1), (9, .bipush 48, 2), (11, .lload_n 1, 1), (12, .l2i, 1), (13, .iadd, 1), (14, .invokevirtual 62, 3), (17, .goto 85, 3), (20, .lload_n 1, 1), (21, .ldc2_w 155, 3), (24, .lcmp, 1), (25, .ifCond .gt 18, 3), (28, .aload_n 0, 1), (29, .bipush 8, 2), (31, .invokevirtual 62, 3), (34, .aload_n 0, 1), (35, .lload_n 1, 1), (36, .iconst 1, 1), (37, .invokevirtual 36, 3), (40, .goto 62, 3), (43, .lload_n 1, 1), (44, .ldc2_w 157, 3), (47, .lcmp, 1), (48, .ifCond .gt 18, 3), (51, .aload_n 0, 1), (52, .bipush 10, 2), (54, .invokevirtual 62, 3), (57, .aload_n 0, 1), (58, .lload_n 1, 1), (59, .iconst 2, 1), (60, .invokevirtual 36, 3), (63, .goto 39, 3), (66, .lload_n 1, 1), (67, .ldc2_w 159, 3), (70, .lcmp, 1), (71, .ifCond .gt 18, 3), (74, .aload_n 0, 1), (75, .bipush 12, 2), (77, .invokevirtual 62, 3), (80, .aload_n 0, 1), (81, .lload_n 1, 1), (82, .iconst 4, 1), (83, .invokevirtual 36, 3), (86, .goto 16, 3), (89, .aload_n 0, 1), (90, .bipush 14, 2), (92, .invokevirtual 62, 3), (95, .aload_n 0, 1), (96, .lload_n 1, 1), (97, .bipush 8, 2), (99, .invokevirtual 36, 3), (102, .return_, 1)]
theorem dX0_putConstant : x_il nX0_putConstant 103 iX0_putConstant = true := by decide +kernel
theorem aX0_putConstant (k : Nat) {pc : Nat} {i : Jvm.ClassFile.Instr} {len : Nat} (hk : iX0_putConstant[k]? = some (pc, i, len)) : x_at xMM 13 pc i len yX0_putConstant 3 none := ⟨cX0_putConstant, rfl, x_il_ok bX0_putConstant dX0_putConstant k hk⟩
set_option maxHeartbeats 4000000 in
set_option maxRecDepth 100000 in
theorem k_X0_putConstant {sk : xK} {base d n sl : Nat} {SH : Nat → Nat × Nat} {FI : Nat → Nat → Int32} {FL : Nat → Nat → Int64} {FR : Nat → Nat → Option Nat} (hS : h_S n SH) (hF : h_FR FR) (hI : g_I FI) (hR : g_R n SH FR) (a1 : Int64) (g0 : (FI 119 1).toInt ≤ 1999999960) : hw sk base (d + 2) none 13 0 [(0, .ref (base + 119)), (1, .long (a1))] [] (n, sl, SH, FI, FL, FR) (h_V (fun s => ∃ FI', s = (n, sl, SH, FI', FL, FR) ∧ g_I FI' ∧ g_fr n (shd SH) [(119, 1)] [120] [] FI FI' ∧ ((FI' 119 1).toInt ≤ (FI 119 1).toInt + 9) ∧ ((FI 119 1).toInt ≤ (FI' 119 1).toInt))) := by
  have rg_a1 := l_rng a1
  obtain ⟨x1, h2⟩ : ∃ y, FI 119 1 = y := ⟨_, rfl⟩
  have h2l := congrArg Int32.toInt h2
  have b3 := gI_119_1 hI; rw [h2] at b3
  refine xw_lloadn (aX0_putConstant 0 rfl) rfl ?_
  refine xw_ldc2 (aX0_putConstant 1 rfl) wk_RX0_153 ?_
  refine hw_lcgt (tgt := 20) (aX0_putConstant 2 rfl) (aX0_putConstant 3 rfl) (by decide) rfl (by decide : (31 : Int64).toInt = 31) (fun cd4 => ?_) (fun cd4 => ?_)
  · refine xw_lloadn (aX0_putConstant 11 rfl) rfl ?_
    refine xw_ldc2 (aX0_putConstant 12 rfl) wk_RX0_155 ?_
    refine hw_lcgt (tgt := 43) (aX0_putConstant 13 rfl) (aX0_putConstant 14 rfl) (by decide) rfl (by decide : (255 : Int64).toInt = 255) (fun cd5 => ?_) (fun cd5 => ?_)
    · refine xw_lloadn (aX0_putConstant 23 rfl) rfl ?_
      refine xw_ldc2 (aX0_putConstant 24 rfl) wk_RX0_157 ?_
      refine hw_lcgt (tgt := 66) (aX0_putConstant 25 rfl) (aX0_putConstant 26 rfl) (by decide) rfl (by decide : (65535 : Int64).toInt = 65535) (fun cd6 => ?_) (fun cd6 => ?_)
      · refine xw_lloadn (aX0_putConstant 35 rfl) rfl ?_
        refine xw_ldc2 (aX0_putConstant 36 rfl) wk_RX0_159 ?_
        refine hw_lcgt (tgt := 89) (aX0_putConstant 37 rfl) (aX0_putConstant 38 rfl) (by decide) rfl (by decide : (4294967295 : Int64).toInt = 4294967295) (fun cd7 => ?_) (fun cd7 => ?_)
        · refine hw_aloadn (aX0_putConstant 47 rfl) rfl ?_
          refine hw_bp (v := (14 : Int32)) (aX0_putConstant 48 rfl) (by decide) ?_
          refine hw_callV (Bs := [.int ((14 : Int32))]) (rest := []) (aX0_putConstant 49 rfl) wc_RX0_62 (by decide) rfl wi_yX0_put wv_yX0_put (c119 hS) (s119 hS) rfl rfl rfl (Nat.le_of_ble_eq_true rfl) (Nat.le_of_ble_eq_true rfl) (k_X0_put (d := d + 1) hS hF hI hR ((14 : Int32)) (by have := congrArg Int32.toInt (show FI 119 1 = x1 from h2); omega)) (fun v8 sv9 p10 => ?_)
          have := congrArg Int32.toInt (show FI 119 1 = x1 from h2)
          obtain ⟨rfl, FI12, rfl, hI13, f14, t17⟩ := p10
          obtain ⟨x20, h21⟩ : ∃ y, FI12 119 1 = y := ⟨_, rfl⟩
          have h21l := congrArg Int32.toInt h21
          have b22 := gI_119_1 hI13; rw [h21] at b22
          show hw sk base _ _ _ _ _ [] _ _
          refine hw_aloadn (aX0_putConstant 50 rfl) rfl ?_
          refine xw_lloadn (aX0_putConstant 51 rfl) rfl ?_
          refine hw_bp (v := (8 : Int32)) (aX0_putConstant 52 rfl) (by decide) ?_
          refine hw_callV (Bs := [.long (a1), .int ((8 : Int32))]) (rest := []) (aX0_putConstant 53 rfl) wc_RX0_36 (by decide) rfl wi_yX0_putNumber wv_yX0_putNumber (c119 hS) (s119 hS) rfl rfl rfl (Nat.le_of_ble_eq_true rfl) (Nat.le_of_ble_eq_true rfl) (k_X0_putNumber (d := d) hS hF hI13 hR (a1) ((8 : Int32)) (by have := congrArg Int32.toInt (show FI12 119 1 = x20 from h21); omega)) (fun v23 sv24 p25 => ?_)
          have := congrArg Int32.toInt (show FI12 119 1 = x20 from h21)
          have := congrArg Int32.toInt (show FI12 119 1 = x20 from h21)
          obtain ⟨rfl, FI27, rfl, hI28, f29, t32, t33⟩ := p25
          obtain ⟨x36, h37⟩ : ∃ y, FI27 119 1 = y := ⟨_, rfl⟩
          have h37l := congrArg Int32.toInt h37
          have b38 := gI_119_1 hI28; rw [h37] at b38
          show hw sk base _ _ _ _ _ [] _ _
          refine xw_vret (aX0_putConstant 54 rfl) rfl ?_
          exact ⟨rfl, FI27, rfl, hI28, (gf_tr ex_rf (gf_tr ex_rf gf_rf f14 rfl rfl rfl) f29 rfl rfl rfl), (by have := congrArg Int32.toInt (show FI27 119 1 = x36 from h37); omega), (by have := congrArg Int32.toInt (show FI27 119 1 = x36 from h37); omega)⟩
        · refine hw_aloadn (aX0_putConstant 39 rfl) rfl ?_
          refine hw_bp (v := (12 : Int32)) (aX0_putConstant 40 rfl) (by decide) ?_
          refine hw_callV (Bs := [.int ((12 : Int32))]) (rest := []) (aX0_putConstant 41 rfl) wc_RX0_62 (by decide) rfl wi_yX0_put wv_yX0_put (c119 hS) (s119 hS) rfl rfl rfl (Nat.le_of_ble_eq_true rfl) (Nat.le_of_ble_eq_true rfl) (k_X0_put (d := d + 1) hS hF hI hR ((12 : Int32)) (by have := congrArg Int32.toInt (show FI 119 1 = x1 from h2); omega)) (fun v39 sv40 p41 => ?_)
          have := congrArg Int32.toInt (show FI 119 1 = x1 from h2)
          obtain ⟨rfl, FI43, rfl, hI44, f45, t48⟩ := p41
          obtain ⟨x51, h52⟩ : ∃ y, FI43 119 1 = y := ⟨_, rfl⟩
          have h52l := congrArg Int32.toInt h52
          have b53 := gI_119_1 hI44; rw [h52] at b53
          show hw sk base _ _ _ _ _ [] _ _
          refine hw_aloadn (aX0_putConstant 42 rfl) rfl ?_
          refine xw_lloadn (aX0_putConstant 43 rfl) rfl ?_
          refine hw_ic (v := (4 : Int32)) (aX0_putConstant 44 rfl) (by decide) ?_
          refine hw_callV (Bs := [.long (a1), .int ((4 : Int32))]) (rest := []) (aX0_putConstant 45 rfl) wc_RX0_36 (by decide) rfl wi_yX0_putNumber wv_yX0_putNumber (c119 hS) (s119 hS) rfl rfl rfl (Nat.le_of_ble_eq_true rfl) (Nat.le_of_ble_eq_true rfl) (k_X0_putNumber (d := d) hS hF hI44 hR (a1) ((4 : Int32)) (by have := congrArg Int32.toInt (show FI43 119 1 = x51 from h52); omega)) (fun v54 sv55 p56 => ?_)
          have := congrArg Int32.toInt (show FI43 119 1 = x51 from h52)
          have := congrArg Int32.toInt (show FI43 119 1 = x51 from h52)
          obtain ⟨rfl, FI58, rfl, hI59, f60, t63, t64⟩ := p56
          obtain ⟨x67, h68⟩ : ∃ y, FI58 119 1 = y := ⟨_, rfl⟩
          have h68l := congrArg Int32.toInt h68
          have b69 := gI_119_1 hI59; rw [h68] at b69
          show hw sk base _ _ _ _ _ [] _ _
          refine xw_goto (tgt := 102) (aX0_putConstant 46 rfl) (by decide) ?_
          refine xw_vret (aX0_putConstant 54 rfl) rfl ?_
          exact ⟨rfl, FI58, rfl, hI59, (gf_tr ex_rf (gf_tr ex_rf gf_rf f45 rfl rfl rfl) f60 rfl rfl rfl), (by have := congrArg Int32.toInt (show FI58 119 1 = x67 from h68); omega), (by have := congrArg Int32.toInt (show FI58 119 1 = x67 from h68); omega)⟩
      · refine hw_aloadn (aX0_putConstant 27 rfl) rfl ?_
        refine hw_bp (v := (10 : Int32)) (aX0_putConstant 28 rfl) (by decide) ?_
        refine hw_callV (Bs := [.int ((10 : Int32))]) (rest := []) (aX0_putConstant 29 rfl) wc_RX0_62 (by decide) rfl wi_yX0_put wv_yX0_put (c119 hS) (s119 hS) rfl rfl rfl (Nat.le_of_ble_eq_true rfl) (Nat.le_of_ble_eq_true rfl) (k_X0_put (d := d + 1) hS hF hI hR ((10 : Int32)) (by have := congrArg Int32.toInt (show FI 119 1 = x1 from h2); omega)) (fun v70 sv71 p72 => ?_)
        have := congrArg Int32.toInt (show FI 119 1 = x1 from h2)
        obtain ⟨rfl, FI74, rfl, hI75, f76, t79⟩ := p72
        obtain ⟨x82, h83⟩ : ∃ y, FI74 119 1 = y := ⟨_, rfl⟩
        have h83l := congrArg Int32.toInt h83
        have b84 := gI_119_1 hI75; rw [h83] at b84
        show hw sk base _ _ _ _ _ [] _ _
        refine hw_aloadn (aX0_putConstant 30 rfl) rfl ?_
        refine xw_lloadn (aX0_putConstant 31 rfl) rfl ?_
        refine hw_ic (v := (2 : Int32)) (aX0_putConstant 32 rfl) (by decide) ?_
        refine hw_callV (Bs := [.long (a1), .int ((2 : Int32))]) (rest := []) (aX0_putConstant 33 rfl) wc_RX0_36 (by decide) rfl wi_yX0_putNumber wv_yX0_putNumber (c119 hS) (s119 hS) rfl rfl rfl (Nat.le_of_ble_eq_true rfl) (Nat.le_of_ble_eq_true rfl) (k_X0_putNumber (d := d) hS hF hI75 hR (a1) ((2 : Int32)) (by have := congrArg Int32.toInt (show FI74 119 1 = x82 from h83); omega)) (fun v85 sv86 p87 => ?_)
        have := congrArg Int32.toInt (show FI74 119 1 = x82 from h83)
        have := congrArg Int32.toInt (show FI74 119 1 = x82 from h83)
        obtain ⟨rfl, FI89, rfl, hI90, f91, t94, t95⟩ := p87
        obtain ⟨x98, h99⟩ : ∃ y, FI89 119 1 = y := ⟨_, rfl⟩
        have h99l := congrArg Int32.toInt h99
        have b100 := gI_119_1 hI90; rw [h99] at b100
        show hw sk base _ _ _ _ _ [] _ _
        refine xw_goto (tgt := 102) (aX0_putConstant 34 rfl) (by decide) ?_
        refine xw_vret (aX0_putConstant 54 rfl) rfl ?_
        exact ⟨rfl, FI89, rfl, hI90, (gf_tr ex_rf (gf_tr ex_rf gf_rf f76 rfl rfl rfl) f91 rfl rfl rfl), (by have := congrArg Int32.toInt (show FI89 119 1 = x98 from h99); omega), (by have := congrArg Int32.toInt (show FI89 119 1 = x98 from h99); omega)⟩
    · refine hw_aloadn (aX0_putConstant 15 rfl) rfl ?_
      refine hw_bp (v := (8 : Int32)) (aX0_putConstant 16 rfl) (by decide) ?_
      refine hw_callV (Bs := [.int ((8 : Int32))]) (rest := []) (aX0_putConstant 17 rfl) wc_RX0_62 (by decide) rfl wi_yX0_put wv_yX0_put (c119 hS) (s119 hS) rfl rfl rfl (Nat.le_of_ble_eq_true rfl) (Nat.le_of_ble_eq_true rfl) (k_X0_put (d := d + 1) hS hF hI hR ((8 : Int32)) (by have := congrArg Int32.toInt (show FI 119 1 = x1 from h2); omega)) (fun v101 sv102 p103 => ?_)
      have := congrArg Int32.toInt (show FI 119 1 = x1 from h2)
      obtain ⟨rfl, FI105, rfl, hI106, f107, t110⟩ := p103
      obtain ⟨x113, h114⟩ : ∃ y, FI105 119 1 = y := ⟨_, rfl⟩
      have h114l := congrArg Int32.toInt h114
      have b115 := gI_119_1 hI106; rw [h114] at b115
      show hw sk base _ _ _ _ _ [] _ _
      refine hw_aloadn (aX0_putConstant 18 rfl) rfl ?_
      refine xw_lloadn (aX0_putConstant 19 rfl) rfl ?_
      refine hw_ic (v := (1 : Int32)) (aX0_putConstant 20 rfl) (by decide) ?_
      refine hw_callV (Bs := [.long (a1), .int ((1 : Int32))]) (rest := []) (aX0_putConstant 21 rfl) wc_RX0_36 (by decide) rfl wi_yX0_putNumber wv_yX0_putNumber (c119 hS) (s119 hS) rfl rfl rfl (Nat.le_of_ble_eq_true rfl) (Nat.le_of_ble_eq_true rfl) (k_X0_putNumber (d := d) hS hF hI106 hR (a1) ((1 : Int32)) (by have := congrArg Int32.toInt (show FI105 119 1 = x113 from h114); omega)) (fun v116 sv117 p118 => ?_)
      have := congrArg Int32.toInt (show FI105 119 1 = x113 from h114)
      have := congrArg Int32.toInt (show FI105 119 1 = x113 from h114)
      obtain ⟨rfl, FI120, rfl, hI121, f122, t125, t126⟩ := p118
      obtain ⟨x129, h130⟩ : ∃ y, FI120 119 1 = y := ⟨_, rfl⟩
      have h130l := congrArg Int32.toInt h130
      have b131 := gI_119_1 hI121; rw [h130] at b131
      show hw sk base _ _ _ _ _ [] _ _
      refine xw_goto (tgt := 102) (aX0_putConstant 22 rfl) (by decide) ?_
      refine xw_vret (aX0_putConstant 54 rfl) rfl ?_
      exact ⟨rfl, FI120, rfl, hI121, (gf_tr ex_rf (gf_tr ex_rf gf_rf f107 rfl rfl rfl) f122 rfl rfl rfl), (by have := congrArg Int32.toInt (show FI120 119 1 = x129 from h130); omega), (by have := congrArg Int32.toInt (show FI120 119 1 = x129 from h130); omega)⟩
  · refine hw_aloadn (aX0_putConstant 4 rfl) rfl ?_
    refine hw_bp (v := (48 : Int32)) (aX0_putConstant 5 rfl) (by decide) ?_
    refine xw_lloadn (aX0_putConstant 6 rfl) rfl ?_
    refine xw_l2i (aX0_putConstant 7 rfl) ?_
    refine hw_ti (fun x132 => ?_)
    have b133 := i_rng x132
    refine xw_iadd (aX0_putConstant 8 rfl) ?_
    have := i_rng (((48 : Int32)) + (x132))
    refine hw_callV (Bs := [.int ((((48 : Int32)) + (x132)))]) (rest := []) (aX0_putConstant 9 rfl) wc_RX0_62 (by decide) rfl wi_yX0_put wv_yX0_put (c119 hS) (s119 hS) rfl rfl rfl (Nat.le_of_ble_eq_true rfl) (Nat.le_of_ble_eq_true rfl) (k_X0_put (d := d + 1) hS hF hI hR ((((48 : Int32)) + (x132))) (by have := congrArg Int32.toInt (show FI 119 1 = x1 from h2); omega)) (fun v134 sv135 p136 => ?_)
    have := congrArg Int32.toInt (show FI 119 1 = x1 from h2)
    obtain ⟨rfl, FI138, rfl, hI139, f140, t143⟩ := p136
    obtain ⟨x146, h147⟩ : ∃ y, FI138 119 1 = y := ⟨_, rfl⟩
    have h147l := congrArg Int32.toInt h147
    have b148 := gI_119_1 hI139; rw [h147] at b148
    show hw sk base _ _ _ _ _ [] _ _
    refine xw_goto (tgt := 102) (aX0_putConstant 10 rfl) (by decide) ?_
    refine xw_vret (aX0_putConstant 54 rfl) rfl ?_
    exact ⟨rfl, FI138, rfl, hI139, (gf_tr ex_rf gf_rf f140 rfl rfl rfl), (by have := congrArg Int32.toInt (show FI138 119 1 = x146 from h147); omega), (by have := congrArg Int32.toInt (show FI138 119 1 = x146 from h147); omega)⟩
set_option maxHeartbeats 4000000 in
set_option maxRecDepth 100000 in
theorem k_isPlainTerm_o {sk : xK} {base d n sl : Nat} {SH : Nat → Nat × Nat} {FI : Nat → Nat → Int32} {FL : Nat → Nat → Int64} {FR : Nat → Nat → Option Nat} (hS : h_S n SH) (hF : h_FR FR) (hI : g_I FI) (hR : g_R n SH FR) (a1 : Option Nat) (ha1t : ∀ q, a1 = some q → q < n ∧ own q ∧ SH q = (3, (SH q).2)) : hw sk base d none 11 0 [(0, va_rf (h_rf base (a1)))] [] (n, sl, SH, FI, FL, FR) (h_I (fun r s => s = (n, sl, SH, FI, FL, FR) ∧ (0 ≤ r.toInt ∧ r.toInt ≤ 1) ∧ (r.toInt = 1 → a1 ≠ none))) := by
  refine xw_aloadn (aX0_isPlainTerm 0 rfl) rfl ?_
  refine xw_ifnull (v := h_rf base a1) (tgt := 34) (aX0_isPlainTerm 1 rfl) (by decide) (fun hn1 => ?_) (fun hn1 => ?_)
  · obtain rfl := h_rf_n hn1
    show hw sk base _ _ _ _ [(0, .null)] [] _ _
    refine hw_ic (v := (0 : Int32)) (aX0_isPlainTerm 16 rfl) (by decide) ?_
    refine xw_iret (aX0_isPlainTerm 17 rfl) rfl (by decide) ?_
    have e2 : ((0 : Int32)).toInt = 0 := (by decide : (0 : Int32).toInt = 0)
    exact ⟨(0 : Int32), rfl, rfl, (by have : ((0 : Int32)).toInt = 0 := (by decide); omega), (by intro h; exact absurd h (by decide))⟩
  · obtain ⟨r3, rfl⟩ := h_rf_s hn1
    obtain ⟨lt4, ow5, sh6⟩ := ha1t r3 rfl
    show hw sk base _ _ _ _ [(0, .ref (base + r3))] [] _ _
    refine hw_aloadn (aX0_isPlainTerm 2 rfl) rfl ?_
    obtain ⟨x7, h8⟩ : ∃ y, FI r3 0 = y := ⟨_, rfl⟩
    have h8l := congrArg Int32.toInt h8
    have := i_rng x7
    refine hw_get (v := .int (x7)) (aX0_isPlainTerm 3 rfl) wf_RX0_96 lt4 sh6 (by decide) (congrArg Value.int (show FI r3 0 = x7 from h8)) ?_
    refine hw_ic (v := (5 : Int32)) (aX0_isPlainTerm 4 rfl) (by decide) ?_
    refine hw_icne (tgt := 34) (aX0_isPlainTerm 5 rfl) (by decide) rfl (by decide : (5 : Int32).toInt = 5) (fun cd9 => ?_) (fun cd9 => ?_)
    · refine hw_ic (v := (0 : Int32)) (aX0_isPlainTerm 16 rfl) (by decide) ?_
      refine xw_iret (aX0_isPlainTerm 17 rfl) rfl (by decide) ?_
      have e10 : ((0 : Int32)).toInt = 0 := (by decide : (0 : Int32).toInt = 0)
      exact ⟨(0 : Int32), rfl, rfl, (by have : ((0 : Int32)).toInt = 0 := (by decide); omega), (by intro h; exact absurd h (by decide))⟩
    · refine hw_aloadn (aX0_isPlainTerm 6 rfl) rfl ?_
      obtain ⟨x11, h12⟩ : ∃ y, FI r3 2 = y := ⟨_, rfl⟩
      have h12l := congrArg Int32.toInt h12
      have := i_rng x11
      refine hw_get (v := .int (x11)) (aX0_isPlainTerm 7 rfl) wf_RX0_139 lt4 sh6 (by decide) (congrArg Value.int (show FI r3 2 = x11 from h12)) ?_
      refine hw_bp (v := (43 : Int32)) (aX0_isPlainTerm 8 rfl) (by decide) ?_
      refine hw_iceq (tgt := 30) (aX0_isPlainTerm 9 rfl) (by decide) rfl (by decide : (43 : Int32).toInt = 43) (fun cd13 => ?_) (fun cd13 => ?_)
      · refine hw_ic (v := (1 : Int32)) (aX0_isPlainTerm 14 rfl) (by decide) ?_
        refine xw_goto (tgt := 35) (aX0_isPlainTerm 15 rfl) (by decide) ?_
        refine xw_iret (aX0_isPlainTerm 17 rfl) rfl (by decide) ?_
        have e14 : ((1 : Int32)).toInt = 1 := (by decide : (1 : Int32).toInt = 1)
        exact ⟨(1 : Int32), rfl, rfl, (by have : ((1 : Int32)).toInt = 1 := (by decide); omega), (by intro _; simp)⟩
      · refine hw_aloadn (aX0_isPlainTerm 10 rfl) rfl ?_
        refine hw_get (v := .int (x11)) (aX0_isPlainTerm 11 rfl) wf_RX0_139 lt4 sh6 (by decide) (congrArg Value.int (show FI r3 2 = x11 from h12)) ?_
        refine hw_bp (v := (45 : Int32)) (aX0_isPlainTerm 12 rfl) (by decide) ?_
        refine hw_icne (tgt := 34) (aX0_isPlainTerm 13 rfl) (by decide) rfl (by decide : (45 : Int32).toInt = 45) (fun cd15 => ?_) (fun cd15 => ?_)
        · refine hw_ic (v := (0 : Int32)) (aX0_isPlainTerm 16 rfl) (by decide) ?_
          refine xw_iret (aX0_isPlainTerm 17 rfl) rfl (by decide) ?_
          have e16 : ((0 : Int32)).toInt = 0 := (by decide : (0 : Int32).toInt = 0)
          exact ⟨(0 : Int32), rfl, rfl, (by have : ((0 : Int32)).toInt = 0 := (by decide); omega), (by intro h; exact absurd h (by decide))⟩
        · refine hw_ic (v := (1 : Int32)) (aX0_isPlainTerm 14 rfl) (by decide) ?_
          refine xw_goto (tgt := 35) (aX0_isPlainTerm 15 rfl) (by decide) ?_
          refine xw_iret (aX0_isPlainTerm 17 rfl) rfl (by decide) ?_
          have e17 : ((1 : Int32)).toInt = 1 := (by decide : (1 : Int32).toInt = 1)
          exact ⟨(1 : Int32), rfl, rfl, (by have : ((1 : Int32)).toInt = 1 := (by decide); omega), (by intro _; simp)⟩
end
