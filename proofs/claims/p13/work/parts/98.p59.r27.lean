def nX12_bases : Nat := 0xb18d02b57801b6602e1700b42a1400b42a681700b42a580211681700b42a580211042a2a7501b6e803112ab18d02b50b102a0a00a0021700b42a
theorem bX12_bases : cX12_bases.data.toList.map UInt8.toNat = x_un nX12_bases 58 := by decide +kernel
def iX12_bases : List (Nat × Jvm.ClassFile.Instr × Nat) := [(0, .aload_n 0, 1), (1, .getfield 23, 3), (4, .iconst (-1), 1), (5, .if_icmp .ne 10, 3), (8, .aload_n 0, 1), (9, .bipush 11, 2), (11, .putfield 653, 3), (14, .return_, 1), (15, .aload_n 0, 1), (16, .sipush 1000, 3), (19, .invokevirtual 373, 3), (22, .aload_n 0, 1), (23, .aload_n 0, 1), (24, .iconst 1, 1), (25, .sipush 600, 3), (28, .aload_n 0, 1), (29, .getfield 23, 3), (32, .imul, 1), (33, .sipush 600, 3), (36, .aload_n 0, 1), (37, .getfield 23, 3), (40, .imul, 1), (41, .aload_n 0, 1), (42, .getfield 20, 3), (45, .aload_n 0, 1), (46, .getfield 23, 3), (49, .iaload, 1), (50, .iadd, 1), (51, .invokevirtual 376, 3), (54, .putfield 653, 3), (57, .return_, 1)]
theorem dX12_bases : x_il nX12_bases 58 iX12_bases = true := by decide +kernel
theorem aX12_bases (k : Nat) {pc : Nat} {i : Jvm.ClassFile.Instr} {len : Nat} (hk : iX12_bases[k]? = some (pc, i, len)) : x_at xMM 262 pc i len yX12_bases 1 none := ⟨cX12_bases, rfl, x_il_ok bX12_bases dX12_bases k hk⟩
set_option maxHeartbeats 4000000 in
set_option maxRecDepth 100000 in
theorem n_bases {zk : xK} {base d n sl : Nat} {SH : Nat → Nat × Nat} {FI : Nat → Nat → Int32} {FL : Nat → Nat → Int64} {FR : Nat → Nat → Option Nat} (hS : h_S n SH) (hF : h_FR FR) (hI : g_I FI) (rel_hold : rl_h 2 (FI 136) (FL 137) (FI 138)) (rel_piece : rl_h 32 (FI 130) (FL 131) (FI 134)) (rel_back : rl_b (FI 139) (FI 140) (FI 141)) : hw zk base (d + 5) none 262 0 [(0, .ref (base + 121))] [] (n, sl, SH, FI, FL, FR) (h_V (fun s => ∃ FI' FL', s = (n, sl, SH, FI', FL', FR) ∧ g_I FI' ∧ g_fr n SH [(121, 29), (121, 30), (121, 31), (121, 32), (121, 33), (121, 34), (121, 37), (121, 38), (121, 93)] [128, 129, 130, 132, 133, 134, 135, 136, 138, 139, 140, 141, 142] [] FI FI' ∧ g_fr n SH [(121, 35), (121, 36), (121, 39)] [127, 131, 137] [] FL FL' ∧ (rl_h 2 (FI' 136) (FL' 137) (FI' 138)) ∧ (rl_h 32 (FI' 130) (FL' 131) (FI' 134)) ∧ (rl_b (FI' 139) (FI' 140) (FI' 141)))) := by
  refine hw_aloadn (aX12_bases 0 rfl) rfl ?_
  obtain ⟨x1, h2⟩ : ∃ y, FI 121 5 = y := ⟨_, rfl⟩
  have h2l := congrArg Int32.toInt h2
  have b3 := gI_121_5 hI; rw [h2] at b3
  refine hw_get (v := .int (x1)) (aX12_bases 1 rfl) wf_RX12_23 (c121 hS) (s121 hS) (by decide) (congrArg Value.int (show FI 121 5 = x1 from h2)) ?_
  refine hw_ic (v := ((-1) : Int32)) (aX12_bases 2 rfl) (by decide) ?_
  refine hw_icne (tgt := 15) (aX12_bases 3 rfl) (by decide) rfl (by decide : ((-1) : Int32).toInt = (-1)) (fun cd4 => ?_) (fun cd4 => ?_)
  · refine hw_aloadn (aX12_bases 8 rfl) rfl ?_
    refine hw_sp (v := (1000 : Int32)) (aX12_bases 9 rfl) (by decide) ?_
    refine hw_callV (Bs := [.int ((1000 : Int32))]) (rest := []) (aX12_bases 10 rfl) wc_RX12_373 (by decide) rfl wi_yX12_begins wv_yX12_begins (c121 hS) (s121 hS) rfl rfl rfl (Nat.le_of_ble_eq_true rfl) (Nat.le_of_ble_eq_true rfl) (m_begins (d := d + 4) hS hF ((1000 : Int32)) ) (fun v5 sv6 p7 => ?_)
    have := ((by decide : (1000 : Int32).toInt = 1000) : ((1000 : Int32)).toInt = 1000)
    obtain ⟨rfl, FI9, FL10, rfl, f11, rfl, t13, t14⟩ := p7
    have f15 : g_fr n SH [(121, 29), (121, 30), (121, 31), (121, 32), (121, 33)] [] [] FI FI9 := gf_old f11
    have rl16 : rl_h 2 (FI9 136) (FL 137) (FI9 138) := by rw [show FI9 136 = FI 136 from f11.2 136 (by decide) (by decide), show FI9 138 = FI 138 from f11.2 138 (by decide) (by decide)]; exact rel_hold
    have rl17 : rl_h 32 (FI9 130) (FL 131) (FI9 134) := by rw [show FI9 130 = FI 130 from f11.2 130 (by decide) (by decide), show FI9 134 = FI 134 from f11.2 134 (by decide) (by decide)]; exact rel_piece
    have rl18 : rl_b (FI9 139) (FI9 140) (FI9 141) := by rw [show FI9 139 = FI 139 from f11.2 139 (by decide) (by decide), show FI9 140 = FI 140 from f11.2 140 (by decide) (by decide), show FI9 141 = FI 141 from f11.2 141 (by decide) (by decide)]; exact rel_back
    have hI19 : g_I FI9 := g_old hI f11 (g_kc (P := fun k => (g_r 121 k).1 ≤ (FI9 121 k).toInt ∧ (FI9 121 k).toInt ≤ (g_r 121 k).2) (g_full rfl) (g_kc (P := fun k => (g_r 121 k).1 ≤ (FI9 121 k).toInt ∧ (FI9 121 k).toInt ≤ (g_r 121 k).2) (g_full rfl) (g_kc (P := fun k => (g_r 121 k).1 ≤ (FI9 121 k).toInt ∧ (FI9 121 k).toInt ≤ (g_r 121 k).2) (g_full rfl) (g_kc (P := fun k => (g_r 121 k).1 ≤ (FI9 121 k).toInt ∧ (FI9 121 k).toInt ≤ (g_r 121 k).2) (g_full rfl) (g_kc (P := fun k => (g_r 121 k).1 ≤ (FI9 121 k).toInt ∧ (FI9 121 k).toInt ≤ (g_r 121 k).2) (g_full rfl) g_k0))))) g_k0
    obtain ⟨x20, h21⟩ : ∃ y, FI9 121 30 = y := ⟨_, rfl⟩
    have h21l := congrArg Int32.toInt h21
    have := i_rng x20
    obtain ⟨x22, h23⟩ : ∃ y, FI9 121 29 = y := ⟨_, rfl⟩
    have h23l := congrArg Int32.toInt h23
    have := i_rng x22
    show hw zk base _ _ _ _ _ [] _ _
    refine hw_aloadn (aX12_bases 11 rfl) rfl ?_
    refine hw_aloadn (aX12_bases 12 rfl) rfl ?_
    refine hw_ic (v := (1 : Int32)) (aX12_bases 13 rfl) (by decide) ?_
    refine hw_sp (v := (600 : Int32)) (aX12_bases 14 rfl) (by decide) ?_
    refine hw_aloadn (aX12_bases 15 rfl) rfl ?_
    refine hw_get (v := .int (x1)) (aX12_bases 16 rfl) wf_RX12_23 (c121 hS) (s121 hS) (by decide) (congrArg Value.int (show FI9 121 5 = x1 from (gf_at f15 (c121 hS) (s121 hS) rfl (h2)))) ?_
    refine xw_imul (aX12_bases 17 rfl) ?_
    refine hw_tie (A := (600) * ((x1).toInt)) (i_mul (by decide : (600 : Int32).toInt = 600) rfl (by omega) (by omega)) (fun x24 e25 => ?_)
    refine hw_sp (v := (600 : Int32)) (aX12_bases 18 rfl) (by decide) ?_
    refine hw_aloadn (aX12_bases 19 rfl) rfl ?_
    refine hw_get (v := .int (x1)) (aX12_bases 20 rfl) wf_RX12_23 (c121 hS) (s121 hS) (by decide) (congrArg Value.int (show FI9 121 5 = x1 from (gf_at f15 (c121 hS) (s121 hS) rfl (h2)))) ?_
    refine xw_imul (aX12_bases 21 rfl) ?_
    refine hw_tie (A := (600) * ((x1).toInt)) (i_mul (by decide : (600 : Int32).toInt = 600) rfl (by omega) (by omega)) (fun x26 e27 => ?_)
    refine hw_aloadn (aX12_bases 22 rfl) rfl ?_
    refine hw_get (v := .ref (base + 125)) (aX12_bases 23 rfl) wf_RX12_20 (c121 hS) (s121 hS) (by decide) (congrArg (fun r => va_rf (h_rf base r)) (r121_4 hF)) ?_
    refine hw_aloadn (aX12_bases 24 rfl) rfl ?_
    refine hw_get (v := .int (x1)) (aX12_bases 25 rfl) wf_RX12_23 (c121 hS) (s121 hS) (by decide) (congrArg Value.int (show FI9 121 5 = x1 from (gf_at f15 (c121 hS) (s121 hS) rfl (h2)))) ?_
    obtain ⟨x28, h29⟩ : ∃ y, FI9 125 (x1).toNatClampNeg = y := ⟨_, rfl⟩
    have h29l := congrArg Int32.toInt h29
    have := i_rng x28
    refine hw_iald (v := x28) (aX12_bases 26 rfl) (c125 hS) (s125 hS) (h_in rfl (by omega) (by omega)) (show FI9 125 (x1).toNatClampNeg = x28 from h29) ?_
    have b30 := gI_125 hI19 (i_lt (x := x1) rfl (by omega) (by omega)); rw [h29] at b30
    refine xw_iadd (aX12_bases 27 rfl) ?_
    refine hw_tie (A := ((600) * ((x1).toInt)) + ((x28).toInt)) (i_add e27 rfl (by omega) (by omega)) (fun x31 e32 => ?_)
    refine hw_callV (Bs := [.int ((1 : Int32)), .int (x24), .int (x31)]) (rest := [.ref (base + 121)]) (aX12_bases 28 rfl) wc_RX12_376 (by decide) rfl wi_yX12_exec wv_yX12_exec (c121 hS) (s121 hS) rfl rfl rfl (Nat.le_of_ble_eq_true rfl) (Nat.le_of_ble_eq_true rfl) (n_exec1 (d := d) hS hF hI19 (x24) (x31) (by have := (e25 : (x24).toInt = (600) * ((x1).toInt)); have := (e32 : (x31).toInt = ((600) * ((x1).toInt)) + ((x28).toInt)); omega) (by have := (e32 : (x31).toInt = ((600) * ((x1).toInt)) + ((x28).toInt)); have := (e25 : (x24).toInt = (600) * ((x1).toInt)); omega) (by have := congrArg Int32.toInt (show FI9 121 29 = x22 from h23); omega) (by have := congrArg Int32.toInt (show FI9 121 30 = x20 from h21); have := congrArg Int32.toInt (show FI9 121 30 = x20 from h21); omega) (by have := (e25 : (x24).toInt = (600) * ((x1).toInt)); have := (e25 : (x24).toInt = (600) * ((x1).toInt)); omega) (by have := (e32 : (x31).toInt = ((600) * ((x1).toInt)) + ((x28).toInt)); have := (e32 : (x31).toInt = ((600) * ((x1).toInt)) + ((x28).toInt)); omega) (show rl_h 2 (FI9 136) (FL 137) (FI9 138) from rl16) (show rl_h 32 (FI9 130) (FL 131) (FI9 134) from rl17) (show rl_b (FI9 139) (FI9 140) (FI9 141) from rl18)) (fun v33 sv34 p35 => ?_)
    obtain ⟨r36, rfl, FI37, FL38, rfl, hI39, f40, f41, rl42, rl43, rl44⟩ := p35
    have rg_r36 := i_rng r36
    show hw zk base _ _ _ _ _ [.int (r36), .ref (base + 121)] _ _
    refine hv_puti (aX12_bases 29 rfl) wf_RX12_653 (c121 hS) (s121 hS) (by decide) rfl rfl (fun FI45 u46 => ?_)
    have rl47 : rl_h 2 (FI45 136) (FL38 137) (FI45 138) := by rw [show FI45 136 = FI37 136 from up_row u46 (by decide) rfl, show FI45 138 = FI37 138 from up_row u46 (by decide) rfl]; exact rl42
    have rl48 : rl_h 32 (FI45 130) (FL38 131) (FI45 134) := by rw [show FI45 130 = FI37 130 from up_row u46 (by decide) rfl, show FI45 134 = FI37 134 from up_row u46 (by decide) rfl]; exact rl43
    have rl49 : rl_b (FI45 139) (FI45 140) (FI45 141) := by rw [show FI45 139 = FI37 139 from up_row u46 (by decide) rfl, show FI45 140 = FI37 140 from up_row u46 (by decide) rfl, show FI45 141 = FI37 141 from up_row u46 (by decide) rfl]; exact rl44
    have hI50 : g_I FI45 := gU_F hI39 u46 rfl
    refine xw_vret (aX12_bases 30 rfl) rfl ?_
    exact ⟨rfl, FI45, FL38, rfl, hI50, (gf_f (gf_tr ex_rf (gf_tr ex_rf gf_rf f15 rfl rfl rfl) f40 rfl rfl rfl) u46 (by decide)), (gf_tr ex_rf gf_rf f41 rfl rfl rfl), (show rl_h 2 (FI45 136) (FL38 137) (FI45 138) from rl47), (show rl_h 32 (FI45 130) (FL38 131) (FI45 134) from rl48), (show rl_b (FI45 139) (FI45 140) (FI45 141) from rl49)⟩
  · refine hw_aloadn (aX12_bases 4 rfl) rfl ?_
    refine hw_bp (v := (11 : Int32)) (aX12_bases 5 rfl) (by decide) ?_
    refine hv_puti (aX12_bases 6 rfl) wf_RX12_653 (c121 hS) (s121 hS) (by decide) rfl rfl (fun FI51 u52 => ?_)
    have rl53 : rl_h 2 (FI51 136) (FL 137) (FI51 138) := by rw [show FI51 136 = FI 136 from up_row u52 (by decide) rfl, show FI51 138 = FI 138 from up_row u52 (by decide) rfl]; exact rel_hold
    have rl54 : rl_h 32 (FI51 130) (FL 131) (FI51 134) := by rw [show FI51 130 = FI 130 from up_row u52 (by decide) rfl, show FI51 134 = FI 134 from up_row u52 (by decide) rfl]; exact rel_piece
    have rl55 : rl_b (FI51 139) (FI51 140) (FI51 141) := by rw [show FI51 139 = FI 139 from up_row u52 (by decide) rfl, show FI51 140 = FI 140 from up_row u52 (by decide) rfl, show FI51 141 = FI 141 from up_row u52 (by decide) rfl]; exact rel_back
    have hI56 : g_I FI51 := gU_F hI u52 rfl
    refine xw_vret (aX12_bases 7 rfl) rfl ?_
    exact ⟨rfl, FI51, FL, rfl, hI56, (gf_f gf_rf u52 (by decide)), gf_rf, (show rl_h 2 (FI51 136) (FL 137) (FI51 138) from rl53), (show rl_h 32 (FI51 130) (FL 131) (FI51 134) from rl54), (show rl_b (FI51 139) (FI51 140) (FI51 141) from rl55)⟩
