def nX5_become : Nat := 0xb11600b5032a1300b5032a0f00b5202a0900b51b2a
theorem bX5_become : cX5_become.data.toList.map UInt8.toNat = x_un nX5_become 21 := by decide +kernel
def iX5_become : List (Nat × Jvm.ClassFile.Instr × Nat) := [(0, .aload_n 0, 1), (1, .iload_n 1, 1), (2, .putfield 9, 3), (5, .aload_n 0, 1), (6, .lload_n 2, 1), (7, .putfield 15, 3), (10, .aload_n 0, 1), (11, .iconst 0, 1), (12, .putfield 19, 3), (15, .aload_n 0, 1), (16, .iconst 0, 1), (17, .putfield 22, 3), (20, .return_, 1)]
theorem dX5_become : x_il nX5_become 21 iX5_become = true := by decide +kernel
theorem aX5_become (k : Nat) {pc : Nat} {i : Jvm.ClassFile.Instr} {len : Nat} (hk : iX5_become[k]? = some (pc, i, len)) : x_at xMM 59 pc i len yX5_become 4 none := ⟨cX5_become, rfl, x_il_ok bX5_become dX5_become k hk⟩
set_option maxHeartbeats 4000000 in
set_option maxRecDepth 100000 in
theorem k_X5_become {sk : xK} {base d n sl : Nat} {SH : Nat → Nat × Nat} {FI : Nat → Nat → Int32} {FL : Nat → Nat → Int64} {FR : Nat → Nat → Option Nat} (hS : h_S n SH) (hF : h_FR FR) (hI : g_I FI) (hR : g_R n SH FR) (c : Nat) {zc : Nat} (hc : c < n) (hsc : SH c = (5, zc)) (hoc : own c) (a1 : Int32) (a2 : Int64) : hw sk base d none 59 0 [(0, .ref (base + c)), (1, .int (a1)), (2, .long (a2))] [] (n, sl, SH, FI, FL, FR) (h_V (fun s => ∃ FI' FL', s = (n, sl, SH, FI', FL', FR) ∧ g_I FI' ∧ g_fr n (shd SH) [] [] [5] FI FI' ∧ g_fr n (shd SH) [] [] [5] FL FL')) := by
  have rg_a1 := i_rng a1
  have rg_a2 := l_rng a2
  refine hw_aloadn (aX5_become 0 rfl) rfl ?_
  refine xw_iloadn (aX5_become 1 rfl) rfl ?_
  refine hv_puti (aX5_become 2 rfl) wf_RX5_9 hc hsc (by decide) rfl rfl (fun FI1 u2 => ?_)
  have hI3 : g_I FI1 := gU_g hI hS u2 hsc (by decide +kernel)
  refine hw_aloadn (aX5_become 3 rfl) rfl ?_
  refine xw_lloadn (aX5_become 4 rfl) rfl ?_
  refine hv_putl (aX5_become 5 rfl) wf_RX5_15 hc hsc (by decide) rfl rfl (fun FL4 u5 => ?_)
  refine hw_aloadn (aX5_become 6 rfl) rfl ?_
  refine hw_ic (v := (0 : Int32)) (aX5_become 7 rfl) (by decide) ?_
  refine hv_puti (aX5_become 8 rfl) wf_RX5_19 hc hsc (by decide) rfl rfl (fun FI6 u7 => ?_)
  have hI8 : g_I FI6 := gU_g hI3 hS u7 hsc (by decide +kernel)
  refine hw_aloadn (aX5_become 9 rfl) rfl ?_
  refine hw_ic (v := (0 : Int32)) (aX5_become 10 rfl) (by decide) ?_
  refine hv_puti (aX5_become 11 rfl) wf_RX5_22 hc hsc (by decide) rfl rfl (fun FI9 u10 => ?_)
  have hI11 : g_I FI9 := gU_g hI8 hS u10 hsc (by decide +kernel)
  refine xw_vret (aX5_become 12 rfl) rfl ?_
  exact ⟨rfl, FI9, FL4, rfl, hI11, (gf_t (gf_t (gf_t gf_rf u2 (shd_f (fix_t2 hS hR hc hsc (by unfold g_dt; omega) (by decide +kernel)) hsc) (by decide)) u7 (shd_f (fix_t2 hS hR hc hsc (by unfold g_dt; omega) (by decide +kernel)) hsc) (by decide)) u10 (shd_f (fix_t2 hS hR hc hsc (by unfold g_dt; omega) (by decide +kernel)) hsc) (by decide)), (gf_t gf_rf u5 (shd_f (fix_t2 hS hR hc hsc (by unfold g_dt; omega) (by decide +kernel)) hsc) (by decide))⟩
def nX5_becomeBlock : Nat := 0xb12100b51c2a1d00b52b2a1900b6851d072a
theorem bX5_becomeBlock : cX5_becomeBlock.data.toList.map UInt8.toNat = x_un nX5_becomeBlock 18 := by decide +kernel
def iX5_becomeBlock : List (Nat × Jvm.ClassFile.Instr × Nat) := [(0, .aload_n 0, 1), (1, .iconst 4, 1), (2, .iload_n 3, 1), (3, .i2l, 1), (4, .invokevirtual 25, 3), (7, .aload_n 0, 1), (8, .aload_n 1, 1), (9, .putfield 29, 3), (12, .aload_n 0, 1), (13, .iload_n 2, 1), (14, .putfield 33, 3), (17, .return_, 1)]
theorem dX5_becomeBlock : x_il nX5_becomeBlock 18 iX5_becomeBlock = true := by decide +kernel
theorem aX5_becomeBlock (k : Nat) {pc : Nat} {i : Jvm.ClassFile.Instr} {len : Nat} (hk : iX5_becomeBlock[k]? = some (pc, i, len)) : x_at xMM 60 pc i len yX5_becomeBlock 4 none := ⟨cX5_becomeBlock, rfl, x_il_ok bX5_becomeBlock dX5_becomeBlock k hk⟩
set_option maxHeartbeats 4000000 in
set_option maxRecDepth 100000 in
theorem k_X5_becomeBlock {sk : xK} {base d n sl : Nat} {SH : Nat → Nat × Nat} {FI : Nat → Nat → Int32} {FL : Nat → Nat → Int64} {FR : Nat → Nat → Option Nat} (hS : h_S n SH) (hF : h_FR FR) (hI : g_I FI) (hR : g_R n SH FR) (c : Nat) {zc : Nat} (hc : c < n) (hsc : SH c = (5, zc)) (hoc : own c) (a1 : Nat) {z1 : Nat} (ha1l : a1 < n) (ha1s : SH a1 = (100, z1)) (ha1o : own a1) (a2 : Int32) (a3 : Int32) : hw sk base (d + 1) none 60 0 [(0, .ref (base + c)), (1, .ref (base + a1)), (2, .int (a2)), (3, .int (a3))] [] (n, sl, SH, FI, FL, FR) (h_V (fun s => ∃ FI' FL' FR', s = (n, sl, SH, FI', FL', FR') ∧ g_I FI' ∧ g_fr n (shd SH) [] [] [5] FI FI' ∧ g_fr n (shd SH) [] [] [5] FL FL' ∧ g_fr n (shd SH) [] [] [5] FR FR' ∧ h_FR FR' ∧ g_R n SH FR')) := by
  have rg_a2 := i_rng a2
  have rg_a3 := i_rng a3
  refine hw_aloadn (aX5_becomeBlock 0 rfl) rfl ?_
  refine hw_ic (v := (4 : Int32)) (aX5_becomeBlock 1 rfl) (by decide) ?_
  refine xw_iloadn (aX5_becomeBlock 2 rfl) rfl ?_
  refine xw_i2l (aX5_becomeBlock 3 rfl) ?_
  refine hw_tle (A := (a3).toInt) (i_2l rfl) (fun x1 e2 => ?_)
  refine hw_callV (Bs := [.int ((4 : Int32)), .long (x1)]) (rest := []) (aX5_becomeBlock 4 rfl) wc_RX5_25 (by decide) rfl wi_yX5_become wv_yX5_become hc hsc rfl rfl rfl (Nat.le_of_ble_eq_true rfl) (Nat.le_of_ble_eq_true rfl) (k_X5_become (d := d) hS hF hI hR (c) hc hsc hoc ((4 : Int32)) (x1) ) (fun v3 sv4 p5 => ?_)
  obtain ⟨rfl, FI7, FL8, rfl, hI9, f10, f11⟩ := p5
  show hw sk base _ _ _ _ _ [] _ _
  refine hw_aloadn (aX5_becomeBlock 5 rfl) rfl ?_
  refine hw_aloadn (aX5_becomeBlock 6 rfl) rfl ?_
  refine hv_putr (r := some (a1)) (aX5_becomeBlock 7 rfl) wf_RX5_29 hc hsc (by decide) (by first | exact Or.inl ⟨_, rfl⟩ | exact Or.inr ⟨_, rfl⟩) (Or.inl rfl) (fun FR16 u17 => ?_)
  have hF18 : h_FR FR16 := hF_up hS hF u17 hsc (by decide +kernel)
  have hR19 : g_R n SH FR16 := gR_up hR u17 hsc (fun r e => by cases e; exact ⟨ha1l, ha1o, by rw [ha1s]; rfl⟩) (fun h => absurd h (by have := (fix_t2 hS hR hc hsc (by unfold g_dt; omega) (by decide +kernel)); omega)) (fun _ => by simp) (fun h => absurd h.1 (ne_tag hsc (s49 hS) (by decide)))
  refine hw_aloadn (aX5_becomeBlock 8 rfl) rfl ?_
  refine xw_iloadn (aX5_becomeBlock 9 rfl) rfl ?_
  refine hv_puti (aX5_becomeBlock 10 rfl) wf_RX5_33 hc hsc (by decide) rfl rfl (fun FI20 u21 => ?_)
  have hI22 : g_I FI20 := gU_g hI9 hS u21 hsc (by decide +kernel)
  refine xw_vret (aX5_becomeBlock 11 rfl) rfl ?_
  exact ⟨rfl, FI20, FL8, FR16, rfl, hI22, (gf_t (gf_tr ex_rf gf_rf f10 rfl rfl rfl) u21 (shd_f (fix_t2 hS hR19 hc hsc (by unfold g_dt; omega) (by decide +kernel)) hsc) (by decide)), (gf_tr ex_rf gf_rf f11 rfl rfl rfl), (gf_t gf_rf u17 (shd_f (fix_t2 hS hR hc hsc (by unfold g_dt; omega) (by decide +kernel)) hsc) (by decide)), hF18, hR19⟩
def nX5_take : Nat := 0xb12100b52100b42b2a1d00b51d00b42b2a1600b51600b42b2a1300b51300b42b2a0f00b50f00b42b2a0900b50900b42b2a
theorem bX5_take : cX5_take.data.toList.map UInt8.toNat = x_un nX5_take 49 := by decide +kernel
def iX5_take : List (Nat × Jvm.ClassFile.Instr × Nat) := [(0, .aload_n 0, 1), (1, .aload_n 1, 1), (2, .getfield 9, 3), (5, .putfield 9, 3), (8, .aload_n 0, 1), (9, .aload_n 1, 1), (10, .getfield 15, 3), (13, .putfield 15, 3), (16, .aload_n 0, 1), (17, .aload_n 1, 1), (18, .getfield 19, 3), (21, .putfield 19, 3), (24, .aload_n 0, 1), (25, .aload_n 1, 1), (26, .getfield 22, 3), (29, .putfield 22, 3), (32, .aload_n 0, 1), (33, .aload_n 1, 1), (34, .getfield 29, 3), (37, .putfield 29, 3), (40, .aload_n 0, 1), (41, .aload_n 1, 1), (42, .getfield 33, 3), (45, .putfield 33, 3), (48, .return_, 1)]
theorem dX5_take : x_il nX5_take 49 iX5_take = true := by decide +kernel
theorem aX5_take (k : Nat) {pc : Nat} {i : Jvm.ClassFile.Instr} {len : Nat} (hk : iX5_take[k]? = some (pc, i, len)) : x_at xMM 61 pc i len yX5_take 2 none := ⟨cX5_take, rfl, x_il_ok bX5_take dX5_take k hk⟩
set_option maxHeartbeats 4000000 in
set_option maxRecDepth 100000 in
theorem k_X5_take {sk : xK} {base d n sl : Nat} {SH : Nat → Nat × Nat} {FI : Nat → Nat → Int32} {FL : Nat → Nat → Int64} {FR : Nat → Nat → Option Nat} (hS : h_S n SH) (hF : h_FR FR) (hI : g_I FI) (hR : g_R n SH FR) (c : Nat) {zc : Nat} (hc : c < n) (hsc : SH c = (5, zc)) (hoc : own c) (a1 : Nat) {z1 : Nat} (ha1l : a1 < n) (ha1s : SH a1 = (5, z1)) (ha1o : own a1) : hw sk base d none 61 0 [(0, .ref (base + c)), (1, .ref (base + a1))] [] (n, sl, SH, FI, FL, FR) (h_V (fun s => ∃ FI' FL' FR', s = (n, sl, SH, FI', FL', FR') ∧ g_I FI' ∧ g_fr n (shd SH) [] [] [5] FI FI' ∧ g_fr n (shd SH) [] [] [5] FL FL' ∧ g_fr n (shd SH) [] [] [5] FR FR' ∧ h_FR FR' ∧ g_R n SH FR')) := by
  refine hw_aloadn (aX5_take 0 rfl) rfl ?_
  refine hw_aloadn (aX5_take 1 rfl) rfl ?_
  obtain ⟨x1, h2⟩ : ∃ y, FI a1 0 = y := ⟨_, rfl⟩
  have h2l := congrArg Int32.toInt h2
  have := i_rng x1
  refine hw_get (v := .int (x1)) (aX5_take 2 rfl) wf_RX5_9 ha1l ha1s (by decide) (congrArg Value.int (show FI a1 0 = x1 from h2)) ?_
  refine hv_puti (aX5_take 3 rfl) wf_RX5_9 hc hsc (by decide) rfl rfl (fun FI3 u4 => ?_)
  have hI5 : g_I FI3 := gU_g hI hS u4 hsc (by decide +kernel)
  refine hw_aloadn (aX5_take 4 rfl) rfl ?_
  refine hw_aloadn (aX5_take 5 rfl) rfl ?_
  obtain ⟨x6, h7⟩ : ∃ y, FL a1 1 = y := ⟨_, rfl⟩
  have h7l := congrArg Int64.toInt h7
  have := l_rng x6
  refine hw_get (v := .long (x6)) (aX5_take 6 rfl) wf_RX5_15 ha1l ha1s (by decide) (congrArg Value.long (show FL a1 1 = x6 from h7)) ?_
  refine hv_putl (aX5_take 7 rfl) wf_RX5_15 hc hsc (by decide) rfl rfl (fun FL8 u9 => ?_)
  refine hw_aloadn (aX5_take 8 rfl) rfl ?_
  refine hw_aloadn (aX5_take 9 rfl) rfl ?_
  obtain ⟨x10, h11⟩ : ∃ y, FI3 a1 2 = y := ⟨_, rfl⟩
  have h11l := congrArg Int32.toInt h11
  have := i_rng x10
  refine hw_get (v := .int (x10)) (aX5_take 10 rfl) wf_RX5_19 ha1l ha1s (by decide) (congrArg Value.int (show FI3 a1 2 = x10 from h11)) ?_
  refine hv_puti (aX5_take 11 rfl) wf_RX5_19 hc hsc (by decide) rfl rfl (fun FI12 u13 => ?_)
  have hI14 : g_I FI12 := gU_g hI5 hS u13 hsc (by decide +kernel)
  refine hw_aloadn (aX5_take 12 rfl) rfl ?_
  refine hw_aloadn (aX5_take 13 rfl) rfl ?_
  obtain ⟨x15, h16⟩ : ∃ y, FI12 a1 3 = y := ⟨_, rfl⟩
  have h16l := congrArg Int32.toInt h16
  have := i_rng x15
  refine hw_get (v := .int (x15)) (aX5_take 14 rfl) wf_RX5_22 ha1l ha1s (by decide) (congrArg Value.int (show FI12 a1 3 = x15 from h16)) ?_
  refine hv_puti (aX5_take 15 rfl) wf_RX5_22 hc hsc (by decide) rfl rfl (fun FI17 u18 => ?_)
  have hI19 : g_I FI17 := gU_g hI14 hS u18 hsc (by decide +kernel)
  refine hw_aloadn (aX5_take 16 rfl) rfl ?_
  refine hw_aloadn (aX5_take 17 rfl) rfl ?_
  obtain ⟨o20, h21⟩ : ∃ y, FR a1 4 = y := ⟨_, rfl⟩
  have ht22 : ∀ r, o20 = some r → r < n ∧ own r ∧ SH r = (100, (SH r).2) := fun r e => gR_get hR ha1l ha1o ha1s (h21.trans e)
  refine hw_get (v := va_rf (h_rf base (o20))) (aX5_take 18 rfl) wf_RX5_29 ha1l ha1s (by decide) (congrArg (fun r => va_rf (h_rf base r)) (show FR a1 4 = o20 from h21)) ?_
  refine hv_putr (r := o20) (aX5_take 19 rfl) wf_RX5_29 hc hsc (by decide) (by first | exact Or.inl ⟨_, rfl⟩ | exact Or.inr ⟨_, rfl⟩) (Or.inl rfl) (fun FR23 u24 => ?_)
  have hF25 : h_FR FR23 := hF_up hS hF u24 hsc (by decide +kernel)
  have hR26 : g_R n SH FR23 := gR_up hR u24 hsc (fun r e => by obtain ⟨a, b, c⟩ := ht22 r e; exact ⟨a, b, by rw [c]; rfl⟩) (fun h => absurd h (by have := (fix_t2 hS hR hc hsc (by unfold g_dt; omega) (by decide +kernel)); omega)) (fun h => absurd h (by unfold g_nn; have z : ∀ q, q = 0 ∨ q = 110 ∨ q = 111 ∨ q = 26 ∨ q = 43 → (SH q).1 ≠ 5 := (fun q hq => by rcases hq with rfl | rfl | rfl | rfl | rfl; { rw [s0 hS]; decide }; { rw [s110 hS]; decide }; { rw [s111 hS]; decide }; { rw [s26 hS]; decide }; { rw [s43 hS]; decide }); have z2 := z c; rw [hsc] at z2; omega)) (fun h => absurd h.1 (ne_tag hsc (s49 hS) (by decide)))
  refine hw_aloadn (aX5_take 20 rfl) rfl ?_
  refine hw_aloadn (aX5_take 21 rfl) rfl ?_
  obtain ⟨x27, h28⟩ : ∃ y, FI17 a1 5 = y := ⟨_, rfl⟩
  have h28l := congrArg Int32.toInt h28
  have := i_rng x27
  refine hw_get (v := .int (x27)) (aX5_take 22 rfl) wf_RX5_33 ha1l ha1s (by decide) (congrArg Value.int (show FI17 a1 5 = x27 from h28)) ?_
  refine hv_puti (aX5_take 23 rfl) wf_RX5_33 hc hsc (by decide) rfl rfl (fun FI29 u30 => ?_)
  have hI31 : g_I FI29 := gU_g hI19 hS u30 hsc (by decide +kernel)
  refine xw_vret (aX5_take 24 rfl) rfl ?_
  exact ⟨rfl, FI29, FL8, FR23, rfl, hI31, (gf_t (gf_t (gf_t (gf_t gf_rf u4 (shd_f (fix_t2 hS hR hc hsc (by unfold g_dt; omega) (by decide +kernel)) hsc) (by decide)) u13 (shd_f (fix_t2 hS hR hc hsc (by unfold g_dt; omega) (by decide +kernel)) hsc) (by decide)) u18 (shd_f (fix_t2 hS hR hc hsc (by unfold g_dt; omega) (by decide +kernel)) hsc) (by decide)) u30 (shd_f (fix_t2 hS hR26 hc hsc (by unfold g_dt; omega) (by decide +kernel)) hsc) (by decide)), (gf_t gf_rf u9 (shd_f (fix_t2 hS hR hc hsc (by unfold g_dt; omega) (by decide +kernel)) hsc) (by decide)), (gf_t gf_rf u24 (shd_f (fix_t2 hS hR hc hsc (by unfold g_dt; omega) (by decide +kernel)) hsc) (by decide)), hF25, hR26⟩
def nX8_count : Nat := 0xac1200b42a0700a70407009a1200b42a
theorem bX8_count : cX8_count.data.toList.map UInt8.toNat = x_un nX8_count 16 := by decide +kernel
def iX8_count : List (Nat × Jvm.ClassFile.Instr × Nat) := [(0, .aload_n 0, 1), (1, .getfield 18, 3), (4, .ifCond .ne 7, 3), (7, .iconst 1, 1), (8, .goto 7, 3), (11, .aload_n 0, 1), (12, .getfield 18, 3), (15, .ireturn, 1)]
theorem dX8_count : x_il nX8_count 16 iX8_count = true := by decide +kernel
theorem aX8_count (k : Nat) {pc : Nat} {i : Jvm.ClassFile.Instr} {len : Nat} (hk : iX8_count[k]? = some (pc, i, len)) : x_at xMM 79 pc i len yX8_count 1 (some .int) := ⟨cX8_count, rfl, x_il_ok bX8_count dX8_count k hk⟩
set_option maxHeartbeats 4000000 in
set_option maxRecDepth 100000 in
theorem k_X8_count {sk : xK} {base d n sl : Nat} {SH : Nat → Nat × Nat} {FI : Nat → Nat → Int32} {FL : Nat → Nat → Int64} {FR : Nat → Nat → Option Nat} (hS : h_S n SH) (hF : h_FR FR) (hI : g_I FI) (hR : g_R n SH FR) (c : Nat) {zc : Nat} (hc : c < n) (hsc : SH c = (8, zc)) (hoc : own c) : hw sk base d none 79 0 [(0, .ref (base + c))] [] (n, sl, SH, FI, FL, FR) (h_I (fun r s => s = (n, sl, SH, FI, FL, FR) ∧ (r.toInt = 1 ∨ r.toInt = (FI c 1).toInt))) := by
  obtain ⟨x1, h2⟩ : ∃ y, FI c 1 = y := ⟨_, rfl⟩
  have h2l := congrArg Int32.toInt h2
  have := i_rng x1
  have b3 := gI_s (k := 1) (lo := 0) (hi := 16) hI hS hR hc hsc (by unfold g_dt; omega) (by decide +kernel); rw [h2] at b3
  refine hw_aloadn (aX8_count 0 rfl) rfl ?_
  refine hw_get (v := .int (x1)) (aX8_count 1 rfl) wf_RX8_18 hc hsc (by decide) (congrArg Value.int (show FI c 1 = x1 from h2)) ?_
  refine hw_ifne (tgt := 11) (aX8_count 2 rfl) (by decide) rfl (fun cd4 => ?_) (fun cd4 => ?_)
  · refine hw_aloadn (aX8_count 5 rfl) rfl ?_
    refine hw_get (v := .int (x1)) (aX8_count 6 rfl) wf_RX8_18 hc hsc (by decide) (congrArg Value.int (show FI c 1 = x1 from h2)) ?_
    refine xw_iret (aX8_count 7 rfl) rfl rfl ?_
    exact ⟨x1, rfl, rfl, (by omega)⟩
  · refine hw_ic (v := (1 : Int32)) (aX8_count 3 rfl) (by decide) ?_
    refine xw_goto (tgt := 15) (aX8_count 4 rfl) (by decide) ?_
    refine xw_iret (aX8_count 7 rfl) rfl rfl ?_
    have e5 : ((1 : Int32)).toInt = 1 := (by decide : (1 : Int32).toInt = 1)
    exact ⟨(1 : Int32), rfl, rfl, (by have : ((1 : Int32)).toInt = 1 := (by decide); omega)⟩
def nX8_only : Nat := 0xb032030d00b42a
theorem bX8_only : cX8_only.data.toList.map UInt8.toNat = x_un nX8_only 7 := by decide +kernel
def iX8_only : List (Nat × Jvm.ClassFile.Instr × Nat) := [(0, .aload_n 0, 1), (1, .getfield 13, 3), (4, .iconst 0, 1), (5, .aaload, 1), (6, .areturn, 1)]
theorem dX8_only : x_il nX8_only 7 iX8_only = true := by decide +kernel
theorem aX8_only (k : Nat) {pc : Nat} {i : Jvm.ClassFile.Instr} {len : Nat} (hk : iX8_only[k]? = some (pc, i, len)) : x_at xMM 80 pc i len yX8_only 1 (some (.object "LocationDesk$Part")) := ⟨cX8_only, rfl, x_il_ok bX8_only dX8_only k hk⟩
set_option maxHeartbeats 4000000 in
set_option maxRecDepth 100000 in
theorem k_X8_only {sk : xK} {base d n sl : Nat} {SH : Nat → Nat × Nat} {FI : Nat → Nat → Int32} {FL : Nat → Nat → Int64} {FR : Nat → Nat → Option Nat} (hS : h_S n SH) (hF : h_FR FR) (hI : g_I FI) (hR : g_R n SH FR) (c : Nat) {zc : Nat} (hc : c < n) (hsc : SH c = (8, zc)) (hoc : own c) : hw sk base d none 80 0 [(0, .ref (base + c))] [] (n, sl, SH, FI, FL, FR) (h_A base (fun r s => s = (n, sl, SH, FI, FL, FR) ∧ (∀ q, r = some q → q < n ∧ own q ∧ SH q = (5, (SH q).2)) ∧ r ≠ none)) := by
  refine hw_aloadn (aX8_only 0 rfl) rfl ?_
  obtain ⟨r1, h2, lt3, ow4, sh5, fx6⟩ := g_nz (k := 0) (ty := 103) (zz := 16) hS hF hR hc hsc (by unfold g_dt; omega) (by decide +kernel)
  refine hw_get (v := .ref (base + r1)) (aX8_only 1 rfl) wf_RX8_13 hc hsc (by decide) (congrArg (fun r => va_rf (h_rf base r)) (show FR c 0 = some r1 from h2)) ?_
  refine hw_ic (v := (0 : Int32)) (aX8_only 2 rfl) (by decide) ?_
  obtain ⟨o7, h8⟩ : ∃ y, FR r1 ((0 : Int32)).toNatClampNeg = y := ⟨_, rfl⟩
  have ht9 : ∀ r, o7 = some r → r < n ∧ own r ∧ SH r = (5, (SH r).2) := fun r e => gR_get hR lt3 ow4 sh5 (h8.trans e)
  refine hw_aald (k := 3) (v := o7) (aX8_only 3 rfl) lt3 sh5 (by decide) (by decide) (h_in (by decide : (0 : Int32).toInt = 0) (by omega) (by omega)) (show FR r1 ((0 : Int32)).toNatClampNeg = o7 from h8) ?_
  obtain ⟨r10, rfl⟩ : ∃ r, o7 = some r := by obtain ⟨r, hr⟩ := g_th hS hF hR lt3 sh5 (i := ((0 : Int32)).toNatClampNeg) (i_lt (x := (0 : Int32)) (by decide : (0 : Int32).toInt = 0) (by omega) (by omega)); exact ⟨r, (show _ = _ from h8).symm.trans hr⟩
  obtain ⟨lt12, ow13, sh14⟩ := ht9 r10 rfl
  show hw sk base _ _ _ _ [(0, .ref (base + c))] [.ref (base + r10)] _ _
  refine xw_aret (v := h_rf base (some (r10))) (aX8_only 4 rfl) rfl (by first | exact Or.inl ⟨_, rfl⟩ | exact Or.inr ⟨_, rfl⟩) ?_
  exact ⟨some (r10), rfl, rfl, ((fun r e => by cases e; exact ⟨lt12, ow13, by rw [sh14]⟩)), (by simp)⟩
def nX8_clear : Nat := 0xb11d00b609031900b62a1600b5032a1200b5032a
theorem bX8_clear : cX8_clear.data.toList.map UInt8.toNat = x_un nX8_clear 20 := by decide +kernel
def iX8_clear : List (Nat × Jvm.ClassFile.Instr × Nat) := [(0, .aload_n 0, 1), (1, .iconst 0, 1), (2, .putfield 18, 3), (5, .aload_n 0, 1), (6, .iconst 0, 1), (7, .putfield 22, 3), (10, .aload_n 0, 1), (11, .invokevirtual 25, 3), (14, .iconst 0, 1), (15, .lconst 0, 1), (16, .invokevirtual 29, 3), (19, .return_, 1)]
theorem dX8_clear : x_il nX8_clear 20 iX8_clear = true := by decide +kernel
theorem aX8_clear (k : Nat) {pc : Nat} {i : Jvm.ClassFile.Instr} {len : Nat} (hk : iX8_clear[k]? = some (pc, i, len)) : x_at xMM 81 pc i len yX8_clear 1 none := ⟨cX8_clear, rfl, x_il_ok bX8_clear dX8_clear k hk⟩
set_option maxHeartbeats 4000000 in
set_option maxRecDepth 100000 in
theorem k_X8_clear {sk : xK} {base d n sl : Nat} {SH : Nat → Nat × Nat} {FI : Nat → Nat → Int32} {FL : Nat → Nat → Int64} {FR : Nat → Nat → Option Nat} (hS : h_S n SH) (hF : h_FR FR) (hI : g_I FI) (hR : g_R n SH FR) (c : Nat) {zc : Nat} (hc : c < n) (hsc : SH c = (8, zc)) (hoc : own c) : hw sk base (d + 1) none 81 0 [(0, .ref (base + c))] [] (n, sl, SH, FI, FL, FR) (h_V (fun s => ∃ FI' FL', s = (n, sl, SH, FI', FL', FR) ∧ g_I FI' ∧ g_fr n (shd SH) [] [] [5, 8] FI FI' ∧ g_fr n (shd SH) [] [] [5] FL FL')) := by
  refine hw_aloadn (aX8_clear 0 rfl) rfl ?_
  refine hw_ic (v := (0 : Int32)) (aX8_clear 1 rfl) (by decide) ?_
  refine hv_puti (aX8_clear 2 rfl) wf_RX8_18 hc hsc (by decide) rfl rfl (fun FI1 u2 => ?_)
  have hI3 : g_I FI1 := gU_s (k := 1) (lo := 0) (hi := 16) hI hS hR hc hsc (by unfold g_dt; omega) (by decide +kernel) u2 (by have := ((by decide : (0 : Int32).toInt = 0) : ((0 : Int32)).toInt = 0); omega) (by have := ((by decide : (0 : Int32).toInt = 0) : ((0 : Int32)).toInt = 0); omega)
  refine hw_aloadn (aX8_clear 3 rfl) rfl ?_
  refine hw_ic (v := (0 : Int32)) (aX8_clear 4 rfl) (by decide) ?_
  refine hv_puti (aX8_clear 5 rfl) wf_RX8_22 hc hsc (by decide) rfl rfl (fun FI4 u5 => ?_)
  have hI6 : g_I FI4 := gU_g hI3 hS u5 hsc (by decide +kernel)
  refine hw_aloadn (aX8_clear 6 rfl) rfl ?_
  refine hw_callV (Bs := []) (rest := []) (aX8_clear 7 rfl) wc_RX8_25 (by decide) rfl wi_yX8_only wv_yX8_only hc hsc rfl rfl rfl (Nat.le_of_ble_eq_true rfl) (Nat.le_of_ble_eq_true rfl) (k_X8_only (d := d) hS hF hI6 hR (c) hc hsc hoc ) (fun v7 sv8 p9 => ?_)
  obtain ⟨r10, rfl, rfl, ht14, nn15⟩ := p9
  obtain ⟨r16, rfl⟩ : ∃ q, r10 = some q := Option.ne_none_iff_exists'.mp nn15
  obtain ⟨lt17, ow18, sh19⟩ := ht14 r16 rfl
  show hw sk base _ _ _ _ _ [.ref (base + r16)] _ _
  refine hw_ic (v := (0 : Int32)) (aX8_clear 8 rfl) (by decide) ?_
  refine hw_lc (v := (0 : Int64)) (aX8_clear 9 rfl) (by decide) ?_
  refine hw_callV (Bs := [.int ((0 : Int32)), .long ((0 : Int64))]) (rest := []) (aX8_clear 10 rfl) wc_RX8_29 (by decide) rfl wi_yX5_become wv_yX5_become lt17 sh19 rfl rfl rfl (Nat.le_of_ble_eq_true rfl) (Nat.le_of_ble_eq_true rfl) (k_X5_become (d := d) hS hF hI6 hR (r16) lt17 sh19 ow18 ((0 : Int32)) ((0 : Int64)) ) (fun v20 sv21 p22 => ?_)
  obtain ⟨rfl, FI24, FL25, rfl, hI26, f27, f28⟩ := p22
  show hw sk base _ _ _ _ _ [] _ _
  refine xw_vret (aX8_clear 11 rfl) rfl ?_
  exact ⟨rfl, FI24, FL25, rfl, hI26, (gf_tr ex_rf (gf_t (gf_t gf_rf u2 (shd_f (fix_t2 hS hR hc hsc (by unfold g_dt; omega) (by decide +kernel)) hsc) (by decide)) u5 (shd_f (fix_t2 hS hR hc hsc (by unfold g_dt; omega) (by decide +kernel)) hsc) (by decide)) f27 rfl rfl rfl), (gf_tr ex_rf gf_rf f28 rfl rfl rfl)⟩
def nX1_registerValue : Nat := 0xad2f881f0b00b42a0a00a70907009b9485be0b00b42a1f0e009b94091f
theorem bX1_registerValue : cX1_registerValue.data.toList.map UInt8.toNat = x_un nX1_registerValue 29 := by decide +kernel
def iX1_registerValue : List (Nat × Jvm.ClassFile.Instr × Nat) := [(0, .lload_n 1, 1), (1, .lconst 0, 1), (2, .lcmp, 1), (3, .ifCond .lt 14, 3), (6, .lload_n 1, 1), (7, .aload_n 0, 1), (8, .getfield 11, 3), (11, .arraylength, 1), (12, .i2l, 1), (13, .lcmp, 1), (14, .ifCond .lt 7, 3), (17, .lconst 0, 1), (18, .goto 10, 3), (21, .aload_n 0, 1), (22, .getfield 11, 3), (25, .lload_n 1, 1), (26, .l2i, 1), (27, .laload, 1), (28, .lreturn, 1)]
theorem dX1_registerValue : x_il nX1_registerValue 29 iX1_registerValue = true := by decide +kernel
theorem aX1_registerValue (k : Nat) {pc : Nat} {i : Jvm.ClassFile.Instr} {len : Nat} (hk : iX1_registerValue[k]? = some (pc, i, len)) : x_at xMM 20 pc i len yX1_registerValue 3 (some .long) := ⟨cX1_registerValue, rfl, x_il_ok bX1_registerValue dX1_registerValue k hk⟩
set_option maxHeartbeats 4000000 in
set_option maxRecDepth 100000 in
theorem k_X1_registerValue {sk : xK} {base d n sl : Nat} {SH : Nat → Nat × Nat} {FI : Nat → Nat → Int32} {FL : Nat → Nat → Int64} {FR : Nat → Nat → Option Nat} (hS : h_S n SH) (hF : h_FR FR) (hI : g_I FI) (hR : g_R n SH FR) (a1 : Int64) : hw sk base d none 20 0 [(0, .ref (base + 23)), (1, .long (a1))] [] (n, sl, SH, FI, FL, FR) (h_J (fun r s => s = (n, sl, SH, FI, FL, FR))) := by
  have rg_a1 := l_rng a1
  refine xw_lloadn (aX1_registerValue 0 rfl) rfl ?_
  refine hw_lc (v := (0 : Int64)) (aX1_registerValue 1 rfl) (by decide) ?_
  refine hw_lclt (tgt := 17) (aX1_registerValue 2 rfl) (aX1_registerValue 3 rfl) (by decide) rfl (by decide : (0 : Int64).toInt = 0) (fun cd1 => ?_) (fun cd1 => ?_)
  · refine hw_lc (v := (0 : Int64)) (aX1_registerValue 11 rfl) (by decide) ?_
    refine xw_goto (tgt := 28) (aX1_registerValue 12 rfl) (by decide) ?_
    refine xw_lret (aX1_registerValue 18 rfl) rfl ?_
    have e2 : ((0 : Int64)).toInt = 0 := (by decide : (0 : Int64).toInt = 0)
    exact ⟨(0 : Int64), rfl, rfl⟩
  · refine xw_lloadn (aX1_registerValue 4 rfl) rfl ?_
    refine hw_aloadn (aX1_registerValue 5 rfl) rfl ?_
    refine hw_get (v := .ref (base + 24)) (aX1_registerValue 6 rfl) wf_RX1_11 (c23 hS) (s23 hS) (by decide) (congrArg (fun r => va_rf (h_rf base r)) (r23_0 hF)) ?_
    refine hw_alen (k := 1) (z := 32) (v := (32 : Int32)) (aX1_registerValue 7 rfl) (c24 hS) (s24 hS) (by decide) (by decide) ?_
    refine xw_i2l (aX1_registerValue 8 rfl) ?_
    refine hw_tle (A := 32) (i_2l (by decide : (32 : Int32).toInt = 32)) (fun x3 e4 => ?_)
    refine hw_lclt (tgt := 21) (aX1_registerValue 9 rfl) (aX1_registerValue 10 rfl) (by decide) rfl e4 (fun cd5 => ?_) (fun cd5 => ?_)
    · refine hw_aloadn (aX1_registerValue 13 rfl) rfl ?_
      refine hw_get (v := .ref (base + 24)) (aX1_registerValue 14 rfl) wf_RX1_11 (c23 hS) (s23 hS) (by decide) (congrArg (fun r => va_rf (h_rf base r)) (r23_0 hF)) ?_
      refine xw_lloadn (aX1_registerValue 15 rfl) rfl ?_
      refine xw_l2i (aX1_registerValue 16 rfl) ?_
      refine hw_tie (A := (a1).toInt) (l_2i rfl (by omega) (by omega)) (fun x6 e7 => ?_)
      obtain ⟨x8, h9⟩ : ∃ y, FL 24 (x6).toNatClampNeg = y := ⟨_, rfl⟩
      have h9l := congrArg Int64.toInt h9
      have := l_rng x8
      refine hw_lald (v := x8) (aX1_registerValue 17 rfl) (c24 hS) (s24 hS) (h_in e7 (by omega) (by omega)) (show FL 24 (x6).toNatClampNeg = x8 from h9) ?_
      refine xw_lret (aX1_registerValue 18 rfl) rfl ?_
      exact ⟨x8, rfl, rfl⟩
    · refine hw_lc (v := (0 : Int64)) (aX1_registerValue 11 rfl) (by decide) ?_
      refine xw_goto (tgt := 28) (aX1_registerValue 12 rfl) (by decide) ?_
      refine xw_lret (aX1_registerValue 18 rfl) rfl ?_
      have e10 : ((0 : Int64)).toInt = 0 := (by decide : (0 : Int64).toInt = 0)
      exact ⟨(0 : Int64), rfl, rfl⟩
def nX1_cfaValue : Nat := 0xad612600b42a2200b6851f00b42a2a
theorem bX1_cfaValue : cX1_cfaValue.data.toList.map UInt8.toNat = x_un nX1_cfaValue 15 := by decide +kernel
def iX1_cfaValue : List (Nat × Jvm.ClassFile.Instr × Nat) := [(0, .aload_n 0, 1), (1, .aload_n 0, 1), (2, .getfield 31, 3), (5, .i2l, 1), (6, .invokevirtual 34, 3), (9, .aload_n 0, 1), (10, .getfield 38, 3), (13, .ladd, 1), (14, .lreturn, 1)]
theorem dX1_cfaValue : x_il nX1_cfaValue 15 iX1_cfaValue = true := by decide +kernel
theorem aX1_cfaValue (k : Nat) {pc : Nat} {i : Jvm.ClassFile.Instr} {len : Nat} (hk : iX1_cfaValue[k]? = some (pc, i, len)) : x_at xMM 21 pc i len yX1_cfaValue 1 (some .long) := ⟨cX1_cfaValue, rfl, x_il_ok bX1_cfaValue dX1_cfaValue k hk⟩
set_option maxHeartbeats 4000000 in
set_option maxRecDepth 100000 in
theorem k_X1_cfaValue {sk : xK} {base d n sl : Nat} {SH : Nat → Nat × Nat} {FI : Nat → Nat → Int32} {FL : Nat → Nat → Int64} {FR : Nat → Nat → Option Nat} (hS : h_S n SH) (hF : h_FR FR) (hI : g_I FI) (hR : g_R n SH FR) : hw sk base (d + 1) none 21 0 [(0, .ref (base + 23))] [] (n, sl, SH, FI, FL, FR) (h_J (fun r s => s = (n, sl, SH, FI, FL, FR))) := by
  refine hw_aloadn (aX1_cfaValue 0 rfl) rfl ?_
  refine hw_aloadn (aX1_cfaValue 1 rfl) rfl ?_
  obtain ⟨x1, h2⟩ : ∃ y, FI 23 5 = y := ⟨_, rfl⟩
  have h2l := congrArg Int32.toInt h2
  have b3 := gI_23_5 hI; rw [h2] at b3
  refine hw_get (v := .int (x1)) (aX1_cfaValue 2 rfl) wf_RX1_31 (c23 hS) (s23 hS) (by decide) (congrArg Value.int (show FI 23 5 = x1 from h2)) ?_
  refine xw_i2l (aX1_cfaValue 3 rfl) ?_
  refine hw_tle (A := (x1).toInt) (i_2l rfl) (fun x4 e5 => ?_)
  refine hw_callV (Bs := [.long (x4)]) (rest := []) (aX1_cfaValue 4 rfl) wc_RX1_34 (by decide) rfl wi_yX1_registerValue wv_yX1_registerValue (c23 hS) (s23 hS) rfl rfl rfl (Nat.le_of_ble_eq_true rfl) (Nat.le_of_ble_eq_true rfl) (k_X1_registerValue (d := d) hS hF hI hR (x4) ) (fun v6 sv7 p8 => ?_)
  obtain ⟨r9, rfl, rfl⟩ := p8
  have rg_r9 := l_rng r9
  show hw sk base _ _ _ _ _ [.long (r9)] _ _
  refine hw_aloadn (aX1_cfaValue 5 rfl) rfl ?_
  obtain ⟨x15, h16⟩ : ∃ y, FL 23 6 = y := ⟨_, rfl⟩
  have h16l := congrArg Int64.toInt h16
  have := l_rng x15
  refine hw_get (v := .long (x15)) (aX1_cfaValue 6 rfl) wf_RX1_38 (c23 hS) (s23 hS) (by decide) (congrArg Value.long (show FL 23 6 = x15 from h16)) ?_
  refine xw_ladd (aX1_cfaValue 7 rfl) ?_
  refine hw_tl (fun x17 => ?_)
  have b18 := l_rng x17
  refine xw_lret (aX1_cfaValue 8 rfl) rfl ?_
  exact ⟨x17, rfl, rfl⟩
