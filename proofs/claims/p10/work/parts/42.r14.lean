def nX12_added : Nat := 0xac044402b606101c100500a722100800991b2a1400a74102b5042ade01b56004de01b42a2a2502b62fde01b42a6c00b42a2af001b623102a2800995a02b6de01b42a2a3300991bde01b56004de01b42a2a3602b606102a3ce401b62b102a
theorem bX12_added : cX12_added.data.toList.map UInt8.toNat = x_un nX12_added 94 := by decide +kernel
def iX12_added : List (Nat × Jvm.ClassFile.Instr × Nat) := [(0, .aload_n 0, 1), (1, .bipush 43, 2), (3, .invokevirtual 484, 3), (6, .istore_n 1, 1), (7, .aload_n 0, 1), (8, .bipush 6, 2), (10, .invokevirtual 566, 3), (13, .aload_n 0, 1), (14, .aload_n 0, 1), (15, .getfield 478, 3), (18, .iconst 1, 1), (19, .iadd, 1), (20, .putfield 478, 3), (23, .iload_n 1, 1), (24, .ifCond .eq 51, 3), (27, .aload_n 0, 1), (28, .aload_n 0, 1), (29, .getfield 478, 3), (32, .invokevirtual 602, 3), (35, .ifCond .eq 40, 3), (38, .aload_n 0, 1), (39, .bipush 35, 2), (41, .invokevirtual 496, 3), (44, .aload_n 0, 1), (45, .aload_n 0, 1), (46, .getfield 108, 3), (49, .aload_n 0, 1), (50, .getfield 478, 3), (53, .laload, 1), (54, .invokevirtual 549, 3), (57, .aload_n 0, 1), (58, .aload_n 0, 1), (59, .getfield 478, 3), (62, .iconst 1, 1), (63, .iadd, 1), (64, .putfield 478, 3), (67, .aload_n 0, 1), (68, .iconst 1, 1), (69, .putfield 577, 3), (72, .goto 20, 3), (75, .aload_n 0, 1), (76, .iload_n 1, 1), (77, .ifCond .eq 8, 3), (80, .bipush 34, 2), (82, .goto 5, 3), (85, .bipush 28, 2), (87, .bipush 6, 2), (89, .invokevirtual 580, 3), (92, .iconst 1, 1), (93, .ireturn, 1)]
theorem dX12_added : x_il nX12_added 94 iX12_added = true := by decide +kernel
theorem aX12_added (k : Nat) {pc : Nat} {i : Jvm.ClassFile.Instr} {len : Nat} (hk : iX12_added[k]? = some (pc, i, len)) : x_at xMM 245 pc i len yX12_added 2 (some .boolean) := ⟨cX12_added, rfl, x_il_ok bX12_added dX12_added k hk⟩
set_option maxHeartbeats 4000000 in
set_option maxRecDepth 100000 in
theorem n_added {base d n sl : Nat} {SH : Nat → Nat × Nat} {FI : Nat → Nat → Int32} {FL : Nat → Nat → Int64} {FR : Nat → Nat → Option Nat} (hS : h_S n SH) (hF : h_FR FR) (hI : g_I FI) (g0 : (FI 121 68).toInt < (FI 121 67).toInt - 1) (g1 : (FI 121 69).toInt = 0) (g2 : (FI 121 73).toInt + 4 * (FI 121 90).toInt ≤ 27000) (g3 : (FI 121 90).toInt ≤ 200) (g4 : (FI 121 91).toInt = 0) (gg0 : kf (FI 149) (FI 121 68).toInt.toNat = 5 ∧ (wf (FL 150) (FI 121 68).toInt.toNat = 43 ∨ wf (FL 150) (FI 121 68).toInt.toNat = 45)) (gg1 : au_ok (sk (FI 166) (FI 121 90).toInt.toNat)) (gg2 : ∀ y r, (sk (FI 166) (FI 121 90).toInt.toNat) = y :: r → y ≠ 9) (rel_tend : rl_e (FI 149) (FI 121 67)) (rel_tok : rl_t (FI 149) (FL 150)) (rel_pm : rl_pm (FI 121 90) (FI 121 73) (FI 166) (FI 167) (FI 168)) : hw base (d + 2) none 245 0 [(0, .ref (base + 121))] [] (n, sl, SH, FI, FL, FR) (h_I (fun r s => ∃ FI', s = (n, sl, SH, FI', FL, FR) ∧ g_I FI' ∧ g_fr n SH [(121, 68), (121, 73), (121, 90), (121, 91)] [154, 165, 166] [] FI FI' ∧ ((FI' 121 68).toInt ≤ (FI' 121 67).toInt - 1) ∧ ((FI 121 68).toInt ≤ (FI' 121 68).toInt) ∧ ((FI' 121 73).toInt + 4 * (FI' 121 90).toInt ≤ (FI 121 73).toInt + 4 * (FI 121 90).toInt + 20 * ((FI' 121 68).toInt - (FI 121 68).toInt)) ∧ ((FI 121 73).toInt ≤ (FI' 121 73).toInt) ∧ ((FI' 121 90).toInt ≤ (FI 121 90).toInt + 1) ∧ (r.toInt = 1) ∧ ((FI 121 68).toInt < (FI' 121 68).toInt) ∧ (0 ≤ r.toInt ∧ r.toInt ≤ 1) ∧ (co_opr (kf (FI 149)) (wf (FL 150)) (FI 121 68).toInt.toNat (sk (FI 166) (FI 121 90).toInt.toNat) (FI' 121 68).toInt.toNat (FI' 121 91).toInt (sk (FI' 166) (FI' 121 90).toInt.toNat)) ∧ ((FI' 121 71).toInt - (au_op (sk (FI' 166) (FI' 121 90).toInt.toNat) : Int) = (FI 121 71).toInt - (au_op (sk (FI 166) (FI 121 90).toInt.toNat) : Int)) ∧ (rl_pm (FI' 121 90) (FI' 121 73) (FI' 166) (FI' 167) (FI' 168)))) := by
  obtain ⟨x1, h2⟩ : ∃ y, FI 121 68 = y := ⟨_, rfl⟩
  have h2l := congrArg Int32.toInt h2
  have b3 := gI_121_68 hI; rw [h2] at b3
  obtain ⟨x4, h5⟩ : ∃ y, FI 121 67 = y := ⟨_, rfl⟩
  have h5l := congrArg Int32.toInt h5
  have b6 := gI_121_67 hI; rw [h5] at b6
  obtain ⟨x7, h8⟩ : ∃ y, FI 121 69 = y := ⟨_, rfl⟩
  have h8l := congrArg Int32.toInt h8
  have := i_rng x7
  obtain ⟨x9, h10⟩ : ∃ y, FI 121 73 = y := ⟨_, rfl⟩
  have h10l := congrArg Int32.toInt h10
  have b11 := gI_121_73 hI; rw [h10] at b11
  obtain ⟨x12, h13⟩ : ∃ y, FI 121 90 = y := ⟨_, rfl⟩
  have h13l := congrArg Int32.toInt h13
  have b14 := gI_121_90 hI; rw [h13] at b14
  obtain ⟨x15, h16⟩ : ∃ y, FI 121 91 = y := ⟨_, rfl⟩
  have h16l := congrArg Int32.toInt h16
  have b17 := gI_121_91 hI; rw [h16] at b17
  obtain ⟨x18, h19⟩ : ∃ y, FI 121 71 = y := ⟨_, rfl⟩
  have h19l := congrArg Int32.toInt h19
  have := i_rng x18
  refine hw_aloadn (aX12_added 0 rfl) rfl ?_
  refine hw_bp (v := (43 : Int32)) (aX12_added 1 rfl) (by decide) ?_
  refine hw_callV (Bs := [.int ((43 : Int32))]) (rest := []) (aX12_added 2 rfl) wc_RX12_484 (by decide) rfl wi_yX12_isSign wv_yX12_isSign (c121 hS) (s121 hS) rfl rfl rfl (Nat.le_of_ble_eq_true rfl) (Nat.le_of_ble_eq_true rfl) (n_isSign (d := d + 1) hS hF hI ((43 : Int32)) (by have := congrArg Int32.toInt (show FI 121 68 = x1 from h2); have := congrArg Int32.toInt (show FI 121 67 = x4 from h5); omega) (show rl_e (FI 149) (FI 121 67) from rel_tend)) (fun v20 sv21 p22 => ?_)
  have := congrArg Int32.toInt (show FI 121 68 = x1 from h2)
  have := congrArg Int32.toInt (show FI 121 67 = x4 from h5)
  obtain ⟨r23, rfl, rfl, t25, t26, u27⟩ := p22
  show hw base _ _ _ _ _ [.int (r23)] _ _
  refine xw_istoren (L2 := [(1, .int (r23)), (0, .ref (base + 121))]) (aX12_added 3 rfl) (by decide) rfl ?_
  refine hw_aloadn (aX12_added 4 rfl) rfl ?_
  refine hw_bp (v := (6 : Int32)) (aX12_added 5 rfl) (by decide) ?_
  refine hw_callV (Bs := [.int ((6 : Int32))]) (rest := []) (aX12_added 6 rfl) wc_RX12_566 (by decide) rfl wi_yX12_reduced wv_yX12_reduced (c121 hS) (s121 hS) rfl rfl rfl (Nat.le_of_ble_eq_true rfl) (Nat.le_of_ble_eq_true rfl) (n_reduced (d := d) hS hF hI ((6 : Int32)) (by have := congrArg Int32.toInt (show FI 121 73 = x9 from h10); have := congrArg Int32.toInt (show FI 121 90 = x12 from h13); omega) (by have := ((by decide : (6 : Int32).toInt = 6) : ((6 : Int32)).toInt = 6); have := ((by decide : (6 : Int32).toInt = 6) : ((6 : Int32)).toInt = 6); omega) (show rl_pm (FI 121 90) (FI 121 73) (FI 166) (FI 167) (FI 168) from rel_pm)) (fun v28 sv29 p30 => ?_)
  have := congrArg Int32.toInt (show FI 121 90 = x12 from h13)
  have := congrArg Int32.toInt (show FI 121 73 = x9 from h10)
  have := congrArg Int32.toInt (show FI 121 90 = x12 from h13)
  have := congrArg Int32.toInt (show FI 121 73 = x9 from h10)
  obtain ⟨rfl, FI32, rfl, hI33, f34, t35, t36, t37, u38, rl39⟩ := p30
  have rl40 : rl_e (FI32 149) (FI32 121 67) := by rw [show FI32 149 = FI 149 from gf_row f34 (c149 hS) (s149 hS) rfl rfl, show FI32 121 67 = FI 121 67 from gf_at f34 (c121 hS) (s121 hS) rfl rfl]; exact rel_tend
  have rl41 : rl_t (FI32 149) (FL 150) := by rw [show FI32 149 = FI 149 from gf_row f34 (c149 hS) (s149 hS) rfl rfl]; exact rel_tok
  obtain ⟨x42, h43⟩ : ∃ y, FI32 121 90 = y := ⟨_, rfl⟩
  have h43l := congrArg Int32.toInt h43
  have b44 := gI_121_90 hI33; rw [h43] at b44
  obtain ⟨x45, h46⟩ : ∃ y, FI32 121 73 = y := ⟨_, rfl⟩
  have h46l := congrArg Int32.toInt h46
  have b47 := gI_121_73 hI33; rw [h46] at b47
  show hw base _ _ _ _ _ [] _ _
  refine hw_aloadn (aX12_added 7 rfl) rfl ?_
  refine hw_aloadn (aX12_added 8 rfl) rfl ?_
  refine hw_get (v := .int (x1)) (aX12_added 9 rfl) wf_RX12_478 (c121 hS) (s121 hS) (by decide) (congrArg Value.int (show FI32 121 68 = x1 from (gf_at f34 (c121 hS) (s121 hS) rfl (h2)))) ?_
  refine hw_ic (v := (1 : Int32)) (aX12_added 10 rfl) (by decide) ?_
  refine xw_iadd (aX12_added 11 rfl) ?_
  refine hw_tie (A := ((x1).toInt) + (1)) (i_add rfl (by decide : (1 : Int32).toInt = 1) (by omega) (by omega)) (fun x48 e49 => ?_)
  refine hv_puti (aX12_added 12 rfl) wf_RX12_478 (c121 hS) (s121 hS) (by decide) rfl rfl (fun FI50 u51 => ?_)
  have rl52 : rl_e (FI50 149) (FI50 121 67) := by rw [show FI50 149 = FI32 149 from up_row u51 (by decide) rfl, show FI50 121 67 = FI32 121 67 from up_k u51 (by decide) rfl]; exact rl40
  have rl53 : rl_t (FI50 149) (FL 150) := by rw [show FI50 149 = FI32 149 from up_row u51 (by decide) rfl]; exact rl41
  have rl54 : rl_pm (FI50 121 90) (FI50 121 73) (FI50 166) (FI50 167) (FI50 168) := by rw [show FI50 166 = FI32 166 from up_row u51 (by decide) rfl, show FI50 167 = FI32 167 from up_row u51 (by decide) rfl, show FI50 168 = FI32 168 from up_row u51 (by decide) rfl, show FI50 121 90 = FI32 121 90 from up_k u51 (by decide) rfl, show FI50 121 73 = FI32 121 73 from up_k u51 (by decide) rfl]; exact rl39
  have hI55 : g_I FI50 := gU_121_68 hI33 u51 (by have := (e49 : (x48).toInt = ((x1).toInt) + (1)); omega) (by have := (e49 : (x48).toInt = ((x1).toInt) + (1)); omega)
  refine xw_iloadn (aX12_added 13 rfl) rfl ?_
  refine hw_ifeq (tgt := 75) (aX12_added 14 rfl) (by decide) rfl (fun cd56 => ?_) (fun cd56 => ?_)
  · clear t25
    refine hw_aloadn (aX12_added 40 rfl) rfl ?_
    refine xw_iloadn (aX12_added 41 rfl) rfl ?_
    refine hw_ifeq (tgt := 85) (aX12_added 42 rfl) (by decide) rfl (fun cd57 => ?_) (fun cd57 => ?_)
    · refine hw_bp (v := (28 : Int32)) (aX12_added 45 rfl) (by decide) ?_
      refine hw_bp (v := (6 : Int32)) (aX12_added 46 rfl) (by decide) ?_
      refine hw_callV (Bs := [.int ((28 : Int32)), .int ((6 : Int32))]) (rest := []) (aX12_added 47 rfl) wc_RX12_580 (by decide) rfl wi_yX12_later wv_yX12_later (c121 hS) (s121 hS) rfl rfl rfl (Nat.le_of_ble_eq_true rfl) (Nat.le_of_ble_eq_true rfl) (n_later (d := d + 1) hS hF hI55 ((28 : Int32)) ((6 : Int32)) (by have := congrArg Int32.toInt (show FI50 121 90 = x42 from (up_k u51 (by decide) (h43))); omega) (by have := ((by decide : (6 : Int32).toInt = 6) : ((6 : Int32)).toInt = 6); have := ((by decide : (6 : Int32).toInt = 6) : ((6 : Int32)).toInt = 6); omega) (show rl_pm (FI50 121 90) (FI50 121 73) (FI50 166) (FI50 167) (FI50 168) from rl54)) (fun v58 sv59 p60 => ?_)
      have := congrArg Int32.toInt (show FI50 121 90 = x42 from (up_k u51 (by decide) (h43)))
      obtain ⟨rfl, FI62, rfl, hI63, f64, t65, u66, u67, rl68⟩ := p60
      have rl69 : rl_e (FI62 149) (FI62 121 67) := by rw [show FI62 149 = FI50 149 from gf_row f64 (c149 hS) (s149 hS) rfl rfl, show FI62 121 67 = FI50 121 67 from gf_at f64 (c121 hS) (s121 hS) rfl rfl]; exact rl52
      have rl70 : rl_t (FI62 149) (FL 150) := by rw [show FI62 149 = FI50 149 from gf_row f64 (c149 hS) (s149 hS) rfl rfl]; exact rl53
      obtain ⟨x71, h72⟩ : ∃ y, FI62 121 90 = y := ⟨_, rfl⟩
      have h72l := congrArg Int32.toInt h72
      have b73 := gI_121_90 hI63; rw [h72] at b73
      show hw base _ _ _ _ _ [] _ _
      refine hw_ic (v := (1 : Int32)) (aX12_added 48 rfl) (by decide) ?_
      refine xw_iret (aX12_added 49 rfl) rfl (by decide) ?_
      have e74 : ((1 : Int32)).toInt = 1 := (by decide : (1 : Int32).toInt = 1)
      exact ⟨(1 : Int32), rfl, FI62, rfl, hI63, (gf_tr ex_rf (gf_f (gf_tr ex_rf gf_rf f34 rfl rfl rfl) u51 (by decide)) f64 rfl rfl rfl), (by have : ((1 : Int32)).toInt = 1 := (by decide); have := congrArg Int32.toInt (show FI62 121 67 = x4 from (gf_at f64 (c121 hS) (s121 hS) rfl ((up_k u51 (by decide) ((gf_at f34 (c121 hS) (s121 hS) rfl (h5))))))); have := congrArg Int32.toInt (show FI62 121 68 = x48 from (gf_at f64 (c121 hS) (s121 hS) rfl (up_eq u51))); have := (e49 : (x48).toInt = ((x1).toInt) + (1)); omega), (by have : ((1 : Int32)).toInt = 1 := (by decide); have := congrArg Int32.toInt (show FI62 121 68 = x48 from (gf_at f64 (c121 hS) (s121 hS) rfl (up_eq u51))); have := (e49 : (x48).toInt = ((x1).toInt) + (1)); omega), (by have : ((1 : Int32)).toInt = 1 := (by decide); have := congrArg Int32.toInt (show FI62 121 68 = x48 from (gf_at f64 (c121 hS) (s121 hS) rfl (up_eq u51))); have := (e49 : (x48).toInt = ((x1).toInt) + (1)); have := congrArg Int32.toInt (show FI62 121 73 = x45 from (gf_at f64 (c121 hS) (s121 hS) rfl ((up_k u51 (by decide) (h46))))); have := congrArg Int32.toInt (show FI62 121 90 = x71 from h72); omega), (by have : ((1 : Int32)).toInt = 1 := (by decide); have := congrArg Int32.toInt (show FI62 121 73 = x45 from (gf_at f64 (c121 hS) (s121 hS) rfl ((up_k u51 (by decide) (h46))))); omega), (by have : ((1 : Int32)).toInt = 1 := (by decide); have := congrArg Int32.toInt (show FI62 121 90 = x71 from h72); omega), (by have : ((1 : Int32)).toInt = 1 := (by decide); omega), (by have : ((1 : Int32)).toInt = 1 := (by decide); have := congrArg Int32.toInt (show FI62 121 68 = x48 from (gf_at f64 (c121 hS) (s121 hS) rfl (up_eq u51))); have := (e49 : (x48).toInt = ((x1).toInt) + (1)); omega), (by have : ((1 : Int32)).toInt = 1 := (by decide); omega), (by have := congrArg Int32.toInt (show FI62 121 68 = x48 from (gf_at f64 (c121 hS) (s121 hS) rfl (up_eq u51))); have := (e49 : (x48).toInt = ((x1).toInt) + (1)); have := congrArg Int32.toInt (show FI62 121 91 = x15 from (gf_at f64 (c121 hS) (s121 hS) rfl ((up_k u51 (by decide) ((gf_at f34 (c121 hS) (s121 hS) rfl (h16))))))); have hm : (sk (FI62 166) (FI62 121 90).toInt.toNat) = 6 :: au_red 6 (sk (FI 166) (FI 121 90).toInt.toNat) := (by rw [u67, show FI50 166 = FI 166 from (up_row u51 (by decide) ((gf_row f34 (c166 hS) (s166 hS) rfl (rfl)))), show FI50 121 90 = FI32 121 90 from ((up_k u51 (by decide) (h43))).trans (h43).symm, show ((6 : Int32)).toInt = (6 : Int) from by decide]; have hh := u38; rw [show ((6 : Int32)).toInt = (6 : Int) from by decide] at hh; rw [hh]); have hb : au_bn (kf (FI 149) (FI 121 68).toInt.toNat) (wf (FL 150) (FI 121 68).toInt.toNat) = 6 := au_bn_6.mpr gg0; exact Or.inl ⟨by omega, Or.inr (Or.inr (Or.inr (Or.inr (Or.inl ⟨rfl, by rw [hb]; decide, by omega, rfl, by rw [hb]; exact hm⟩))))⟩), (by have := congrArg Int32.toInt (show FI62 121 71 = x18 from (gf_at f64 (c121 hS) (s121 hS) rfl ((up_k u51 (by decide) ((gf_at f34 (c121 hS) (s121 hS) rfl (h19))))))); have hm : (sk (FI62 166) (FI62 121 90).toInt.toNat) = 6 :: au_red 6 (sk (FI 166) (FI 121 90).toInt.toNat) := (by rw [u67, show FI50 166 = FI 166 from (up_row u51 (by decide) ((gf_row f34 (c166 hS) (s166 hS) rfl (rfl)))), show FI50 121 90 = FI32 121 90 from ((up_k u51 (by decide) (h43))).trans (h43).symm, show ((6 : Int32)).toInt = (6 : Int) from by decide]; have hh := u38; rw [show ((6 : Int32)).toInt = (6 : Int) from by decide] at hh; rw [hh]); rw [hm]; simp only [au_op]; rw [if_pos (by decide), au_op_red (by decide) gg1 gg2]; omega), (show rl_pm (FI62 121 90) (FI62 121 73) (FI62 166) (FI62 167) (FI62 168) from rl68)⟩
    · omega
  · replace t25 := t25 (by omega)
    have hpl := u27.mp (by omega); rw [show ((43 : Int32)).toInt = (43 : Int) from by decide] at hpl
    refine hw_aloadn (aX12_added 15 rfl) rfl ?_
    refine hw_aloadn (aX12_added 16 rfl) rfl ?_
    refine hw_get (v := .int (x48)) (aX12_added 17 rfl) wf_RX12_478 (c121 hS) (s121 hS) (by decide) (congrArg Value.int (show FI50 121 68 = x48 from up_eq u51)) ?_
    refine hw_callV (Bs := [.int (x48)]) (rest := []) (aX12_added 18 rfl) wc_RX12_602 (by decide) rfl wi_yX12_isAlone wv_yX12_isAlone (c121 hS) (s121 hS) rfl rfl rfl (Nat.le_of_ble_eq_true rfl) (Nat.le_of_ble_eq_true rfl) (n_isAlone (d := d) hS hF hI55 (x48) (by have := (e49 : (x48).toInt = ((x1).toInt) + (1)); have := congrArg Int32.toInt (show FI50 121 67 = x4 from (up_k u51 (by decide) ((gf_at f34 (c121 hS) (s121 hS) rfl (h5))))); omega) (by have := (e49 : (x48).toInt = ((x1).toInt) + (1)); have := (e49 : (x48).toInt = ((x1).toInt) + (1)); omega) (show rl_e (FI50 149) (FI50 121 67) from rl52)) (fun v75 sv76 p77 => ?_)
    have := (e49 : (x48).toInt = ((x1).toInt) + (1))
    have := congrArg Int32.toInt (show FI50 121 67 = x4 from (up_k u51 (by decide) ((gf_at f34 (c121 hS) (s121 hS) rfl (h5)))))
    obtain ⟨r78, rfl, rfl, t80, t81, u82⟩ := p77
    show hw base _ _ _ _ _ [.int (r78)] _ _
    refine hw_ifeq (tgt := 75) (aX12_added 19 rfl) (by decide) rfl (fun cd83 => ?_) (fun cd83 => ?_)
    · clear t80
      refine hw_aloadn (aX12_added 40 rfl) rfl ?_
      refine xw_iloadn (aX12_added 41 rfl) rfl ?_
      refine hw_ifeq (tgt := 85) (aX12_added 42 rfl) (by decide) rfl (fun cd84 => ?_) (fun cd84 => ?_)
      · omega
      · refine hw_bp (v := (34 : Int32)) (aX12_added 43 rfl) (by decide) ?_
        refine xw_goto (tgt := 87) (aX12_added 44 rfl) (by decide) ?_
        refine hw_bp (v := (6 : Int32)) (aX12_added 46 rfl) (by decide) ?_
        refine hw_callV (Bs := [.int ((34 : Int32)), .int ((6 : Int32))]) (rest := []) (aX12_added 47 rfl) wc_RX12_580 (by decide) rfl wi_yX12_later wv_yX12_later (c121 hS) (s121 hS) rfl rfl rfl (Nat.le_of_ble_eq_true rfl) (Nat.le_of_ble_eq_true rfl) (n_later (d := d + 1) hS hF hI55 ((34 : Int32)) ((6 : Int32)) (by have := congrArg Int32.toInt (show FI50 121 90 = x42 from (up_k u51 (by decide) (h43))); omega) (by have := ((by decide : (6 : Int32).toInt = 6) : ((6 : Int32)).toInt = 6); have := ((by decide : (6 : Int32).toInt = 6) : ((6 : Int32)).toInt = 6); omega) (show rl_pm (FI50 121 90) (FI50 121 73) (FI50 166) (FI50 167) (FI50 168) from rl54)) (fun v85 sv86 p87 => ?_)
        have := congrArg Int32.toInt (show FI50 121 90 = x42 from (up_k u51 (by decide) (h43)))
        obtain ⟨rfl, FI89, rfl, hI90, f91, t92, u93, u94, rl95⟩ := p87
        have rl96 : rl_e (FI89 149) (FI89 121 67) := by rw [show FI89 149 = FI50 149 from gf_row f91 (c149 hS) (s149 hS) rfl rfl, show FI89 121 67 = FI50 121 67 from gf_at f91 (c121 hS) (s121 hS) rfl rfl]; exact rl52
        have rl97 : rl_t (FI89 149) (FL 150) := by rw [show FI89 149 = FI50 149 from gf_row f91 (c149 hS) (s149 hS) rfl rfl]; exact rl53
        obtain ⟨x98, h99⟩ : ∃ y, FI89 121 90 = y := ⟨_, rfl⟩
        have h99l := congrArg Int32.toInt h99
        have b100 := gI_121_90 hI90; rw [h99] at b100
        show hw base _ _ _ _ _ [] _ _
        refine hw_ic (v := (1 : Int32)) (aX12_added 48 rfl) (by decide) ?_
        refine xw_iret (aX12_added 49 rfl) rfl (by decide) ?_
        have e101 : ((1 : Int32)).toInt = 1 := (by decide : (1 : Int32).toInt = 1)
        exact ⟨(1 : Int32), rfl, FI89, rfl, hI90, (gf_tr ex_rf (gf_f (gf_tr ex_rf gf_rf f34 rfl rfl rfl) u51 (by decide)) f91 rfl rfl rfl), (by have : ((1 : Int32)).toInt = 1 := (by decide); have := congrArg Int32.toInt (show FI89 121 67 = x4 from (gf_at f91 (c121 hS) (s121 hS) rfl ((up_k u51 (by decide) ((gf_at f34 (c121 hS) (s121 hS) rfl (h5))))))); have := congrArg Int32.toInt (show FI89 121 68 = x48 from (gf_at f91 (c121 hS) (s121 hS) rfl (up_eq u51))); have := (e49 : (x48).toInt = ((x1).toInt) + (1)); omega), (by have : ((1 : Int32)).toInt = 1 := (by decide); have := congrArg Int32.toInt (show FI89 121 68 = x48 from (gf_at f91 (c121 hS) (s121 hS) rfl (up_eq u51))); have := (e49 : (x48).toInt = ((x1).toInt) + (1)); omega), (by have : ((1 : Int32)).toInt = 1 := (by decide); have := congrArg Int32.toInt (show FI89 121 68 = x48 from (gf_at f91 (c121 hS) (s121 hS) rfl (up_eq u51))); have := (e49 : (x48).toInt = ((x1).toInt) + (1)); have := congrArg Int32.toInt (show FI89 121 73 = x45 from (gf_at f91 (c121 hS) (s121 hS) rfl ((up_k u51 (by decide) (h46))))); have := congrArg Int32.toInt (show FI89 121 90 = x98 from h99); omega), (by have : ((1 : Int32)).toInt = 1 := (by decide); have := congrArg Int32.toInt (show FI89 121 73 = x45 from (gf_at f91 (c121 hS) (s121 hS) rfl ((up_k u51 (by decide) (h46))))); omega), (by have : ((1 : Int32)).toInt = 1 := (by decide); have := congrArg Int32.toInt (show FI89 121 90 = x98 from h99); omega), (by have : ((1 : Int32)).toInt = 1 := (by decide); omega), (by have : ((1 : Int32)).toInt = 1 := (by decide); have := congrArg Int32.toInt (show FI89 121 68 = x48 from (gf_at f91 (c121 hS) (s121 hS) rfl (up_eq u51))); have := (e49 : (x48).toInt = ((x1).toInt) + (1)); omega), (by have : ((1 : Int32)).toInt = 1 := (by decide); omega), (by have := congrArg Int32.toInt (show FI89 121 68 = x48 from (gf_at f91 (c121 hS) (s121 hS) rfl (up_eq u51))); have := (e49 : (x48).toInt = ((x1).toInt) + (1)); have := congrArg Int32.toInt (show FI89 121 91 = x15 from (gf_at f91 (c121 hS) (s121 hS) rfl ((up_k u51 (by decide) ((gf_at f34 (c121 hS) (s121 hS) rfl (h16))))))); have hm : (sk (FI89 166) (FI89 121 90).toInt.toNat) = 6 :: au_red 6 (sk (FI 166) (FI 121 90).toInt.toNat) := (by rw [u94, show FI50 166 = FI 166 from (up_row u51 (by decide) ((gf_row f34 (c166 hS) (s166 hS) rfl (rfl)))), show FI50 121 90 = FI32 121 90 from ((up_k u51 (by decide) (h43))).trans (h43).symm, show ((6 : Int32)).toInt = (6 : Int) from by decide]; have hh := u38; rw [show ((6 : Int32)).toInt = (6 : Int) from by decide] at hh; rw [hh]); have hb : au_bn (kf (FI 149) (FI 121 68).toInt.toNat) (wf (FL 150) (FI 121 68).toInt.toNat) = 6 := au_bn_6.mpr gg0; exact Or.inl ⟨by omega, Or.inr (Or.inr (Or.inr (Or.inr (Or.inl ⟨rfl, by rw [hb]; decide, by omega, rfl, by rw [hb]; exact hm⟩))))⟩), (by have := congrArg Int32.toInt (show FI89 121 71 = x18 from (gf_at f91 (c121 hS) (s121 hS) rfl ((up_k u51 (by decide) ((gf_at f34 (c121 hS) (s121 hS) rfl (h19))))))); have hm : (sk (FI89 166) (FI89 121 90).toInt.toNat) = 6 :: au_red 6 (sk (FI 166) (FI 121 90).toInt.toNat) := (by rw [u94, show FI50 166 = FI 166 from (up_row u51 (by decide) ((gf_row f34 (c166 hS) (s166 hS) rfl (rfl)))), show FI50 121 90 = FI32 121 90 from ((up_k u51 (by decide) (h43))).trans (h43).symm, show ((6 : Int32)).toInt = (6 : Int) from by decide]; have hh := u38; rw [show ((6 : Int32)).toInt = (6 : Int) from by decide] at hh; rw [hh]); rw [hm]; simp only [au_op]; rw [if_pos (by decide), au_op_red (by decide) gg1 gg2]; omega), (show rl_pm (FI89 121 90) (FI89 121 73) (FI89 166) (FI89 167) (FI89 168) from rl95)⟩
    · replace t80 := t80 (by omega)
      have hal := u82.mp (by omega)
      have hk : (FI50 149 (x48).toNatClampNeg).toInt = 3 := by rw [i_cl (x := x48) rfl]; exact hal.1
      have hv := (rl53 (x48).toNatClampNeg).1 hk
      rw [show FI50 149 = FI 149 from (up_row u51 (by decide) ((gf_row f34 (c149 hS) (s149 hS) rfl (rfl)))), show (x48).toInt.toNat = (FI 121 68).toInt.toNat + 1 by omega] at hal
      refine hw_aloadn (aX12_added 20 rfl) rfl ?_
      refine hw_bp (v := (35 : Int32)) (aX12_added 21 rfl) (by decide) ?_
      refine hw_callV (Bs := [.int ((35 : Int32))]) (rest := []) (aX12_added 22 rfl) wc_RX12_496 (by decide) rfl wi_yX12_emit wv_yX12_emit (c121 hS) (s121 hS) rfl rfl rfl (Nat.le_of_ble_eq_true rfl) (Nat.le_of_ble_eq_true rfl) (n_emit (d := d + 1) hS hF hI55 ((35 : Int32)) (by have := congrArg Int32.toInt (show FI50 121 73 = x45 from (up_k u51 (by decide) (h46))); omega) (show rl_pm (FI50 121 90) (FI50 121 73) (FI50 166) (FI50 167) (FI50 168) from rl54)) (fun v102 sv103 p104 => ?_)
      have := congrArg Int32.toInt (show FI50 121 73 = x45 from (up_k u51 (by decide) (h46)))
      obtain ⟨rfl, FI106, rfl, hI107, f108, t109, rl110⟩ := p104
      have rl111 : rl_e (FI106 149) (FI106 121 67) := by rw [show FI106 149 = FI50 149 from gf_row f108 (c149 hS) (s149 hS) rfl rfl, show FI106 121 67 = FI50 121 67 from gf_at f108 (c121 hS) (s121 hS) rfl rfl]; exact rl52
      have rl112 : rl_t (FI106 149) (FL 150) := by rw [show FI106 149 = FI50 149 from gf_row f108 (c149 hS) (s149 hS) rfl rfl]; exact rl53
      obtain ⟨x113, h114⟩ : ∃ y, FI106 121 73 = y := ⟨_, rfl⟩
      have h114l := congrArg Int32.toInt h114
      have b115 := gI_121_73 hI107; rw [h114] at b115
      show hw base _ _ _ _ _ [] _ _
      refine hw_aloadn (aX12_added 23 rfl) rfl ?_
      refine hw_aloadn (aX12_added 24 rfl) rfl ?_
      refine hw_get (v := .ref (base + 150)) (aX12_added 25 rfl) wf_RX12_108 (c121 hS) (s121 hS) (by decide) (congrArg (fun r => va_rf (h_rf base r)) (r121_63 hF)) ?_
      refine hw_aloadn (aX12_added 26 rfl) rfl ?_
      refine hw_get (v := .int (x48)) (aX12_added 27 rfl) wf_RX12_478 (c121 hS) (s121 hS) (by decide) (congrArg Value.int (show FI106 121 68 = x48 from (gf_at f108 (c121 hS) (s121 hS) rfl (up_eq u51)))) ?_
      obtain ⟨x116, h117⟩ : ∃ y, FL 150 (x48).toNatClampNeg = y := ⟨_, rfl⟩
      have h117l := congrArg Int64.toInt h117
      have := l_rng x116
      refine hw_lald (v := x116) (aX12_added 28 rfl) (c150 hS) (s150 hS) (h_in e49 (by omega) (by omega)) (show FL 150 (x48).toNatClampNeg = x116 from h117) ?_
      have e118 : 0 ≤ (x116).toInt ∧ (x116).toInt ≤ 999999999999999999 := by omega
      refine hw_callV (Bs := [.long (x116)]) (rest := []) (aX12_added 29 rfl) wc_RX12_549 (by decide) rfl wi_yX12_unsigned wv_yX12_unsigned (c121 hS) (s121 hS) rfl rfl rfl (Nat.le_of_ble_eq_true rfl) (Nat.le_of_ble_eq_true rfl) (n_unsigned (d := d) hS hF hI107 (x116) (by have := congrArg Int32.toInt (show FI106 121 73 = x113 from h114); omega) (by omega) (show rl_pm (FI106 121 90) (FI106 121 73) (FI106 166) (FI106 167) (FI106 168) from rl110)) (fun v119 sv120 p121 => ?_)
      have := congrArg Int32.toInt (show FI106 121 73 = x113 from h114)
      have := congrArg Int32.toInt (show FI106 121 73 = x113 from h114)
      obtain ⟨rfl, FI123, rfl, hI124, f125, t126, t127, rl128⟩ := p121
      have rl129 : rl_e (FI123 149) (FI123 121 67) := by rw [show FI123 149 = FI106 149 from gf_row f125 (c149 hS) (s149 hS) rfl rfl, show FI123 121 67 = FI106 121 67 from gf_at f125 (c121 hS) (s121 hS) rfl rfl]; exact rl111
      have rl130 : rl_t (FI123 149) (FL 150) := by rw [show FI123 149 = FI106 149 from gf_row f125 (c149 hS) (s149 hS) rfl rfl]; exact rl112
      obtain ⟨x131, h132⟩ : ∃ y, FI123 121 73 = y := ⟨_, rfl⟩
      have h132l := congrArg Int32.toInt h132
      have b133 := gI_121_73 hI124; rw [h132] at b133
      show hw base _ _ _ _ _ [] _ _
      refine hw_aloadn (aX12_added 30 rfl) rfl ?_
      refine hw_aloadn (aX12_added 31 rfl) rfl ?_
      refine hw_get (v := .int (x48)) (aX12_added 32 rfl) wf_RX12_478 (c121 hS) (s121 hS) (by decide) (congrArg Value.int (show FI123 121 68 = x48 from (gf_at f125 (c121 hS) (s121 hS) rfl ((gf_at f108 (c121 hS) (s121 hS) rfl (up_eq u51)))))) ?_
      refine hw_ic (v := (1 : Int32)) (aX12_added 33 rfl) (by decide) ?_
      refine xw_iadd (aX12_added 34 rfl) ?_
      refine hw_tie (A := (((x1).toInt) + (1)) + (1)) (i_add e49 (by decide : (1 : Int32).toInt = 1) (by omega) (by omega)) (fun x134 e135 => ?_)
      refine hv_puti (aX12_added 35 rfl) wf_RX12_478 (c121 hS) (s121 hS) (by decide) rfl rfl (fun FI136 u137 => ?_)
      have rl138 : rl_e (FI136 149) (FI136 121 67) := by rw [show FI136 149 = FI123 149 from up_row u137 (by decide) rfl, show FI136 121 67 = FI123 121 67 from up_k u137 (by decide) rfl]; exact rl129
      have rl139 : rl_t (FI136 149) (FL 150) := by rw [show FI136 149 = FI123 149 from up_row u137 (by decide) rfl]; exact rl130
      have rl140 : rl_pm (FI136 121 90) (FI136 121 73) (FI136 166) (FI136 167) (FI136 168) := by rw [show FI136 166 = FI123 166 from up_row u137 (by decide) rfl, show FI136 167 = FI123 167 from up_row u137 (by decide) rfl, show FI136 168 = FI123 168 from up_row u137 (by decide) rfl, show FI136 121 90 = FI123 121 90 from up_k u137 (by decide) rfl, show FI136 121 73 = FI123 121 73 from up_k u137 (by decide) rfl]; exact rl128
      have hI141 : g_I FI136 := gU_121_68 hI124 u137 (by have := (e135 : (x134).toInt = (((x1).toInt) + (1)) + (1)); omega) (by have := (e135 : (x134).toInt = (((x1).toInt) + (1)) + (1)); omega)
      refine hw_aloadn (aX12_added 36 rfl) rfl ?_
      refine hw_ic (v := (1 : Int32)) (aX12_added 37 rfl) (by decide) ?_
      refine hv_putz (aX12_added 38 rfl) wf_RX12_577 (c121 hS) (s121 hS) (by decide) rfl rfl (by decide) (fun FI142 u143 => ?_)
      have rl144 : rl_e (FI142 149) (FI142 121 67) := by rw [show FI142 149 = FI136 149 from up_row u143 (by decide) rfl, show FI142 121 67 = FI136 121 67 from up_k u143 (by decide) rfl]; exact rl138
      have rl145 : rl_t (FI142 149) (FL 150) := by rw [show FI142 149 = FI136 149 from up_row u143 (by decide) rfl]; exact rl139
      have rl146 : rl_pm (FI142 121 90) (FI142 121 73) (FI142 166) (FI142 167) (FI142 168) := by rw [show FI142 166 = FI136 166 from up_row u143 (by decide) rfl, show FI142 167 = FI136 167 from up_row u143 (by decide) rfl, show FI142 168 = FI136 168 from up_row u143 (by decide) rfl, show FI142 121 90 = FI136 121 90 from up_k u143 (by decide) rfl, show FI142 121 73 = FI136 121 73 from up_k u143 (by decide) rfl]; exact rl140
      have hI147 : g_I FI142 := gU_121_91 hI141 u143 (by have := ((by decide : (1 : Int32).toInt = 1) : ((1 : Int32)).toInt = 1); omega) (by have := ((by decide : (1 : Int32).toInt = 1) : ((1 : Int32)).toInt = 1); omega)
      refine xw_goto (tgt := 92) (aX12_added 39 rfl) (by decide) ?_
      refine hw_ic (v := (1 : Int32)) (aX12_added 48 rfl) (by decide) ?_
      refine xw_iret (aX12_added 49 rfl) rfl (by decide) ?_
      have e148 : ((1 : Int32)).toInt = 1 := (by decide : (1 : Int32).toInt = 1)
      exact ⟨(1 : Int32), rfl, FI142, rfl, hI147, (gf_f (gf_f (gf_tr ex_rf (gf_tr ex_rf (gf_f (gf_tr ex_rf gf_rf f34 rfl rfl rfl) u51 (by decide)) f108 rfl rfl rfl) f125 rfl rfl rfl) u137 (by decide)) u143 (by decide)), (by have : ((1 : Int32)).toInt = 1 := (by decide); have := congrArg Int32.toInt (show FI142 121 67 = x4 from (up_k u143 (by decide) ((up_k u137 (by decide) ((gf_at f125 (c121 hS) (s121 hS) rfl ((gf_at f108 (c121 hS) (s121 hS) rfl ((up_k u51 (by decide) ((gf_at f34 (c121 hS) (s121 hS) rfl (h5))))))))))))); have := congrArg Int32.toInt (show FI142 121 68 = x134 from (up_k u143 (by decide) (up_eq u137))); have := (e135 : (x134).toInt = (((x1).toInt) + (1)) + (1)); omega), (by have : ((1 : Int32)).toInt = 1 := (by decide); have := congrArg Int32.toInt (show FI142 121 68 = x134 from (up_k u143 (by decide) (up_eq u137))); have := (e135 : (x134).toInt = (((x1).toInt) + (1)) + (1)); omega), (by have : ((1 : Int32)).toInt = 1 := (by decide); have := congrArg Int32.toInt (show FI142 121 68 = x134 from (up_k u143 (by decide) (up_eq u137))); have := (e135 : (x134).toInt = (((x1).toInt) + (1)) + (1)); have := congrArg Int32.toInt (show FI142 121 73 = x131 from (up_k u143 (by decide) ((up_k u137 (by decide) (h132))))); have := congrArg Int32.toInt (show FI142 121 90 = x42 from (up_k u143 (by decide) ((up_k u137 (by decide) ((gf_at f125 (c121 hS) (s121 hS) rfl ((gf_at f108 (c121 hS) (s121 hS) rfl ((up_k u51 (by decide) (h43))))))))))); omega), (by have : ((1 : Int32)).toInt = 1 := (by decide); have := congrArg Int32.toInt (show FI142 121 73 = x131 from (up_k u143 (by decide) ((up_k u137 (by decide) (h132))))); omega), (by have : ((1 : Int32)).toInt = 1 := (by decide); have := congrArg Int32.toInt (show FI142 121 90 = x42 from (up_k u143 (by decide) ((up_k u137 (by decide) ((gf_at f125 (c121 hS) (s121 hS) rfl ((gf_at f108 (c121 hS) (s121 hS) rfl ((up_k u51 (by decide) (h43))))))))))); omega), (by have : ((1 : Int32)).toInt = 1 := (by decide); omega), (by have : ((1 : Int32)).toInt = 1 := (by decide); have := congrArg Int32.toInt (show FI142 121 68 = x134 from (up_k u143 (by decide) (up_eq u137))); have := (e135 : (x134).toInt = (((x1).toInt) + (1)) + (1)); omega), (by have : ((1 : Int32)).toInt = 1 := (by decide); omega), (by have := congrArg Int32.toInt (show FI142 121 68 = x134 from (up_k u143 (by decide) (up_eq u137))); have := (e135 : (x134).toInt = (((x1).toInt) + (1)) + (1)); have := congrArg Int32.toInt (show FI142 121 91 = (1 : Int32) from up_eq u143); have := ((by decide : (1 : Int32).toInt = 1) : ((1 : Int32)).toInt = 1); have hm : (sk (FI142 166) (FI142 121 90).toInt.toNat) = au_red 6 (sk (FI 166) (FI 121 90).toInt.toNat) := (by rw [show FI142 166 = FI 166 from (up_row u143 (by decide) ((up_row u137 (by decide) ((gf_row f125 (c166 hS) (s166 hS) rfl ((gf_row f108 (c166 hS) (s166 hS) rfl ((up_row u51 (by decide) ((gf_row f34 (c166 hS) (s166 hS) rfl (rfl)))))))))))), show FI142 121 90 = FI32 121 90 from ((up_k u143 (by decide) ((up_k u137 (by decide) ((gf_at f125 (c121 hS) (s121 hS) rfl ((gf_at f108 (c121 hS) (s121 hS) rfl ((up_k u51 (by decide) (h43))))))))))).trans (h43).symm]; exact u38); exact Or.inr (Or.inr ⟨by omega, ⟨gg0.1, Or.inl hpl.2, hal.1, hal.2⟩, by omega, hm⟩)), (by have := congrArg Int32.toInt (show FI142 121 71 = x18 from (up_k u143 (by decide) ((up_k u137 (by decide) ((gf_at f125 (c121 hS) (s121 hS) rfl ((gf_at f108 (c121 hS) (s121 hS) rfl ((up_k u51 (by decide) ((gf_at f34 (c121 hS) (s121 hS) rfl (h19))))))))))))); have hm : (sk (FI142 166) (FI142 121 90).toInt.toNat) = au_red 6 (sk (FI 166) (FI 121 90).toInt.toNat) := (by rw [show FI142 166 = FI 166 from (up_row u143 (by decide) ((up_row u137 (by decide) ((gf_row f125 (c166 hS) (s166 hS) rfl ((gf_row f108 (c166 hS) (s166 hS) rfl ((up_row u51 (by decide) ((gf_row f34 (c166 hS) (s166 hS) rfl (rfl)))))))))))), show FI142 121 90 = FI32 121 90 from ((up_k u143 (by decide) ((up_k u137 (by decide) ((gf_at f125 (c121 hS) (s121 hS) rfl ((gf_at f108 (c121 hS) (s121 hS) rfl ((up_k u51 (by decide) (h43))))))))))).trans (h43).symm]; exact u38); rw [hm]; rw [au_op_red (by decide) gg1 gg2]; omega), (show rl_pm (FI142 121 90) (FI142 121 73) (FI142 166) (FI142 167) (FI142 168) from rl146)⟩
