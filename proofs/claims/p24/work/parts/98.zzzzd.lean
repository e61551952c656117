/-! THE LAW'S CALLS: the reference. -/
theorem EA_modelFeed {sk : xK} {base d n sl : Nat} {SH : Nat → Nat × Nat} {FI : Nat → Nat → Int32} {FL : Nat → Nat → Int64} {FR : Nat → Nat → Option Nat} (hkb : x_kb sk base) (h : g_INV n SH FI FL FR) (a1 : Int32) (a2 : Int32) (a3 : Int32) (a4 : Int32) (a5 : Int32) : hw sk base (d + 1) none 154 0 [(0, .ref (base + 121)), (1, .int (a1)), (2, .int (a2)), (3, .int (a3)), (4, .int (a4)), (5, .int (a5))] [] (n, sl, SH, FI, FL, FR) (h_I (fun r s => ∃ FI' FL', s = (n, sl, SH, FI', FL', FR) ∧ (∀ N : Nat, (FI 121 13).toInt = N → N ≤ 1000 → FI' 126 = (if N ≤ 980 then f_20 (FI 126) N a1 a2 a3 a4 a5 else FI 126)) ∧ g_INV n SH FI' FL' FR ∧ FI' 0 9 = FI 0 9 ∧ ((r.toInt = -1 ∧ (FI' 121 13).toInt = (FI 121 13).toInt ∧ 980 < (FI 121 13).toInt) ∨ (r.toInt = (FI 121 13).toInt + 20 ∧ (FI' 121 13).toInt = (FI 121 13).toInt + 20 ∧ (FI 121 13).toInt ≤ 980)) ∧ FI' 19 = FI 19 ∧ g_UK n SH FI FL FR n SH FI' FL' FR ∧ g_KC n FI FL FI' FL' ∧ (∀ A, rB SH FI FL A → rB SH FI' FL' A))) := by
  refine xw_mono (hw_pw (eA_modelFeed h a1 a2 a3 a4 a5) (fun N => rX12_feed hkb a1 a2 a3 a4 a5 n sl SH FI FL FR (pk_inv h))) ?_
  rintro v s ⟨⟨r, rfl, FI', FL', rfl, t1, ts⟩, x, s2, e, hR, sm⟩
  refine ⟨r, rfl, FI', FL', rfl, ?_, t1, ts⟩
  have er : r = x := (by have e : some (Value.int r) = some (Value.int x) := e; exact Value.int.inj (Option.some.inj e))
  subst er
  intro N hN h0
  obtain ⟨F2, e2, q⟩ := pq_feed hR hN h0
  subst e2
  rw [h_sm_ia sm (c := 126) (by have := h.1.1; omega) (s126 h.1) (s126 h.1)]
  exact q
theorem EA_modelExpression {sk : xK} {base d n sl : Nat} {SH : Nat → Nat × Nat} {FI : Nat → Nat → Int32} {FL : Nat → Nat → Int64} {FR : Nat → Nat → Option Nat} (hkb : x_kb sk base) (h : g_INV n SH FI FL FR) (a1 : Int32) : hw sk base (d + 1) none 157 0 [(0, .ref (base + 121)), (1, .int (a1))] [] (n, sl, SH, FI, FL, FR) (h_I (fun r s => ∃ FI' FL', s = (n, sl, SH, FI', FL', FR) ∧ ((∀ (T : Nat) (tp : Nat → Int32), (FI 121 13).toInt = T → T ≤ 1000 → (∀ x, x < T → FI 126 x = tp x) → (∀ x, x < T → 0 ≤ (tp x).toInt ∧ (tp x).toInt ≤ 255) → ∀ A, rB SH FI FL A → rB SH FI' FL' (ab_ex a1 T tp A)) ∧ (∀ K W T V, u_vw FI FL K W T V → u_vw FI' FL' K W T V)) ∧ g_INV n SH FI' FL' FR ∧ FI' 0 9 = FI 0 9 ∧ ((r.toInt = -1 ∧ (FI' 121 13).toInt = (FI 121 13).toInt ∧ ((a1).toInt < 0 ∨ 16 ≤ (a1).toInt ∨ 600 < (FI 121 13).toInt)) ∨ (r.toInt = (FI 121 13).toInt ∧ (FI' 121 13).toInt = 0 ∧ 0 ≤ (a1).toInt ∧ (a1).toInt < 16 ∧ (FI 121 13).toInt ≤ 600)) ∧ FI' 19 = FI 19 ∧ FI' 126 = FI 126 ∧ (∀ V, v_any FI FR SH n V → v_any FI' FR SH n V) ∧ u_e6 FI FI' FL FL' ∧ g_KC n FI FL FI' FL')) := by
  refine xw_mono (hw_pw (eA_modelExpression h a1) (fun N => rX12_expression hkb a1 n sl SH FI FL FR (pk_inv h))) ?_
  rintro v s ⟨⟨r, rfl, FI', FL', rfl, t1, t2, t3, t4, t5, tv, t6, ts⟩, x, s2, e, hR, sm⟩
  refine ⟨r, rfl, FI', FL', rfl, ?_, t1, t2, t3, t4, t5, tv, t6, ts⟩
  have er : r = x := (by have e : some (Value.int r) = some (Value.int x) := e; exact Value.int.inj (Option.some.inj e))
  subst er
  refine ⟨fun T tp hT hT2 ht htp A hA => ?_, fun K W T V hu => ?_⟩
  · obtain ⟨F2, L2, e2, q⟩ := re_exp h.1 hT ht htp hA hR
    subst e2
    exact rb_sm sm t1.1 q
  · obtain ⟨F2, e2, q1, q2⟩ := r_exp hR
    subst e2
    have us := u_sm sm t1.1
    have i124 := us.2.2.1
    have i125 := us.2.2.2.1
    exact u_vw_e hu t6 (fun k hk => by rw [i124, q1 k hk]) (fun k hk => by rw [i125, q2 k hk])
theorem EA_modelList {sk : xK} {base d n sl : Nat} {SH : Nat → Nat × Nat} {FI : Nat → Nat → Int32} {FL : Nat → Nat → Int64} {FR : Nat → Nat → Option Nat} (hkb : x_kb sk base) (h : g_INV n SH FI FL FR) (a1 : Int32) : hw sk base (d + 1) none 158 0 [(0, .ref (base + 121)), (1, .int (a1))] [] (n, sl, SH, FI, FL, FR) (h_I (fun r s => ∃ FI' FL', s = (n, sl, SH, FI', FL', FR) ∧ ((∀ (T : Nat) (tp : Nat → Int32), (FI 121 13).toInt = T → T ≤ 1000 → (∀ x, x < T → FI 126 x = tp x) → (∀ x, x < T → 0 ≤ (tp x).toInt ∧ (tp x).toInt ≤ 255) → ∀ A, rB SH FI FL A → rB SH FI' FL' (ab_li a1 T tp A)) ∧ (∀ K W T V, u_vw FI FL K W T V → u_vw FI' FL' K W T V)) ∧ g_INV n SH FI' FL' FR ∧ FI' 0 9 = FI 0 9 ∧ ((r.toInt = -1 ∧ (FI' 121 13).toInt = (FI 121 13).toInt ∧ ((a1).toInt < 0 ∨ 4 ≤ (a1).toInt ∨ 600 < (FI 121 13).toInt)) ∨ (r.toInt = (FI 121 13).toInt ∧ (FI' 121 13).toInt = 0 ∧ 0 ≤ (a1).toInt ∧ (a1).toInt < 4 ∧ (FI 121 13).toInt ≤ 600)) ∧ FI' 19 = FI 19 ∧ FI' 126 = FI 126 ∧ (∀ V, v_any FI FR SH n V → v_any FI' FR SH n V) ∧ u_e6 FI FI' FL FL' ∧ g_KC n FI FL FI' FL')) := by
  refine xw_mono (hw_pw (eA_modelList h a1) (fun N => rX12_list hkb a1 n sl SH FI FL FR (pk_inv h))) ?_
  rintro v s ⟨⟨r, rfl, FI', FL', rfl, t1, t2, t3, t4, t5, tv, t6, ts⟩, x, s2, e, hR, sm⟩
  refine ⟨r, rfl, FI', FL', rfl, ?_, t1, t2, t3, t4, t5, tv, t6, ts⟩
  have er : r = x := (by have e : some (Value.int r) = some (Value.int x) := e; exact Value.int.inj (Option.some.inj e))
  subst er
  refine ⟨fun T tp hT hT2 ht htp A hA => ?_, fun K W T V hu => ?_⟩
  · obtain ⟨F2, L2, e2, q⟩ := re_lis h.1 hT ht htp hA hR
    subst e2
    exact rb_sm sm t1.1 q
  · obtain ⟨F2, e2, q1, q2⟩ := r_lst hR
    subst e2
    have us := u_sm sm t1.1
    have i124 := us.2.2.1
    have i125 := us.2.2.2.1
    exact u_vw_e hu t6 (fun k hk => by rw [i124, q1 k hk]) (fun k hk => by rw [i125, q2 k hk])
theorem EA_load {sk : xK} {base d n sl : Nat} {SH : Nat → Nat × Nat} {FI : Nat → Nat → Int32} {FL : Nat → Nat → Int64} {FR : Nat → Nat → Option Nat} (hkb : x_kb sk base) (h : g_INV n SH FI FL FR) (a1 : Int32) (a2 : Int64) : hw sk base d none 159 0 [(0, .ref (base + 121)), (1, .int (a1)), (2, .long (a2))] [] (n, sl, SH, FI, FL, FR) (h_I (fun r s => ∃ FI' FL', s = (n, sl, SH, FI', FL', FR) ∧ (∀ A, rB SH FI FL A → rB SH FI' FL' (ab_ld a1 a2 A)) ∧ g_INV n SH FI' FL' FR ∧ FI' 0 9 = FI 0 9 ∧ FI' 121 13 = FI 121 13 ∧ FI' 19 = FI 19 ∧ FI' 126 = FI 126 ∧ g_UK n SH FI FL FR n SH FI' FL' FR ∧ g_KC n FI FL FI' FL')) := by
  refine xw_mono (hw_pw (eA_load h a1 a2) (fun N => rX12_load hkb a1 a2 n sl SH FI FL FR (pk_inv h))) ?_
  rintro v s ⟨⟨r, rfl, FI', FL', rfl, t1, ts⟩, x, s2, e, hR, sm⟩
  refine ⟨r, rfl, FI', FL', rfl, ?_, t1, ts⟩
  have er : r = x := (by have e : some (Value.int r) = some (Value.int x) := e; exact Value.int.inj (Option.some.inj e))
  subst er
  intro A hA
  obtain ⟨F2, L2, e2, q⟩ := rl_load hA hR
  subst e2
  exact rb_sm sm t1.1 q
theorem EA_register {sk : xK} {base d n sl : Nat} {SH : Nat → Nat × Nat} {FI : Nat → Nat → Int32} {FL : Nat → Nat → Int64} {FR : Nat → Nat → Option Nat} (hkb : x_kb sk base) (h : g_INV n SH FI FL FR) (a1 : Int32) : hw sk base d none 160 0 [(0, .ref (base + 121)), (1, .int (a1))] [] (n, sl, SH, FI, FL, FR) (h_J (fun r s => ∃ FI' FL', s = (n, sl, SH, FI', FL', FR) ∧ (∀ A, rB SH FI FL A → rB SH FI' FL' A ∧ r = ab_rg a1 A) ∧ g_INV n SH FI' FL' FR ∧ FI' 0 9 = FI 0 9 ∧ FI' 121 13 = FI 121 13 ∧ FI' 19 = FI 19 ∧ FI' 126 = FI 126 ∧ g_UK n SH FI FL FR n SH FI' FL' FR ∧ g_KC n FI FL FI' FL')) := by
  refine xw_mono (hw_pw (eA_register h a1) (fun N => rX12_register hkb a1 n sl SH FI FL FR (pk_inv h))) ?_
  rintro v s ⟨⟨r, rfl, FI', FL', rfl, t1, ts⟩, x, s2, e, hR, sm⟩
  refine ⟨r, rfl, FI', FL', rfl, ?_, t1, ts⟩
  have er : r = x := (by have e : some (Value.long r) = some (Value.long x) := e; exact Value.long.inj (Option.some.inj e))
  subst er
  intro A hA
  obtain ⟨q1, F2, L2, e2, q⟩ := rl_register hA hR
  subst e2
  exact ⟨rb_sm sm t1.1 q, q1⟩
theorem EA_poke {sk : xK} {base d n sl : Nat} {SH : Nat → Nat × Nat} {FI : Nat → Nat → Int32} {FL : Nat → Nat → Int64} {FR : Nat → Nat → Option Nat} (hkb : x_kb sk base) (h : g_INV n SH FI FL FR) (a1 : Int32) (a2 : Int32) : hw sk base d none 161 0 [(0, .ref (base + 121)), (1, .int (a1)), (2, .int (a2))] [] (n, sl, SH, FI, FL, FR) (h_I (fun r s => ∃ FI' FL', s = (n, sl, SH, FI', FL', FR) ∧ (∀ A, rB SH FI FL A → rB SH FI' FL' (ab_po a1 a2 A)) ∧ g_INV n SH FI' FL' FR ∧ FI' 0 9 = FI 0 9 ∧ FI' 121 13 = FI 121 13 ∧ FI' 19 = FI 19 ∧ FI' 126 = FI 126 ∧ g_UK n SH FI FL FR n SH FI' FL' FR ∧ g_KC n FI FL FI' FL')) := by
  refine xw_mono (hw_pw (eA_poke h a1 a2) (fun N => rX12_poke hkb a1 a2 n sl SH FI FL FR (pk_inv h))) ?_
  rintro v s ⟨⟨r, rfl, FI', FL', rfl, t1, ts⟩, x, s2, e, hR, sm⟩
  refine ⟨r, rfl, FI', FL', rfl, ?_, t1, ts⟩
  have er : r = x := (by have e : some (Value.int r) = some (Value.int x) := e; exact Value.int.inj (Option.some.inj e))
  subst er
  intro A hA
  obtain ⟨F2, L2, e2, q⟩ := rl_poke hA hR
  subst e2
  exact rb_sm sm t1.1 q
theorem EA_peek {sk : xK} {base d n sl : Nat} {SH : Nat → Nat × Nat} {FI : Nat → Nat → Int32} {FL : Nat → Nat → Int64} {FR : Nat → Nat → Option Nat} (hkb : x_kb sk base) (h : g_INV n SH FI FL FR) (a1 : Int32) : hw sk base d none 162 0 [(0, .ref (base + 121)), (1, .int (a1))] [] (n, sl, SH, FI, FL, FR) (h_I (fun r s => ∃ FI' FL', s = (n, sl, SH, FI', FL', FR) ∧ (∀ A, rB SH FI FL A → rB SH FI' FL' A ∧ r = ab_pk a1 A) ∧ g_INV n SH FI' FL' FR ∧ FI' 0 9 = FI 0 9 ∧ FI' 121 13 = FI 121 13 ∧ FI' 19 = FI 19 ∧ FI' 126 = FI 126 ∧ g_UK n SH FI FL FR n SH FI' FL' FR ∧ g_KC n FI FL FI' FL')) := by
  refine xw_mono (hw_pw (eA_peek h a1) (fun N => rX12_peek hkb a1 n sl SH FI FL FR (pk_inv h))) ?_
  rintro v s ⟨⟨r, rfl, FI', FL', rfl, t1, ts⟩, x, s2, e, hR, sm⟩
  refine ⟨r, rfl, FI', FL', rfl, ?_, t1, ts⟩
  have er : r = x := (by have e : some (Value.int r) = some (Value.int x) := e; exact Value.int.inj (Option.some.inj e))
  subst er
  intro A hA
  obtain ⟨q1, F2, L2, e2, q⟩ := rl_peek hA hR
  subst e2
  exact ⟨rb_sm sm t1.1 q, q1⟩
theorem EA_frame {sk : xK} {base d n sl : Nat} {SH : Nat → Nat × Nat} {FI : Nat → Nat → Int32} {FL : Nat → Nat → Int64} {FR : Nat → Nat → Option Nat} (hkb : x_kb sk base) (h : g_INV n SH FI FL FR) (a1 : Int32) : hw sk base d none 163 0 [(0, .ref (base + 121)), (1, .int (a1))] [] (n, sl, SH, FI, FL, FR) (h_I (fun r s => ∃ FI' FL', s = (n, sl, SH, FI', FL', FR) ∧ (∀ A, rB SH FI FL A → rB SH FI' FL' (ab_fr a1 A)) ∧ g_INV n SH FI' FL' FR ∧ FI' 0 9 = FI 0 9 ∧ FI' 121 13 = FI 121 13 ∧ FI' 19 = FI 19 ∧ FI' 126 = FI 126 ∧ g_UK n SH FI FL FR n SH FI' FL' FR ∧ g_KC n FI FL FI' FL')) := by
  refine xw_mono (hw_pw (eA_frame h a1) (fun N => rX12_frame hkb a1 n sl SH FI FL FR (pk_inv h))) ?_
  rintro v s ⟨⟨r, rfl, FI', FL', rfl, t1, ts⟩, x, s2, e, hR, sm⟩
  refine ⟨r, rfl, FI', FL', rfl, ?_, t1, ts⟩
  have er : r = x := (by have e : some (Value.int r) = some (Value.int x) := e; exact Value.int.inj (Option.some.inj e))
  subst er
  intro A hA
  obtain ⟨F2, L2, e2, q⟩ := rl_frame hA hR
  subst e2
  exact rb_sm sm t1.1 q
theorem EA_cfa {sk : xK} {base d n sl : Nat} {SH : Nat → Nat × Nat} {FI : Nat → Nat → Int32} {FL : Nat → Nat → Int64} {FR : Nat → Nat → Option Nat} (hkb : x_kb sk base) (h : g_INV n SH FI FL FR) (a1 : Int32) (a2 : Int64) : hw sk base d none 164 0 [(0, .ref (base + 121)), (1, .int (a1)), (2, .long (a2))] [] (n, sl, SH, FI, FL, FR) (h_I (fun r s => ∃ FI' FL', s = (n, sl, SH, FI', FL', FR) ∧ (∀ A, rB SH FI FL A → rB SH FI' FL' (ab_cf a1 a2 A)) ∧ g_INV n SH FI' FL' FR ∧ FI' 0 9 = FI 0 9 ∧ FI' 121 13 = FI 121 13 ∧ FI' 19 = FI 19 ∧ FI' 126 = FI 126 ∧ g_UK n SH FI FL FR n SH FI' FL' FR ∧ g_KC n FI FL FI' FL')) := by
  refine xw_mono (hw_pw (eA_cfa h a1 a2) (fun N => rX12_cfa hkb a1 a2 n sl SH FI FL FR (pk_inv h))) ?_
  rintro v s ⟨⟨r, rfl, FI', FL', rfl, t1, ts⟩, x, s2, e, hR, sm⟩
  refine ⟨r, rfl, FI', FL', rfl, ?_, t1, ts⟩
  have er : r = x := (by have e : some (Value.int r) = some (Value.int x) := e; exact Value.int.inj (Option.some.inj e))
  subst er
  intro A hA
  obtain ⟨F2, L2, e2, q⟩ := rl_cfa hA hR
  subst e2
  exact rb_sm sm t1.1 q
theorem EA_set {sk : xK} {base d n sl : Nat} {SH : Nat → Nat × Nat} {FI : Nat → Nat → Int32} {FL : Nat → Nat → Int64} {FR : Nat → Nat → Option Nat} (hkb : x_kb sk base) (h : g_INV n SH FI FL FR) (a1 : Int32) (a2 : Int64) (a3 : Int32) (g0 : 0 ≤ (a3).toInt ∧ (a3).toInt ≤ 1) : hw sk base d none 165 0 [(0, .ref (base + 121)), (1, .int (a1)), (2, .long (a2)), (4, .int (a3))] [] (n, sl, SH, FI, FL, FR) (h_I (fun r s => ∃ FI' FL', s = (n, sl, SH, FI', FL', FR) ∧ (∀ A, rB SH FI FL A → rB SH FI' FL' (ab_se a1 a2 a3 A)) ∧ g_INV n SH FI' FL' FR ∧ FI' 0 9 = FI 0 9 ∧ FI' 121 13 = FI 121 13 ∧ FI' 19 = FI 19 ∧ FI' 126 = FI 126 ∧ g_UK n SH FI FL FR n SH FI' FL' FR ∧ g_KC n FI FL FI' FL')) := by
  refine xw_mono (hw_pw (eA_set h a1 a2 a3 g0) (fun N => rX12_set hkb a1 a2 a3 n sl SH FI FL FR (pk_inv h))) ?_
  rintro v s ⟨⟨r, rfl, FI', FL', rfl, t1, ts⟩, x, s2, e, hR, sm⟩
  refine ⟨r, rfl, FI', FL', rfl, ?_, t1, ts⟩
  have er : r = x := (by have e : some (Value.int r) = some (Value.int x) := e; exact Value.int.inj (Option.some.inj e))
  subst er
  intro A hA
  obtain ⟨F2, L2, e2, q⟩ := rl_set hA hR
  subst e2
  exact rb_sm sm t1.1 q
theorem EA_run {sk : xK} {base d n sl : Nat} {SH : Nat → Nat × Nat} {FI : Nat → Nat → Int32} {FL : Nat → Nat → Int64} {FR : Nat → Nat → Option Nat} (hkb : x_kb sk base) (h : g_INV n SH FI FL FR) (a1 : Int32) (a2 : Int32) : hw sk base (d + 6) none 192 0 [(0, .ref (base + 121)), (1, .int (a1)), (2, .int (a2))] [] (n, sl, SH, FI, FL, FR) (h_I (fun r s => ∃ FI' FL', s = (n, sl, SH, FI', FL', FR) ∧ (∀ A v A2, rE_mem A.1 → run_is A a1 a2 v A2 → rB SH FI FL A → r = v ∧ rB SH FI' FL' A2) ∧ g_INV n SH FI' FL' FR ∧ FI' 0 9 = FI 0 9 ∧ FI' 121 13 = FI 121 13 ∧ FI' 19 = FI 19 ∧ FI' 126 = FI 126 ∧ g_UK n SH FI FL FR n SH FI' FL' FR ∧ g_KC n FI FL FI' FL')) := by
  refine xw_mono (hw_pw (eA_run h a1 a2) (fun N => rX12_run hkb a1 a2 n sl SH FI FL FR (pk_inv h))) ?_
  rintro v s ⟨⟨r, rfl, FI', FL', rfl, t1, ts⟩, x, s2, e, hR, sm⟩
  refine ⟨r, rfl, FI', FL', rfl, ?_, t1, ts⟩
  have er : r = x := (by have e : some (Value.int r) = some (Value.int x) := e; exact Value.int.inj (Option.some.inj e))
  subst er
  intro A v A2 hm hs hA
  obtain ⟨q1, F2, L2, e2, q⟩ := re_run hA hs hR
  subst e2
  exact ⟨q1, rb_sm sm t1.1 q⟩
theorem EA_find {sk : xK} {base d n sl : Nat} {SH : Nat → Nat × Nat} {FI : Nat → Nat → Int32} {FL : Nat → Nat → Int64} {FR : Nat → Nat → Option Nat} (hkb : x_kb sk base) (h : g_INV n SH FI FL FR) (a1 : Int32) (a2 : Int64) (a3 : Int64) (a4 : Int32) : hw sk base (d + 7) none 196 0 [(0, .ref (base + 121)), (1, .int (a1)), (2, .long (a2)), (4, .long (a3)), (6, .int (a4))] [] (n, sl, SH, FI, FL, FR) (h_I (fun r s => ∃ FI' FL', s = (n, sl, SH, FI', FL', FR) ∧ (∀ A v A2, rE_mem A.1 → fin_is A a1 a2 a3 a4 v A2 → rB SH FI FL A → r = v ∧ rB SH FI' FL' A2) ∧ g_INV n SH FI' FL' FR ∧ FI' 0 9 = FI 0 9 ∧ FI' 121 13 = FI 121 13 ∧ FI' 19 = FI 19 ∧ FI' 126 = FI 126 ∧ g_UK n SH FI FL FR n SH FI' FL' FR ∧ g_KC n FI FL FI' FL')) := by
  refine xw_mono (hw_pw (eA_find h a1 a2 a3 a4) (fun N => rX12_find hkb a1 a2 a3 a4 n sl SH FI FL FR (pk_inv h))) ?_
  rintro v s ⟨⟨r, rfl, FI', FL', rfl, t1, ts⟩, x, s2, e, hR, sm⟩
  refine ⟨r, rfl, FI', FL', rfl, ?_, t1, ts⟩
  have er : r = x := (by have e : some (Value.int r) = some (Value.int x) := e; exact Value.int.inj (Option.some.inj e))
  subst er
  intro A v A2 hm hs hA
  obtain ⟨q1, F2, L2, e2, q⟩ := re_find hA hs hR
  subst e2
  exact ⟨q1, rb_sm sm t1.1 q⟩
theorem EA_parts {sk : xK} {base d n sl : Nat} {SH : Nat → Nat × Nat} {FI : Nat → Nat → Int32} {FL : Nat → Nat → Int64} {FR : Nat → Nat → Option Nat} (hkb : x_kb sk base) (h : g_INV n SH FI FL FR) : hw sk base d none 198 0 [(0, .ref (base + 121))] [] (n, sl, SH, FI, FL, FR) (h_I (fun r s => ∃ FI' FL', s = (n, sl, SH, FI', FL', FR) ∧ (∀ A, rB SH FI FL A → rB SH FI' FL' A ∧ r.toInt = (A.2.2.1.2.length : Int)) ∧ g_INV n SH FI' FL' FR ∧ FI' 0 9 = FI 0 9 ∧ FI' 121 13 = FI 121 13 ∧ FI' 19 = FI 19 ∧ FI' 126 = FI 126 ∧ g_UK n SH FI FL FR n SH FI' FL' FR ∧ g_KC n FI FL FI' FL')) := by
  refine xw_mono (hw_pw (eA_parts h ) (fun N => rX12_parts hkb  n sl SH FI FL FR (pk_inv h))) ?_
  rintro v s ⟨⟨r, rfl, FI', FL', rfl, t1, ts⟩, x, s2, e, hR, sm⟩
  refine ⟨r, rfl, FI', FL', rfl, ?_, t1, ts⟩
  have er : r = x := (by have e : some (Value.int r) = some (Value.int x) := e; exact Value.int.inj (Option.some.inj e))
  subst er
  intro A hA
  obtain ⟨q1, F2, L2, e2, q⟩ := rl_parts hA hR
  subst e2
  exact ⟨rb_sm sm t1.1 q, q1⟩
theorem EA_part_ {sk : xK} {base d n sl : Nat} {SH : Nat → Nat × Nat} {FI : Nat → Nat → Int32} {FL : Nat → Nat → Int64} {FR : Nat → Nat → Option Nat} (hkb : x_kb sk base) (h : g_INV n SH FI FL FR) (a1 : Int32) (a2 : Int32) : hw sk base d none 199 0 [(0, .ref (base + 121)), (1, .int (a1)), (2, .int (a2))] [] (n, sl, SH, FI, FL, FR) (h_J (fun r s => ∃ FI' FL', s = (n, sl, SH, FI', FL', FR) ∧ (∀ A, rB SH FI FL A → rB SH FI' FL' A ∧ pa_is A.2.2.1 a1 a2 r) ∧ g_INV n SH FI' FL' FR ∧ FI' 0 9 = FI 0 9 ∧ FI' 121 13 = FI 121 13 ∧ FI' 19 = FI 19 ∧ FI' 126 = FI 126 ∧ g_UK n SH FI FL FR n SH FI' FL' FR ∧ g_KC n FI FL FI' FL')) := by
  refine xw_mono (hw_pw (eA_part_ h a1 a2) (fun N => rX12_part_ hkb a1 a2 n sl SH FI FL FR (pk_inv h))) ?_
  rintro v s ⟨⟨r, rfl, FI', FL', rfl, t1, ts⟩, x, s2, e, hR, sm⟩
  refine ⟨r, rfl, FI', FL', rfl, ?_, t1, ts⟩
  have er : r = x := (by have e : some (Value.long r) = some (Value.long x) := e; exact Value.long.inj (Option.some.inj e))
  subst er
  intro A hA
  obtain ⟨q1, F2, L2, e2, q⟩ := re_part hA hR
  subst e2
  exact ⟨rb_sm sm t1.1 q, q1⟩
theorem EA_fetch {sk : xK} {base d n sl : Nat} {SH : Nat → Nat × Nat} {FI : Nat → Nat → Int32} {FL : Nat → Nat → Int64} {FR : Nat → Nat → Option Nat} (hkb : x_kb sk base) (h : g_INV n SH FI FL FR) (a1 : Int32) : hw sk base (d + 1) none 203 0 [(0, .ref (base + 121)), (1, .int (a1))] [] (n, sl, SH, FI, FL, FR) (h_I (fun r s => ∃ FI' FL', s = (n, sl, SH, FI', FL', FR) ∧ (∀ A v A2, rE_mem A.1 → fet_is A a1 v A2 → rB SH FI FL A → r = v ∧ rB SH FI' FL' A2) ∧ g_INV n SH FI' FL' FR ∧ FI' 0 9 = FI 0 9 ∧ FI' 121 13 = FI 121 13 ∧ FI' 19 = FI 19 ∧ FI' 126 = FI 126 ∧ g_UK n SH FI FL FR n SH FI' FL' FR ∧ g_KC n FI FL FI' FL')) := by
  refine xw_mono (hw_pw (eA_fetch h a1) (fun N => rX12_fetch hkb a1 n sl SH FI FL FR (pk_inv h))) ?_
  rintro v s ⟨⟨r, rfl, FI', FL', rfl, t1, ts⟩, x, s2, e, hR, sm⟩
  refine ⟨r, rfl, FI', FL', rfl, ?_, t1, ts⟩
  have er : r = x := (by have e : some (Value.int r) = some (Value.int x) := e; exact Value.int.inj (Option.some.inj e))
  subst er
  intro A v A2 hm hs hA
  obtain ⟨q1, F2, L2, e2, q⟩ := re_fetch hm hA hs hR
  subst e2
  exact ⟨q1, rb_sm sm t1.1 q⟩
theorem EA_store2 {sk : xK} {base d n sl : Nat} {SH : Nat → Nat × Nat} {FI : Nat → Nat → Int32} {FL : Nat → Nat → Int64} {FR : Nat → Nat → Option Nat} (hkb : x_kb sk base) (h : g_INV n SH FI FL FR) (a1 : Int32) : hw sk base (d + 1) none 204 0 [(0, .ref (base + 121)), (1, .int (a1))] [] (n, sl, SH, FI, FL, FR) (h_I (fun r s => ∃ FI' FL', s = (n, sl, SH, FI', FL', FR) ∧ (∀ (T : Nat) (tp : Nat → Int32), (FI 121 13).toInt = T → T ≤ 1000 → (∀ x, x < T → FI 126 x = tp x) → (∀ x, x < T → 0 ≤ (tp x).toInt ∧ (tp x).toInt ≤ 255) → ∀ A v A2, rE_mem A.1 → sto_is A tp T a1 v A2 → rB SH FI FL A → r = v ∧ rB SH FI' FL' A2) ∧ g_INV n SH FI' FL' FR ∧ FI' 0 9 = FI 0 9 ∧ (((FI' 121 13).toInt = (FI 121 13).toInt ∧ ((a1).toInt < 1 ∨ 512 < (a1).toInt ∨ 8 * (FI 121 13).toInt < (a1).toInt)) ∨ ((FI' 121 13).toInt = 0 ∧ 1 ≤ (a1).toInt ∧ (a1).toInt ≤ 512 ∧ (a1).toInt ≤ 8 * (FI 121 13).toInt)) ∧ FI' 19 = FI 19 ∧ FI' 126 = FI 126 ∧ g_UK n SH FI FL FR n SH FI' FL' FR ∧ g_KC n FI FL FI' FL')) := by
  refine xw_mono (hw_pw (eA_store2 h a1) (fun N => rX12_store hkb a1 n sl SH FI FL FR (pk_inv h))) ?_
  rintro v s ⟨⟨r, rfl, FI', FL', rfl, t1, ts⟩, x, s2, e, hR, sm⟩
  refine ⟨r, rfl, FI', FL', rfl, ?_, t1, ts⟩
  have er : r = x := (by have e : some (Value.int r) = some (Value.int x) := e; exact Value.int.inj (Option.some.inj e))
  subst er
  intro T tp hT hT2 ht htp A v A2 hm hs hA
  obtain ⟨q1, F2, L2, e2, q⟩ := re_store hm hT hT2 ht htp hA hs hR
  subst e2
  exact ⟨q1, rb_sm sm t1.1 q⟩
theorem EA_out {sk : xK} {base d n sl : Nat} {SH : Nat → Nat × Nat} {FI : Nat → Nat → Int32} {FL : Nat → Nat → Int64} {FR : Nat → Nat → Option Nat} (hkb : x_kb sk base) (h : g_INV n SH FI FL FR) (a1 : Int32) : hw sk base d none 205 0 [(0, .ref (base + 121)), (1, .int (a1))] [] (n, sl, SH, FI, FL, FR) (h_I (fun r s => ∃ FI' FL', s = (n, sl, SH, FI', FL', FR) ∧ (∀ A, rB SH FI FL A → rB SH FI' FL' A ∧ r = ab_ou a1 A) ∧ g_INV n SH FI' FL' FR ∧ FI' 0 9 = FI 0 9 ∧ FI' 121 13 = FI 121 13 ∧ FI' 19 = FI 19 ∧ FI' 126 = FI 126 ∧ g_UK n SH FI FL FR n SH FI' FL' FR ∧ g_KC n FI FL FI' FL')) := by
  refine xw_mono (hw_pw (eA_out h a1) (fun N => rX12_out hkb a1 n sl SH FI FL FR (pk_inv h))) ?_
  rintro v s ⟨⟨r, rfl, FI', FL', rfl, t1, ts⟩, x, s2, e, hR, sm⟩
  refine ⟨r, rfl, FI', FL', rfl, ?_, t1, ts⟩
  have er : r = x := (by have e : some (Value.int r) = some (Value.int x) := e; exact Value.int.inj (Option.some.inj e))
  subst er
  intro A hA
  obtain ⟨q1, F2, L2, e2, q⟩ := rl_out hA hR
  subst e2
  exact ⟨rb_sm sm t1.1 q, q1⟩
theorem EA_compile {sk : xK} {base d n sl : Nat} {SH : Nat → Nat × Nat} {FI : Nat → Nat → Int32} {FL : Nat → Nat → Int64} {FR : Nat → Nat → Option Nat} (hkb : x_kb sk base) (h : g_INV n SH FI FL FR) : hw sk base (d + 11) none 225 0 [(0, .ref (base + 121))] [] (n, sl, SH, FI, FL, FR) (h_I (fun r s => ∃ FI' FL', s = (n, sl, SH, FI', FL', FR) ∧ (∀ (X : Nat → Int) (N : Nat), x_vw FI X N → (∀ A, rB SH FI FL A → rB SH FI' FL' A) ∧ ∃ K W P T, (t_tl X N 1001 0).length = T + 1 ∧ tk_ok K W P T ∧ (∀ i x, (t_tl X N 1001 0)[i]? = some x → K i = x.1 ∧ W i = x.2.1) ∧ c_aut FI FL FI' FL' K W T) ∧ g_INV n SH FI' FL' FR ∧ FI' 0 9 = FI 0 9 ∧ ((FI' 121 13).toInt = 0) ∧ FI' 19 = FI 19 ∧ FI' 126 = FI 126 ∧ (∀ V, v_any FI FR SH n V → v_any FI' FR SH n V) ∧ g_KC n FI FL FI' FL')) := by
  refine xw_mono (hw_pw (eA_compile h ) (fun N => rX12_compile hkb  n sl SH FI FL FR (pk_inv h))) ?_
  rintro v s ⟨⟨r, rfl, FI', FL', rfl, t1, ts⟩, x, s2, e, hR, sm⟩
  refine ⟨r, rfl, FI', FL', rfl, ?_, t1, ts⟩
  have er : r = x := (by have e : some (Value.int r) = some (Value.int x) := e; exact Value.int.inj (Option.some.inj e))
  subst er
  intro X N hx
  have hk9 := r_ck h.1 hR hx h.2.2.2.2.2.2.2.2.2.2.1
  obtain ⟨K, W, P, T, r1, r2, r3, res⟩ := r_compilet h.1 hR hx h.2.2.2.2.2.2.2.2.2.2.1
  obtain ⟨n2, sl2, SH2, F2, L2, R2⟩ := s2
  have us := u_sm sm t1.1
  refine ⟨fun A hA => ?_, K, W, P, T, r1, r2, r3, 12 * T + 21, fun f hf => ?_⟩
  · exact rb_sm sm t1.1 (rB_gr (fun _ _ _ => ⟨rfl, rfl⟩) (sm_ia sm (c124 t1.1) (by rw [s124 t1.1])).1 (rB_ck hk9 hA))
  · obtain ⟨hin, q⟩ := res f (by omega)
    refine ⟨hin, ?_⟩
    generalize lp_tx K W f 1100 0 [] = o at q
    match o, q with
    | none, q => exact fun K0 W0 T0 V0 hu => u_vw_q us (u_vw_q q.2 hu)
    | some V, q =>
      rcases q with ⟨q1, q2, q3⟩ | ⟨q1, q2, q3⟩
      · exact Or.inl ⟨q1, fun K0 W0 T0 V0 hu => u_vw_q us (u_vw_q q3 hu)⟩
      · exact Or.inr ⟨q1, u_vw_q us q3⟩
theorem EA_where {sk : xK} {base d n sl : Nat} {SH : Nat → Nat × Nat} {FI : Nat → Nat → Int32} {FL : Nat → Nat → Int64} {FR : Nat → Nat → Option Nat} (hkb : x_kb sk base) (h : g_INV n SH FI FL FR) (a1 : Int32) (a2 : Int64) (a3 : Int32) : hw sk base (d + 7) none 252 0 [(0, .ref (base + 121)), (1, .int (a1)), (2, .long (a2)), (4, .int (a3))] [] (n, sl, SH, FI, FL, FR) (h_I (fun r s => ∃ FI' FL', s = (n, sl, SH, FI', FL', FR) ∧ (∀ A v A2 K W T V, u_vw FI FL K W T V → v_bt V → whe_is A V a1 a2 a3 v A2 → rB SH FI FL A → r = v ∧ rB SH FI' FL' A2) ∧ g_INV n SH FI' FL' FR ∧ FI' 0 9 = FI 0 9 ∧ FI' 121 13 = FI 121 13 ∧ FI' 19 = FI 19 ∧ FI' 126 = FI 126 ∧ g_UK n SH FI FL FR n SH FI' FL' FR ∧ g_KC n FI FL FI' FL')) := by
  refine xw_mono (hw_pw (eA_where h a1 a2 a3) (fun N => rX12_where hkb a1 a2 a3 n sl SH FI FL FR (pk_inv h))) ?_
  rintro v s ⟨⟨r, rfl, FI', FL', rfl, t1, ts⟩, x, s2, e, hR, sm⟩
  refine ⟨r, rfl, FI', FL', rfl, ?_, t1, ts⟩
  have er : r = x := (by have e : some (Value.int r) = some (Value.int x) := e; exact Value.int.inj (Option.some.inj e))
  subst er
  intro A v A2 K W T V hu hb hs hA
  obtain ⟨q1, F2, L2, e2, q⟩ := re_where h.1 hu hb hA hs hR
  subst e2
  exact ⟨q1, rb_sm sm t1.1 q⟩
theorem EA_means {sk : xK} {base d n sl : Nat} {SH : Nat → Nat × Nat} {FI : Nat → Nat → Int32} {FL : Nat → Nat → Int64} {FR : Nat → Nat → Option Nat} (hkb : x_kb sk base) (h : g_INV n SH FI FL FR) (a1 : Int32) (a2 : Int64) : hw sk base (d + 10) none 253 0 [(0, .ref (base + 121)), (1, .int (a1)), (2, .long (a2))] [] (n, sl, SH, FI, FL, FR) (h_I (fun r s => ∃ FI' FL', s = (n, sl, SH, FI', FL', FR) ∧ (∀ A V fb K W P T f, xfq A.1 fb → u_vw FI FL K W T V → (V = [] ∨ (tk_ok K W P T ∧ lp_in K W f T V)) → rB SH FI FL A → (¬ (0 ≤ a1.toInt ∧ a1.toInt < (V.length : Int)) ∧ r = -1 ∧ rB SH FI' FL' A) ∨ ((0 ≤ a1.toInt ∧ a1.toInt < (V.length : Int)) ∧ ∃ x, V[a1.toInt.toNat]? = some x ∧ ∃ a, mvar A.1 fb a2 x.2.2.1 x.2.2.2.1 a ∧ ∀ v A2, go_is A v a A2 → r = v ∧ rB SH FI' FL' A2)) ∧ g_INV n SH FI' FL' FR ∧ FI' 0 9 = FI 0 9 ∧ FI' 121 13 = FI 121 13 ∧ FI' 19 = FI 19 ∧ FI' 126 = FI 126 ∧ g_UK n SH FI FL FR n SH FI' FL' FR ∧ g_KC n FI FL FI' FL')) := by
  refine xw_mono (hw_pw (eA_means h a1 a2) (fun N => rX12_means hkb a1 a2 n sl SH FI FL FR (pk_inv h))) ?_
  rintro v s ⟨⟨r, rfl, FI', FL', rfl, t1, ts⟩, x, s2, e, hR, sm⟩
  refine ⟨r, rfl, FI', FL', rfl, ?_, t1, ts⟩
  have er : r = x := (by have e : some (Value.int r) = some (Value.int x) := e; exact Value.int.inj (Option.some.inj e))
  subst er
  intro A V fb K W P T f hf hu hk hA
  rcases re_means h.1 hf hu hk hA hR with ⟨k1, k2, F2, L2, e2, q⟩ | ⟨k1, x, hx, a, ha, k2⟩
  · subst e2
    exact Or.inl ⟨k1, k2, rb_sm sm t1.1 q⟩
  · refine Or.inr ⟨k1, x, hx, a, ha, fun v A2 hg => ?_⟩
    obtain ⟨q1, F2, L2, e2, q⟩ := k2 v A2 hg
    subst e2
    exact ⟨q1, rb_sm sm t1.1 q⟩
