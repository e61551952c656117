/-! THE CLASS'S MEANINGS of expressions: its trees. -/
theorem ce_ft {E : ms_E} {fb : xX} {c r : List Int} {e : Int} (h : ce E fb c (.inl e)) : ce E fb (c ++ r) (.inl e) := by
  intro r2 S
  obtain ⟨k, h⟩ := h (r ++ r2) S
  exact ⟨k, fun g => by rw [List.append_assoc]; exact h g⟩
theorem l_oi (x : Int64) : Int64.ofInt x.toInt = x := Int64.ofInt_toInt x
theorem xad_p {s t : Int64} : x_ad (.inr s) t.toInt = .inr (ms_wk 34 s t) := by
  show Sum.inr (s + Int64.ofInt t.toInt) = _
  rw [l_oi]
  rfl
theorem xad_m {s t : Int64} : x_ad (.inr s) (-t.toInt) = .inr (ms_wk 28 s t) := by
  show Sum.inr (s + Int64.ofInt (-t.toInt)) = _
  rw [Int64.ofInt_neg, l_oi, ← Int64.sub_eq_add_neg]
  rfl
theorem n_nx_is {FI : Nat → Nat → Int32} {FL : Nat → Nat → Int64} {FR : Nat → Nat → Option Nat} {c e : Nat} (h : n_nx FI FL FR c = some e) : ((FI c 0).toInt = 37 ∨ (FI c 0).toInt = 11) ∧ FR c 6 = some e ∧ 176 ≤ e ∧ (FI e 0).toInt = 5 ∧ ((FI e 2).toInt = 43 ∨ (FI e 2).toInt = 45) ∧ n_rg (FI e 0).toInt (FL e 1).toInt = true := by
  unfold n_nx at h
  by_cases h1 : (FI c 0).toInt = 37 ∨ (FI c 0).toInt = 11
  · rw [if_pos h1] at h
    cases h6 : FR c 6 with
    | none => rw [h6] at h; cases h
    | some e2 =>
      rw [h6] at h
      (try dsimp only at h)
      by_cases h2 : 176 ≤ e2 ∧ (FI e2 0).toInt = 5 ∧ ((FI e2 2).toInt = 43 ∨ (FI e2 2).toInt = 45) ∧ n_rg (FI e2 0).toInt (FL e2 1).toInt = true
      · rw [if_pos h2] at h
        cases h
        exact ⟨h1, rfl, h2⟩
      · rw [if_neg h2] at h
        cases h
  · rw [if_neg h1] at h
    cases h
section CVT
variable {n sl : Nat} {SH : Nat → Nat × Nat} {E : ms_E} {fb : xX}
def v_P0 (n sl : Nat) (SH : Nat → Nat × Nat) (E : ms_E) (fb : xX) (f : Nat) : Prop := ∀ (g : Nat) (o : Option Nat) (a2 : Int32) (d : Int) (FI : Nat → Nat → Int32) (FL : Nat → Nat → Int64) (FR : Nat → Nat → Option Nat) (v : Int64) (st : hS) (code : List Int), QX2 g 0 o a2 n sl SH FI FL FR v st → a2.toInt = d → 0 ≤ d → d ≤ 121 → n_cd FI FL FR f 0 o d = some code → code.length ≤ 60000 → (FI 90 4).toInt = 0 → th FR ∧ thI FR → cE FI FL FR SH E → ∃ x, ce E fb code x ∧ vx n sl SH FI FL FR v st x
def v_P1 (n sl : Nat) (SH : Nat → Nat × Nat) (E : ms_E) (fb : xX) (f : Nat) : Prop := ∀ (g gl : Nat) (o a1 : Option Nat) (a2 : Int32) (d : Int) (FI : Nat → Nat → Int32) (FL : Nat → Nat → Int64) (FR : Nat → Nat → Option Nat) (v l3 : Int64) (st : hS) (c0 r : List Int), GX2_chainValue_30 (fun a1 a2 n sl SH FI FL FR => QX2 g 0 a1 a2 n sl SH FI FL FR) (fun a1 a2 n sl SH FI FL FR => QX2 g 1 a1 a2 n sl SH FI FL FR) a1 a2 gl l3 o n sl SH FI FL FR v st → a2.toInt = d → 0 ≤ d → d ≤ 119 → n_cd FI FL FR f 1 o d = some r → (c0 ++ r).length ≤ 60000 → ce E fb c0 (.inr l3) → (FI 90 4).toInt = 0 → th FR ∧ thI FR → cE FI FL FR SH E → ∃ x, ce E fb (c0 ++ r) x ∧ vx n sl SH FI FL FR v st x
def v_P2 (n sl : Nat) (SH : Nat → Nat × Nat) (E : ms_E) (fb : xX) (f : Nat) : Prop := ∀ (g c : Nat) (a2 : Int32) (d : Int) (FI : Nat → Nat → Int32) (FL : Nat → Nat → Int64) (FR : Nat → Nat → Option Nat) (v : Int64) (st : hS) (code : List Int), RX2_chainValue (fun a1 a2 n sl SH FI FL FR => QX2 g 0 a1 a2 n sl SH FI FL FR) (fun a1 a2 n sl SH FI FL FR => QX2 g 1 a1 a2 n sl SH FI FL FR) (some c) a2 n sl SH FI FL FR v st → a2.toInt = d → 0 ≤ d → d ≤ 119 → 176 ≤ c → n_cd FI FL FR f 2 (FR c 3) d = some code → code.length ≤ 60000 → (FI 90 4).toInt = 0 → th FR ∧ thI FR → cE FI FL FR SH E → ∃ x, ce E fb code x ∧ vx n sl SH FI FL FR v st x
/-- the loop behind a fault -/
theorem c_30_f {g gl : Nat} {o a1 : Option Nat} {a2 : Int32} {FI : Nat → Nat → Int32} {FL : Nat → Nat → Int64} {FR : Nat → Nat → Option Nat} {v l3 : Int64} {st : hS} (h0 : (FI 90 4).toInt ≠ 0) (h : GX2_chainValue_30 (fun a1 a2 n sl SH FI FL FR => QX2 g 0 a1 a2 n sl SH FI FL FR) (fun a1 a2 n sl SH FI FL FR => QX2 g 1 a1 a2 n sl SH FI FL FR) a1 a2 gl l3 o n sl SH FI FL FR v st) : st = (n, sl, SH, FI, FL, FR) := by
  cases gl with
  | zero => exact h.elim
  | succ gl =>
    rcases h with ⟨-, h⟩ | ⟨-, h⟩
    · exact h.2
    · exact (P_n h h0).2
theorem c_val (hS : h_S n SH) (hf : x_fb E fb) : ∀ f : Nat, v_P0 n sl SH E fb f ∧ v_P1 n sl SH E fb f ∧ v_P2 n sl SH E fb f := by
  have c120 : ((120 : Int32)).toInt = 120 := by first | decide | (simp; done) | (simp [ms_0]; done)
  intro f
  induction f with
  | zero =>
    refine ⟨?_, ?_, ?_⟩
    · intro g o a2 d FI FL FR v st code _ _ _ _ hA; cases hA
    · intro g gl o a1 a2 d FI FL FR v l3 st c0 r _ _ _ _ hA; cases hA
    · intro g c a2 d FI FL FR v st code _ _ _ _ _ hA; cases hA
  | succ f ih =>
    obtain ⟨i0, i1, i2⟩ := ih
    refine ⟨?_, ?_, ?_⟩
    · -- a node
      intro g o a2 d FI FL FR v st code h hd h0 h1 hA hl hz ht hE
      cases g with
      | zero => exact h.elim
      | succ g =>
        rcases h with ⟨k1, -⟩ | ⟨k1, h⟩
        · subst k1
          have hA : (none : Option (List Int)) = some code := hA
          cases hA
        cases o with
        | none => exact absurd rfl k1
        | some c =>
          have ok := n_cd_ok hA
          have hg : ((FI c 0).toInt = 5 → 0 ≤ (FL c 1).toInt ∧ (FL c 1).toInt ≤ 999999999999999999) ∧ ((FI c 0).toInt = 37 → 0 ≤ (FL c 1).toInt ∧ (FL c 1).toInt ≤ 31) ∧ ((FI c 0).toInt = 6 → 1 ≤ (FL c 1).toInt ∧ (FL c 1).toInt ≤ 8) := of_decide_eq_true ok.2
          have hA2 : n_st FI FL FR (n_cd FI FL FR f) 0 c d = some code := hA
          unfold n_st at hA2
          rw [if_neg (by rw [ok.2]; simp; omega), if_pos rfl] at hA2
          have h := P_p h hz
          rcases h with ⟨k2, -⟩ | ⟨k2, h⟩
          · rw [c120, hd] at k2
            rw [if_pos k2] at hA2
            cases hA2
          rw [c120, hd] at k2
          rw [if_neg k2] at hA2
          have hd1 : (a2 + (1 : Int32)).toInt = d + 1 := i_add hd (by first | decide | (simp; done) | (simp [ms_0]; done) : ((1 : Int32)).toInt = 1) (by omega) (by omega)
          obtain ⟨c4, e4, h⟩ := h
          cases e4
          rcases h with ⟨k5, h⟩ | ⟨k5, h⟩
          · have k5 : (FI c 0).toInt = 5 := k5
            rw [if_pos k5] at hA2
            obtain ⟨c6, e6, h⟩ := h
            cases e6
            rw [← Option.some.inj hA2]
            refine ⟨_, ce_c (hg.1 k5).1 (hg.1 k5).2, ?_⟩
            rw [l_oi]
            exact vx_ret ht hz h
          have k5 : ¬ (FI c 0).toInt = 5 := k5
          rw [if_neg k5] at hA2
          rcases h with ⟨k11, h⟩ | ⟨k11, h⟩
          · have k11 : (FI c 0).toInt = 11 := k11
            rw [if_pos (Or.inl k11)] at hA2
            have e : (145 : Int) :: lc_s 9 0 = code := by
              have := Option.some.inj hA2
              unfold n_bs at this
              rw [if_neg (by omega)] at this
              exact this
            rw [← e]
            have q : ce E fb (145 :: lc_s 9 0) (x_ad fb 0) := ce_fb (by first | decide | (simp; done) | (simp [ms_0]; done))
            have q2 : x_ad fb 0 = fb := by
              match fb with
              | .inl e => rfl
              | .inr t =>
                show Sum.inr (t + Int64.ofInt 0) = _
                rw [show Int64.ofInt 0 = 0 by first | decide | (simp; done) | (simp [ms_0]; done), Int64.add_zero]
            rw [q2] at q
            exact ⟨fb, q, c_fbx hS hE ht hz hf h⟩
          have k11 : ¬ (FI c 0).toInt = 11 := k11
          rcases h with ⟨k12, h⟩ | ⟨k12, h⟩
          · have k12 : (FI c 0).toInt = 12 := k12
            rw [if_neg (by omega), if_pos k12] at hA2
            rw [← Option.some.inj hA2]
            refine ⟨_, ce_cf, ?_⟩
            unfold x_cfa
            obtain ⟨q1, q2, q3⟩ := hE.2.2.2.2.1
            rcases h with ⟨k, h⟩ | ⟨k, h⟩
            · rw [q1, show ((-1 : Int32)).toInt = -1 by first | decide | (simp; done) | (simp [ms_0]; done)] at k
              rw [if_pos k]
              exact c_failx ht hz (by first | decide | (simp; done) | (simp [ms_0]; done)) (by first | decide | (simp; done) | (simp [ms_0]; done)) h
            · rw [q1, show ((-1 : Int32)).toInt = -1 by first | decide | (simp; done) | (simp [ms_0]; done)] at k
              rw [if_neg k]
              have ev : fX1_cfaValue SH FI FL FR = ms_rg E (ms_cr E).toNat + ms_co E := by
                have e5 : ((FI 23 5).toInt64).toInt = ms_cr E := i_2l q1
                unfold fX1_cfaValue
                rw [c_reg hS hE (by rw [e5]; omega) (by rw [e5]; omega), e5, hE.2.2.2.2.2.1]
              rw [← ev]
              exact vx_ret ht hz h
          have k12 : ¬ (FI c 0).toInt = 12 := k12
          rcases h with ⟨k13, h⟩ | ⟨k13, h⟩
          · have k13 : (FI c 0).toInt = 13 := k13
            rw [if_neg (by omega), if_neg k12, if_pos k13] at hA2
            rw [← Option.some.inj hA2]
            refine ⟨_, ce_ob, ?_⟩
            unfold x_obj
            rcases hE.2.2.2.2.2.2.1 with ⟨q1, q2⟩ | ⟨q1, q2⟩
            · rw [q2]
              exact c_failx ht hz (by first | decide | (simp; done) | (simp [ms_0]; done)) (by first | decide | (simp; done) | (simp [ms_0]; done)) (P_p h q1)
            · rw [q2]
              exact vx_ret ht hz (P_n h q1)
          have k13 : ¬ (FI c 0).toInt = 13 := k13
          rcases h with ⟨k25, h⟩ | ⟨k25, h⟩
          · have k25 : (FI c 0).toInt = 25 := k25
            rw [if_neg (by omega), if_neg k12, if_neg k13, if_pos k25] at hA2
            by_cases hq : 120 ≤ d
            · rw [if_pos hq] at hA2; cases hA2
            rw [if_neg hq] at hA2
            obtain ⟨v9, n9, sl9, SH9, FI9, FL9, FR9, hc, e1, e2⟩ := h
            cases g with
            | zero => exact hc.elim
            | succ g =>
              obtain ⟨x, x1, x2⟩ := i2 g c a2 d FI FL FR v9 _ code hc hd h0 (by omega) ok.1 hA2 hl hz ht hE
              rw [e1, e2]
              exact ⟨x, x1, x2⟩
          have k25 : ¬ (FI c 0).toInt = 25 := k25
          rcases h with ⟨k37, h⟩ | ⟨k37, h⟩
          · have k37 : (FI c 0).toInt = 37 := k37
            rw [if_pos (Or.inr k37)] at hA2
            obtain ⟨c6, e6, h⟩ := h
            cases e6
            have e : (112 + (FL c 1).toInt) :: lc_s 9 0 = code := by
              have := Option.some.inj hA2
              unfold n_bs at this
              rw [if_pos k37] at this
              exact this
            rw [← e]
            refine ⟨_, ce_rg (hg.2.1 k37) (by first | decide | (simp; done) | (simp [ms_0]; done)), ?_⟩
            have q2 : x_ad (.inr (ms_rg E (FL c 1).toInt.toNat)) 0 = .inr (ms_rg E (FL c 1).toInt.toNat) := by
              show Sum.inr (ms_rg E (FL c 1).toInt.toNat + Int64.ofInt 0) = _
              rw [show Int64.ofInt 0 = 0 by first | decide | (simp; done) | (simp [ms_0]; done), Int64.add_zero]
            rw [q2, ← c_reg hS hE (hg.2.1 k37).1 (hg.2.1 k37).2]
            exact vx_ret ht hz h
          have k37 : ¬ (FI c 0).toInt = 37 := k37
          rcases h with ⟨k63, h⟩ | ⟨k63, h⟩
          · have k63 : (FI c 0).toInt = 63 := k63
            rw [if_neg (by omega), if_neg k12, if_neg k13, if_neg k25, if_pos k63] at hA2
            obtain ⟨A1, A2, p1, p2, p3⟩ := o2_some hA2
            obtain ⟨A3, A4, p4, p5, p6⟩ := o2_some p2
            rw [← p3, ← p6] at hl ⊢
            have ll : A1.length ≤ 60000 ∧ A3.length ≤ 60000 ∧ A4.length ≤ 60000 - 3 := by
              rw [List.length_append] at hl
              unfold lc_ch at hl
              simp only [List.length_cons, List.length_append] at hl
              have b1 : (lc_by (↑A4.length + 3) 2).length = 2 := rfl
              have b2 : (lc_by (↑A3.length) 2).length = 2 := rfl
              omega
            obtain ⟨c24, e24, v24, n24, sl24, SH24, FI24, FL24, FR24, hc, h⟩ := h
            cases e24
            obtain ⟨x, x1, F2, L2, R2, y1, y2, y3⟩ := i0 g _ _ (d + 1) FI FL FR v24 _ A1 hc hd1 (by omega) (by omega) p1 ll.1 hz ht hE
            cases y1
            have dy := vk_dyn y2
            have er : FR24 c = FR c := (dy c ok.1).2.2
            match x, x1, y3 with
            | .inl e9, x1, ⟨z1, z2⟩ =>
              refine ⟨.inl e9, ce_ft x1, ?_⟩
              have hz9 : (FI24 90 4).toInt ≠ 0 := by rw [z1]; exact z2
              rcases h with ⟨-, h⟩ | ⟨-, h⟩
              · obtain ⟨c27, e27, v27, n27, sl27, SH27, FI27, FL27, FR27, hv, -, e2⟩ := h
                have := c_value_f hz9 hv
                cases this
                exact ⟨_, _, _, e2, y2, z1, z2⟩
              · obtain ⟨c27, e27, v27, n27, sl27, SH27, FI27, FL27, FR27, hv, -, e2⟩ := h
                have := c_value_f hz9 hv
                cases this
                exact ⟨_, _, _, e2, y2, z1, z2⟩
            | .inr t, x1, ⟨z1, z2⟩ =>
              rw [z1] at h
              have E2 := cE_vk hE y2
              rcases h with ⟨kt, h⟩ | ⟨kt, h⟩
              · rw [show ((0 : Int64)).toInt = 0 by first | decide | (simp; done) | (simp [ms_0]; done)] at kt
                obtain ⟨c27, e27, v27, n27, sl27, SH27, FI27, FL27, FR27, hv, e1, e2⟩ := h
                cases e27
                rw [er] at hv
                obtain ⟨w, w1, w2⟩ := i0 g _ _ (d + 1) FI24 FL24 FR24 v27 _ A4 hv hd1 (by omega) (by omega) ((n_cd_ag3 dy _ _ _ _).trans p5) (by omega) z2 y2.2.2.2.2 E2
                rw [e1, e2]
                exact ⟨w, ce_3z (by omega) (by omega) x1 kt w1, vx_up y2 w2⟩
              · rw [show ((0 : Int64)).toInt = 0 by first | decide | (simp; done) | (simp [ms_0]; done)] at kt
                obtain ⟨c27, e27, v27, n27, sl27, SH27, FI27, FL27, FR27, hv, e1, e2⟩ := h
                cases e27
                rw [er] at hv
                obtain ⟨w, w1, w2⟩ := i0 g _ _ (d + 1) FI24 FL24 FR24 v27 _ A3 hv hd1 (by omega) (by omega) ((n_cd_ag3 dy _ _ _ _).trans p4) (by omega) z2 y2.2.2.2.2 E2
                rw [e1, e2]
                exact ⟨w, ce_3n (by omega) x1 kt w1, vx_up y2 w2⟩
          have k63 : ¬ (FI c 0).toInt = 63 := k63
          rw [if_neg (by omega), if_neg k12, if_neg k13, if_neg k25, if_neg k63] at hA2
          obtain ⟨A1, p1, p3⟩ := om_some hA2
          rw [← p3] at hl ⊢
          rw [List.length_append] at hl
          obtain ⟨c31, e31, v31, n31, sl31, SH31, FI31, FL31, FR31, hc, v32, n32, sl32, SH32, FI32, FL32, FR32, hu, e1, e2⟩ := h
          cases e31
          obtain ⟨x, x1, F2, L2, R2, y1, y2, y3⟩ := i0 g _ _ (d + 1) FI FL FR v31 _ A1 hc hd1 (by omega) (by omega) p1 (by omega) hz ht hE
          cases y1
          have dy := vk_dyn y2 c ok.1
          have E2 := cE_vk hE y2
          have hw : (FI31 c 0).toInt = 6 → 1 ≤ (FL31 c 1).toInt ∧ (FL31 c 1).toInt ≤ 8 := by rw [dy.1, dy.2.1]; exact hg.2.2
          rw [e1, e2]
          match x, x1, y3 with
          | .inl e9, x1, ⟨z1, z2⟩ =>
            refine ⟨.inl e9, ce_ft x1, ?_⟩
            have := c_unary_f hS E2 (by rw [z1]; exact z2) hw hu
            cases this
            exact ⟨_, _, _, rfl, y2, z1, z2⟩
          | .inr t, x1, ⟨z1, z2⟩ =>
            have q := c_unary hS E2 y2.2.2.2.2 z2 hw hu
            rw [z1, dy.1, dy.2.1] at q
            exact ⟨_, ce_xun x1, vx_up y2 q⟩
    · -- the rest of a chain
      intro g gl o a1 a2 d FI FL FR v l3 st c0 r h hd h0 h1 hA hl hc0 hz ht hE
      cases gl with
      | zero => exact h.elim
      | succ gl =>
        rcases h with ⟨k1, h⟩ | ⟨k1, h⟩
        · subst k1
          have e : ([] : List Int) = r := Option.some.inj hA
          rw [← e, List.append_nil]
          exact ⟨_, hc0, vx_ret ht hz h⟩
        cases o with
        | none => exact absurd rfl k1
        | some c =>
          have ok := n_cd_ok hA
          have hg : ((FI c 0).toInt = 5 → 0 ≤ (FL c 1).toInt ∧ (FL c 1).toInt ≤ 999999999999999999) ∧ ((FI c 0).toInt = 37 → 0 ≤ (FL c 1).toInt ∧ (FL c 1).toInt ≤ 31) ∧ ((FI c 0).toInt = 6 → 1 ≤ (FL c 1).toInt ∧ (FL c 1).toInt ≤ 8) := of_decide_eq_true ok.2
          have hd1 : (a2 + (1 : Int32)).toInt = d + 1 := i_add hd (by first | decide | (simp; done) | (simp [ms_0]; done) : ((1 : Int32)).toInt = 1) (by omega) (by omega)
          have hA2 : n_st FI FL FR (n_cd FI FL FR f) 1 c d = some r := hA
          unfold n_st at hA2
          rw [if_neg (by rw [ok.2]; simp; omega), if_neg (by first | decide | (simp; done) | (simp [ms_0]; done)), if_pos rfl] at hA2
          have h := P_p h hz
          obtain ⟨v2, n2, sl2, SH2, FI2, FL2, FR2, hc, c4, e4, h⟩ := h
          cases e4
          -- what comes behind the term: its bytes A, its value
          have fin : ∀ (A R : List Int), n_cd FI FL FR f 1 (FR c 6) d = some R → r = A ++ R → (∀ {F2 : Nat → Nat → Int32} {L2 : Nat → Nat → Int64} {R2 : Nat → Nat → Option Nat}, (n2, sl2, SH2, FI2, FL2, FR2) = (n, sl, SH, F2, L2, R2) → vk FI FL FR F2 L2 R2 → ((∃ e, (F2 90 4).toInt = e ∧ e ≠ 0 ∧ ce E fb (c0 ++ A) (.inl e)) ∨ (∃ t, v2 = t ∧ (F2 90 4).toInt = 0 ∧ ce E fb (c0 ++ A) (xe2 (n_op (FI c 2).toInt) (.inr l3) (.inr t)))) → ∃ x, ce E fb (c0 ++ r) x ∧ vx n sl SH FI FL FR v st x) := by
            intro A R hR er F2 L2 R2 y1 y2 y3
            cases y1
            have dy := vk_dyn y2
            have E2 := cE_vk hE y2
            have eo : (fX4_operationOf (FI2 c 2) SH FI2 FL2 FR2).toInt = n_op (FI c 2).toInt := by rw [c_op, (dy c ok.1).1]
            have eR : n_cd FI2 FL2 FR2 f 1 (FR2 c 6) d = some R := by rw [(dy c ok.1).2.2]; exact (n_cd_ag3 dy _ _ _ _).trans hR
            have hl2 : (c0 ++ A ++ R).length ≤ 60000 := by rw [er, ← List.append_assoc] at hl; exact hl
            rw [er, ← List.append_assoc]
            rcases y3 with ⟨e9, z1, z2, z3⟩ | ⟨t, z1, z2, z3⟩
            · -- a fault: nothing more happens
              have hz9 : (FI2 90 4).toInt ≠ 0 := by rw [z1]; exact z2
              have go : ∀ {s0 : Int64}, RX2_chainValue_101 (GX2_chainValue_30 (fun a1 a2 n sl SH FI FL FR => QX2 g 0 a1 a2 n sl SH FI FL FR) (fun a1 a2 n sl SH FI FL FR => QX2 g 1 a1 a2 n sl SH FI FL FR) a1 a2 gl) (fun a1 a2 n sl SH FI FL FR => QX2 g 0 a1 a2 n sl SH FI FL FR) (fun a1 a2 n sl SH FI FL FR => QX2 g 1 a1 a2 n sl SH FI FL FR) a1 a2 (some c) s0 n sl SH FI2 FL2 FR2 v st → ∃ x, ce E fb (c0 ++ A ++ R) x ∧ vx n sl SH FI FL FR v st x := by
                intro s0 h
                obtain ⟨c5, e5, h⟩ := h
                have := c_30_f hz9 h
                exact ⟨.inl e9, ce_ft z3, _, _, _, this, y2, z1, z2⟩
              have go77 : RX2_chainValue_77 (GX2_chainValue_30 (fun a1 a2 n sl SH FI FL FR => QX2 g 0 a1 a2 n sl SH FI FL FR) (fun a1 a2 n sl SH FI FL FR => QX2 g 1 a1 a2 n sl SH FI FL FR) a1 a2 gl) (fun a1 a2 n sl SH FI FL FR => QX2 g 0 a1 a2 n sl SH FI FL FR) (fun a1 a2 n sl SH FI FL FR => QX2 g 1 a1 a2 n sl SH FI FL FR) a1 a2 l3 (some c) v2 (fX4_operationOf (FI2 c 2) SH FI2 FL2 FR2) n sl SH FI2 FL2 FR2 v st → ∃ x, ce E fb (c0 ++ A ++ R) x ∧ vx n sl SH FI FL FR v st x := by
                intro h
                rcases h with ⟨-, h⟩ | ⟨-, h⟩
                · obtain ⟨v1, n1, sl1, SH1, FI1, FL1, FR1, hfl, h⟩ := h
                  have := c_fail_f hz9 hfl
                  cases this
                  exact go h
                · exact go h
              rcases h with ⟨-, h⟩ | ⟨-, h⟩
              · exact go77 h
              rcases h with ⟨-, h⟩ | ⟨-, h⟩
              · exact go77 h
              · exact go h
            · subst z1
              rw [eo, show ((27 : Int32)).toInt = 27 by first | decide | (simp; done) | (simp [ms_0]; done), show ((29 : Int32)).toInt = 29 by first | decide | (simp; done) | (simp [ms_0]; done)] at h
              have w := n_op_ok (FI c 2).toInt
              have plain : ¬ ((n_op (FI c 2).toInt = 27 ∨ n_op (FI c 2).toInt = 29) ∧ v2.toInt = 0) → RX2_chainValue_93 (GX2_chainValue_30 (fun a1 a2 n sl SH FI FL FR => QX2 g 0 a1 a2 n sl SH FI FL FR) (fun a1 a2 n sl SH FI FL FR => QX2 g 1 a1 a2 n sl SH FI FL FR) a1 a2 gl) (fun a1 a2 n sl SH FI FL FR => QX2 g 0 a1 a2 n sl SH FI FL FR) (fun a1 a2 n sl SH FI FL FR => QX2 g 1 a1 a2 n sl SH FI FL FR) a1 a2 l3 (some c) v2 (fX4_operationOf (FI2 c 2) SH FI2 FL2 FR2) n sl SH FI2 FL2 FR2 v st → ∃ x, ce E fb (c0 ++ A ++ R) x ∧ vx n sl SH FI FL FR v st x := by
                intro hn h
                obtain ⟨c5, e5, h⟩ := h
                cases e5
                have ej : fX9_joined (fX4_operationOf (FI2 c 2) SH FI2 FL2 FR2) l3 v2 SH FI2 FL2 FR2 = ms_wk (n_op (FI c 2).toInt) l3 v2 := by
                  rw [← eo]
                  exact wj (by rw [eo]; exact w) (by rw [eo]; exact hn)
                rw [ej] at h
                have z4 : ce E fb (c0 ++ A) (.inr (ms_wk (n_op (FI c 2).toInt) l3 v2)) := by
                  have : xe2 (n_op (FI c 2).toInt) (.inr l3) (.inr v2) = .inr (ms_wk (n_op (FI c 2).toInt) l3 v2) := by
                    show (if (n_op (FI c 2).toInt = 27 ∨ n_op (FI c 2).toInt = 29) ∧ v2.toInt = 0 then _ else _) = _
                    rw [if_neg hn]
                  rw [← this]
                  exact z3
                obtain ⟨x, x1, x2⟩ := i1 g gl (FR2 c 6) a1 a2 d FI2 FL2 FR2 v _ st (c0 ++ A) R h hd h0 h1 eR hl2 z4 z2 y2.2.2.2.2 E2
                exact ⟨x, x1, vx_up y2 x2⟩
              have byz : (n_op (FI c 2).toInt = 27 ∨ n_op (FI c 2).toInt = 29) → RX2_chainValue_77 (GX2_chainValue_30 (fun a1 a2 n sl SH FI FL FR => QX2 g 0 a1 a2 n sl SH FI FL FR) (fun a1 a2 n sl SH FI FL FR => QX2 g 1 a1 a2 n sl SH FI FL FR) a1 a2 gl) (fun a1 a2 n sl SH FI FL FR => QX2 g 0 a1 a2 n sl SH FI FL FR) (fun a1 a2 n sl SH FI FL FR => QX2 g 1 a1 a2 n sl SH FI FL FR) a1 a2 l3 (some c) v2 (fX4_operationOf (FI2 c 2) SH FI2 FL2 FR2) n sl SH FI2 FL2 FR2 v st → ∃ x, ce E fb (c0 ++ A ++ R) x ∧ vx n sl SH FI FL FR v st x := by
                intro hn h
                rcases h with ⟨kz, h⟩ | ⟨kz, h⟩
                · rw [show ((0 : Int64)).toInt = 0 by first | decide | (simp; done) | (simp [ms_0]; done)] at kz
                  obtain ⟨v1, n1, sl1, SH1, FI1, FL1, FR1, hfl, h⟩ := h
                  obtain ⟨F3, y4, y5, y6⟩ := c_fail (e := 6) y2.2.2.2.2 z2 (by first | decide | (simp; done) | (simp [ms_0]; done)) (by first | decide | (simp; done) | (simp [ms_0]; done)) hfl
                  cases y4
                  obtain ⟨c5, e5, h⟩ := h
                  have := c_30_f (by rw [y6]; (first | decide | (simp; done) | (simp [ms_0]; done))) h
                  have z4 : ce E fb (c0 ++ A) (.inl 6) := by
                    have : xe2 (n_op (FI c 2).toInt) (.inr l3) (.inr v2) = .inl 6 := by
                      show (if (n_op (FI c 2).toInt = 27 ∨ n_op (FI c 2).toInt = 29) ∧ v2.toInt = 0 then _ else _) = _
                      rw [if_pos ⟨hn, kz⟩]
                    rw [← this]
                    exact z3
                  exact ⟨.inl 6, ce_ft z4, _, _, _, this, vk_tr y2 y5, y6, by first | decide | (simp; done) | (simp [ms_0]; done)⟩
                · rw [show ((0 : Int64)).toInt = 0 by first | decide | (simp; done) | (simp [ms_0]; done)] at kz
                  exact plain (fun e => kz e.2) h
              rcases h with ⟨k, h⟩ | ⟨k, h⟩
              · exact byz (Or.inl k) h
              rcases h with ⟨k9, h⟩ | ⟨k9, h⟩
              · exact byz (Or.inr k9) h
              · exact plain (fun e => e.1.elim k k9) h
          by_cases hp : (FI c 2).toInt = 43 ∧ (FI c 0).toInt = 5
          · -- + and a number alone
            rw [if_pos hp] at hA2
            obtain ⟨R, q1, q2⟩ := om_some hA2
            obtain ⟨w1, w2⟩ := hg.1 hp.2
            -- its value is its number
            have hv : ∃ F2 L2 R2, (n2, sl2, SH2, FI2, FL2, FR2) = (n, sl, SH, F2, L2, R2) ∧ vk FI FL FR F2 L2 R2 ∧ v2 = FL c 1 ∧ (F2 90 4).toInt = 0 := by
              cases g with
              | zero => exact hc.elim
              | succ g =>
                rcases hc with ⟨k, -⟩ | ⟨-, hc⟩
                · cases k
                have hc := P_p hc hz
                rcases hc with ⟨k, -⟩ | ⟨-, hc⟩
                · rw [c120, hd1] at k
                  exact absurd k (by omega)
                obtain ⟨c9, e9, hc⟩ := hc
                cases e9
                have hc := P_p hc hp.2
                obtain ⟨c9, e9, hc⟩ := hc
                cases e9
                exact ⟨_, _, _, hc.2, vk_rf ht, hc.1, hz⟩
            obtain ⟨F2, L2, R2, y1, y2, y3, y4⟩ := hv
            have w35 : n_op (FI c 2).toInt = 34 := by rw [hp.1]; (first | decide | (simp; done) | (simp [ms_0]; done))
            refine fin (35 :: lc_u 9 (FL c 1).toInt) R q1 q2.symm y1 y2 (Or.inr ⟨_, rfl, y4, ?_⟩)
            have q := ce_35 (w := (FL c 1).toInt) ⟨w1, w2⟩ hc0
            rw [xad_p] at q
            rw [w35, y3]
            exact q
          · rw [if_neg hp] at hA2
            obtain ⟨A, R, q1, q2, q3⟩ := o2_some hA2
            rw [← q3] at hl
            simp only [List.length_append] at hl
            obtain ⟨x, x1, F2, L2, R2, y1, y2, y3⟩ := i0 g _ _ (d + 1) FI FL FR v2 _ A hc hd1 (by omega) (by omega) q1 (by omega) hz ht hE
            refine fin (A ++ [n_op (FI c 2).toInt]) R q2 q3.symm y1 y2 ?_
            have w := n_op_ok (FI c 2).toInt
            have k2 := ce_2 w hc0 x1
            match x, x1, y3, k2 with
            | .inl e9, x1, ⟨z1, z2⟩, k2 => exact Or.inl ⟨e9, z1, z2, k2⟩
            | .inr t, x1, ⟨z1, z2⟩, k2 => exact Or.inr ⟨t, z1, z2, k2⟩
    · -- a chain from its first on
      intro g c a2 d FI FL FR v st code h hd h0 h1 h176 hA hl hz ht hE
      have hd1 : (a2 + (1 : Int32)).toInt = d + 1 := i_add hd (by first | decide | (simp; done) | (simp [ms_0]; done) : ((1 : Int32)).toInt = 1) (by omega) (by omega)
      obtain ⟨c1, e1, h⟩ := h
      cases e1
      rcases h with ⟨k1, -⟩ | ⟨k1, h⟩
      · rw [k1] at hA
        have hA : (none : Option (List Int)) = some code := hA
        cases hA
      cases ha : FR c 3 with
      | none => exact absurd ha k1
      | some a =>
        rw [ha] at hA
        obtain ⟨c3, e3, v3, n3, sl3, SH3, FI3, FL3, FR3, hc, c5, e5, c6, e6, gl, h⟩ := h
        cases e3
        cases e5
        rw [ha] at hc
        have ok := n_cd_ok hA
        have hg : ((FI a 0).toInt = 5 → 0 ≤ (FL a 1).toInt ∧ (FL a 1).toInt ≤ 999999999999999999) ∧ ((FI a 0).toInt = 37 → 0 ≤ (FL a 1).toInt ∧ (FL a 1).toInt ≤ 31) ∧ ((FI a 0).toInt = 6 → 1 ≤ (FL a 1).toInt ∧ (FL a 1).toInt ≤ 8) := of_decide_eq_true ok.2
        have hA2 : n_st FI FL FR (n_cd FI FL FR f) 2 a d = some code := hA
        unfold n_st at hA2
        rw [if_neg (by rw [ok.2]; simp; omega), if_neg (by first | decide | (simp; done) | (simp [ms_0]; done)), if_neg (by first | decide | (simp; done) | (simp [ms_0]; done))] at hA2
        -- behind the first
        have fin : ∀ (A R : List Int) {x : xX}, n_cd FI FL FR f 1 (FR a 6) d = some R → code = A ++ R → ce E fb A x → vx n sl SH FI FL FR v3 (n3, sl3, SH3, FI3, FL3, FR3) x → ∃ x, ce E fb code x ∧ vx n sl SH FI FL FR v st x := by
          intro A R x hR ec hA9 hx
          obtain ⟨F2, L2, R2, y1, y2, y3⟩ := hx
          cases y1
          have dy := vk_dyn y2
          rw [(dy c h176).2.2, ha] at e6
          cases e6
          rw [ec]
          rw [ec] at hl
          match x, hA9, y3 with
          | .inl e9, hA9, ⟨z1, z2⟩ =>
            have := c_30_f (by rw [z1]; exact z2) h
            exact ⟨.inl e9, ce_ft hA9, _, _, _, this, y2, z1, z2⟩
          | .inr t, hA9, ⟨z1, z2⟩ =>
            rw [z1, (dy a ok.1).2.2] at h
            obtain ⟨w, w1, w2⟩ := i1 g gl (FR a 6) (some c) a2 d FI3 FL3 FR3 v t st A R h hd h0 h1 ((n_cd_ag3 dy _ _ _ _).trans hR) hl hA9 z2 y2.2.2.2.2 (cE_vk hE y2)
            exact ⟨w, w1, vx_up y2 w2⟩
        cases hn : n_nx FI FL FR a with
        | none =>
          rw [hn] at hA2
          obtain ⟨A, R, q1, q2, q3⟩ := o2_some hA2
          have hl2 := hl
          rw [← q3, List.length_append] at hl2
          obtain ⟨x, x1, x2⟩ := i0 g _ _ (d + 1) FI FL FR v3 _ A hc hd1 (by omega) (by omega) q1 (by omega) hz ht hE
          exact fin A R q2 q3.symm x1 x2
        | some e =>
          -- % r or fb, and a number behind it: one operation
          rw [hn] at hA2
          obtain ⟨R, q1, q2⟩ := om_some hA2
          (try dsimp only at q2)
          obtain ⟨kb, e6', he, hk5, hsg, hrg⟩ := n_nx_is hn
          have hge : 0 ≤ (FL e 1).toInt ∧ (FL e 1).toInt ≤ 999999999999999999 := (of_decide_eq_true hrg : _ ∧ _).1 hk5
          -- the first's own value
          have hx : ∃ x, vx n sl SH FI FL FR v3 (n3, sl3, SH3, FI3, FL3, FR3) x ∧ ∀ p : Int, -999999999999999999 ≤ p ∧ p ≤ 999999999999999999 → ce E fb (n_bs (FI a 0).toInt (FL a 1).toInt p) (x_ad x p) := by
            cases g with
            | zero => exact hc.elim
            | succ g =>
              rcases hc with ⟨k, -⟩ | ⟨-, hc⟩
              · cases k
              have hc := P_p hc hz
              rcases hc with ⟨k, -⟩ | ⟨-, hc⟩
              · rw [c120, hd1] at k
                exact absurd k (by omega)
              obtain ⟨c9, e9, hc⟩ := hc
              cases e9
              have hc := P_n hc (fun k => by have k : (FI a 0).toInt = 5 := k; omega)
              rcases hc with ⟨k11, hc⟩ | ⟨k11, hc⟩
              · have k11 : (FI a 0).toInt = 11 := k11
                refine ⟨fb, c_fbx hS hE ht hz hf hc, fun p hp => ?_⟩
                unfold n_bs
                rw [if_neg (by omega)]
                exact ce_fb hp
              · have k11 : ¬ (FI a 0).toInt = 11 := k11
                have k37 : (FI a 0).toInt = 37 := by omega
                have hc := P_n hc (fun k => by have k : (FI a 0).toInt = 12 := k; omega)
                have hc := P_n hc (fun k => by have k : (FI a 0).toInt = 13 := k; omega)
                have hc := P_n hc (fun k => by have k : (FI a 0).toInt = 25 := k; omega)
                have hc := P_p hc k37
                obtain ⟨c9, e9, hc⟩ := hc
                cases e9
                rw [c_reg hS hE (hg.2.1 k37).1 (hg.2.1 k37).2] at hc
                refine ⟨_, vx_ret ht hz hc, fun p hp => ?_⟩
                unfold n_bs
                rw [if_pos k37]
                exact ce_rg (hg.2.1 k37) hp
          obtain ⟨x, hx, hcb⟩ := hx
          obtain ⟨F2, L2, R2, y1, y2, y3⟩ := hx
          cases y1
          have dy := vk_dyn y2
          rw [(dy c h176).2.2, ha] at e6
          cases e6
          rw [(dy a ok.1).2.2, e6'] at h
          rw [← q2] at hl ⊢
          have hp9 : -999999999999999999 ≤ n_sg (FI e 2).toInt (FL e 1).toInt ∧ n_sg (FI e 2).toInt (FL e 1).toInt ≤ 999999999999999999 := by
            unfold n_sg
            by_cases q : (FI e 2).toInt = 45
            · rw [if_pos q]; omega
            · rw [if_neg q]; omega
          have hcb := hcb _ hp9
          match x, hcb, y3 with
          | .inl e9, hcb, ⟨z1, z2⟩ =>
            have := c_30_f (by rw [z1]; exact z2) h
            exact ⟨.inl e9, ce_ft hcb, _, _, _, this, y2, z1, z2⟩
          | .inr t, hcb, ⟨z1, z2⟩ =>
            rw [z1] at h
            -- one turn of the loop: the number
            cases gl with
            | zero => exact h.elim
            | succ gl =>
              rcases h with ⟨k, -⟩ | ⟨-, h⟩
              · cases k
              have h := P_p h z2
              obtain ⟨v2, n2, sl2, SH2, FI2, FL2, FR2, hv, c4, e4, h⟩ := h
              cases e4
              have hv2 : v2 = FL e 1 ∧ (n2, sl2, SH2, FI2, FL2, FR2) = (n, sl, SH, FI3, FL3, FR3) := by
                cases g with
                | zero => exact hv.elim
                | succ g =>
                  rcases hv with ⟨k, -⟩ | ⟨-, hv⟩
                  · cases k
                  have hv := P_p hv z2
                  rcases hv with ⟨k, -⟩ | ⟨-, hv⟩
                  · rw [c120, hd1] at k
                    exact absurd k (by omega)
                  obtain ⟨c9, e9, hv⟩ := hv
                  cases e9
                  have hv := P_p hv (by rw [(dy e he).1]; exact hk5)
                  obtain ⟨c9, e9, hv⟩ := hv
                  cases e9
                  exact ⟨by rw [hv.1, (dy e he).2.1], hv.2⟩
              obtain ⟨rfl, hv3⟩ := hv2
              cases hv3
              have eo : (fX4_operationOf (FI3 e 2) SH FI3 FL3 FR3).toInt = n_op (FI e 2).toInt := by rw [c_op, (dy e he).1]
              have on : n_op (FI e 2).toInt = 34 ∨ n_op (FI e 2).toInt = 28 := by
                rcases hsg with q | q
                · rw [q]; exact Or.inl (by first | decide | (simp; done) | (simp [ms_0]; done))
                · rw [q]; exact Or.inr (by first | decide | (simp; done) | (simp [ms_0]; done))
              rw [eo, show ((27 : Int32)).toInt = 27 by first | decide | (simp; done) | (simp [ms_0]; done), show ((29 : Int32)).toInt = 29 by first | decide | (simp; done) | (simp [ms_0]; done)] at h
              have h := P_n h (by omega)
              have h := P_n h (by omega)
              obtain ⟨c5, e5, h⟩ := h
              cases e5
              have ej : fX9_joined (fX4_operationOf (FI3 e 2) SH FI3 FL3 FR3) t (FL e 1) SH FI3 FL3 FR3 = ms_wk (n_op (FI e 2).toInt) t (FL e 1) := by
                rw [← eo]
                exact wj (by rw [eo]; exact n_op_ok _) (by rw [eo]; omega)
              rw [ej, (dy e he).2.2] at h
              have hb9 : ce E fb (n_bs (FI a 0).toInt (FL a 1).toInt (n_sg (FI e 2).toInt (FL e 1).toInt)) (.inr (ms_wk (n_op (FI e 2).toInt) t (FL e 1))) := by
                have : x_ad (.inr t) (n_sg (FI e 2).toInt (FL e 1).toInt) = .inr (ms_wk (n_op (FI e 2).toInt) t (FL e 1)) := by
                  unfold n_sg
                  rcases hsg with q | q
                  · rw [q, if_neg (by first | decide | (simp; done) | (simp [ms_0]; done)), xad_p]
                    rfl
                  · rw [q, if_pos rfl, xad_m]
                    rfl
                rw [← this]
                exact hcb
              obtain ⟨w, w1, w2⟩ := i1 g gl (FR e 6) (some c) a2 d FI3 FL3 FR3 v _ st _ R h hd h0 h1 ((n_cd_ag3 dy _ _ _ _).trans q1) hl hb9 z2 y2.2.2.2.2 (cE_vk hE y2)
              exact ⟨w, w1, vx_up y2 w2⟩
end CVT
