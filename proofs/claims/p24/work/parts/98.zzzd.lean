/-! THE REFERENCE'S MEANINGS: operators, whole expressions. -/
section MS
variable {n sl : Nat} {SH : Nat → Nat × Nat} {FI F2 F3 : Nat → Nat → Int32} {FL L2 L3 : Nat → Nat → Int64} {FR : Nat → Nat → Option Nat} {st : hS} {E : ms_E} {fb : xX} {u : Unit} {K W : Nat → Int} {T t : Nat} {S : List mq_E} {q : mq_Q} {m m2 : Int ⊕ Bool} {V R : List (Option Int64)}
/-- what an operator has done -/
def mo_c (K W : Nat → Int) (E : ms_E) (n sl : Nat) (SH : Nat → Nat × Nat) (FR : Nat → Nat → Option Nat) (T t : Nat) (S : List mq_E) (q : mq_Q) (v : Int32) (st : hS) : Prop := mq_opr K W E t S q = none ∨ (∃ t1 a S2 q2 F2 L2, mq_opr K W E t S q = some (.inl (t1, a, S2, q2)) ∧ st = (n, sl, SH, F2, L2, FR) ∧ mh F2 L2 T t1 S2 q2 ∧ v = 1 ∧ ((F2 121 91).toInt = 0 ↔ a = true)) ∨ (∃ q2 S2 F2 L2, mq_opr K W E t S q = some (.inr (t, q2)) ∧ st = (n, sl, SH, F2, L2, FR) ∧ v = 0 ∧ mh F2 L2 T t S2 q2)
theorem mo_sgn {a : Int32} {A : Int} (ha : a.toInt = A) (et : (FI 121 92).toInt.toNat = t) (k1 : (FI 152 t).toInt = K t) (k2 : (FL 153 t).toInt = W t) : (fX12_keepsSign a SH FI FL FR).toInt = 0 ↔ ¬ (K t = 5 ∧ W t = A) := by
  unfold fX12_keepsSign
  rw [et, k1, k2, show ((5 : Int32)).toInt = 5 by first | decide | (simp; done) | (simp [ms_0]; done), i_2l ha]
  by_cases g2 : K t = 5
  · rw [if_pos g2]
    by_cases g7 : W t = A
    · rw [if_pos g7]
      exact ⟨fun e => absurd e (by first | decide | (simp; done) | (simp [ms_0]; done)), fun e => absurd ⟨g2, g7⟩ e⟩
    · rw [if_neg g7]
      exact ⟨fun _ e => g7 e.2, fun _ => by first | decide | (simp; done) | (simp [ms_0]; done)⟩
  · rw [if_neg g2]
    exact ⟨fun _ e => g2 e.1, fun _ => by first | decide | (simp; done) | (simp [ms_0]; done)⟩
/-- a sign between two -/
theorem mo_cb {a1 a2 v v1 : Int32} {n1 sl1 : Nat} {SH1 : Nat → Nat × Nat} {FI1 : Nat → Nat → Int32} {FL1 : Nat → Nat → Int64} {FR1 : Nat → Nat → Option Nat} {b : Int} (hS : h_S n SH) (hK : K T = 0) (hT : T ≤ 1001) (h91 : (FI 121 91).toInt = 0) (hh : mh FI FL T t S q) (hb : au_bn (K t) (W t) = b) (hb0 : b ≠ 0) (h1 : a1.toInt = lc_op (K t) (W t)) (h2 : a2.toInt = b) (h : RX12_meansBinary a1 a2 n sl SH FI FL FR v1 (n1, sl1, SH1, FI1, FL1, FR1)) (e1 : v = v1) (e2 : st = (n1, sl1, SH1, FI1, FL1, FR1)) : mo_c K W E n sl SH FR T t S q v st := by
  have hr := au_bn_rg (K t) (W t)
  have hk : K t ≠ 0 := fun e => by rw [e, au_bn_k0] at hb; exact hb0 hb.symm
  have eo : mq_opr K W E t S q = match mq_rd b S q with
      | none => none
      | some r => some (.inl (t + 1, true, (b, lc_op (K t) (W t), false, false) :: r.1, r.2)) := by
    unfold mq_opr
    rw [if_neg (by rw [hb]; exact hb0), hb]
    first | rfl | (cases mq_rd b S q <;> rfl)
  unfold mo_c
  rw [eo]
  have f91 : FI1 121 91 = FI 121 91 := kq_fld (c := 121) (k := 91) (kX12_meansBinary h) (by first | decide | (simp; done) | (simp [ms_0]; done))
  rcases mo_bin hS hT (lt_T hK hh.1.2 hk) h1 h2 (by omega) (by omega) hh h with hn | ⟨S2, q2, F2, L2, r1, r2, r3, r4⟩
  · rw [hn]
    exact Or.inl rfl
  · rw [r1]
    first | (obtain ⟨zz1, zz2, zz3, zz4, zz5, zz6⟩ := st_c r3; (try subst zz1); (try subst zz2); (try subst zz3); (try subst zz4); (try subst zz5); (try subst zz6)) | cases r3
    exact Or.inr (Or.inl ⟨t + 1, true, _, q2, F2, L2, rfl, e2, r4, e1.trans r2, ⟨fun _ => rfl, fun _ => by rw [f91]; exact h91⟩⟩)
/-- a question -/
theorem mo_ask {x : Option Int64} {b : Bool} {F9 : Nat → Nat → Int32} (hh : mh FI FL T t S (x :: R, m)) (ht : t + 1 ≤ T) (f92 : (F9 121 92).toInt = ((t + 1 : Nat) : Int)) (f90 : (F9 121 90).toInt = (S.length : Int) + 1) (hl : S.length < 256) (f101 : (F9 121 101).toInt = (R.length : Int)) (f93 : F9 121 93 = FI 121 93) (f166 : (F9 166 S.length).toInt = -2) (f165 : (F9 165 S.length).toInt = 0) (f174 : F9 174 S.length = vp_nar .boolean (FI 121 104)) (f175 : F9 175 S.length = bi b) (f104 : F9 121 104 = 0 ∨ F9 121 104 = 1) (hs : b = false ↔ (FL 173 R.length).toInt = 0) (h104 : (F9 121 104).toInt = 0 ↔ ((FI 121 104).toInt = 0 ∨ (FL 173 R.length).toInt = 0)) (fr : ∀ r i, (r = 165 ∨ r = 166 ∨ r = 174 ∨ r = 175) → i < S.length → F9 r i = FI r i) : mq_as (x :: R, m) = none ∨ ∃ q2 wl so, mq_as (x :: R, m) = some (q2, wl, so) ∧ mh F9 FL T (t + 1) ((-2, 0, wl, so) :: S) q2 := by
  obtain ⟨a1, a2, a3, a4, a5, a6⟩ := hh
  have hV : (x :: R).length ≤ 512 := a4.2
  simp only [List.length_cons] at hV
  have gen : ∀ (m2 : Int ⊕ Bool) (wl so : Bool), (∀ b2, m2 = .inr b2 → ∃ b3, m = .inr b3) → (∀ b2, m2 = .inr b2 → F9 174 S.length = bi wl ∧ (wl = true → F9 175 S.length = bi so)) → mm F9 m2 → mh F9 FL T (t + 1) ((-2, 0, wl, so) :: S) (R, m2) := by
    intro m2 wl so hm he hmm
    exact ⟨⟨f92, ht⟩, ⟨by rw [f90]; simp only [List.length_cons]; omega, by simp only [List.length_cons]; omega⟩, ⟨⟨f166, f165, fun e => absurd (show (-2 : Int) = 9 from e) (by first | decide | (simp; done) | (simp [ms_0]; done)), fun _ b2 hb2 => he b2 hb2⟩, lv_me a3 fr hm⟩, ⟨f101, by show R.length ≤ 512; omega⟩, a5.2, hmm⟩
  match m, a6, gen with
  | .inl e, a6, gen =>
    refine Or.inr ⟨(R, .inl e), false, false, rfl, gen _ _ _ mm_inl (fun b2 h2 => by cases h2) ⟨by rw [f93]; exact a6.1, a6.2⟩⟩
  | .inr false, a6, gen =>
    have l0 : FI 121 104 = bi false := a6.2
    have z : F9 121 104 = bi false := by
      rcases f104 with f | f
      · exact f
      · have := h104.mpr (Or.inl (by rw [l0]; (first | decide | (simp; done) | (simp [ms_0]; done))))
        rw [f] at this
        exact absurd this (by first | decide | (simp; done) | (simp [ms_0]; done))
    refine Or.inr ⟨(R, .inr false), false, false, rfl, gen _ _ _ (fun b2 _ => ⟨false, rfl⟩) (fun b2 _ => ⟨by rw [f174, l0]; exact bi_n, fun e => by cases e⟩) ⟨by rw [f93]; exact a6.1, z⟩⟩
  | .inr true, a6, gen =>
    cases x with
    | none => exact Or.inl rfl
    | some v =>
      have l0 : FI 121 104 = bi true := a6.2
      have ev : FL 173 R.length = v := a5.1 v rfl
      rw [ev] at hs h104
      have hb : b = decide (v.toInt ≠ 0) := by
        by_cases hv : v.toInt = 0
        · rw [hs.mpr hv, decide_eq_false (fun e => e hv)]
        · rw [decide_eq_true hv]
          cases b with
          | true => rfl
          | false => exact absurd (hs.mp rfl) hv
      have z : F9 121 104 = bi (decide (v.toInt ≠ 0)) := by
        by_cases hv : v.toInt = 0
        · rw [decide_eq_false (fun e => e hv)]
          rcases f104 with f | f
          · exact f
          · have := h104.mpr (Or.inr hv)
            rw [f] at this
            exact absurd this (by first | decide | (simp; done) | (simp [ms_0]; done))
        · rw [decide_eq_true hv]
          rcases f104 with f | f
          · exfalso
            have := h104.mp (by rw [f]; (first | decide | (simp; done) | (simp [ms_0]; done)))
            rcases this with h | h
            · rw [l0] at h
              exact absurd h (by first | decide | (simp; done) | (simp [ms_0]; done))
            · exact hv h
          · exact f
      exact Or.inr ⟨(R, .inr (decide (v.toInt ≠ 0))), true, decide (v.toInt ≠ 0), rfl, gen _ _ _ (fun b2 _ => ⟨true, rfl⟩) (fun b2 _ => ⟨by rw [f174, l0]; exact bi_n, fun _ => by rw [f175, hb]⟩) ⟨by rw [f93]; exact a6.1, z⟩⟩
theorem mo_opr {v : Int32} (hS : h_S n SH) (hK : K T = 0) (hT : T ≤ 1001) (htk : mtk K W T FI FL) (hE : rE FI FL SH E) (h91 : (FI 121 91).toInt = 0) (hh : mh FI FL T t S q) (h : RX12_meansOperator n sl SH FI FL FR v st) : mo_c K W E n sl SH FR T t S q v st := by
  obtain ⟨-, -, h⟩ := h
  have a1 := hh.1
  have et : (FI 121 92).toInt.toNat = t := by omega
  rw [et] at h
  obtain ⟨k1, k2⟩ := htk t a1.2
  have cm : ((-1 : Int32)).toInt = -1 := by first | decide | (simp; done) | (simp [ms_0]; done)
  have c5 : ((5 : Int32)).toInt = 5 := by first | decide | (simp; done) | (simp [ms_0]; done)
  have w := lc_op_ok (K t) (W t)
  have hr := au_bn_rg (K t) (W t)
  -- a sum
  have s64 : K t = 5 → (W t = 43 ∨ W t = 45) → RX12_meansOperator_64 (FL 153 t) n sl SH FI FL FR v st → mo_c K W E n sl SH FR T t S q v st := by
    intro h5 hw h
    have hb := au_bn_6.mpr ⟨h5, hw⟩
    unfold RX12_meansOperator_64 at h
    rw [k2, show ((43 : Int64)).toInt = 43 by first | decide | (simp; done) | (simp [ms_0]; done)] at h
    rcases h with ⟨g, h⟩ | ⟨g, h⟩
    · obtain ⟨v1, n1, sl1, SH1, FI1, FL1, FR1, hc, e1, e2⟩ := h
      refine mo_cb hS hK hT h91 hh hb (by first | decide | (simp; done) | (simp [ms_0]; done)) ?_ (by first | decide | (simp; done) | (simp [ms_0]; done)) hc e1 e2
      unfold lc_op
      rw [if_neg (by omega), if_neg (by omega), if_pos g]
      decide
    · obtain ⟨v1, n1, sl1, SH1, FI1, FL1, FR1, hc, e1, e2⟩ := h
      refine mo_cb hS hK hT h91 hh hb (by first | decide | (simp; done) | (simp [ms_0]; done)) ?_ (by first | decide | (simp; done) | (simp [ms_0]; done)) hc e1 e2
      unfold lc_op
      rw [if_neg (by omega), if_neg (by omega), if_neg g, if_pos (by omega)]
      decide
  -- the rest
  have s86 : au_bn (K t) (W t) ≠ 7 → au_bn (K t) (W t) ≠ 6 → RX12_meansOperator_86 (FI 152 t) (FL 153 t) n sl SH FI FL FR v st → mo_c K W E n sl SH FR T t S q v st := by
    intro n7 n6 h
    rcases h with ⟨g5, h⟩ | ⟨g5, h⟩
    · rw [tk_shf, k1, k2, cm] at g5
      have n5 : au_bn (K t) (W t) ≠ 5 := fun e => by rw [if_pos e] at g5; omega
      rcases h with ⟨g4, h⟩ | ⟨g4, h⟩
      · rw [tk_cmp, k1, k2, cm] at g4
        have n4 : au_bn (K t) (W t) ≠ 4 := fun e => by rw [if_pos e] at g4; omega
        rcases h with ⟨g3, h⟩ | ⟨g3, h⟩
        · rw [mo_sgn (A := 38) (by first | decide | (simp; done) | (simp [ms_0]; done)) et k1 k2] at g3
          have n3 : au_bn (K t) (W t) ≠ 3 := fun e => g3 (au_bn_3.mp e)
          rcases h with ⟨g2, h⟩ | ⟨g2, h⟩
          · rw [mo_sgn (A := 94) (by first | decide | (simp; done) | (simp [ms_0]; done)) et k1 k2] at g2
            have n2 : au_bn (K t) (W t) ≠ 2 := fun e => g2 (au_bn_2.mp e)
            rcases h with ⟨g1, h⟩ | ⟨g1, h⟩
            · rw [mo_sgn (A := 124) (by first | decide | (simp; done) | (simp [ms_0]; done)) et k1 k2] at g1
              have n1 : au_bn (K t) (W t) ≠ 1 := fun e => g1 (au_bn_1.mp e)
              have hb0 := au_bn_0 n7 n6 n5 n4 n3 n2 n1
              rcases h with ⟨g0, h⟩ | ⟨g0, h⟩
              · rw [mo_sgn (A := 63) (by first | decide | (simp; done) | (simp [ms_0]; done)) et k1 k2] at g0
                -- an end
                obtain ⟨v12, n12, sl12, SH12, FI12, FL12, FR12, ha, h⟩ := h
                have eo : mq_opr K W E t S q = match mq_all S q with
                    | none => none
                    | some r => mq_end K W E t r := by
                  unfold mq_opr
                  rw [if_pos hb0, if_neg g0]
                  first | rfl | (cases mq_all S q <;> rfl)
                unfold mo_c
                rw [eo]
                have ka := kX12_meansReducedAll ha
                have f91 : FI12 121 91 = FI 121 91 := kq_fld (c := 121) (k := 91) ka (by first | decide | (simp; done) | (simp [ms_0]; done))
                rcases mo_all hh ha with hn | ⟨S2, q2, F2, L2, r1, r2, r3⟩
                · rw [hn]
                  exact Or.inl rfl
                · rw [r1]
                  first | (obtain ⟨zz1, zz2, zz3, zz4, zz5, zz6⟩ := st_c r2; (try subst zz1); (try subst zz2); (try subst zz3); (try subst zz4); (try subst zz5); (try subst zz6)) | cases r2
                  have mk2 : mk FI FL F2 L2 := mk_st ka (by first | decide | (simp; done) | (simp [ms_0]; done))
                  have htk2 := mt_mk htk mk2
                  have hE2 := rE_mk hE mk2
                  obtain ⟨k3, k4⟩ := htk2 t a1.2
                  have et2 : (F2 121 92).toInt.toNat = t := by have := r3.1; omega
                  have htop := mh_top (SH := SH) (FR := FR) r3
                  -- no end of the walk but by a bracket
                  have s383 : ¬ (K t = 5 ∧ W t = 58 ∧ mq_top S2 = -2) → RX12_meansOperator_383 n sl SH F2 L2 FR v st → mq_end K W E t (S2, q2) = none ∨ (∃ t1 a S3 q3 F3 L3, mq_end K W E t (S2, q2) = some (.inl (t1, a, S3, q3)) ∧ st = (n, sl, SH, F3, L3, FR) ∧ mh F3 L3 T t1 S3 q3 ∧ v = 1 ∧ ((F3 121 91).toInt = 0 ↔ a = true)) ∨ (∃ q3 S3 F3 L3, mq_end K W E t (S2, q2) = some (.inr (t, q3)) ∧ st = (n, sl, SH, F3, L3, FR) ∧ v = 0 ∧ mh F3 L3 T t S3 q3) := by
                    intro hn58 h
                    have stop : ¬ (K t = 5 ∧ W t = 41 ∧ mq_top S2 = -1) → mq_end K W E t (S2, q2) = some (.inr (t, q2)) := by
                      intro hn41
                      cases S2 with
                      | nil => rfl
                      | cons e S3 =>
                        show (if K t = 5 ∧ W t = 58 ∧ e.1 = -2 then _ else if K t = 5 ∧ W t = 41 ∧ e.1 = -1 then _ else some (Sum.inr (t, q2))) = _
                        rw [if_neg (show ¬ (K t = 5 ∧ W t = 58 ∧ e.1 = -2) from hn58), if_neg (show ¬ (K t = 5 ∧ W t = 41 ∧ e.1 = -1) from hn41)]
                    rcases h with ⟨g41, e1, e2⟩ | ⟨g41, h⟩
                    · rw [mo_sgn (A := 41) (by first | decide | (simp; done) | (simp [ms_0]; done)) et2 k3 k4] at g41
                      exact Or.inr (Or.inr ⟨q2, S2, F2, L2, stop (fun e => g41 ⟨e.1, e.2.1⟩), e2, e1, r3⟩)
                    · have g41 : K t = 5 ∧ W t = 41 := Classical.byContradiction (fun e => g41 ((mo_sgn (A := 41) (by first | decide | (simp; done) | (simp [ms_0]; done)) et2 k3 k4).mpr e))
                      rw [htop, cm] at h
                      rcases h with ⟨g, h⟩ | ⟨g, e1, e2⟩
                      · cases S2 with
                        | nil => exact absurd (show (-11 : Int) = -1 from g) (by first | decide | (simp; done) | (simp [ms_0]; done))
                        | cons e S3 =>
                          have g : e.1 = -1 := g
                          have ht1 : t + 1 ≤ T := lt_T hK a1.2 (by omega)
                          obtain ⟨v6, n6, sl6, SH6, FI6, FL6, FR6, hc, e1, e2⟩ := h
                          obtain ⟨b1, b2, b3, b4, b5, b6⟩ := id r3
                          have b2' := b2.1
                          simp only [List.length_cons] at b2'
                          have b2s := b2.2
                          simp only [List.length_cons] at b2s
                          have h90 : mh (h_up F2 121 90 (F2 121 90 - (1 : Int32))) L2 T t S3 q2 := by
                            refine ⟨⟨by rw [h_up_x (by first | decide | (simp; done) | (simp [ms_0]; done))]; exact b1.1, b1.2⟩, ⟨?_, by omega⟩, lv_me b3.2 (fun r i hr _ => by rw [h_up_nc (by omega)]) mm_id, by rw [h_up_x (by first | decide | (simp; done) | (simp [ms_0]; done))]; exact b4, b5, ?_⟩
                            · rw [h_up_eq, i_sub b2' (by first | decide | (simp; done) | (simp [ms_0]; done) : ((1 : Int32)).toInt = 1) (by omega) (by omega)]
                              omega
                            · unfold mm at b6 ⊢
                              rw [h_up_x (by first | decide | (simp; done) | (simp [ms_0]; done)), h_up_x (by first | decide | (simp; done) | (simp [ms_0]; done))]
                              exact b6
                          have h92 := mh_t (x := F2 121 92 + (1 : Int32)) h90 (mh_n r3 hT) ht1
                          have hE3 : rE (h_up (h_up F2 121 90 (F2 121 90 - (1 : Int32))) 121 92 (F2 121 92 + (1 : Int32))) L2 SH E := rE_mk hE2 (mk_f (mk_f mk_rf (by omega)) (by omega))
                          have ee : mq_end K W E t (e :: S3, q2) = match mq_fin E S3 q2 with
                              | none => none
                              | some r2 => some (.inl (t + 1, false, r2)) := by
                            show (if K t = 5 ∧ W t = 58 ∧ e.1 = -2 then _ else if K t = 5 ∧ W t = 41 ∧ e.1 = -1 then (match mq_fin E S3 q2 with
                              | none => none
                              | some r2 => some (Sum.inl (t + 1, false, r2))) else _) = _
                            rw [if_neg (show ¬ (K t = 5 ∧ W t = 58 ∧ e.1 = -2) from hn58), if_pos ⟨g41.1, g41.2, g⟩]
                          rw [ee]
                          rcases mo_finished hS hE3 h92 hc with hn | ⟨S4, q4, F4, L4, s1, s2, s3⟩
                          · rw [hn]
                            exact Or.inl rfl
                          · rw [s1]
                            cases s2
                            refine Or.inr (Or.inl ⟨t + 1, false, S4, q4, _, _, rfl, e2, mh_f s3 (by first | decide | (simp; done) | (simp [ms_0]; done)), e1, ?_⟩)
                            rw [h_up_eq]
                            exact ⟨fun e => absurd e (by first | decide | (simp; done) | (simp [ms_0]; done)), fun e => by cases e⟩
                      · exact Or.inr (Or.inr ⟨q2, S2, F2, L2, stop (fun e => g e.2.2), e2, e1, r3⟩)
                  rcases h with ⟨g58, h⟩ | ⟨g58, h⟩
                  · rw [mo_sgn (A := 58) (by first | decide | (simp; done) | (simp [ms_0]; done)) et2 k3 k4] at g58
                    exact s383 (fun e => g58 ⟨e.1, e.2.1⟩) h
                  · have g58 : K t = 5 ∧ W t = 58 := Classical.byContradiction (fun e => g58 ((mo_sgn (A := 58) (by first | decide | (simp; done) | (simp [ms_0]; done)) et2 k3 k4).mpr e))
                    rw [htop, show ((-2 : Int32)).toInt = -2 by first | decide | (simp; done) | (simp [ms_0]; done)] at h
                    rcases h with ⟨g, h⟩ | ⟨g, h⟩
                    · cases S2 with
                      | nil => exact absurd (show (-11 : Int) = -2 from g) (by first | decide | (simp; done) | (simp [ms_0]; done))
                      | cons e S3 =>
                        obtain ⟨e1, e2, wl, so⟩ := e
                        have g : e1 = -2 := g
                        subst g
                        have ht1 : t + 1 ≤ T := lt_T hK a1.2 (by omega)
                        obtain ⟨b1, b2, b3, b4, b5, b6⟩ := id r3
                        have b2' := b2.1
                        simp only [List.length_cons] at b2'
                        have b2s := b2.2
                        simp only [List.length_cons] at b2s
                        have k90 : (F2 121 90 - (1 : Int32)).toInt = (S3.length : Int) := by
                          rw [i_sub b2' (by first | decide | (simp; done) | (simp [ms_0]; done) : ((1 : Int32)).toInt = 1) (by omega) (by omega)]
                          omega
                        obtain ⟨-, -, h⟩ := h
                        rw [show (F2 121 90 - (1 : Int32)).toInt.toNat = S3.length by omega] at h
                        have hent := b3.1.2.2.2 (Or.inl rfl)
                        have hc0 := b3.1.2.1
                        have ee : mq_end K W E t ((-2, e2, wl, so) :: S3, q2) = some (.inl (t + 1, true, (-3, e2, wl, so) :: S3, mq_co wl so q2)) := by
                          show (if K t = 5 ∧ W t = 58 ∧ (-2 : Int) = -2 then _ else _) = _
                          rw [if_pos ⟨g58.1, g58.2, rfl⟩]
                        (try dsimp only)
                        rw [ee]
                        -- the end of all of them: x is the new live
                        have fin : ∀ x : Int32, (∀ b, q2.2 = .inr b → x = bi (wl && !so)) → v = 1 → st = (n, sl, SH, h_up (h_up (h_up F2 166 S3.length (-3 : Int32)) 121 104 x) 121 92 (F2 121 92 + (1 : Int32)), L2, FR) → (some (Sum.inl (t + 1, true, (-3, e2, wl, so) :: S3, mq_co wl so q2)) : Option (mq_S ⊕ (Nat × mq_Q))) = none ∨ (∃ t1 a S4 q4 F4 L4, (some (Sum.inl (t + 1, true, (-3, e2, wl, so) :: S3, mq_co wl so q2)) : Option (mq_S ⊕ (Nat × mq_Q))) = some (.inl (t1, a, S4, q4)) ∧ st = (n, sl, SH, F4, L4, FR) ∧ mh F4 L4 T t1 S4 q4 ∧ v = 1 ∧ ((F4 121 91).toInt = 0 ↔ a = true)) ∨ (∃ q4 S4 F4 L4, (some (Sum.inl (t + 1, true, (-3, e2, wl, so) :: S3, mq_co wl so q2)) : Option (mq_S ⊕ (Nat × mq_Q))) = some (.inr (t, q4)) ∧ st = (n, sl, SH, F4, L4, FR) ∧ v = 0 ∧ mh F4 L4 T t S4 q4) := by
                          intro x hx ev es
                          have h91' : (h_up (h_up (h_up F2 166 S3.length (-3 : Int32)) 121 104 x) 121 92 (F2 121 92 + (1 : Int32))) 121 91 = FI 121 91 := by rw [h_up_x (by first | decide | (simp; done) | (simp [ms_0]; done)), h_up_x (by first | decide | (simp; done) | (simp [ms_0]; done)), h_up_x (by first | decide | (simp; done) | (simp [ms_0]; done))]; exact f91
                          refine Or.inr (Or.inl ⟨t + 1, true, (-3, e2, wl, so) :: S3, mq_co wl so q2, _, L2, rfl, es, ?_, ev, ⟨fun _ => rfl, fun _ => by rw [h91']; exact h91⟩⟩)
                          have ent : ∀ (m2 : Int ⊕ Bool), (∀ b, m2 = .inr b → ∃ b2, q2.2 = .inr b2) → me (h_up (h_up (h_up F2 166 S3.length (-3 : Int32)) 121 104 x) 121 92 (F2 121 92 + (1 : Int32))) m2 S3.length (-3, e2, wl, so) := by
                            intro m2 hm2
                            refine ⟨?_, ?_, fun e => absurd (show (-3 : Int) = 9 from e) (by first | decide | (simp; done) | (simp [ms_0]; done)), fun _ b hb => ?_⟩
                            · rw [h_up_x (by first | decide | (simp; done) | (simp [ms_0]; done)), h_up_x (by first | decide | (simp; done) | (simp [ms_0]; done)), h_up_eq]
                              show ((-3 : Int32)).toInt = -3
                              decide
                            · rw [h_up_x (by first | decide | (simp; done) | (simp [ms_0]; done)), h_up_x (by first | decide | (simp; done) | (simp [ms_0]; done)), h_up_x (by first | decide | (simp; done) | (simp [ms_0]; done))]
                              exact hc0
                            · obtain ⟨b2, hb2⟩ := hm2 b hb
                              rw [h_up_x (by first | decide | (simp; done) | (simp [ms_0]; done)), h_up_x (by first | decide | (simp; done) | (simp [ms_0]; done)), h_up_x (by first | decide | (simp; done) | (simp [ms_0]; done)), h_up_x (by first | decide | (simp; done) | (simp [ms_0]; done)), h_up_x (by first | decide | (simp; done) | (simp [ms_0]; done)), h_up_x (by first | decide | (simp; done) | (simp [ms_0]; done))]
                              exact hent b2 hb2
                          have rest : ∀ (m2 : Int ⊕ Bool), (∀ b, m2 = .inr b → ∃ b2, q2.2 = .inr b2) → mm (h_up (h_up (h_up F2 166 S3.length (-3 : Int32)) 121 104 x) 121 92 (F2 121 92 + (1 : Int32))) m2 → mh (h_up (h_up (h_up F2 166 S3.length (-3 : Int32)) 121 104 x) 121 92 (F2 121 92 + (1 : Int32))) L2 T (t + 1) ((-3, e2, wl, so) :: S3) (q2.1, m2) := by
                            intro m2 hm2 hmm
                            exact ⟨⟨by rw [h_up_eq]; exact mh_n r3 hT, ht1⟩, ⟨by rw [h_up_x (by first | decide | (simp; done) | (simp [ms_0]; done)), h_up_x (by first | decide | (simp; done) | (simp [ms_0]; done)), h_up_x (by first | decide | (simp; done) | (simp [ms_0]; done))]; exact b2.1, b2.2⟩, ⟨ent m2 hm2, lv_me b3.2 (fun r i hr hi => by rw [h_up_x (by omega), h_up_x (by omega), h_up_x (by omega)]) hm2⟩, by rw [h_up_x (by first | decide | (simp; done) | (simp [ms_0]; done)), h_up_x (by first | decide | (simp; done) | (simp [ms_0]; done)), h_up_x (by first | decide | (simp; done) | (simp [ms_0]; done))]; exact b4, b5, hmm⟩
                          obtain ⟨V2, m2⟩ := q2
                          match m2, b6, hx, rest with
                          | .inl e9, b6, hx, rest => exact rest (.inl e9) mm_inl ⟨by rw [h_up_x (by first | decide | (simp; done) | (simp [ms_0]; done)), h_up_x (by first | decide | (simp; done) | (simp [ms_0]; done)), h_up_x (by first | decide | (simp; done) | (simp [ms_0]; done))]; exact b6.1, b6.2⟩
                          | .inr b9, b6, hx, rest => exact rest (.inr (wl && !so)) (fun b _ => ⟨b9, rfl⟩) ⟨by rw [h_up_x (by first | decide | (simp; done) | (simp [ms_0]; done)), h_up_x (by first | decide | (simp; done) | (simp [ms_0]; done)), h_up_x (by first | decide | (simp; done) | (simp [ms_0]; done))]; exact b6.1, by rw [h_up_x (by first | decide | (simp; done) | (simp [ms_0]; done)), h_up_eq]; exact hx b9 rfl⟩
                        rcases h with ⟨w1, e1, e2⟩ | ⟨w1, -, h⟩
                        · refine fin 0 (fun b hb => ?_) e1 e2
                          have := (hent b hb).1
                          (try dsimp only at this)
                          rw [this, bi_0] at w1
                          rw [w1]
                          rfl
                        · rcases h with ⟨w2, e1, e2⟩ | ⟨w2, e1, e2⟩
                          · refine fin 1 (fun b hb => ?_) e1 e2
                            obtain ⟨u1, u2⟩ := hent b hb
                            (try dsimp only at u1 u2)
                            rw [u1, bi_0] at w1
                            cases wl with
                            | false => exact absurd rfl w1
                            | true =>
                              rw [u2 rfl, bi_0] at w2
                              rw [w2]
                              rfl
                          · refine fin 0 (fun b hb => ?_) e1 e2
                            obtain ⟨u1, u2⟩ := hent b hb
                            (try dsimp only at u1 u2)
                            rw [u1, bi_0] at w1
                            cases wl with
                            | false => exact absurd rfl w1
                            | true =>
                              rw [u2 rfl, bi_0] at w2
                              cases so with
                              | false => exact absurd rfl w2
                              | true => rfl
                    · exact s383 (fun e => g e.2.2) h
              · have g0 : K t = 5 ∧ W t = 63 := Classical.byContradiction (fun e => g0 ((mo_sgn (A := 63) (by first | decide | (simp; done) | (simp [ms_0]; done)) et k1 k2).mpr e))
                -- a question
                obtain ⟨v25, n25, sl25, SH25, FI25, FL25, FR25, hd, v27, n27, sl27, SH27, FI27, FL27, FR27, hl, h⟩ := h
                have ht1 : t + 1 ≤ T := lt_T hK a1.2 (by omega)
                have kd := kX12_meansReduced hd
                have f91 : FI25 121 91 = FI 121 91 := kq_fld (c := 121) (k := 91) kd (by first | decide | (simp; done) | (simp [ms_0]; done))
                rcases mo_red (b := 1) (by first | decide | (simp; done) | (simp [ms_0]; done)) (by first | decide | (simp; done) | (simp [ms_0]; done)) hh hd with hn | ⟨S2, q2, F2, L2, r1, r2, r3⟩
                · refine Or.inl ?_
                  unfold mq_opr
                  rw [if_pos hb0, if_pos g0, hn]
                · first | (obtain ⟨zz1, zz2, zz3, zz4, zz5, zz6⟩ := st_c r2; (try subst zz1); (try subst zz2); (try subst zz3); (try subst zz4); (try subst zz5); (try subst zz6)) | cases r2
                  have eo : mq_opr K W E t S q = match mq_as q2 with
                      | none => none
                      | some a => some (.inl (t + 1, true, (-2, 0, a.2.1, a.2.2) :: S2, a.1)) := by
                    unfold mq_opr
                    rw [if_pos hb0, if_pos g0, r1]
                    (try rfl)
                  unfold mo_c
                  rw [eo]
                  obtain ⟨V, m⟩ := q2
                  cases V with
                  | nil => exact Or.inl rfl
                  | cons x R =>
                    obtain ⟨b1, b2, b3, b4, b5, b6⟩ := id r3
                    have b4' := b4.1
                    simp only [List.length_cons] at b4'
                    have b4s := b4.2
                    simp only [List.length_cons] at b4s
                    have k101 : (F2 121 101 - (1 : Int32)).toInt = (R.length : Int) := by
                      rw [i_sub b4' (by first | decide | (simp; done) | (simp [ms_0]; done) : ((1 : Int32)).toInt = 1) (by omega) (by omega)]
                      omega
                    obtain ⟨p1, -, -, el⟩ := hl
                    have hz : (SH 165).2 = 256 := by rw [s165 hS]
                    unfold p_in at p1
                    have e90 : (h_up F2 121 101 (F2 121 101 - (1 : Int32))) 121 90 = F2 121 90 := h_up_x (by first | decide | (simp; done) | (simp [ms_0]; done))
                    rw [hz, e90] at p1
                    have hl2 : S2.length < 256 := by omega
                    rw [e90, show (F2 121 90).toInt.toNat = S2.length by omega] at el
                    (obtain ⟨zz1, zz2, zz3, zz4, zz5, zz6⟩ := st_c el; (try subst zz1); (try subst zz2); (try subst zz3); (try subst zz4); (try subst zz5); (try subst zz6))
                    have k91 : (F2 121 90 + (1 : Int32)).toInt = (S2.length : Int) + 1 := by
                      rw [i_add b2.1 (by first | decide | (simp; done) | (simp [ms_0]; done) : ((1 : Int32)).toInt = 1) (by omega) (by omega)]
                    have k90 : ((F2 121 90 + (1 : Int32)) - (1 : Int32)).toInt = (S2.length : Int) := by
                      rw [i_sub k91 (by first | decide | (simp; done) | (simp [ms_0]; done) : ((1 : Int32)).toInt = 1) (by omega) (by omega)]
                      omega
                    generalize hF : (h_up (h_up (h_up (h_up F2 121 101 (F2 121 101 - (1 : Int32))) 165 S2.length ((0 : Int32))) 166 S2.length ((-2 : Int32))) 121 90 (F2 121 90 + (1 : Int32))) = F7 at h
                    have f90 : F7 121 90 = F2 121 90 + (1 : Int32) := by rw [← hF, h_up_eq]
                    have f101 : F7 121 101 = F2 121 101 - (1 : Int32) := by rw [← hF, h_up_x (by first | decide | (simp; done) | (simp [ms_0]; done)), h_up_x (by first | decide | (simp; done) | (simp [ms_0]; done)), h_up_x (by first | decide | (simp; done) | (simp [ms_0]; done)), h_up_eq]
                    have f121 : ∀ k, k ≠ 90 → k ≠ 101 → F7 121 k = F2 121 k := fun k h1 h2 => by rw [← hF, h_up_x (by omega), h_up_x (by omega), h_up_x (by omega), h_up_x (by omega)]
                    have f165 : F7 165 S2.length = 0 := by rw [← hF, h_up_x (by first | decide | (simp; done) | (simp [ms_0]; done)), h_up_x (by first | decide | (simp; done) | (simp [ms_0]; done)), h_up_eq]
                    have f166 : F7 166 S2.length = -2 := by rw [← hF, h_up_x (by first | decide | (simp; done) | (simp [ms_0]; done)), h_up_eq]
                    have frw : ∀ r i, (r = 165 ∨ r = 166 ∨ r = 174 ∨ r = 175) → i < S2.length → F7 r i = F2 r i := fun r i hr hi => by rw [← hF, h_up_x (by omega), h_up_x (by omega), h_up_x (by omega), h_up_x (by omega)]
                    obtain ⟨-, -, h⟩ := h
                    rw [f90, f101, show ((F2 121 90 + (1 : Int32)) - (1 : Int32)).toInt.toNat = S2.length by omega, show (F2 121 101 - (1 : Int32)).toInt.toNat = R.length by omega, show ((0 : Int64)).toInt = 0 by first | decide | (simp; done) | (simp [ms_0]; done), f121 104 (by first | decide | (simp; done) | (simp [ms_0]; done)) (by first | decide | (simp; done) | (simp [ms_0]; done))] at h
                    -- 256
                    have s256 : ∀ (s : Int32) (b : Bool), vp_nar .boolean s = bi b → (b = false ↔ (L2 173 R.length).toInt = 0) → RX12_meansOperator_256 s ((F2 121 90 + (1 : Int32)) - (1 : Int32)) n sl SH (h_up F7 174 S2.length (vp_nar .boolean (F2 121 104))) L2 FR v st → (match mq_as (x :: R, m) with
                        | none => none
                        | some a => some (Sum.inl (t + 1, true, (-2, 0, a.2.1, a.2.2) :: S2, a.1))) = (none : Option (mq_S ⊕ (Nat × mq_Q))) ∨ (∃ t1 a S4 q4 F4 L4, (match mq_as (x :: R, m) with
                        | none => none
                        | some a => some (Sum.inl (t + 1, true, (-2, 0, a.2.1, a.2.2) :: S2, a.1))) = some (Sum.inl (t1, a, S4, q4) : mq_S ⊕ (Nat × mq_Q)) ∧ st = (n, sl, SH, F4, L4, FR) ∧ mh F4 L4 T t1 S4 q4 ∧ v = 1 ∧ ((F4 121 91).toInt = 0 ↔ a = true)) ∨ (∃ q4 S4 F4 L4, (match mq_as (x :: R, m) with
                        | none => none
                        | some a => some (Sum.inl (t + 1, true, (-2, 0, a.2.1, a.2.2) :: S2, a.1))) = some (Sum.inr (t, q4) : mq_S ⊕ (Nat × mq_Q)) ∧ st = (n, sl, SH, F4, L4, FR) ∧ v = 0 ∧ mh F4 L4 T t S4 q4) := by
                      intro s b hsb hbz h
                      obtain ⟨-, h⟩ := h
                      rw [show ((F2 121 90 + (1 : Int32)) - (1 : Int32)).toInt.toNat = S2.length by omega] at h
                      have g104 : (h_up F7 174 S2.length (vp_nar .boolean (F2 121 104))) 121 104 = F2 121 104 := by rw [h_up_x (by first | decide | (simp; done) | (simp [ms_0]; done))]; exact f121 104 (by first | decide | (simp; done) | (simp [ms_0]; done)) (by first | decide | (simp; done) | (simp [ms_0]; done))
                      have g101 : (h_up F7 174 S2.length (vp_nar .boolean (F2 121 104))) 121 101 = F2 121 101 - (1 : Int32) := by rw [h_up_x (by first | decide | (simp; done) | (simp [ms_0]; done))]; exact f101
                      have g92 : (h_up F7 174 S2.length (vp_nar .boolean (F2 121 104))) 121 92 = F2 121 92 := by rw [h_up_x (by first | decide | (simp; done) | (simp [ms_0]; done))]; exact f121 92 (by first | decide | (simp; done) | (simp [ms_0]; done)) (by first | decide | (simp; done) | (simp [ms_0]; done))
                      rw [g104, g101, g92, show (F2 121 101 - (1 : Int32)).toInt.toNat = R.length by omega, hsb, show ((0 : Int64)).toInt = 0 by first | decide | (simp; done) | (simp [ms_0]; done)] at h
                      have fin : ∀ y : Int32, (y = 0 ∨ y = 1) → (y.toInt = 0 ↔ ((F2 121 104).toInt = 0 ∨ (L2 173 R.length).toInt = 0)) → v = 1 → st = (n, sl, SH, h_up (h_up (h_up (h_up F7 174 S2.length (vp_nar .boolean (F2 121 104))) 175 S2.length (bi b)) 121 104 y) 121 92 (F2 121 92 + (1 : Int32)), L2, FR) → (match mq_as (x :: R, m) with
                        | none => none
                        | some a => some (Sum.inl (t + 1, true, (-2, 0, a.2.1, a.2.2) :: S2, a.1))) = (none : Option (mq_S ⊕ (Nat × mq_Q))) ∨ (∃ t1 a S4 q4 F4 L4, (match mq_as (x :: R, m) with
                        | none => none
                        | some a => some (Sum.inl (t + 1, true, (-2, 0, a.2.1, a.2.2) :: S2, a.1))) = some (Sum.inl (t1, a, S4, q4) : mq_S ⊕ (Nat × mq_Q)) ∧ st = (n, sl, SH, F4, L4, FR) ∧ mh F4 L4 T t1 S4 q4 ∧ v = 1 ∧ ((F4 121 91).toInt = 0 ↔ a = true)) ∨ (∃ q4 S4 F4 L4, (match mq_as (x :: R, m) with
                        | none => none
                        | some a => some (Sum.inl (t + 1, true, (-2, 0, a.2.1, a.2.2) :: S2, a.1))) = some (Sum.inr (t, q4) : mq_S ⊕ (Nat × mq_Q)) ∧ st = (n, sl, SH, F4, L4, FR) ∧ v = 0 ∧ mh F4 L4 T t S4 q4) := by
                        intro y hy hyz ev es
                        generalize hG : h_up (h_up (h_up (h_up F7 174 S2.length (vp_nar .boolean (F2 121 104))) 175 S2.length (bi b)) 121 104 y) 121 92 (F2 121 92 + (1 : Int32)) = F9 at es
                        have o121 : ∀ k, k ≠ 90 → k ≠ 92 → k ≠ 101 → k ≠ 104 → F9 121 k = F2 121 k := fun k h1 h2 h3 h4 => by rw [← hG, h_up_x (by omega), h_up_x (by omega), h_up_x (by omega), h_up_x (by omega)]; exact f121 k h1 h3
                        have o104 : F9 121 104 = y := by rw [← hG, h_up_x (by first | decide | (simp; done) | (simp [ms_0]; done)), h_up_eq]
                        rcases mo_ask (F9 := F9) (b := b) r3 ht1 (by rw [← hG, h_up_eq]; exact mh_n r3 hT) (by rw [← hG, h_up_x (by first | decide | (simp; done) | (simp [ms_0]; done)), h_up_x (by first | decide | (simp; done) | (simp [ms_0]; done)), h_up_x (by first | decide | (simp; done) | (simp [ms_0]; done)), h_up_x (by first | decide | (simp; done) | (simp [ms_0]; done)), f90]; exact k91) hl2 (by rw [← hG, h_up_x (by first | decide | (simp; done) | (simp [ms_0]; done)), h_up_x (by first | decide | (simp; done) | (simp [ms_0]; done)), h_up_x (by first | decide | (simp; done) | (simp [ms_0]; done)), h_up_x (by first | decide | (simp; done) | (simp [ms_0]; done)), f101]; exact k101) (o121 93 (by first | decide | (simp; done) | (simp [ms_0]; done)) (by first | decide | (simp; done) | (simp [ms_0]; done)) (by first | decide | (simp; done) | (simp [ms_0]; done)) (by first | decide | (simp; done) | (simp [ms_0]; done))) (by rw [← hG, h_up_x (by first | decide | (simp; done) | (simp [ms_0]; done)), h_up_x (by first | decide | (simp; done) | (simp [ms_0]; done)), h_up_x (by first | decide | (simp; done) | (simp [ms_0]; done)), h_up_x (by first | decide | (simp; done) | (simp [ms_0]; done)), f166]; (first | decide | (simp; done) | (simp [ms_0]; done))) (by rw [← hG, h_up_x (by first | decide | (simp; done) | (simp [ms_0]; done)), h_up_x (by first | decide | (simp; done) | (simp [ms_0]; done)), h_up_x (by first | decide | (simp; done) | (simp [ms_0]; done)), h_up_x (by first | decide | (simp; done) | (simp [ms_0]; done)), f165]; (first | decide | (simp; done) | (simp [ms_0]; done))) (by rw [← hG, h_up_x (by first | decide | (simp; done) | (simp [ms_0]; done)), h_up_x (by first | decide | (simp; done) | (simp [ms_0]; done)), h_up_x (by first | decide | (simp; done) | (simp [ms_0]; done)), h_up_eq]) (by rw [← hG, h_up_x (by first | decide | (simp; done) | (simp [ms_0]; done)), h_up_x (by first | decide | (simp; done) | (simp [ms_0]; done)), h_up_eq]) (by rw [o104]; exact hy) hbz (by rw [o104]; exact hyz) (fun r i hr hi => by rw [← hG, h_up_x (by omega), h_up_x (by omega), h_up_x (by omega), h_up_x (by omega)]; exact frw r i hr hi) with hn | ⟨q4, wl, so, z1, z2⟩
                        · rw [hn]
                          exact Or.inl rfl
                        · rw [z1]
                          exact Or.inr (Or.inl ⟨t + 1, true, _, q4, F9, L2, rfl, es, z2, ev, ⟨fun _ => rfl, fun _ => by rw [o121 91 (by first | decide | (simp; done) | (simp [ms_0]; done)) (by first | decide | (simp; done) | (simp [ms_0]; done)) (by first | decide | (simp; done) | (simp [ms_0]; done)) (by first | decide | (simp; done) | (simp [ms_0]; done)), f91]; exact h91⟩⟩)
                      rcases h with ⟨w1, e1, e2⟩ | ⟨w1, -, h⟩
                      · exact fin 0 (Or.inl rfl) ⟨fun _ => Or.inl w1, fun _ => by first | decide | (simp; done) | (simp [ms_0]; done)⟩ e1 e2
                      · rcases h with ⟨w2, e1, e2⟩ | ⟨w2, e1, e2⟩
                        · exact fin 0 (Or.inl rfl) ⟨fun _ => Or.inr w2, fun _ => by first | decide | (simp; done) | (simp [ms_0]; done)⟩ e1 e2
                        · exact fin 1 (Or.inr rfl) ⟨fun e => absurd e (by first | decide | (simp; done) | (simp [ms_0]; done)), fun e => e.elim (fun e => absurd e w1) (fun e => absurd e w2)⟩ e1 e2
                    rcases h with ⟨w0, h⟩ | ⟨w0, h⟩
                    · exact s256 0 false (by first | decide | (simp; done) | (simp [ms_0]; done)) ⟨fun _ => w0, fun _ => rfl⟩ h
                    · exact s256 1 true (by first | decide | (simp; done) | (simp [ms_0]; done)) ⟨fun e => (by cases e), fun e => absurd e w0⟩ h
            · have g1 : K t = 5 ∧ W t = 124 := Classical.byContradiction (fun e => g1 ((mo_sgn (A := 124) (by first | decide | (simp; done) | (simp [ms_0]; done)) et k1 k2).mpr e))
              obtain ⟨v1, n1, sl1, SH1, FI1, FL1, FR1, hc, e1, e2⟩ := h
              exact mo_cb hS hK hT h91 hh (au_bn_1.mpr g1) (by first | decide | (simp; done) | (simp [ms_0]; done)) (by rw [g1.1, g1.2]; (first | decide | (simp; done) | (simp [ms_0]; done))) (by first | decide | (simp; done) | (simp [ms_0]; done)) hc e1 e2
          · have g2 : K t = 5 ∧ W t = 94 := Classical.byContradiction (fun e => g2 ((mo_sgn (A := 94) (by first | decide | (simp; done) | (simp [ms_0]; done)) et k1 k2).mpr e))
            obtain ⟨v1, n1, sl1, SH1, FI1, FL1, FR1, hc, e1, e2⟩ := h
            exact mo_cb hS hK hT h91 hh (au_bn_2.mpr g2) (by first | decide | (simp; done) | (simp [ms_0]; done)) (by rw [g2.1, g2.2]; (first | decide | (simp; done) | (simp [ms_0]; done))) (by first | decide | (simp; done) | (simp [ms_0]; done)) hc e1 e2
        · have g3 : K t = 5 ∧ W t = 38 := Classical.byContradiction (fun e => g3 ((mo_sgn (A := 38) (by first | decide | (simp; done) | (simp [ms_0]; done)) et k1 k2).mpr e))
          obtain ⟨v1, n1, sl1, SH1, FI1, FL1, FR1, hc, e1, e2⟩ := h
          exact mo_cb hS hK hT h91 hh (au_bn_3.mpr g3) (by first | decide | (simp; done) | (simp [ms_0]; done)) (by rw [g3.1, g3.2]; (first | decide | (simp; done) | (simp [ms_0]; done))) (by first | decide | (simp; done) | (simp [ms_0]; done)) hc e1 e2
      · have e4 := tk_cmp (SH := SH) (FI := FI) (FL := FL) (FR := FR) (k := FI 152 t) (w := FL 153 t)
        rw [k1, k2] at e4
        rw [e4, cm] at g4
        have h4 : au_bn (K t) (W t) = 4 := Classical.byContradiction (fun e => g4 (if_neg e))
        rw [if_pos h4] at e4
        obtain ⟨v1, n1, sl1, SH1, FI1, FL1, FR1, hc, e1, e2⟩ := h
        exact mo_cb hS hK hT h91 hh h4 (by first | decide | (simp; done) | (simp [ms_0]; done)) e4 (by first | decide | (simp; done) | (simp [ms_0]; done)) hc e1 e2
    · have e5 := tk_shf (SH := SH) (FI := FI) (FL := FL) (FR := FR) (k := FI 152 t) (w := FL 153 t)
      rw [k1, k2] at e5
      rw [e5, cm] at g5
      have h5 : au_bn (K t) (W t) = 5 := Classical.byContradiction (fun e => g5 (if_neg e))
      rw [if_pos h5] at e5
      obtain ⟨v1, n1, sl1, SH1, FI1, FL1, FR1, hc, e1, e2⟩ := h
      exact mo_cb hS hK hT h91 hh h5 (by first | decide | (simp; done) | (simp [ms_0]; done)) e5 (by first | decide | (simp; done) | (simp [ms_0]; done)) hc e1 e2
  have e7 := tk_mul (SH := SH) (FI := FI) (FL := FL) (FR := FR) (k := FI 152 t) (w := FL 153 t)
  rw [k1, k2] at e7
  rcases h with ⟨g7, h⟩ | ⟨g7, h⟩
  · rw [e7, cm] at g7
    have n7 : au_bn (K t) (W t) ≠ 7 := fun e => by rw [if_pos e] at g7; omega
    rw [k1, c5] at h
    rcases h with ⟨h5, h⟩ | ⟨h5, h⟩
    · rw [k2, show ((43 : Int64)).toInt = 43 by first | decide | (simp; done) | (simp [ms_0]; done)] at h
      rcases h with ⟨h43, h⟩ | ⟨h43, h⟩
      · exact s64 h5 (Or.inl h43) h
      rw [show ((45 : Int64)).toInt = 45 by first | decide | (simp; done) | (simp [ms_0]; done)] at h
      rcases h with ⟨h45, h⟩ | ⟨h45, h⟩
      · exact s64 h5 (Or.inr h45) h
      · exact s86 n7 (fun e => (au_bn_6.mp e).2.elim h43 h45) h
    · exact s86 n7 (fun e => h5 (au_bn_6.mp e).1) h
  · rw [e7, cm] at g7
    have h7 : au_bn (K t) (W t) = 7 := Classical.byContradiction (fun e => g7 (if_neg e))
    rw [if_pos h7] at e7
    obtain ⟨v1, n1, sl1, SH1, FI1, FL1, FR1, hc, e1, e2⟩ := h
    exact mo_cb hS hK hT h91 hh h7 (by first | decide | (simp; done) | (simp [ms_0]; done)) e7 (by first | decide | (simp; done) | (simp [ms_0]; done)) hc e1 e2
end MS
