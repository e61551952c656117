/-! THE REFERENCE'S MEANINGS: an operand, an operator, an expression (its walk). -/
section MP
variable {n sl : Nat} {SH : Nat → Nat × Nat} {FI F2 F3 : Nat → Nat → Int32} {FL L2 L3 : Nat → Nat → Int64} {FR : Nat → Nat → Option Nat} {st : hS} {E : ms_E} {fb : xX} {u : Unit} {K W : Nat → Int} {T t : Nat} {S : List mq_E} {q : mq_Q} {m m2 : Int ⊕ Bool} {V R : List (Option Int64)}
/-- what a value's push is told of the fault's cell -/
def mx (m : Int ⊕ Bool) (x : xX) (y : Int64) (F1 F0 : Nat → Nat → Int32) : Prop := match m with
  | .inr true => (match x with
    | .inl e => (F1 121 93).toInt = e ∧ e ≠ 0
    | .inr v => y = v ∧ F1 121 93 = F0 121 93)
  | _ => F1 121 93 = F0 121 93
theorem mo_value2 {x : xX} {y : Int64} {F1 : Nat → Nat → Int32} (hS : h_S n SH) (hh : mh FI FL T t S q) (e1 : ∀ c k, ¬ (c = 121 ∧ k = 93) → F1 c k = FI c k) (hx : mx q.2 x y F1 FI) (h : RX12_value y n sl SH F1 FL FR u st) : ∃ F2 L2, st = (n, sl, SH, F2, L2, FR) ∧ mh F2 L2 T t S (mq_ps x q) := by
  obtain ⟨V, m⟩ := q
  match m, x, hh, hx with
  | .inl e0, x, hh, hx => exact mo_value (x := x) hS hh e1 hx h
  | .inr false, x, hh, hx => exact mo_value (x := x) hS hh e1 hx h
  | .inr true, .inl e, hh, hx => exact mo_value (x := .inl e) hS hh e1 hx h
  | .inr true, .inr v, hh, hx => exact mo_value (x := .inr v) hS hh e1 hx h
theorem mo_bases2 (hS : h_S n SH) (hE : rE FI FL SH E) (hf : xfq E fb) (hh : mh FI FL T t S (V, .inr true)) (h : RX12_bases n sl SH FI FL FR u st) : ∃ F1 F2 L2, st = (n, sl, SH, F2, L2, FR) ∧ mh F1 L2 T t S (V, .inr true) ∧ rE F2 L2 SH E ∧ (∀ c k, ¬ (c = 121 ∧ k = 93) → F2 c k = F1 c k) ∧ mx (.inr true) fb (L2 121 39) F2 F1 := by
  cases fb with
  | inl e =>
    obtain ⟨F1, F2, L2, a1, a2, a3, a4, a5⟩ := mo_bases hS hE hf hh h
    exact ⟨F1, F2, L2, a1, a2, a3, a4, a5⟩
  | inr v =>
    obtain ⟨F1, F2, L2, a1, a2, a3, a4, a5⟩ := mo_bases hS hE hf hh h
    exact ⟨F1, F2, L2, a1, a2, a3, a4, a5⟩
/-- a value, and what stands ahead of it -/
theorem mo_vf2 {x : xX} {y : Int64} {F0 F1 : Nat → Nat → Int32} {L0 : Nat → Nat → Int64} {v1 v2 : Unit} {n1 sl1 n2 sl2 : Nat} {S1 S2 : Nat → Nat × Nat} {I1 I2 : Nat → Nat → Int32} {J1 J2 : Nat → Nat → Int64} {R1 R2 : Nat → Nat → Option Nat} (hS : h_S n SH) (hh : mh F0 L0 T t S q) (hE : rE F1 L0 SH E) (e1 : ∀ c k, ¬ (c = 121 ∧ k = 93) → F1 c k = F0 c k) (hx : mx q.2 x y F1 F0) (h : RX12_value y n sl SH F1 L0 FR v1 (n1, sl1, S1, I1, J1, R1)) (h2 : RX12_meansFinished n1 sl1 S1 I1 J1 R1 v2 (n2, sl2, S2, I2, J2, R2)) (e2 : st = (n2, sl2, S2, I2, J2, R2)) : mq_fin E S (mq_ps x q) = none ∨ ∃ S2 q2 F2 L2, mq_fin E S (mq_ps x q) = some (S2, q2) ∧ st = (n, sl, SH, F2, L2, FR) ∧ mh F2 L2 T t S2 q2 := by
  obtain ⟨F2, L2, r1, r2⟩ := mo_value2 (x := x) hS hh e1 hx h
  cases r1
  have hE2 := rE_mk hE (mk_st (kX12_value h) (by first | decide | (simp; done) | (simp [ms_0]; done)))
  rw [e2]
  exact mo_finished hS hE2 r2 h2
theorem mo_opd {v : Int32} (hS : h_S n SH) (hK : K T = 0) (hT : T ≤ 1001) (hg : tk_rg K W) (htk : mtk K W T FI FL) (hE : rE FI FL SH E) (hf : xfq E fb) (hh : mh FI FL T t S q) (h : RX12_meansOperand n sl SH FI FL FR v st) : mq_opd K W E fb t S q = none ∨ ∃ t1 a S2 q2 F2 L2, mq_opd K W E fb t S q = some (t1, a, S2, q2) ∧ st = (n, sl, SH, F2, L2, FR) ∧ mh F2 L2 T t1 S2 q2 ∧ (v.toInt = 0 ↔ a = true) := by
  obtain ⟨-, -, h⟩ := h
  have a1 := hh.1
  have et : (FI 121 92).toInt.toNat = t := by omega
  rw [et] at h
  obtain ⟨k1, k2⟩ := htk t a1.2
  have c4 : ((4 : Int32)).toInt = 4 := by first | decide | (simp; done) | (simp [ms_0]; done)
  have c5 : ((5 : Int32)).toInt = 5 := by first | decide | (simp; done) | (simp [ms_0]; done)
  have c45 : ((45 : Int64)).toInt = 45 := by first | decide | (simp; done) | (simp [ms_0]; done)
  have c126 : ((126 : Int64)).toInt = 126 := by first | decide | (simp; done) | (simp [ms_0]; done)
  -- what stands ahead
  have un : lc_uy (K t) (W t) = true → RX12_meansOperand_55 (FI 152 t) (FL 153 t) n sl SH FI FL FR v st → mq_opd K W E fb t S q = none ∨ ∃ t1 a S2 q2 F2 L2, mq_opd K W E fb t S q = some (t1, a, S2, q2) ∧ st = (n, sl, SH, F2, L2, FR) ∧ mh F2 L2 T t1 S2 q2 ∧ (v.toInt = 0 ↔ a = true) := by
    intro hu h
    have hk : K t ≠ 0 := fun e => by rw [e, lc_uy_k0] at hu; cases hu
    obtain ⟨F2, r1, r2, r3⟩ := mo_55 hS hT (lt_T hK a1.2 hk) hg htk hu hh h
    refine Or.inr ⟨t + 1, true, _, q, F2, FL, by unfold mq_opd; rw [if_pos hu], r1, r2, ?_⟩
    rw [r3]
    exact ⟨fun _ => rfl, fun _ => by first | decide | (simp; done) | (simp [ms_0]; done)⟩
  -- all else
  have re : ¬ (K t = 4 ∨ (K t = 5 ∧ (W t = 45 ∨ W t = 126))) → RX12_meansOperand_46 (FI 152 t) (FL 153 t) n sl SH FI FL FR v st → mq_opd K W E fb t S q = none ∨ ∃ t1 a S2 q2 F2 L2, mq_opd K W E fb t S q = some (t1, a, S2, q2) ∧ st = (n, sl, SH, F2, L2, FR) ∧ mh F2 L2 T t1 S2 q2 ∧ (v.toInt = 0 ↔ a = true) := by
    intro hnu h
    have ekw : (fX12_keepsWord (7 : Int32) SH FI FL FR).toInt = 0 ↔ ¬ (K t = 2 ∧ W t = 7) := by
      unfold fX12_keepsWord
      rw [et, k1, k2, show ((2 : Int32)).toInt = 2 by first | decide | (simp; done) | (simp [ms_0]; done), show (((7 : Int32)).toInt64).toInt = 7 by first | decide | (simp; done) | (simp [ms_0]; done)]
      by_cases g2 : K t = 2
      · rw [if_pos g2]
        by_cases g7 : W t = 7
        · rw [if_pos g7]
          exact ⟨fun e => absurd e (by first | decide | (simp; done) | (simp [ms_0]; done)), fun e => absurd ⟨g2, g7⟩ e⟩
        · rw [if_neg g7]
          exact ⟨fun _ e => g7 e.2, fun _ => by first | decide | (simp; done) | (simp [ms_0]; done)⟩
      · rw [if_neg g2]
        exact ⟨fun _ e => g2 e.1, fun _ => by first | decide | (simp; done) | (simp [ms_0]; done)⟩
    rcases h with ⟨hkw, h⟩ | ⟨hkw, h⟩
    · have hn7 := ekw.mp hkw
      have hu : ¬ lc_uy (K t) (W t) = true := fun e => by
        have e2 : K t = 4 ∨ (K t = 5 ∧ (W t = 45 ∨ W t = 126)) ∨ (K t = 2 ∧ W t = 7) := of_decide_eq_true e
        omega
      -- an atom
      have atom : ¬ (K t = 5 ∧ W t = 40) → RX12_meansOperand_144 (FI 152 t) (FL 153 t) n sl SH (h_up FI 121 92 (FI 121 92 + (1 : Int32))) FL FR v st → mq_opd K W E fb t S q = none ∨ ∃ t1 a S2 q2 F2 L2, mq_opd K W E fb t S q = some (t1, a, S2, q2) ∧ st = (n, sl, SH, F2, L2, FR) ∧ mh F2 L2 T t1 S2 q2 ∧ (v.toInt = 0 ↔ a = true) := by
        intro hp h
        by_cases hl : lc_at K W false t = none
        · exact Or.inl (by unfold mq_opd; rw [if_neg hu, if_neg hp, if_pos hl])
        cases hla : lc_at K W false t with
        | none => exact absurd hla hl
        | some pr =>
          obtain ⟨t1, c⟩ := pr
          have gl := lc_at_lt hK a1.2 hla
          have gi := lc_at_i hla
          have ht1 : t + 1 ≤ T := by omega
          have hh1 : mh (h_up FI 121 92 (FI 121 92 + (1 : Int32))) FL T (t + 1) S q := mh_t hh (mh_n hh hT) ht1
          have hE1 : rE (h_up FI 121 92 (FI 121 92 + (1 : Int32))) FL SH E := rE_mk hE (mk_f mk_rf (by omega))
          have htk1 : mtk K W T (h_up FI 121 92 (FI 121 92 + (1 : Int32))) FL := mt_mk htk (mk_f mk_rf (by omega))
          have e92 : ((h_up FI 121 92 (FI 121 92 + (1 : Int32))) 121 92).toInt.toNat = t + 1 := by have := hh1.1; omega
          generalize h_up FI 121 92 (FI 121 92 + (1 : Int32)) = FA at h hh1 hE1 htk1 e92
          -- the end
          have fin : ∀ {x : xX} {t2 : Nat} {F9 : Nat → Nat → Int32} {L9 : Nat → Nat → Int64}, mq_at K W E fb t = (t2, x) → v = 1 → (mq_fin E S (mq_ps x q) = none ∨ ∃ S2 q2 F2 L2, mq_fin E S (mq_ps x q) = some (S2, q2) ∧ st = (n, sl, SH, F2, L2, FR) ∧ mh F2 L2 T t2 S2 q2) → mq_opd K W E fb t S q = none ∨ ∃ t1 a S2 q2 F2 L2, mq_opd K W E fb t S q = some (t1, a, S2, q2) ∧ st = (n, sl, SH, F2, L2, FR) ∧ mh F2 L2 T t1 S2 q2 ∧ (v.toInt = 0 ↔ a = true) := by
            intro x t2 F9 L9 em ev hc
            have eo : mq_opd K W E fb t S q = match mq_fin E S (mq_ps x q) with
                | none => none
                | some r => some (t2, false, r) := by
              unfold mq_opd
              rw [if_neg hu, if_neg hp, if_neg hl, em]
              (try rfl)
            rw [eo]
            rcases hc with hc | ⟨S2, q2, F2, L2, r1, r2, r3⟩
            · rw [hc]
              exact Or.inl rfl
            · rw [r1]
              refine Or.inr ⟨t2, false, S2, q2, F2, L2, rfl, r2, r3, ?_⟩
              rw [ev]
              exact ⟨fun e => absurd e (by first | decide | (simp; done) | (simp [ms_0]; done)), fun e => by cases e⟩
          have same : ∀ c k, ¬ (c = 121 ∧ k = 93) → FA c k = FA c k := fun _ _ _ => rfl
          have c3 : ((3 : Int32)).toInt = 3 := by first | decide | (simp; done) | (simp [ms_0]; done)
          have noth : ∀ {x : xX} {y : Int64}, (q.2 = .inr true → x = .inr y) → mx q.2 x y FA FA := by
            intro x y hx
            obtain ⟨V, m⟩ := q
            match m, hx with
            | .inr true, hx =>
              rw [hx rfl]
              exact (show y = y ∧ FA 121 93 = FA 121 93 from ⟨rfl, rfl⟩)
            | .inr false, _ => exact (show FA 121 93 = FA 121 93 from rfl)
            | .inl e, _ => exact (show FA 121 93 = FA 121 93 from rfl)
          have flt : ∀ {x : xX} {y : Int64} {w : Int32} {e : Int}, q.2 = .inr true → x = .inl e → w.toInt = e → e ≠ 0 → mx q.2 x y (h_up FA 121 93 w) FA := by
            intro x y w e hm hx hw he
            rw [hm, hx]
            exact (show ((h_up FA 121 93 w) 121 93).toInt = e ∧ e ≠ 0 from ⟨by rw [h_up_eq]; exact hw, he⟩)
          have hmm : mm FA q.2 := hh1.2.2.2.2.2
          have doe : (fX12_does SH FA FL FR).toInt = 0 ↔ q.2 ≠ .inr true := mh_does hmm
          unfold RX12_meansOperand_144 at h
          rw [k1, c3] at h
          rcases h with ⟨h3, h⟩ | ⟨h3, h⟩
          · -- a number
            obtain ⟨v1, n1, sl1, SH1, FI1, FL1, FR1, hv, v2, n2, sl2, SH2, FI2, FL2, FR2, h2, e1, e2⟩ := h
            have em : mq_at K W E fb t = (t + 1, .inr (FL 153 t)) := by
              unfold mq_at
              rw [if_pos h3, ← k2, l_oi]
            exact fin (F9 := FA) (L9 := FL) em e1 (mo_vf2 hS hh1 hE1 same (noth (fun _ => rfl)) hv h2 e2)
          rw [c5] at h
          rcases h with ⟨h5, h⟩ | ⟨h5, h⟩
          · -- % r
            have g37 : W t = 37 ∧ K (t + 1) = 3 ∧ W (t + 1) ≤ 31 := by omega
            obtain ⟨-, -, v1, n1, sl1, SH1, FI1, FL1, FR1, hv, v2, n2, sl2, SH2, FI2, FL2, FR2, h2, e1, e2⟩ := h
            rw [e92] at hv
            have hr := (hg (t + 1)).1 g37.2.1
            have kw := (htk1 (t + 1) ht1).2
            have ki : ((FL 153 (t + 1)).toInt32).toInt = W (t + 1) := l_2i kw (by omega) (by omega)
            have ht2 : t + 2 ≤ T := lt_T hK ht1 (by omega)
            rw [ki, hE1.1 _ (by omega)] at hv
            have em : mq_at K W E fb t = (t + 2, .inr (ms_rg E (W (t + 1)).toNat)) := by
              unfold mq_at
              rw [if_neg h3, if_pos h5]
            obtain ⟨F2, L2, r1, r2⟩ := mo_value2 (x := .inr (ms_rg E (W (t + 1)).toNat)) hS hh1 same (noth (fun _ => rfl)) hv
            cases r1
            have hE2 := rE_mk hE1 (mk_st (kX12_value hv) (by first | decide | (simp; done) | (simp [ms_0]; done)))
            refine fin (F9 := FA) (L9 := FL) em e1 ?_
            rw [e2]
            exact mo_finished hS (rE_mk hE2 (mk_f mk_rf (by omega))) (mh_t r2 (mh_n r2 hT) ht2) h2
          have hk2 : K t = 2 := by omega
          rw [k2, show ((5 : Int64)).toInt = 5 by first | decide | (simp; done) | (simp [ms_0]; done)] at h
          rcases h with ⟨h6, h⟩ | ⟨h6, h⟩
          · -- cfa
            have em : mq_at K W E fb t = (t + 1, x_cfa E) := by
              unfold mq_at
              rw [if_neg h3, if_neg h5, if_pos h6]
            obtain ⟨f1, f2, f3⟩ := hE1.2.2.2.2.1
            have cm : ((-1 : Int32)).toInt = -1 := by first | decide | (simp; done) | (simp [ms_0]; done)
            have val : ¬ ms_cr E = -1 → FL 122 (FA 121 6).toInt.toNat + FL 121 7 = ms_rg E (ms_cr E).toNat + ms_co E := fun hc => by
              rw [f1, hE1.1 _ (by omega), hE1.2.2.2.2.2.1]
            -- 223
            have s223 : ∀ F1 : Nat → Nat → Int32, rE F1 FL SH E → (∀ c k, ¬ (c = 121 ∧ k = 93) → F1 c k = FA c k) → (∀ y, (ms_cr E = -1 → y = 0) → (¬ ms_cr E = -1 → y = ms_rg E (ms_cr E).toNat + ms_co E) → mx q.2 (x_cfa E) y F1 FA) → RX12_meansOperand_223 n sl SH F1 FL FR v st → mq_opd K W E fb t S q = none ∨ ∃ t1 a S2 q2 F2 L2, mq_opd K W E fb t S q = some (t1, a, S2, q2) ∧ st = (n, sl, SH, F2, L2, FR) ∧ mh F2 L2 T t1 S2 q2 ∧ (v.toInt = 0 ↔ a = true) := by
              intro F1 hEF e1 hx h
              have e6 : F1 121 6 = FA 121 6 := e1 121 6 (by first | decide | (simp; done) | (simp [ms_0]; done))
              rcases h with ⟨g, h⟩ | ⟨g, h⟩
              · rw [e6, f1, cm] at g
                obtain ⟨v1, n1, sl1, SH1, FI1, FL1, FR1, hv, v2, n2, sl2, SH2, FI2, FL2, FR2, h2, e3, e4⟩ := h
                exact fin (F9 := FA) (L9 := FL) em e3 (mo_vf2 hS hh1 hEF e1 (hx _ (fun _ => rfl) (fun e => absurd g e)) hv h2 e4)
              · rw [e6, f1, cm] at g
                obtain ⟨-, v1, n1, sl1, SH1, FI1, FL1, FR1, hv, v2, n2, sl2, SH2, FI2, FL2, FR2, h2, e3, e4⟩ := h
                rw [e6] at hv
                exact fin (F9 := FA) (L9 := FL) em e3 (mo_vf2 hS hh1 hEF e1 (hx _ (fun e => absurd e g) (fun _ => val g)) hv h2 e4)
            rcases h with ⟨d, h⟩ | ⟨d, h⟩
            · have d := doe.mp d
              exact s223 FA hE1 same (fun y _ _ => noth (fun e => absurd e d)) h
            · have d : q.2 = .inr true := Classical.byContradiction (fun e => d (doe.mpr e))
              rcases h with ⟨g, h⟩ | ⟨g, h⟩
              · rw [f1, cm] at g
                refine s223 _ (rE_mk hE1 (mk_f mk_rf (by omega))) (fun c k hn => h_up_x hn) (fun y _ _ => flt (e := 11) d ?_ (by first | decide | (simp; done) | (simp [ms_0]; done)) (by first | decide | (simp; done) | (simp [ms_0]; done))) h
                unfold x_cfa
                rw [if_pos g]
              · rw [f1, cm] at g
                refine s223 FA hE1 same (fun y _ hy => noth (fun _ => ?_)) h
                unfold x_cfa
                rw [if_neg g, hy g]
          rw [show ((6 : Int64)).toInt = 6 by first | decide | (simp; done) | (simp [ms_0]; done)] at h
          rcases h with ⟨h7, h⟩ | ⟨h7, h⟩
          · -- obj
            have em : mq_at K W E fb t = (t + 1, x_obj E) := by
              unfold mq_at
              rw [if_neg h3, if_neg h5, if_neg h6, if_pos h7]
            rcases h with ⟨d, h⟩ | ⟨d, h⟩
            · have d := doe.mp d
              obtain ⟨v1, n1, sl1, SH1, FI1, FL1, FR1, hv, v2, n2, sl2, SH2, FI2, FL2, FR2, h2, e3, e4⟩ := h
              exact fin (F9 := FA) (L9 := FL) em e3 (mo_vf2 hS hh1 hE1 same (noth (fun e => absurd e d)) hv h2 e4)
            · have d : q.2 = .inr true := Classical.byContradiction (fun e => d (doe.mpr e))
              rcases hE1.2.2.2.2.2.2.1 with ⟨o1, o2⟩ | ⟨o1, o2⟩
              · obtain ⟨v1, n1, sl1, SH1, FI1, FL1, FR1, hv, v2, n2, sl2, SH2, FI2, FL2, FR2, h2, e3, e4⟩ := P_p h o1
                refine fin (F9 := FA) (L9 := FL) em e3 (mo_vf2 hS hh1 (rE_mk hE1 (mk_f mk_rf (by omega))) (fun c k hn => h_up_x hn) (flt (e := 11) d ?_ (by first | decide | (simp; done) | (simp [ms_0]; done)) (by first | decide | (simp; done) | (simp [ms_0]; done))) hv h2 e4)
                unfold x_obj
                rw [o2]
              · obtain ⟨v1, n1, sl1, SH1, FI1, FL1, FR1, hv, v2, n2, sl2, SH2, FI2, FL2, FR2, h2, e3, e4⟩ := P_n h o1
                refine fin (F9 := FA) (L9 := FL) em e3 (mo_vf2 hS hh1 hE1 same (noth (fun _ => ?_)) hv h2 e4)
                unfold x_obj
                rw [o2]
          · -- fb
            have em : mq_at K W E fb t = (t + 1, fb) := by
              unfold mq_at
              rw [if_neg h3, if_neg h5, if_neg h6, if_neg h7]
            rcases h with ⟨d, h⟩ | ⟨d, h⟩
            · have d := doe.mp d
              obtain ⟨v1, n1, sl1, SH1, FI1, FL1, FR1, hv, v2, n2, sl2, SH2, FI2, FL2, FR2, h2, e3, e4⟩ := h
              exact fin (F9 := FA) (L9 := FL) em e3 (mo_vf2 hS hh1 hE1 same (noth (fun e => absurd e d)) hv h2 e4)
            · have d : q.2 = .inr true := Classical.byContradiction (fun e => d (doe.mpr e))
              obtain ⟨v0, n0, sl0, SH0, FI0, FL0, FR0, hb, v1, n1, sl1, SH1, FI1, FL1, FR1, hv, v2, n2, sl2, SH2, FI2, FL2, FR2, h2, e3, e4⟩ := h
              have hq : q = (q.1, .inr true) := by rw [← d]
              rw [hq] at hh1
              obtain ⟨F5, F6, L6, b1, b2, b3, b4, b5⟩ := mo_bases2 hS hE1 hf hh1 hb
              cases b1
              rw [← hq] at b2
              refine fin (F9 := FA) (L9 := FL) em e3 (mo_vf2 hS b2 b3 b4 ?_ hv h2 e4)
              rw [d]
              exact b5
      rw [k1, c5] at h
      rcases h with ⟨h5, h⟩ | ⟨h5, h⟩
      · rw [k2, show ((40 : Int64)).toInt = 40 by first | decide | (simp; done) | (simp [ms_0]; done)] at h
        rcases h with ⟨h40, h⟩ | ⟨h40, h⟩
        · obtain ⟨v1, n1, sl1, SH1, FI1, FL1, FR1, hl, e1, e2⟩ := h
          have ht1 : t + 1 ≤ T := lt_T hK a1.2 (by omega)
          obtain ⟨F4, r4, r5⟩ := mo_later (w1 := false) (w2 := false) hS (mh_t hh (mh_n hh hT) ht1) (by first | decide | (simp; done) | (simp [ms_0]; done)) (by first | decide | (simp; done) | (simp [ms_0]; done)) (fun e => absurd e (by first | decide | (simp; done) | (simp [ms_0]; done))) hl
          cases r4
          rw [show ((-1 : Int32)).toInt = -1 by first | decide | (simp; done) | (simp [ms_0]; done), show ((0 : Int32)).toInt = 0 by first | decide | (simp; done) | (simp [ms_0]; done)] at r5
          refine Or.inr ⟨t + 1, true, _, q, _, _, by unfold mq_opd; rw [if_neg hu, if_pos ⟨h5, h40⟩], e2, r5, ?_⟩
          rw [e1]
          exact ⟨fun _ => rfl, fun _ => by first | decide | (simp; done) | (simp [ms_0]; done)⟩
        · exact atom (fun e => h40 e.2) h
      · exact atom (fun e => h5 e.1) h
    · have h7 : K t = 2 ∧ W t = 7 := Classical.byContradiction (fun e => hkw (ekw.mpr e))
      exact un (decide_eq_true (Or.inr (Or.inr h7))) h
  rw [k1, c4] at h
  rcases h with ⟨h4, h⟩ | ⟨h4, h⟩
  · exact un (decide_eq_true (Or.inl h4)) h
  rw [c5] at h
  rcases h with ⟨h5, h⟩ | ⟨h5, h⟩
  · rw [k2, c45] at h
    rcases h with ⟨h45, h⟩ | ⟨h45, h⟩
    · exact un (decide_eq_true (Or.inr (Or.inl ⟨h5, Or.inl h45⟩))) h
    rw [c126] at h
    rcases h with ⟨h126, h⟩ | ⟨h126, h⟩
    · exact un (decide_eq_true (Or.inr (Or.inl ⟨h5, Or.inr h126⟩))) h
    · exact re (by omega) h
  · exact re (by omega) h
end MP
