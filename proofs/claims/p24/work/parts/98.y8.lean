/-! declared, to its end; the text. -/
def lp_st (K W : Nat → Int) (f t : Nat) (V : List lp_V) : Option (Nat × List lp_V) :=
  if K t = 1 ∧ (∀ v, v ∈ V → v.1 ≠ W t) ∧ V.length < 12 ∧ K (t + 1) = 5 ∧ W (t + 1) = 61 then
    match lp_bd K W f (t + 2) with
    | none => none
    | some (t1, m, c, b) => if K t1 = 5 ∧ W t1 = 59 then some (t1 + 1, V ++ [(W t, t + 2, m, c, b)]) else none
  else none
theorem lp_tx_st {K W : Nat → Int} {f g t : Nat} {V : List lp_V} : lp_tx K W f (g + 1) t V = if K t = 0 then some V else match lp_st K W f t V with
    | none => none
    | some (t1, V1) => lp_tx K W f g t1 V1 := by
  rw [lp_tx]
  unfold lp_st
  by_cases h0 : K t = 0
  · rw [if_pos h0, if_pos h0]
  · rw [if_neg h0, if_neg h0]
    by_cases h1 : K t = 1 ∧ (∀ v, v ∈ V → v.1 ≠ W t) ∧ V.length < 12 ∧ K (t + 1) = 5 ∧ W (t + 1) = 61
    · rw [if_pos h1, if_pos h1]
      cases lp_bd K W f (t + 2) with
      | none => rfl
      | some x =>
        obtain ⟨t1, m, c, b⟩ := x
        dsimp only
        by_cases h2 : K t1 = 5 ∧ W t1 = 59
        · rw [if_pos h2, if_pos h2]
        · rw [if_neg h2, if_neg h2]
    · rw [if_neg h1, if_neg h1]
section DD
variable {K W : Nat → Int} {P : Nat → Nat} {n sl : Nat} {SH : Nat → Nat × Nat} {FI : Nat → Nat → Int32} {FL : Nat → Nat → Int64} {FR : Nat → Nat → Option Nat} {t T f : Nat} {o : Int} {B : List Int} {s : hS} {V : List lp_V}
theorem d_FL {c k : Nat} {x : Int64} (h : d_vw K W FI FL t o B) (hc : c ≠ 150) : d_vw K W FI (h_up FL c k x) t o B := ⟨⟨h.1.1, by rw [h_up_nc (fun e => hc e.symm)]; exact h.1.2.1, h.1.2.2⟩, h.2⟩
theorem d_declared {v : Unit} (h : RX12_declared n sl SH FI FL FR v s) (hS : h_S n SH) (hk : tk_ok K W P T) (hf : 12 * T + 20 < f) (ht : t ≤ T) (hd : d_vw K W FI FL t o (lp_fl V)) (hv : v_vw FI FL V) : match lp_st K W f t V with
    | none => (s.2.2.2.1 121 69).toInt ≠ 0
    | some (t1, V1) => t < t1 ∧ t1 ≤ T ∧ (∃ o1, d_vw K W s.2.2.2.1 s.2.2.2.2.1 t1 o1 (lp_fl V1)) ∧ v_vw s.2.2.2.1 s.2.2.2.2.1 V1 := by
  have hk0 := hk
  obtain ⟨hg, hP, hT, hT2, hn, hPT⟩ := hk0
  have c1 : ((1 : Int32)).toInt = 1 := by decide
  have c3 : ((3 : Int32)).toInt = 3 := by decide
  have hK : (FI 149 (FI 121 68).toInt.toNat).toInt = K t := by rw [tk_i hd.1, tk_K hd.1]
  have hW : (FL 150 (FI 121 68).toInt.toNat).toInt = W t := by rw [tk_i hd.1, tk_W hd.1]
  have hmd : (FI 121 78).toInt.toNat = V.length := by have := hv.1; omega
  obtain ⟨-, h⟩ := h
  rcases h with ⟨h1, h⟩ | ⟨h1, h⟩
  · rw [hK, c1] at h1
    have ht1 := lt_T hT ht (by omega)
    obtain ⟨g, h⟩ := h
    obtain ⟨n2, sl2, SH2, FI2, h74, e1, e2, q⟩ := d_names (V := V) (w := W t) g 0 n sl SH FI FL FR v s 0 h (by decide) (by omega) hv.2.1 hv.1 (fun j v hj => (hv.2.2.1 j v hj).1) hW
    subst e1 e2
    rcases q with ⟨e3, q1, q2⟩ | ⟨q1, q2⟩
    · subst e3
      have hnm : ∀ v, v ∈ V → v.1 ≠ W t := by
        intro v hm
        obtain ⟨j, hj⟩ := List.mem_iff_getElem?.mp hm
        exact q1 j v (by omega) hj
      rcases h74 with ⟨h2, h⟩ | ⟨h2, h⟩
      · obtain ⟨-, -, -, -, -, -, -, v3, n3, sl3, SH3, FI3, FL3, FR3, hc, -, h⟩ := h
        rw [hmd] at hc
        have kc := kX12_need hc
        have hd1 := d_FL (c := 158) (k := V.length) (x := FL 150 (FI2 121 68).toInt.toNat) (d_ti (x := FI2 121 68 + 1) (d_ce (c := 163) (k := V.length) (x := vp_nar .boolean 0) (d_ce (c := 159) (k := V.length) (x := 0) (d_ce (c := 161) (k := V.length) (x := FI2 121 73) (d_ce (c := 162) (k := V.length) (x := FI2 151 (FI2 121 68).toInt.toNat) hd (by decide) (by decide) (by decide)) (by decide) (by decide) (by decide)) (by decide) (by decide) (by decide)) (by decide) (by decide) (by decide)) (tk_n1 hd.1) (by omega)) (by decide)
        have e78 : FI3 121 78 = FI2 121 78 := by
          rw [show FI3 121 78 = _ from kq_fld kc (by decide)]
          dsimp only
          rw [h_up_x (by decide), h_up_nc (by decide), h_up_nc (by decide), h_up_nc (by decide), h_up_nc (by decide)]
        have e160 : FI3 160 = FI2 160 := by
          rw [show FI3 160 = _ from kq_cell kc (by decide)]
          dsimp only
          rw [h_up_nc (by decide), h_up_nc (by decide), h_up_nc (by decide), h_up_nc (by decide), h_up_nc (by decide)]
        have e159 : FI3 159 = va_up (FI2 159) V.length 0 := by
          rw [show FI3 159 = _ from kq_cell kc (by decide)]
          dsimp only
          rw [h_up_nc (by decide), h_up_nc (by decide), h_up_row, h_up_nc (by decide), h_up_nc (by decide)]
        have e161 : FI3 161 = va_up (FI2 161) V.length (FI2 121 73) := by
          rw [show FI3 161 = _ from kq_cell kc (by decide)]
          dsimp only
          rw [h_up_nc (by decide), h_up_nc (by decide), h_up_nc (by decide), h_up_row, h_up_nc (by decide)]
        have e163 : FI3 163 = va_up (FI2 163) V.length 0 := by
          rw [show FI3 163 = _ from kq_cell kc (by decide)]
          dsimp only
          rw [h_up_nc (by decide), h_up_row, h_up_nc (by decide), h_up_nc (by decide), h_up_nc (by decide)]
          rfl
        have e158 : FL3 158 = va_up (FL 158) V.length (FL 150 (FI2 121 68).toInt.toNat) := by
          rw [show FL3 158 = _ from kq_fl kc (by decide)]
          dsimp only
          rw [h_up_row]
        have hS3 : h_S n3 SH3 := by rw [show n3 = n2 from kc.1, show SH3 = SH2 from kc.2.2.1]; exact hS
        have hm3 : (FI3 121 78).toInt = V.length := by rw [e78]; exact hv.1
        have hm3n : (FI3 121 78).toInt.toNat = V.length := by omega
        rw [hm3n] at h
        rcases d_need hc (by decide : ((61 : Int32)).toInt = 61) hd1 (by omega) with ⟨g1, g2, g3⟩ | ⟨g1, g2⟩
        · have ht2 := lt_T hT ht1 (by omega)
          unfold lp_st
          rw [if_pos ⟨h1, hnm, q2, g1, g2⟩]
          rcases h with ⟨h3, h⟩ | ⟨h3, h⟩
          · obtain ⟨-, h⟩ := h
            have hK3 : (FI3 149 (FI3 121 68).toInt.toNat).toInt = K (t + 2) := by rw [tk_i g3.1, tk_K g3.1]
            have g4 := d_op (x := 0) (o1 := 0) (d_ce (c := 160) (k := V.length) (x := FI3 121 68) g3 (by decide) (by decide) (by decide)) (by decide)
            have f160 : ∀ i, i ≠ V.length → (h_up (h_up FI3 160 V.length (FI3 121 68)) 121 71 0) 160 i = FI2 160 i := by
              intro i hi
              rw [h_up_nc (by decide), h_up_ne hi, e160]
            have f160' : ((h_up (h_up FI3 160 V.length (FI3 121 68)) 121 71 0) 160 V.length).toInt = ((t + 2 : Nat) : Int) := by
              rw [h_up_nc (by decide), h_up_eq]
              exact tk_n g3.1
            have f78 : (h_up (h_up FI3 160 V.length (FI3 121 68)) 121 71 0) 121 78 = FI2 121 78 := by
              rw [h_up_x (by decide), h_up_nc (by decide), e78]
            have f159 : (h_up (h_up FI3 160 V.length (FI3 121 68)) 121 71 0) 159 = va_up (FI2 159) V.length 0 := by
              rw [h_up_nc (by decide), h_up_nc (by decide), e159]
            have f161 : (h_up (h_up FI3 160 V.length (FI3 121 68)) 121 71 0) 161 = va_up (FI2 161) V.length (FI2 121 73) := by
              rw [h_up_nc (by decide), h_up_nc (by decide), e161]
            have f163 : (h_up (h_up FI3 160 V.length (FI3 121 68)) 121 71 0) 163 = va_up (FI2 163) V.length 0 := by
              rw [h_up_nc (by decide), h_up_nc (by decide), e163]
            have vne : ∀ {α : Type} {F : Nat → α} {k i : Nat} {x : α}, i ≠ k → va_up F k x i = F i := by
              intro α F k i x hi
              simp [va_up, hi]
            have veq : ∀ {α : Type} {F : Nat → α} {k : Nat} {x : α}, va_up F k x k = x := by
              intro α F k x
              simp [va_up]
            rcases h with ⟨h4, h⟩ | ⟨h4, h⟩
            · rw [hK3, c3] at h4
              obtain ⟨v5, n5, sl5, SH5, FI5, FL5, FR5, ⟨gr, hr⟩, h⟩ := h
              have k5 := kGX12_rows_2 gr _ _ _ _ _ _ _ _ _ hr
              have qr := d_rows (f := f) hk hf (md := V.length) gr 1 n3 sl3 SH3 _ FL3 FR3 v5 (n5, sl5, SH5, FI5, FL5, FR5) 20 0 (t + 2) (lp_fl V) hr hS3 (by decide) (by rw [f78]; exact hv.1) (by rw [f159, veq]; decide) (by decide) (by decide) ht2 g4
              unfold lp_bd
              rw [if_pos h4]
              generalize lp_rw K W f 20 0 (t + 2) = r at qr
              match r, qr with
              | none, qr => exact (kX12_declared_223 h).2.2.2.2.2.2 qr
              | some (t1, m1, c, b), ⟨r1, r2, r3⟩ =>
                try dsimp only
                rcases r3 with ⟨r3, r4⟩ | ⟨r3, r4, r5, r6⟩
                · rw [if_neg (by rintro ⟨e1, e2⟩; rw [e1, e2] at r3; exact absurd r3 (by decide))]
                  exact (kX12_declared_223 h).2.2.2.2.2.2 r4
                · have k := d_223 (V := V) (F0 := FI2) (L0 := FL) (st := t + 2) (m := m1) (b := b) (w := W t) (x := FL 150 (FI2 121 68).toInt.toNat) h r3 (by omega) hv q2
                    (by rw [show FI5 121 78 = _ from kq_fld k5 (by decide)]; exact f78) (by rw [show FL5 158 = _ from kq_fl k5 (by decide)]; exact e158) hW
                    (fun i hi => by rw [show FI5 160 = _ from kq_cell k5 (by decide)]; exact f160 i hi) (by rw [show FI5 160 = _ from kq_cell k5 (by decide)]; exact f160')
                    (fun i hi => by rw [show FI5 159 i = _ from r5 i hi, f159, vne hi]) r4
                    (fun i hi => by
                      rw [show FI5 163 = _ from r6]
                      cases b
                      · rw [if_neg (by decide), f163, vne hi]
                      · rw [if_pos rfl, vne hi, f163, vne hi])
                    (by
                      rw [show FI5 163 = _ from r6]
                      cases b
                      · rw [if_neg (by decide), f163, veq, if_neg (by decide)]
                      · rw [if_pos rfl, veq, if_pos rfl])
                    (fun i hi => by rw [show FI5 161 = _ from kq_cell k5 (by decide)]; dsimp only; rw [f161, vne hi])
                    (by rw [show FI5 161 = _ from kq_cell k5 (by decide)]; dsimp only; rw [f161, veq]; exact hd.2.2.2.1)
                  by_cases h59 : K t1 = 5 ∧ W t1 = 59
                  · rw [if_pos h59] at k ⊢
                    have ht3 := lt_T hT r2 (by omega)
                    exact ⟨by omega, ht3, ⟨_, k.1⟩, k.2⟩
                  · rw [if_neg h59] at k ⊢
                    exact k
            · rw [hK3, c3] at h4
              rcases h with ⟨h5, h⟩ | ⟨h5, h⟩
              · obtain ⟨v5, n5, sl5, SH5, FI5, FL5, FR5, hl, h⟩ := h
                have k5 := kX12_location hl
                have qr := d_location (f := f) (md := V.length) hl hS3 hk ht2 hf g4 (by rw [f78]; exact hv.1)
                unfold lp_bd
                rw [if_neg h4]
                have qr' : q_loc K W _ T V.length (t + 2) (lp_fl V) (n5, sl5, SH5, FI5, FL5, FR5) (lp_lc K W f (t + 2)) := qr
                generalize lp_lc K W f (t + 2) = r at qr'
                match r, qr' with
                | none, qr => exact (kX12_declared_223 h).2.2.2.2.2.2 qr
                | some (t1, c), ⟨r1, r2, r3⟩ =>
                  dsimp only
                  rcases r3 with ⟨r3, r4⟩ | ⟨r3, r6⟩
                  · rw [if_neg (by rintro ⟨e1, e2⟩; rw [e1, e2] at r3; exact absurd r3 (by decide))]
                    exact (kX12_declared_223 h).2.2.2.2.2.2 r4
                  · have k := d_223 (V := V) (F0 := FI2) (L0 := FL) (st := t + 2) (m := 0) (b := decide (300 < c.length)) (w := W t) (x := FL 150 (FI2 121 68).toInt.toNat) h r3 (by omega) hv q2
                      (by rw [show FI5 121 78 = _ from kq_fld k5 (by decide)]; exact f78) (by rw [show FL5 158 = _ from kq_fl k5 (by decide)]; exact e158) hW
                      (fun i hi => by rw [show FI5 160 = _ from kq_cell k5 (by decide)]; exact f160 i hi) (by rw [show FI5 160 = _ from kq_cell k5 (by decide)]; exact f160')
                      (fun i hi => by rw [show FI5 159 = _ from kq_cell k5 (by decide)]; dsimp only; rw [f159, vne hi]) (by rw [show FI5 159 = _ from kq_cell k5 (by decide)]; dsimp only; rw [f159, veq]; decide)
                      (fun i hi => by
                        rw [show FI5 163 = _ from r6]
                        by_cases hc : 300 < c.length
                        · rw [if_pos hc, vne hi, f163, vne hi]
                        · rw [if_neg hc, f163, vne hi])
                      (by
                        rw [show FI5 163 = _ from r6]
                        by_cases hc : 300 < c.length
                        · rw [if_pos hc, veq, if_pos (decide_eq_true hc)]
                        · rw [if_neg hc, f163, veq, if_neg (by simpa using hc)])
                      (fun i hi => by rw [show FI5 161 = _ from kq_cell k5 (by decide)]; dsimp only; rw [f161, vne hi])
                      (by rw [show FI5 161 = _ from kq_cell k5 (by decide)]; dsimp only; rw [f161, veq]; exact hd.2.2.2.1)
                    by_cases h59 : K t1 = 5 ∧ W t1 = 59
                    · rw [if_pos h59] at k ⊢
                      have ht3 := lt_T hT r2 (by omega)
                      exact ⟨by omega, ht3, ⟨_, k.1⟩, k.2⟩
                    · rw [if_neg h59] at k ⊢
                      exact k
              · refine absurd ?_ h5
                try dsimp only
                rw [h_up_x (by decide), h_up_nc (by decide)]
                exact g3.2.1
          · exact absurd g3.2.1 h3
        · unfold lp_st
          rw [if_neg (by rintro ⟨-, -, -, e1, e2⟩; exact g1 ⟨e1, e2⟩)]
          rcases h with ⟨h3, h⟩ | ⟨h3, h⟩
          · exact absurd h3 g2
          · refine (kX12_declared_212 h).2.2.2.2.2.2 ?_
            dsimp only
            rw [h_up_x (by decide), h_up_nc (by decide)]
            exact g2
      · exact absurd hd.2.1 h2
    · have hno : ¬ (K t = 1 ∧ (∀ v, v ∈ V → v.1 ≠ W t) ∧ V.length < 12 ∧ K (t + 1) = 5 ∧ W (t + 1) = 61) := by
        rintro ⟨-, e1, e2, -⟩
        rcases q2 with q2 | ⟨j, v, q2, q3⟩ | q2
        · exact q2 hd.2.1
        · exact e1 v (List.mem_iff_getElem?.mpr ⟨j, q2⟩) q3
        · omega
      unfold lp_st
      rw [if_neg hno]
      rcases h74 with ⟨h2, h⟩ | ⟨h2, h⟩
      · exact absurd h2 q1
      · obtain ⟨-, rfl⟩ := h
        exact q1
  · rw [hK, c1] at h1
    obtain ⟨v1, n1, sl1, SH1, FI1, FL1, FR1, hc, h⟩ := h
    obtain ⟨-, rfl⟩ := h
    unfold lp_st
    rw [if_neg (fun e => h1 e.1)]
    exact f_fault hc (by decide)
end DD
