/-! THE CLASS'S RUNS. -/
section CRI
variable {n sl : Nat} {SH : Nat → Nat × Nat} {E : ms_E}
/-- the loop of one row of bytes -/
theorem c_loopI {g0 r A o : Nat} {bs : List Int32} {a2 a3 a4 : Int32} (hS0 : h_S n SH) (hbl : bs.length ≤ 100000) (hA : A ≤ 100000) (h2 : a2.toInt = A) (h3 : a3.toInt = ((A + bs.length : Nat) : Int)) (h4 : a4.toInt = o) (ho8 : o ≤ 8)
    (IH : ∀ g, g < g0 → ∀ (r A o f : Nat) (bs : List Int32) (s : ms_S) (a2 a3 a4 v : Int32) (FI : Nat → Nat → Int32) (FL : Nat → Nat → Int64) (FR : Nat → Nat → Option Nat) (st : hS), thI FR → cE FI FL FR SH E → bk FI SH r A bs → bs.length ≤ 100000 → A ≤ 100000 → a2.toInt = A → a3.toInt = ((A + bs.length : Nat) : Int) → a4.toInt = o → o ≤ 8 → cvI FI FL FR SH s → cuI FI f → QX9I g 0 (some r) a2 a3 a4 0 n sl SH FI FL FR v st → ∃ q, ms_R E 1 o bs 0 f s q ∧ cxI n sl SH FI FL FR v st f q) : ∀ (g2 p k f : Nat) (s : ms_S) (l5 l6 v : Int32) (FI : Nat → Nat → Int32) (FL : Nat → Nat → Int64) (FR : Nat → Nat → Option Nat) (st : hS), l5.toInt = ((A + p : Nat) : Int) → p ≤ bs.length → l6.toInt = k → k + f ≤ 1000 → thI FR → cE FI FL FR SH E → bk FI SH r A bs → cvI FI FL FR SH s → cuI FI f → GX9_performI_6 (fun a1 a2 a3 a4 n sl SH FI FL FR => QX9I g0 0 a1 a2 a3 a4 0 n sl SH FI FL FR) (fun a1 a2 a3 a4 n sl SH FI FL FR => QX9I g0 1 a1 a2 a3 a4 0 n sl SH FI FL FR) (fun a1 a2 n sl SH FI FL FR => QX9I g0 2 none a2 0 0 a1 n sl SH FI FL FR) (some r) a2 a3 a4 g2 l5 l6 n sl SH FI FL FR v st → ∃ q, ms_R E 1 o bs p f s q ∧ cxI n sl SH FI FL FR v st f q := by
  intro g2
  induction g2 with
  | zero => intro p k f s l5 l6 v FI FL FR st _ _ _ _ _ _ _ _ _ h; exact h.elim
  | succ g2 ih =>
    intro p k f s l5 l6 v FI FL FR st h5 hp h6 hkf ht hE hb hv hu h
    have hr := rg_of hS0
    have b2 := hb.2.1
    have b3 := hb.2.2.1
    have h := P_n h (by rw [show ((1000 : Int32)).toInt = 1000 by first | decide | (simp; done) | (simp [ms_0]; done)]; omega)
    have h := P_n h (by omega)
    rcases h with ⟨h0, h⟩ | ⟨h0, e1, e⟩
    rotate_left
    · exact ⟨.inr (f, s), ms_R_end (by omega), by rw [e1]; (first | decide | (simp; done) | (simp [ms_0]; done)), _, _, _, e, kzI_rf, hv, hu, Nat.le_refl _, rfl⟩
    obtain ⟨q, eq, h⟩ := h
    cases eq
    have h := P_p h (by rw [i_lit (by omega)]; omega)
    obtain ⟨v5, n5, sl5, SH5, FI5, FL5, FR5, hst, h⟩ := h
    cases g0 with
    | zero => exact hst.elim
    | succ g1 =>
      have stp := cs_stepI (o := o) hS0 ht hE hb hbl hA h5 (by omega) h3 hv hu
        (fun {F1 L1 v st f1 kk} E1 V1 U1 k0 hc => by
          cases g1 with
          | zero => exact hc.elim
          | succ g3 =>
            have hc : RX9_callI (fun a1 a2 a3 a4 n sl SH FI FL FR => QX9I g3 0 a1 a2 a3 a4 0 n sl SH FI FL FR) (fun a1 a2 a3 a4 n sl SH FI FL FR => QX9I g3 1 a1 a2 a3 a4 0 n sl SH FI FL FR) (fun a1 a2 n sl SH FI FL FR => QX9I g3 2 none a2 0 0 a1 n sl SH FI FL FR) kk a4 n sl SH F1 L1 FR v st := hc
            have hc := P_n hc (by rw [show ((0 : Int64)).toInt = 0 by first | decide | (simp; done) | (simp [ms_0]; done)]; omega)
            rw [show ((Int32.ofNat (SH 26).2).toInt64).toInt = 16 by rw [hS0.2 26 (by first | decide | (simp; done) | (simp [ms_0]; done))]; decide +kernel, show ((8 : Int32)).toInt = 8 by first | decide | (simp; done) | (simp [ms_0]; done), h4] at hc
            rcases hc with ⟨q1, hc⟩ | ⟨q1, e1, e⟩
            rotate_left
            · exact Or.inl ⟨Or.inl (by omega), by rw [e1]; (first | decide | (simp; done) | (simp [ms_0]; done)), _, _, _, e, kzI_rf⟩
            rcases hc with ⟨q2, hc⟩ | ⟨q2, e1, e⟩
            rotate_left
            · exact Or.inl ⟨Or.inr (by omega), by rw [e1]; (first | decide | (simp; done) | (simp [ms_0]; done)), _, _, _, e, kzI_rf⟩
            refine Or.inr ⟨by omega, ?_⟩
            obtain ⟨-, c4, ec4, v4, n4, sl4, SH4, FI4, FL4, FR4, hm, e1, e⟩ := hc
            obtain ⟨r2, x1, x2, x3, x4⟩ := E1.2.2.1 kk.toInt.toNat (by omega)
            have ek : (kk.toInt32).toInt.toNat = kk.toInt.toNat := by rw [l_2i (A := kk.toInt) rfl (by omega) (by omega)]
            rw [ek, x1] at ec4 hm
            cases ec4
            rw [e1, e]
            exact IH g3 (by omega) _ 0 (o + 1) f1 (ms_ex E kk.toInt.toNat) s _ _ _ v4 F1 L1 FR _ ht E1 x4 (by omega) (by omega) (by first | decide | (simp; done) | (simp [ms_0]; done)) (by rw [x2, i_lit (by omega)]; omega) (by rw [i_add h4 (by first | decide | (simp; done) | (simp [ms_0]; done) : ((1 : Int32)).toInt = 1) (by omega) (by omega)]; omega) (by omega) V1 U1 hm)
        (fun {F1 L1 v c st f1} E1 V1 U1 hc ha => Or.inl ⟨Or.inl rfl, by
          have ha := P_p (P_n (P_n ha (by omega)) (by omega)) hc
          obtain ⟨v6, n6, sl6, SH6, FI6, FL6, FR6, hb6, ha⟩ := ha
          have hb6 := P_p hb6 rfl
          obtain ⟨e1, e2⟩ := hb6
          cases e2
          have ha := P_n ha (by rw [e1]; (first | decide | (simp; done) | (simp [ms_0]; done)))
          exact ⟨by rw [ha.1, e1]; (first | decide | (simp; done) | (simp [ms_0]; done)), _, _, _, ha.2, kzI_rf⟩⟩)
        hst
      rcases stp with ⟨e9, w1, w2, w3, F2, L2, R2, w4, w5⟩ | ⟨w1, F2, L2, R2, s2, f2, T, w4, w5, w6, w7, w8, w9, w10, w11, w12⟩
      · cases w4
        have h := P_n h (by rw [w1]; exact w2)
        have h := P_n h (by rw [w1]; exact w2)
        exact ⟨.inl e9, w3, by rw [h.1]; exact w1, w2, _, _, _, h.2, kzI_i w5 (by first | decide | (simp; done) | (simp [ms_0]; done))⟩
      · cases w4
        have h := P_p h w1
        have out : ∀ _ : ¬ (0 ≤ T ∧ T ≤ bs.length), RX9_performI_65 (GX9_performI_6 (fun a1 a2 a3 a4 n sl SH FI FL FR => QX9I (g1 + 1) 0 a1 a2 a3 a4 0 n sl SH FI FL FR) (fun a1 a2 a3 a4 n sl SH FI FL FR => QX9I (g1 + 1) 1 a1 a2 a3 a4 0 n sl SH FI FL FR) (fun a1 a2 n sl SH FI FL FR => QX9I (g1 + 1) 2 none a2 0 0 a1 n sl SH FI FL FR) (some r) a2 a3 a4 g2) (fun a1 a2 a3 a4 n sl SH FI FL FR => QX9I (g1 + 1) 0 a1 a2 a3 a4 0 n sl SH FI FL FR) (fun a1 a2 a3 a4 n sl SH FI FL FR => QX9I (g1 + 1) 1 a1 a2 a3 a4 0 n sl SH FI FL FR) (fun a1 a2 n sl SH FI FL FR => QX9I (g1 + 1) 2 none a2 0 0 a1 n sl SH FI FL FR) (some r) a2 a3 a4 l5 l6 n sl SH FI5 FL5 FR5 v st → ∃ q, ms_R E 1 o bs p f s q ∧ cxI n sl SH FI FL FR v st f q := by
          intro hT h
          have h := P_n h (by first | decide | (simp; done) | (simp [ms_0]; done))
          exact ⟨.inl 7, w12 hT, by rw [h.1]; (first | decide | (simp; done) | (simp [ms_0]; done)), by first | decide | (simp; done) | (simp [ms_0]; done), _, _, _, h.2, kzI_i w5 (by first | decide | (simp; done) | (simp [ms_0]; done))⟩
        rw [w10, h2, h3] at h
        rcases h with ⟨q1, h⟩ | ⟨q1, h⟩
        · exact out (by omega) h
        rcases h with ⟨q2, h⟩ | ⟨q2, h⟩
        · exact out (by omega) h
        have h := P_p h w1
        have hT : 0 ≤ T ∧ T ≤ bs.length := by omega
        obtain ⟨q, y1, y2⟩ := ih T.toNat (k + 1) f2 s2 (FI5 49 11) (l6 + (1 : Int32)) v FI5 FL5 FR5 st (by rw [w10]; omega) (by omega) (by rw [i_add h6 (by first | decide | (simp; done) | (simp [ms_0]; done) : ((1 : Int32)).toInt = 1) (by omega) (by omega)]; omega) (by omega) (thI_k ht w5) (cE_kI hE hr w5) (bk_fr hb (kzI_rows w5 hr r hb.1)) w6 w7 h
        exact ⟨q, w11 hT q y1, cxI_tr w5 (by omega) w9 y2⟩
theorem c_runI (hS0 : h_S n SH) : ∀ (g r A o f : Nat) (bs : List Int32) (s : ms_S) (a2 a3 a4 v : Int32) (FI : Nat → Nat → Int32) (FL : Nat → Nat → Int64) (FR : Nat → Nat → Option Nat) (st : hS), thI FR → cE FI FL FR SH E → bk FI SH r A bs → bs.length ≤ 100000 → A ≤ 100000 → a2.toInt = A → a3.toInt = ((A + bs.length : Nat) : Int) → a4.toInt = o → o ≤ 8 → cvI FI FL FR SH s → cuI FI f → QX9I g 0 (some r) a2 a3 a4 0 n sl SH FI FL FR v st → ∃ q, ms_R E 1 o bs 0 f s q ∧ cxI n sl SH FI FL FR v st f q := by
  intro g
  induction g using Nat.strongRecOn with
  | ind g IH =>
    intro r A o f bs s a2 a3 a4 v FI FL FR st ht hE hb hbl hA h2 h3 h4 ho hv hu h
    cases g with
    | zero => exact h.elim
    | succ g =>
      obtain ⟨g2, h⟩ := h
      have u := hu
      exact c_loopI hS0 hbl hA h2 h3 h4 ho (fun g3 hg3 => IH g3 (by omega)) g2 0 0 f s a2 0 v FI FL FR st (by rw [h2]; omega) (by omega) (by first | decide | (simp; done) | (simp [ms_0]; done)) (by unfold cuI at u; omega) ht hE hb hv hu h
end CRI
