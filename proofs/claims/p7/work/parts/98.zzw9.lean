section
/-! THE REFERENCE'S acts, code by code; its pieces. -/
section RB
variable {n sl : Nat} {SH : Nat → Nat × Nat} {FI : Nat → Nat → Int32} {FL : Nat → Nat → Int64} {FR : Nat → Nat → Option Nat} {l o : Nat} {l4 c : Int32} {a b t y r : Int64} {R Q : List Int64} {H : ms_H} {P : List ms_P} {s : ms_S} {u : Unit} {st : hS} {E : ms_E}
theorem ra_19 (hl : l4.toInt = l) (h1 : l ≤ 1) (hc : c.toInt = 19) (hv : rv FI FL SH l (t :: R, H, P)) (h : RX12_acts l4 c a b n sl SH FI FL FR u st) : ra_c n sl SH FI FL FR l o st (R, H, P) := by
  obtain ⟨i, t9, y9, h, hi, et, ey⟩ := r_a57 hl h1 hv h
  have h := P_p (h) (by rw [show ((19 : Int32)).toInt = 19 by decide]; omega)
  obtain ⟨-, -, e⟩ := h
  rw [show l4.toInt.toNat = l by omega] at e
  obtain ⟨F2, e2, q1, q2, q3⟩ := ra_pop (o := o) hv
  rw [← e2] at e
  exact ⟨F2, FL, e, q1, q2, q3⟩
theorem ra_40 (hl : l4.toInt = l) (h1 : l ≤ 1) (hc : c.toInt = 40) (hv : rv FI FL SH l (t :: R, H, P)) (h : RX12_acts l4 c a b n sl SH FI FL FR u st) : ra_c n sl SH FI FL FR l o st (R, H, P) := by
  obtain ⟨i, t9, y9, h, hi, et, ey⟩ := r_a57 hl h1 hv h
  have h := P_p (P_n (h) (by rw [show ((19 : Int32)).toInt = 19 by decide]; omega)) (by rw [show ((40 : Int32)).toInt = 40 by decide]; omega)
  obtain ⟨-, -, e⟩ := h
  rw [show l4.toInt.toNat = l by omega] at e
  obtain ⟨F2, e2, q1, q2, q3⟩ := ra_pop (o := o) hv
  rw [← e2] at e
  exact ⟨F2, FL, e, q1, q2, q3⟩
theorem ra_22 (hl : l4.toInt = l) (h1 : l ≤ 1) (hc : c.toInt = 22) (hv : rv FI FL SH l (t :: y :: Q, H, P)) (h : RX12_acts l4 c a b n sl SH FI FL FR u st) : ra_c n sl SH FI FL FR l o st (y :: t :: Q, H, P) := by
  obtain ⟨i, t9, y9, h, hi, et, ey⟩ := r_a57 hl h1 hv h
  rw [et _ _ rfl, ey _ _ _ rfl] at h
  have h := P_p (P_n (P_n (h) (by rw [show ((19 : Int32)).toInt = 19 by decide]; omega)) (by rw [show ((40 : Int32)).toInt = 40 by decide]; omega)) (by rw [show ((22 : Int32)).toInt = 22 by decide]; omega)
  obtain ⟨-, -, -, e⟩ := h
  simp only [List.length_cons] at hi
  have h9 := hv.2.1
  simp only [List.length_cons] at h9
  have k2 : (i - (1 : Int32)).toInt = (128 * l : Int) + Q.length := by rw [i_sub hi (by decide : ((1 : Int32)).toInt = 1) (by omega) (by omega)]; omega
  rw [show i.toInt.toNat = 128 * l + (Q.length + 1) by omega, show (i - (1 : Int32)).toInt.toNat = 128 * l + Q.length by omega] at e
  have ht := hv.1
  have hlen := hv.2.1
  simp only [List.length_cons] at ht hlen
  refine ⟨_, _, e, rv_st hv (fun _ _ _ => rfl) (fun r h1 _ => by rw [h_up_nc h1, h_up_nc h1]) ht hlen ⟨?_, ?_, ?_⟩, gz_l (gz_l gz_rf (w_top h1 (by omega))) (w_top h1 (by omega)), rfl⟩
  · show h_up (h_up FL 127 (128 * l + (Q.length + 1)) y) 127 (128 * l + Q.length) t 127 (128 * l + (Q.length + 1)) = y
    rw [h_up_ne (by omega), h_up_eq]
  · exact h_up_eq
  · exact lv_up (lv_up hv.2.2.1.2.2 (by omega)) (Nat.le_refl _)
theorem ra_23 (hl : l4.toInt = l) (h1 : l ≤ 1) (hc : c.toInt = 23) (hv : rv FI FL SH l (t :: y :: r :: Q, H, P)) (h : RX12_acts l4 c a b n sl SH FI FL FR u st) : ra_c n sl SH FI FL FR l o st (y :: r :: t :: Q, H, P) := by
  obtain ⟨i, t9, y9, h, hi, et, ey⟩ := r_a57 hl h1 hv h
  rw [et _ _ rfl, ey _ _ _ rfl] at h
  have h := P_p (P_n (P_n (P_n (h) (by rw [show ((19 : Int32)).toInt = 19 by decide]; omega)) (by rw [show ((40 : Int32)).toInt = 40 by decide]; omega)) (by rw [show ((22 : Int32)).toInt = 22 by decide]; omega)) (by rw [show ((23 : Int32)).toInt = 23 by decide]; omega)
  obtain ⟨-, -, -, -, -, e⟩ := h
  simp only [List.length_cons] at hi
  have h9 := hv.2.1
  simp only [List.length_cons] at h9
  have k2 : (i - (1 : Int32)).toInt = (128 * l : Int) + (Q.length + 1) := by rw [i_sub hi (by decide : ((1 : Int32)).toInt = 1) (by omega) (by omega)]; omega
  have k3 : (i - (2 : Int32)).toInt = (128 * l : Int) + Q.length := by rw [i_sub hi (by decide : ((2 : Int32)).toInt = 2) (by omega) (by omega)]; omega
  rw [show i.toInt.toNat = 128 * l + (Q.length + 2) by omega, show (i - (1 : Int32)).toInt.toNat = 128 * l + (Q.length + 1) by omega, show (i - (2 : Int32)).toInt.toNat = 128 * l + Q.length by omega] at e
  have ht := hv.1
  have hlen := hv.2.1
  simp only [List.length_cons] at ht hlen
  have hr : FL 127 (128 * l + Q.length) = r := hv.2.2.1.2.2.1
  rw [h_up_ne (show 128 * l + Q.length ≠ 128 * l + (Q.length + 2) by omega), hr] at e
  refine ⟨_, _, e, rv_st hv (fun _ _ _ => rfl) (fun r h1 _ => by rw [h_up_nc h1, h_up_nc h1, h_up_nc h1]) ht hlen ⟨?_, ?_, ?_, ?_⟩, gz_l (gz_l (gz_l gz_rf (w_top h1 (by omega))) (w_top h1 (by omega))) (w_top h1 (by omega)), rfl⟩
  · show h_up (h_up (h_up FL 127 (128 * l + (Q.length + 2)) y) 127 (128 * l + (Q.length + 1)) r) 127 (128 * l + Q.length) t 127 (128 * l + (Q.length + 2)) = y
    rw [h_up_ne (by omega), h_up_ne (by omega), h_up_eq]
  · show h_up (h_up (h_up FL 127 (128 * l + (Q.length + 2)) y) 127 (128 * l + (Q.length + 1)) r) 127 (128 * l + Q.length) t 127 (128 * l + (Q.length + 1)) = r
    rw [h_up_ne (by omega), h_up_eq]
  · exact h_up_eq
  · exact lv_up (lv_up (lv_up hv.2.2.1.2.2.2 (by omega)) (by omega)) (Nat.le_refl _)
theorem ra_6 (hl : l4.toInt = l) (h1 : l ≤ 1) (hc : c.toInt = 6) (hv : rv FI FL SH l (t :: R, H, P)) (h : RX12_acts l4 c a b n sl SH FI FL FR u st) (hE : rE FI FL SH E) (h5 : ¬ (t.toInt < 0 ∨ 4088 < t.toInt)) : ra_c n sl SH FI FL FR l o st (ms_rd E t.toInt.toNat 8 :: R, H, P) := by
  obtain ⟨i, t9, y9, h, hi, et, ey⟩ := r_a57 hl h1 hv h
  rw [et _ _ rfl] at h
  have h := P_p (P_n (P_n (P_n (P_n (h) (by rw [show ((19 : Int32)).toInt = 19 by decide]; omega)) (by rw [show ((40 : Int32)).toInt = 40 by decide]; omega)) (by rw [show ((22 : Int32)).toInt = 22 by decide]; omega)) (by rw [show ((23 : Int32)).toInt = 23 by decide]; omega)) (by rw [show ((6 : Int32)).toInt = 6 by decide]; omega)
  obtain ⟨v5, n5, sl5, SH5, FI5, FL5, FR5, hr, -, -, e⟩ := h
  obtain ⟨ev, e5⟩ := ra_read (k := 8) hE (by decide) (by decide) (by omega) (by omega) hr
  cases e5
  rw [ev] at e
  exact ra_un h1 hv hi e
theorem ra_148 (hl : l4.toInt = l) (h1 : l ≤ 1) (hc : c.toInt = 148) (hv : rv FI FL SH l (t :: R, H, P)) (h : RX12_acts l4 c a b n sl SH FI FL FR u st) (hE : rE FI FL SH E) (ha : ¬ (a.toInt < 1 ∨ 8 < a.toInt)) (h5 : ¬ (t.toInt < 0 ∨ 4096 - a.toInt < t.toInt)) : ra_c n sl SH FI FL FR l o st (ms_rd E t.toInt.toNat a.toInt.toNat :: R, H, P) := by
  obtain ⟨i, t9, y9, h, hi, et, ey⟩ := r_a57 hl h1 hv h
  rw [et _ _ rfl] at h
  have h := P_p (P_n (P_n (P_n (P_n (P_n (h) (by rw [show ((19 : Int32)).toInt = 19 by decide]; omega)) (by rw [show ((40 : Int32)).toInt = 40 by decide]; omega)) (by rw [show ((22 : Int32)).toInt = 22 by decide]; omega)) (by rw [show ((23 : Int32)).toInt = 23 by decide]; omega)) (by rw [show ((6 : Int32)).toInt = 6 by decide]; omega)) (by rw [show ((148 : Int32)).toInt = 148 by decide]; omega)
  obtain ⟨v5, n5, sl5, SH5, FI5, FL5, FR5, hr, -, -, e⟩ := h
  obtain ⟨ev, e5⟩ := ra_read (k := a.toInt.toNat) hE (by rw [l_2i rfl (by omega) (by omega)]; omega) (by omega) (by omega) (by omega) hr
  cases e5
  rw [ev] at e
  exact ra_un h1 hv hi e
theorem ra_25 (hl : l4.toInt = l) (h1 : l ≤ 1) (hc : c.toInt = 25) (hv : rv FI FL SH l (t :: R, H, P)) (h : RX12_acts l4 c a b n sl SH FI FL FR u st) : ra_c n sl SH FI FL FR l o st ((if t.toInt < 0 then -t else t) :: R, H, P) := by
  obtain ⟨i, t9, y9, h, hi, et, ey⟩ := r_a57 hl h1 hv h
  rw [et _ _ rfl] at h
  have h := P_p (P_n (P_n (P_n (P_n (P_n (P_n (h) (by rw [show ((19 : Int32)).toInt = 19 by decide]; omega)) (by rw [show ((40 : Int32)).toInt = 40 by decide]; omega)) (by rw [show ((22 : Int32)).toInt = 22 by decide]; omega)) (by rw [show ((23 : Int32)).toInt = 23 by decide]; omega)) (by rw [show ((6 : Int32)).toInt = 6 by decide]; omega)) (by rw [show ((148 : Int32)).toInt = 148 by decide]; omega)) (by rw [show ((25 : Int32)).toInt = 25 by decide]; omega)
  rw [show ((0 : Int64)).toInt = 0 by decide] at h
  rcases h with ⟨h0, -, -, e⟩ | ⟨h0, -, -, e⟩
  · rw [if_pos h0]; exact ra_un h1 hv hi e
  · rw [if_neg h0]; exact ra_un h1 hv hi e
theorem ra_31 (hl : l4.toInt = l) (h1 : l ≤ 1) (hc : c.toInt = 31) (hv : rv FI FL SH l (t :: R, H, P)) (h : RX12_acts l4 c a b n sl SH FI FL FR u st) : ra_c n sl SH FI FL FR l o st (-t :: R, H, P) := by
  obtain ⟨i, t9, y9, h, hi, et, ey⟩ := r_a57 hl h1 hv h
  rw [et _ _ rfl] at h
  have h := P_p (P_n (P_n (P_n (P_n (P_n (P_n (P_n (h) (by rw [show ((19 : Int32)).toInt = 19 by decide]; omega)) (by rw [show ((40 : Int32)).toInt = 40 by decide]; omega)) (by rw [show ((22 : Int32)).toInt = 22 by decide]; omega)) (by rw [show ((23 : Int32)).toInt = 23 by decide]; omega)) (by rw [show ((6 : Int32)).toInt = 6 by decide]; omega)) (by rw [show ((148 : Int32)).toInt = 148 by decide]; omega)) (by rw [show ((25 : Int32)).toInt = 25 by decide]; omega)) (by rw [show ((31 : Int32)).toInt = 31 by decide]; omega)
  exact ra_un h1 hv hi h.2.2
theorem ra_32 (hl : l4.toInt = l) (h1 : l ≤ 1) (hc : c.toInt = 32) (hv : rv FI FL SH l (t :: R, H, P)) (h : RX12_acts l4 c a b n sl SH FI FL FR u st) : ra_c n sl SH FI FL FR l o st ((t ^^^ (-1 : Int64)) :: R, H, P) := by
  obtain ⟨i, t9, y9, h, hi, et, ey⟩ := r_a57 hl h1 hv h
  rw [et _ _ rfl] at h
  have h := P_p (P_n (P_n (P_n (P_n (P_n (P_n (P_n (P_n (h) (by rw [show ((19 : Int32)).toInt = 19 by decide]; omega)) (by rw [show ((40 : Int32)).toInt = 40 by decide]; omega)) (by rw [show ((22 : Int32)).toInt = 22 by decide]; omega)) (by rw [show ((23 : Int32)).toInt = 23 by decide]; omega)) (by rw [show ((6 : Int32)).toInt = 6 by decide]; omega)) (by rw [show ((148 : Int32)).toInt = 148 by decide]; omega)) (by rw [show ((25 : Int32)).toInt = 25 by decide]; omega)) (by rw [show ((31 : Int32)).toInt = 31 by decide]; omega)) (by rw [show ((32 : Int32)).toInt = 32 by decide]; omega)
  exact ra_un h1 hv hi h.2.2
theorem ra_35 (hl : l4.toInt = l) (h1 : l ≤ 1) (hc : c.toInt = 35) (hv : rv FI FL SH l (t :: R, H, P)) (h : RX12_acts l4 c a b n sl SH FI FL FR u st) : ra_c n sl SH FI FL FR l o st ((t + a) :: R, H, P) := by
  obtain ⟨i, t9, y9, h, hi, et, ey⟩ := r_a57 hl h1 hv h
  rw [et _ _ rfl] at h
  have h := P_p (P_n (P_n (P_n (P_n (P_n (P_n (P_n (P_n (P_n (h) (by rw [show ((19 : Int32)).toInt = 19 by decide]; omega)) (by rw [show ((40 : Int32)).toInt = 40 by decide]; omega)) (by rw [show ((22 : Int32)).toInt = 22 by decide]; omega)) (by rw [show ((23 : Int32)).toInt = 23 by decide]; omega)) (by rw [show ((6 : Int32)).toInt = 6 by decide]; omega)) (by rw [show ((148 : Int32)).toInt = 148 by decide]; omega)) (by rw [show ((25 : Int32)).toInt = 25 by decide]; omega)) (by rw [show ((31 : Int32)).toInt = 31 by decide]; omega)) (by rw [show ((32 : Int32)).toInt = 32 by decide]; omega)) (by rw [show ((35 : Int32)).toInt = 35 by decide]; omega)
  exact ra_un h1 hv hi h.2.2
theorem ra_155 (hl : l4.toInt = l) (h1 : l ≤ 1) (hc : c.toInt = 155) (hv : rv FI FL SH l (t :: R, H, P)) (h : RX12_acts l4 c a b n sl SH FI FL FR u st) : ra_c n sl SH FI FL FR l o st ((FL 121 9 + t) :: R, H, P) := by
  obtain ⟨i, t9, y9, h, hi, et, ey⟩ := r_a57 hl h1 hv h
  rw [et _ _ rfl] at h
  have h := P_p (P_n (P_n (P_n (P_n (P_n (P_n (P_n (P_n (P_n (P_n (h) (by rw [show ((19 : Int32)).toInt = 19 by decide]; omega)) (by rw [show ((40 : Int32)).toInt = 40 by decide]; omega)) (by rw [show ((22 : Int32)).toInt = 22 by decide]; omega)) (by rw [show ((23 : Int32)).toInt = 23 by decide]; omega)) (by rw [show ((6 : Int32)).toInt = 6 by decide]; omega)) (by rw [show ((148 : Int32)).toInt = 148 by decide]; omega)) (by rw [show ((25 : Int32)).toInt = 25 by decide]; omega)) (by rw [show ((31 : Int32)).toInt = 31 by decide]; omega)) (by rw [show ((32 : Int32)).toInt = 32 by decide]; omega)) (by rw [show ((35 : Int32)).toInt = 35 by decide]; omega)) (by rw [show ((155 : Int32)).toInt = 155 by decide]; omega)
  exact ra_un h1 hv hi h.2.2
theorem ra_bin (hl : l4.toInt = l) (h1 : l ≤ 1) (hc : 26 ≤ c.toInt ∧ c.toInt ≤ 46 ∧ c.toInt ≠ 31 ∧ c.toInt ≠ 32 ∧ c.toInt ≠ 35 ∧ c.toInt ≠ 40) (hv : rv FI FL SH l (t :: y :: Q, H, P)) (h : RX12_acts l4 c a b n sl SH FI FL FR u st) : ra_c n sl SH FI FL FR l o st (ms_wk c.toInt y t :: Q, H, P) := by
  obtain ⟨i, t9, y9, h, hi, et, ey⟩ := r_a57 hl h1 hv h
  rw [et _ _ rfl, ey _ _ _ rfl] at h
  have h := P_n (P_n (P_n (P_n (P_n (P_n (P_n (P_n (P_n (P_n (P_n (h) (by rw [show ((19 : Int32)).toInt = 19 by decide]; omega)) (by rw [show ((40 : Int32)).toInt = 40 by decide]; omega)) (by rw [show ((22 : Int32)).toInt = 22 by decide]; omega)) (by rw [show ((23 : Int32)).toInt = 23 by decide]; omega)) (by rw [show ((6 : Int32)).toInt = 6 by decide]; omega)) (by rw [show ((148 : Int32)).toInt = 148 by decide]; omega)) (by rw [show ((25 : Int32)).toInt = 25 by decide]; omega)) (by rw [show ((31 : Int32)).toInt = 31 by decide]; omega)) (by rw [show ((32 : Int32)).toInt = 32 by decide]; omega)) (by rw [show ((35 : Int32)).toInt = 35 by decide]; omega)) (by rw [show ((155 : Int32)).toInt = 155 by decide]; omega)
  have h := P_n (P_n h (by rw [show ((26 : Int32)).toInt = 26 by decide]; omega)) (by rw [show ((46 : Int32)).toInt = 46 by decide]; omega)
  obtain ⟨-, -, -, e⟩ := h
  simp only [List.length_cons] at hi
  have h9 := hv.2.1
  simp only [List.length_cons] at h9
  have k2 : (i - (1 : Int32)).toInt = (128 * l : Int) + Q.length := by rw [i_sub hi (by decide : ((1 : Int32)).toInt = 1) (by omega) (by omega)]; omega
  have ew : fX12_worked c y t SH (h_up FI 128 l4.toInt.toNat (FI 128 l - (1 : Int32))) FL FR = ms_wk c.toInt y t := by
    unfold ms_wk
    rw [show Int32.ofInt c.toInt = c from Int32.ofInt_toInt c]
    rfl
  rw [ew, show l4.toInt.toNat = l by omega, show (i - (1 : Int32)).toInt.toNat = 128 * l + Q.length by omega] at e
  obtain ⟨F2, e2, q1, q2, q3⟩ := ra_pop (o := o) hv
  rw [← e2] at e
  exact ⟨F2, _, e, (ra_top (o := o) h1 q1).1, gz_tr q2 (ra_top h1 q1).2, q3⟩
theorem ra_80 (hl : l4.toInt = l) (h1 : l ≤ 1) (hc : 80 ≤ c.toInt ∧ c.toInt ≤ 111) (hv : rv FI FL SH l s) (h : RX12_acts l4 c a b n sl SH FI FL FR u st) : ra_c n sl SH FI FL FR l o st (s.1, (2, Int64.ofInt (c.toInt - 80), []), s.2.2) := by
  obtain ⟨i, t9, y9, h, hi, et, ey⟩ := r_a57 hl h1 hv h
  have h := P_p (P_n (P_n (P_n (P_n (P_n (P_n (P_n (P_n (P_n (P_n (P_n (P_n (h) (by rw [show ((19 : Int32)).toInt = 19 by decide]; omega)) (by rw [show ((40 : Int32)).toInt = 40 by decide]; omega)) (by rw [show ((22 : Int32)).toInt = 22 by decide]; omega)) (by rw [show ((23 : Int32)).toInt = 23 by decide]; omega)) (by rw [show ((6 : Int32)).toInt = 6 by decide]; omega)) (by rw [show ((148 : Int32)).toInt = 148 by decide]; omega)) (by rw [show ((25 : Int32)).toInt = 25 by decide]; omega)) (by rw [show ((31 : Int32)).toInt = 31 by decide]; omega)) (by rw [show ((32 : Int32)).toInt = 32 by decide]; omega)) (by rw [show ((35 : Int32)).toInt = 35 by decide]; omega)) (by rw [show ((155 : Int32)).toInt = 155 by decide]; omega)) (by rw [show ((26 : Int32)).toInt = 26 by decide]; omega)) (by rw [show ((46 : Int32)).toInt = 46 by decide]; omega)
  have h := P_n (P_n h (by rw [show ((80 : Int32)).toInt = 80 by decide]; omega)) (by rw [show ((111 : Int32)).toInt = 111 by decide]; omega)
  obtain ⟨v2, n2, sl2, SH2, FI2, FL2, FR2, hh, -, e⟩ := h
  have k1 : (c - (80 : Int32)).toInt = c.toInt - 80 := i_sub rfl (by decide) (by omega) (by omega)
  have k2 : (c - (80 : Int32)).toInt64 = Int64.ofInt (c.toInt - 80) := Int64.toInt_inj.mp (by rw [i_2l k1, Int64.toInt_ofInt, l_bm (by omega) (by omega)])
  have k3 : (Int64.ofInt (c.toInt - 80)).toInt = c.toInt - 80 := by rw [Int64.toInt_ofInt, l_bm (by omega) (by omega)]
  rw [k2] at hh
  obtain ⟨e2, q1, q2, q3⟩ := ra_hold (o := o) (H := (2, Int64.ofInt (c.toInt - 80), [])) hl hv (fun F2 L2 _ f1 f2 _ => rt_2 (by omega) (by omega) f1 f2) hh
  rw [e2] at e
  exact ⟨_, _, e, q1, q2, q3⟩
theorem ra_144 (hl : l4.toInt = l) (h1 : l ≤ 1) (hc : c.toInt = 144) (ha : ¬ (a.toInt < 0 ∨ 31 < a.toInt)) (hv : rv FI FL SH l s) (h : RX12_acts l4 c a b n sl SH FI FL FR u st) : ra_c n sl SH FI FL FR l o st (s.1, (2, a, []), s.2.2) := by
  obtain ⟨i, t9, y9, h, hi, et, ey⟩ := r_a57 hl h1 hv h
  have h := P_p (P_n (P_n (P_n (P_n (P_n (P_n (P_n (P_n (P_n (P_n (P_n (P_n (h) (by rw [show ((19 : Int32)).toInt = 19 by decide]; omega)) (by rw [show ((40 : Int32)).toInt = 40 by decide]; omega)) (by rw [show ((22 : Int32)).toInt = 22 by decide]; omega)) (by rw [show ((23 : Int32)).toInt = 23 by decide]; omega)) (by rw [show ((6 : Int32)).toInt = 6 by decide]; omega)) (by rw [show ((148 : Int32)).toInt = 148 by decide]; omega)) (by rw [show ((25 : Int32)).toInt = 25 by decide]; omega)) (by rw [show ((31 : Int32)).toInt = 31 by decide]; omega)) (by rw [show ((32 : Int32)).toInt = 32 by decide]; omega)) (by rw [show ((35 : Int32)).toInt = 35 by decide]; omega)) (by rw [show ((155 : Int32)).toInt = 155 by decide]; omega)) (by rw [show ((26 : Int32)).toInt = 26 by decide]; omega)) (by rw [show ((46 : Int32)).toInt = 46 by decide]; omega)
  have h := P_p (P_n h (by rw [show ((80 : Int32)).toInt = 80 by decide]; omega)) (by rw [show ((111 : Int32)).toInt = 111 by decide]; omega)
  have h := P_p h (by rw [show ((144 : Int32)).toInt = 144 by decide]; omega)
  obtain ⟨v2, n2, sl2, SH2, FI2, FL2, FR2, hh, -, e⟩ := h
  obtain ⟨e2, q1, q2, q3⟩ := ra_hold (o := o) (H := (2, a, [])) hl hv (fun F2 L2 _ f1 f2 _ => rt_2 (by omega) (by omega) f1 f2) hh
  rw [e2] at e
  exact ⟨_, _, e, q1, q2, q3⟩
theorem ra_159 (hl : l4.toInt = l) (h1 : l ≤ 1) (hc : c.toInt = 159) (hv : rv FI FL SH l (t :: R, H, P)) (h : RX12_acts l4 c a b n sl SH FI FL FR u st) : ra_c n sl SH FI FL FR l o st (R, (3, t, []), P) := by
  obtain ⟨i, t9, y9, h, hi, et, ey⟩ := r_a57 hl h1 hv h
  rw [et _ _ rfl] at h
  have h := P_p (P_n (P_n (P_n (P_n (P_n (P_n (P_n (P_n (P_n (P_n (P_n (P_n (h) (by rw [show ((19 : Int32)).toInt = 19 by decide]; omega)) (by rw [show ((40 : Int32)).toInt = 40 by decide]; omega)) (by rw [show ((22 : Int32)).toInt = 22 by decide]; omega)) (by rw [show ((23 : Int32)).toInt = 23 by decide]; omega)) (by rw [show ((6 : Int32)).toInt = 6 by decide]; omega)) (by rw [show ((148 : Int32)).toInt = 148 by decide]; omega)) (by rw [show ((25 : Int32)).toInt = 25 by decide]; omega)) (by rw [show ((31 : Int32)).toInt = 31 by decide]; omega)) (by rw [show ((32 : Int32)).toInt = 32 by decide]; omega)) (by rw [show ((35 : Int32)).toInt = 35 by decide]; omega)) (by rw [show ((155 : Int32)).toInt = 155 by decide]; omega)) (by rw [show ((26 : Int32)).toInt = 26 by decide]; omega)) (by rw [show ((46 : Int32)).toInt = 46 by decide]; omega)
  have h := P_p (P_n h (by rw [show ((80 : Int32)).toInt = 80 by decide]; omega)) (by rw [show ((111 : Int32)).toInt = 111 by decide]; omega)
  have h := P_p (P_n h (by rw [show ((144 : Int32)).toInt = 144 by decide]; omega)) (by rw [show ((159 : Int32)).toInt = 159 by decide]; omega)
  obtain ⟨-, v2, n2, sl2, SH2, FI2, FL2, FR2, hh, -, e⟩ := h
  obtain ⟨F2, e2, p1, p2, p3⟩ := ra_pop (o := o) hv
  rw [show l4.toInt.toNat = l by omega, ← e2] at hh
  obtain ⟨e3, q1, q2, q3⟩ := ra_hold (o := o) (H := (3, t, [])) hl p1 (fun F2 L2 _ f1 f2 _ => rt_3 f1 f2) hh
  rw [e3] at e
  exact ⟨_, _, e, q1, gz_tr p2 q2, q3.trans p3⟩
theorem ra_158 (hl : l4.toInt = l) (h1 : l ≤ 1) (hc : c.toInt = 158) {B : List Int32} {D : Nat} (hb : b.toInt = D) (hB : bk FI SH 124 D B) (ha : a.toInt = B.length) (hB2 : B.length ≤ 100000) (hv : rv FI FL SH l s) (h : RX12_acts l4 c a b n sl SH FI FL FR u st) : ra_c n sl SH FI FL FR l o st (s.1, (4, a, B), s.2.2) := by
  obtain ⟨i, t9, y9, h, hi, et, ey⟩ := r_a57 hl h1 hv h
  have h := P_p (P_n (P_n (P_n (P_n (P_n (P_n (P_n (P_n (P_n (P_n (P_n (P_n (h) (by rw [show ((19 : Int32)).toInt = 19 by decide]; omega)) (by rw [show ((40 : Int32)).toInt = 40 by decide]; omega)) (by rw [show ((22 : Int32)).toInt = 22 by decide]; omega)) (by rw [show ((23 : Int32)).toInt = 23 by decide]; omega)) (by rw [show ((6 : Int32)).toInt = 6 by decide]; omega)) (by rw [show ((148 : Int32)).toInt = 148 by decide]; omega)) (by rw [show ((25 : Int32)).toInt = 25 by decide]; omega)) (by rw [show ((31 : Int32)).toInt = 31 by decide]; omega)) (by rw [show ((32 : Int32)).toInt = 32 by decide]; omega)) (by rw [show ((35 : Int32)).toInt = 35 by decide]; omega)) (by rw [show ((155 : Int32)).toInt = 155 by decide]; omega)) (by rw [show ((26 : Int32)).toInt = 26 by decide]; omega)) (by rw [show ((46 : Int32)).toInt = 46 by decide]; omega)
  have h := P_p (P_n h (by rw [show ((80 : Int32)).toInt = 80 by decide]; omega)) (by rw [show ((111 : Int32)).toInt = 111 by decide]; omega)
  have h := P_p (P_n (P_n h (by rw [show ((144 : Int32)).toInt = 144 by decide]; omega)) (by rw [show ((159 : Int32)).toInt = 159 by decide]; omega)) (by rw [show ((158 : Int32)).toInt = 158 by decide]; omega)
  obtain ⟨v2, n2, sl2, SH2, FI2, FL2, FR2, hh, -, e⟩ := h
  obtain ⟨e2, q1, q2, q3⟩ := ra_hold (o := o) (H := (4, a, B)) hl hv (fun F2 L2 f0 f1 f2 f3 => ⟨by rw [f1]; show ((4 : Int32)).toInt = 4; decide, Or.inr (Or.inr (Or.inr (Or.inr ⟨rfl, ha⟩))), fun e => absurd e (by simp), fun _ => ⟨D, by rw [f2]; exact hb, by rw [f3]; exact l_2i (A := (B.length : Int)) ha (by omega) (by omega), bk_fr hB f0⟩⟩) hh
  rw [e2] at e
  exact ⟨_, _, e, q1, q2, q3⟩
theorem ra_150 (hl : l4.toInt = l) (h1 : l ≤ 1) (hc : c.toInt = 150) (hv : rv FI FL SH l s) (h : RX12_acts l4 c a b n sl SH FI FL FR u st) : ra_c n sl SH FI FL FR l o st s := by
  obtain ⟨i, t9, y9, h, hi, et, ey⟩ := r_a57 hl h1 hv h
  have h := P_p (P_n (P_n (P_n (P_n (P_n (P_n (P_n (P_n (P_n (P_n (P_n (P_n (h) (by rw [show ((19 : Int32)).toInt = 19 by decide]; omega)) (by rw [show ((40 : Int32)).toInt = 40 by decide]; omega)) (by rw [show ((22 : Int32)).toInt = 22 by decide]; omega)) (by rw [show ((23 : Int32)).toInt = 23 by decide]; omega)) (by rw [show ((6 : Int32)).toInt = 6 by decide]; omega)) (by rw [show ((148 : Int32)).toInt = 148 by decide]; omega)) (by rw [show ((25 : Int32)).toInt = 25 by decide]; omega)) (by rw [show ((31 : Int32)).toInt = 31 by decide]; omega)) (by rw [show ((32 : Int32)).toInt = 32 by decide]; omega)) (by rw [show ((35 : Int32)).toInt = 35 by decide]; omega)) (by rw [show ((155 : Int32)).toInt = 155 by decide]; omega)) (by rw [show ((26 : Int32)).toInt = 26 by decide]; omega)) (by rw [show ((46 : Int32)).toInt = 46 by decide]; omega)
  have h := P_p (P_n h (by rw [show ((80 : Int32)).toInt = 80 by decide]; omega)) (by rw [show ((111 : Int32)).toInt = 111 by decide]; omega)
  have h := P_n (P_n (P_n h (by rw [show ((144 : Int32)).toInt = 144 by decide]; omega)) (by rw [show ((159 : Int32)).toInt = 159 by decide]; omega)) (by rw [show ((158 : Int32)).toInt = 158 by decide]; omega)
  exact ⟨_, _, h.2, hv, gz_rf, rfl⟩
theorem ra_47 (hl : l4.toInt = l) (h1 : l ≤ 1) (hc : c.toInt = 47) (hv : rv FI FL SH l s) (h : RX12_acts l4 c a b n sl SH FI FL FR u st) : ra_c n sl SH FI FL FR l o st s := by
  obtain ⟨i, t9, y9, h, hi, et, ey⟩ := r_a57 hl h1 hv h
  have h := P_p (P_n (P_n (P_n (P_n (P_n (P_n (P_n (P_n (P_n (P_n (P_n (P_n (h) (by rw [show ((19 : Int32)).toInt = 19 by decide]; omega)) (by rw [show ((40 : Int32)).toInt = 40 by decide]; omega)) (by rw [show ((22 : Int32)).toInt = 22 by decide]; omega)) (by rw [show ((23 : Int32)).toInt = 23 by decide]; omega)) (by rw [show ((6 : Int32)).toInt = 6 by decide]; omega)) (by rw [show ((148 : Int32)).toInt = 148 by decide]; omega)) (by rw [show ((25 : Int32)).toInt = 25 by decide]; omega)) (by rw [show ((31 : Int32)).toInt = 31 by decide]; omega)) (by rw [show ((32 : Int32)).toInt = 32 by decide]; omega)) (by rw [show ((35 : Int32)).toInt = 35 by decide]; omega)) (by rw [show ((155 : Int32)).toInt = 155 by decide]; omega)) (by rw [show ((26 : Int32)).toInt = 26 by decide]; omega)) (by rw [show ((46 : Int32)).toInt = 46 by decide]; omega)
  have h := P_p h (by rw [show ((80 : Int32)).toInt = 80 by decide]; omega)
  have h := P_n (P_n (P_n h (by rw [show ((144 : Int32)).toInt = 144 by decide]; omega)) (by rw [show ((159 : Int32)).toInt = 159 by decide]; omega)) (by rw [show ((158 : Int32)).toInt = 158 by decide]; omega)
  exact ⟨_, _, h.2, hv, gz_rf, rfl⟩
theorem rt_cp {F2 : Nat → Nat → Int32} {L2 : Nat → Nat → Int64} {K V Z i K2 V2 Z2 j : Nat} (h : rt FI FL SH K V Z i H) (e0 : F2 124 = FI 124) (e1 : F2 K2 j = FI K i) (e2 : L2 V2 j = FL V i) (e3 : F2 Z2 j = FI Z i) : rt F2 L2 SH K2 V2 Z2 j H := by
  unfold rt
  rw [e1, e2, e3]
  refine ⟨h.1, h.2.1, h.2.2.1, fun h4 => ?_⟩
  obtain ⟨A, a1, a2, a3⟩ := h.2.2.2 h4
  exact ⟨A, a1, a2, bk_fr a3 e0⟩
theorem x_ab {x z : Int64} : ((fX12_isAbove x z SH FI FL FR).toInt = 0) ↔ ¬ (x.toInt < 0 ∨ z.toInt < x.toInt) := by
  unfold fX12_isAbove
  rw [show ((0 : Int64)).toInt = 0 by decide]
  by_cases h1 : x.toInt < 0
  · rw [if_pos h1]; exact ⟨fun e => absurd e (by decide), fun e => absurd (Or.inl h1) e⟩
  · rw [if_neg h1]
    by_cases h2 : z.toInt < x.toInt
    · rw [if_pos h2]; exact ⟨fun e => absurd e (by decide), fun e => absurd (Or.inr h2) e⟩
    · rw [if_neg h2]; exact ⟨fun _ w => w.elim h1 h2, fun _ => by decide⟩
/-- a piece more -/
theorem rv_pc {F2 : Nat → Nat → Int32} {L2 : Nat → Nat → Int64} {T : ms_H} {w f : Int} (hv : rv FI FL SH l s) (hn : s.2.2.length < 16) (hw : 0 ≤ w ∧ w ≤ 4096) (hf : 0 ≤ f ∧ f ≤ 4096) (hb : ms_tb s.2.2 + w ≤ 4096) (e124 : F2 124 = FI 124) (e128 : (F2 128 l).toInt = 0) (e136 : (F2 136 l).toInt = 0) (e129 : (F2 129 l).toInt = ((s.2.2.length + 1 : Nat) : Int)) (e135 : (F2 135 l).toInt = ms_tb s.2.2 + w) (o1 : ∀ r i, (r = 130 ∨ r = 132 ∨ r = 133 ∨ r = 134) → i ≠ 16 * l + s.2.2.length → F2 r i = FI r i) (o2 : ∀ i, i ≠ 16 * l + s.2.2.length → L2 131 i = FL 131 i) (n1 : rt F2 L2 SH 130 131 134 (16 * l + s.2.2.length) T) (n2 : (F2 132 (16 * l + s.2.2.length)).toInt = w) (n3 : (F2 133 (16 * l + s.2.2.length)).toInt = f) : rv F2 L2 SH l ([], ms_0, (T, w, f) :: s.2.2) := by
  obtain ⟨h1, h2, h3, h4, h5, h6, h7, h8, h9, h10⟩ := hv
  refine ⟨e128, Nat.zero_le _, trivial, ⟨e136, Or.inl ⟨rfl, rfl⟩, fun e => absurd (show (0 : Int) = 1 ∨ (0 : Int) = 2 ∨ (0 : Int) = 3 from e) (by decide), fun e => absurd (show (0 : Int) = 4 from e) (by decide)⟩, e129, hn, ?_, ?_, ?_, ⟨n1, n2, n3, hw.1, hw.2, hf.1, hf.2⟩, lv_mono (fun i x hi _ hx => rq_fr hx e124 (fun r hr => o1 r _ hr (by omega)) (o2 _ (by omega))) h10⟩
  · show _ = w + ms_tb s.2.2
    omega
  · show 0 ≤ w + ms_tb s.2.2
    omega
  · show w + ms_tb s.2.2 ≤ 4096
    omega
theorem r_202 {w : Int32} {v : Int32} {a3 a4 : Int64} {a2 : Int32} (hl : l4.toInt = l) (h : RX12_isPiece_202 l4 a2 a3 a4 w n sl SH FI FL FR v st) : v = 1 ∧ st = (n, sl, SH, h_up (h_up (h_up (h_up FI 135 l (FI 135 l + w)) 129 l (FI 129 l + (1 : Int32))) 136 l (0 : Int32)) 128 l (0 : Int32), FL, FR) := by
  obtain ⟨-, -, -, -, -, -, e1, e⟩ := h
  rw [show l4.toInt.toNat = l by omega] at e
  exact ⟨e1, e⟩
theorem r_60 {w v a2 : Int32} {W : Int} {f : Int64} (hl : l4.toInt = l) (h1 : l ≤ 1) (hv : rv FI FL SH l s) (hn : s.2.2.length < 16) (hw : w.toInt = W) (hW : 0 ≤ W ∧ W ≤ 4096) (hf : 0 ≤ f.toInt ∧ f.toInt ≤ 4096) (h : RX12_isPiece_60 l4 a2 a f w n sl SH FI FL FR v st) : (4096 < ms_tb s.2.2 + W ∧ v = 0) ∨ (ms_tb s.2.2 + W ≤ 4096 ∧ v = 1 ∧ ra_c n sl SH FI FL FR l o st ([], ms_0, (ms_tg s, W, f.toInt) :: s.2.2)) := by
  obtain ⟨-, h⟩ := h
  have el : l4.toInt.toNat = l := by omega
  obtain ⟨v1, v2, v3, v4, v5, v6, v7, v8, v9, v10⟩ := id hv
  rw [el, show ((4096 : Int32)).toInt = 4096 by decide, i_add v7 hw (by omega) (by omega)] at h
  rcases h with ⟨h0, e, -⟩ | ⟨h0, h⟩
  · exact Or.inl ⟨h0, e⟩
  · refine Or.inr ⟨by omega, ?_⟩
    obtain ⟨-, -, -, -, -, -, -, -, -, -, h⟩ := h
    have ej : (((16 : Int32)) * l4 + FI 129 l).toInt.toNat = 16 * l + s.2.2.length := by
      rw [i_add (i_mul (by decide : ((16 : Int32)).toInt = 16) hl (by omega) (by omega)) v5 (by omega) (by omega)]
      omega
    rw [ej] at h
    have ef : (f.toInt32).toInt = f.toInt := l_2i rfl (by omega) (by omega)
    have j1 : 16 * l ≤ 16 * l + s.2.2.length ∧ 16 * l + s.2.2.length < 16 * l + 16 := by omega
    have g1 : ∀ r, (r = 130 ∨ r = 132 ∨ r = 133 ∨ r = 134) → wi l r (16 * l + s.2.2.length) := fun r hr => Or.inr (Or.inr ⟨hr, j1⟩)
    have g2 : ∀ r, (r = 128 ∨ r = 129 ∨ r = 135 ∨ r = 136 ∨ r = 138) → wi l r l := fun r hr => Or.inr (Or.inl ⟨hr, rfl⟩)
    have g3 : wlz l 131 (16 * l + s.2.2.length) := Or.inr (Or.inr (Or.inr ⟨rfl, j1⟩))
    obtain ⟨j, hj⟩ : ∃ j, j = 16 * l + s.2.2.length := ⟨_, rfl⟩
    rw [← hj] at h g1 g3
    have fin : ∀ (F : Nat → Nat → Int32) (L : Nat → Nat → Int64) (T : ms_H), j = 16 * l + s.2.2.length → (∀ r, ¬ (r = 130 ∨ r = 132 ∨ r = 133 ∨ r = 134) → F r = FI r) → (∀ r i, (r = 130 ∨ r = 132 ∨ r = 133 ∨ r = 134) → i ≠ j → F r i = FI r i) → (∀ i, i ≠ j → L 131 i = FL 131 i) → F 132 j = w → F 133 j = f.toInt32 → rt F L SH 130 131 134 j T → gz l o FI FL F L → RX12_isPiece_202 l4 a2 a f w n sl SH F L FR v st → v = 1 ∧ ra_c n sl SH FI FL FR l o st ([], ms_0, (T, W, f.toInt) :: s.2.2) := by
      intro F L T hj q1 q2 q3 q4 q5 q6 q7 hh
      obtain ⟨e1, e⟩ := r_202 hl hh
      refine ⟨e1, _, _, e, ?_, gz_i (gz_i (gz_i (gz_i q7 (g2 135 (by omega))) (g2 129 (by omega))) (g2 136 (by omega))) (g2 128 (by omega)), by rw [h_up_nc (by decide), h_up_nc (by decide), h_up_nc (by decide), h_up_nc (by decide), q1 121 (by omega)]⟩
      subst hj
      refine rv_pc hv hn hW hf (by omega) (by rw [h_up_nc (by decide), h_up_nc (by decide), h_up_nc (by decide), h_up_nc (by decide), q1 124 (by omega)]) (by rw [h_up_eq]; decide) (by rw [h_up_nc (by decide), h_up_eq]; decide) (by rw [h_up_nc (by decide), h_up_nc (by decide), h_up_eq, q1 129 (by omega), i_add v5 (by decide : ((1 : Int32)).toInt = 1) (by omega) (by omega)]; omega) (by rw [h_up_nc (by decide), h_up_nc (by decide), h_up_nc (by decide), h_up_eq, q1 135 (by omega)]; exact i_add v7 hw (by omega) (by omega)) (fun r i hr hi => by rw [h_up_nc (by omega), h_up_nc (by omega), h_up_nc (by omega), h_up_nc (by omega)]; exact q2 r i hr hi) q3 (rt_fr q6 (by rw [h_up_nc (by decide), h_up_nc (by decide), h_up_nc (by decide), h_up_nc (by decide)]) (by rw [h_up_nc (by decide), h_up_nc (by decide), h_up_nc (by decide), h_up_nc (by decide)]) rfl (by rw [h_up_nc (by decide), h_up_nc (by decide), h_up_nc (by decide), h_up_nc (by decide)])) (by rw [h_up_nc (by decide), h_up_nc (by decide), h_up_nc (by decide), h_up_nc (by decide), q4]; exact hw) (by rw [h_up_nc (by decide), h_up_nc (by decide), h_up_nc (by decide), h_up_nc (by decide), q5]; exact ef)
    have qa : ∀ r, ¬ (r = 130 ∨ r = 132 ∨ r = 133 ∨ r = 134) → (h_up (h_up (h_up (h_up FI 132 j w) 133 j f.toInt32) 130 j (FI 136 l)) 134 j (FI 138 l)) r = FI r := fun r hr => by rw [h_up_nc (by omega), h_up_nc (by omega), h_up_nc (by omega), h_up_nc (by omega)]
    have qb : ∀ r i, (r = 130 ∨ r = 132 ∨ r = 133 ∨ r = 134) → i ≠ j → (h_up (h_up (h_up (h_up FI 132 j w) 133 j f.toInt32) 130 j (FI 136 l)) 134 j (FI 138 l)) r i = FI r i := fun r i _ hi => by rw [h_up_x (by omega), h_up_x (by omega), h_up_x (by omega), h_up_x (by omega)]
    have qc : gz l o FI FL (h_up (h_up (h_up (h_up FI 132 j w) 133 j f.toInt32) 130 j (FI 136 l)) 134 j (FI 138 l)) (h_up FL 131 j (FL 137 l)) := gz_i (gz_i (gz_i (gz_i (gz_l gz_rf g3) (g1 132 (by omega))) (g1 133 (by omega))) (g1 130 (by omega))) (g1 134 (by omega))
    have qd : (h_up (h_up (h_up (h_up FI 132 j w) 133 j f.toInt32) 130 j (FI 136 l)) 134 j (FI 138 l)) 132 j = w := by rw [h_up_nc (by decide), h_up_nc (by decide), h_up_nc (by decide), h_up_eq]
    have qe : (h_up (h_up (h_up (h_up FI 132 j w) 133 j f.toInt32) 130 j (FI 136 l)) 134 j (FI 138 l)) 133 j = f.toInt32 := by rw [h_up_nc (by decide), h_up_nc (by decide), h_up_eq]
    have qf : (h_up (h_up (h_up (h_up FI 132 j w) 133 j f.toInt32) 130 j (FI 136 l)) 134 j (FI 138 l)) 130 j = FI 136 l := by rw [h_up_nc (by decide), h_up_eq]
    unfold ms_tg
    rw [← v4.1]
    rcases h with ⟨h2, -, h⟩ | ⟨h2, h⟩
    · rw [if_pos h2]
      have hs0 : s.2.1.1 = 0 := by rw [← v4.1]; exact h2
      obtain ⟨S, sr⟩ := s
      dsimp only at v1 v2 v3 h ⊢
      rcases h with ⟨h3, -, -, -, -, h⟩ | ⟨h3, h⟩
      · cases S with
        | nil => exfalso; rw [v1] at h3; exact absurd h3 (by decide)
        | cons t R =>
          have ei : ((((128 : Int32)) * l4 + FI 128 l) - (1 : Int32)).toInt.toNat = 128 * l + R.length := by
            rw [i_sub (rr_ix hl h1 v1 (by omega)) (by decide : ((1 : Int32)).toInt = 1) (by omega) (by omega)]
            simp only [List.length_cons]
            omega
          rw [ei, show FL 127 (128 * l + R.length) = t from v3.1] at h
          refine fin _ _ (1, t, []) hj (fun r hr => by rw [h_up_nc (by omega)]; exact qa r hr) (fun r i hr hi => by rw [h_up_x (by omega)]; exact qb r i hr hi) (fun i hi => by rw [h_up_ne hi, h_up_ne hi]) (by rw [h_up_nc (by decide)]; exact qd) (by rw [h_up_nc (by decide)]; exact qe) ⟨by rw [h_up_eq]; show ((1 : Int32)).toInt = 1; decide, Or.inr (Or.inl ⟨rfl, rfl⟩), fun _ => h_up_eq, fun e => absurd (show (1 : Int) = 4 from e) (by decide)⟩ (gz_i (gz_l qc g3) (g1 130 (by omega))) h
      · cases S with
        | cons t R => exfalso; rw [v1] at h3; simp only [List.length_cons] at h3; omega
        | nil =>
          exact fin _ _ ms_0 hj qa qb (fun i hi => by rw [h_up_ne hi]) qd qe ⟨by rw [qf]; exact h2, Or.inl ⟨rfl, rfl⟩, fun e => absurd e (by decide), fun e => absurd e (by decide)⟩ qc h
    · rw [if_neg h2]
      exact fin _ _ s.2.1 hj qa qb (fun i hi => by rw [h_up_ne hi]) qd qe (rt_cp v4 (qa 124 (by omega)) qf h_up_eq h_up_eq) qc h
/-- the reference's isPiece -/
theorem r_piece {c : Int} {bw v : Int32} {f : Int64} (hl : l4.toInt = l) (h1 : l ≤ 1) (hv : rv FI FL SH l s) (hc : (c = 147 ∧ bw = 0 ∧ f = 0) ∨ (c = 157 ∧ bw = 1)) (h : RX12_isPiece l4 bw a f n sl SH FI FL FR v st) : match ms_pc c a f s with
    | none => v = 0
    | some s2 => v = 1 ∧ ra_c n sl SH FI FL FR l o st s2 := by
  obtain ⟨-, h⟩ := h
  have el : l4.toInt.toNat = l := by omega
  obtain ⟨v1, v2, v3, v4, v5, v6, v7, v8, v9, v10⟩ := id hv
  rw [el, show ((16 : Int32)).toInt = 16 by decide, v5] at h
  unfold ms_pc
  rcases h with ⟨h0, e, -⟩ | ⟨h0, h⟩
  · rw [if_pos (Or.inl (by omega))]; exact e
  · rcases hc with ⟨hc, hb, hf⟩ | ⟨hc, hb⟩
    · subst hc; subst hb; subst hf
      have h := P_p h (by decide)
      unfold RX12_isPiece_26 at h
      rw [x_ab, x_ab, show ((512 : Int64)).toInt = 512 by decide, show ((0 : Int64)).toInt = 0 by decide, show ((4096 : Int64)).toInt = 4096 by decide] at h
      rw [if_neg (show ¬ ((147 : Int) = 157) by decide), if_neg (show ¬ ((147 : Int) = 157) by decide), if_neg (show ¬ ((147 : Int) = 157) by decide)]
      rcases h with ⟨h2, h⟩ | ⟨h2, e, -⟩
      · have h := P_p (P_p h (by decide)) (by decide)
        have e8 : ((8 : Int32) * a.toInt32).toInt = 8 * a.toInt := i_mul (by decide) (l_2i rfl (by omega) (by omega)) (by omega) (by omega)
        rcases r_60 (o := o) hl h1 hv (by omega) e8 (by omega) (by decide) h with ⟨q, e⟩ | ⟨q, e, r⟩
        · rw [if_pos (by omega)]; exact e
        · rw [if_neg (by omega)]
          exact ⟨e, r⟩
      · rw [if_pos (by omega)]; exact e
    · subst hc; subst hb
      have h := P_n h (by decide)
      unfold RX12_isPiece_26 at h
      rw [x_ab, x_ab, show ((4096 : Int64)).toInt = 4096 by decide] at h
      rw [if_pos rfl, if_pos rfl, if_pos rfl]
      rcases h with ⟨h2, h⟩ | ⟨h2, e, -⟩
      · rcases h with ⟨h3, h⟩ | ⟨h3, e, -⟩
        · have h := P_n h (by decide)
          rcases r_60 (o := o) hl h1 hv (by omega) (l_2i (A := a.toInt) rfl (by omega) (by omega)) (by omega) (by omega) h with ⟨q, e⟩ | ⟨q, e, r⟩
          · rw [if_pos (by omega)]; exact e
          · rw [if_neg (by omega)]
            exact ⟨e, r⟩
        · rw [if_pos (by omega)]; exact e
      · rw [if_pos (by omega)]; exact e
end RB
end
section
/-! THE REFERENCE'S STEP. -/
/-- a call has opened -/
def cf (l o : Nat) (FI F2 : Nat → Nat → Int32) : Prop := (∀ c, c ≠ 121 → c ≠ 139 → c ≠ 140 → c ≠ 141 → c ≠ 142 → F2 c = FI c) ∧ (∀ k, k ≠ 29 → k ≠ 33 → F2 121 k = FI 121 k) ∧ F2 121 29 = FI 121 29 + (1 : Int32) ∧ (∀ i, i ≠ o → F2 139 i = FI 139 i ∧ F2 140 i = FI 140 i ∧ F2 141 i = FI 141 i) ∧ (∀ i, i ≠ l → F2 142 i = FI 142 i) ∧ F2 142 l = FI 142 l + (1 : Int32)
/-- FRAME's run has begun -/
def bf (FI : Nat → Nat → Int32) (FL : Nat → Nat → Int64) (F2 : Nat → Nat → Int32) (L2 : Nat → Nat → Int64) : Prop := (∀ c, c ≠ 121 → c ≠ 128 → c ≠ 129 → c ≠ 135 → c ≠ 136 → c ≠ 142 → F2 c = FI c) ∧ (∀ c, c ≠ 121 → L2 c = FL c) ∧ (∀ k, (k < 40 ∨ 43 < k) → k ≠ 33 → F2 121 k = FI 121 k) ∧ (∀ k, k ≠ 44 → L2 121 k = FL 121 k) ∧ (∀ r i, (r = 128 ∨ r = 129 ∨ r = 135 ∨ r = 136 ∨ r = 142) → i ≠ 1 → F2 r i = FI r i) ∧ (∀ r, (r = 128 ∨ r = 129 ∨ r = 135 ∨ r = 136 ∨ r = 142) → F2 r 1 = 0)
def rs_c (K : Int32 → Int32 → Int32 → Int32 → Nat → Nat → (Nat → Nat × Nat) → (Nat → Nat → Int32) → (Nat → Nat → Int64) → (Nat → Nat → Option Nat) → Int32 → hS → Prop) (E : ms_E) (A : Nat) (bs : List Int32) (l o : Nat) (l4 l6 l7 : Int32) (n sl : Nat) (SH : Nat → Nat × Nat) (FI : Nat → Nat → Int32) (FL : Nat → Nat → Int64) (FR : Nat → Nat → Option Nat) (v : Int32) (st : hS) : Int ⊕ ms_A → Prop
  | .inl e => v.toInt = e
  | .inr (.inl x) => ∃ pc F2 L2, K l4 pc l6 l7 n sl SH F2 L2 FR v st ∧ pc.toInt = ((A + x.1 : Nat) : Int) ∧ x.1 ≤ bs.length ∧ rv F2 L2 SH l x.2 ∧ gz l o FI FL F2 L2 ∧ F2 121 30 = FI 121 30
  | .inr (.inr (.inl x)) => ∃ k6 k7 F2, K l4 k6 k6 k7 n sl SH F2 FL FR v st ∧ k6.toInt = ((600 * x.1 : Nat) : Int) ∧ k7.toInt = ((600 * x.1 + (ms_ex E x.1).length : Nat) : Int) ∧ x.1 < 16 ∧ x.2 ≤ bs.length ∧ o < 8 ∧ (F2 139 o).toInt = ((A + x.2 : Nat) : Int) ∧ F2 140 o = l6 ∧ F2 141 o = l7 ∧ cf l o FI F2
  | .inr (.inr (.inr x)) => l = 0 ∧ 0 ≤ ms_fr E ∧ ∃ k6 k7 F2 L2, K 1 k6 k6 k7 n sl SH F2 L2 FR v st ∧ k6.toInt = ((600 * (ms_fr E).toNat : Nat) : Int) ∧ k7.toInt = ((600 * (ms_fr E).toNat + (ms_ex E (ms_fr E).toNat).length : Nat) : Int) ∧ x.2 ≤ bs.length ∧ (F2 121 40).toInt = ((A + x.2 : Nat) : Int) ∧ F2 121 41 = l6 ∧ F2 121 42 = l7 ∧ L2 121 44 = x.1 ∧ bf FI FL F2 L2
section RS
variable {K : Int32 → Int32 → Int32 → Int32 → Nat → Nat → (Nat → Nat × Nat) → (Nat → Nat → Int32) → (Nat → Nat → Int64) → (Nat → Nat → Option Nat) → Int32 → hS → Prop} {a1 a2 a3 l4 l5 l6 l7 l8 l9 l10 l11 : Int32} {l12 l14 : Int64} {n sl : Nat} {SH : Nat → Nat × Nat} {FI : Nat → Nat → Int32} {FL : Nat → Nat → Int64} {FR : Nat → Nat → Option Nat} {v : Int32} {st : hS} {E : ms_E} {A l o : Nat} {bs : List Int32} {s : ms_S}
theorem rs_18 (hne : l5.toInt ≠ l7.toInt) (h : BX12_exec_18 K a1 a2 a3 l4 l5 l6 l7 n sl SH FI FL FR v st) : ∃ pl, RX12_exec_308 K a1 a2 a3 l4 l5 l6 l7 (((128 : Int32)) * l4) pl n sl SH FI FL FR v st := by
  have h : RX12_exec_116 K a1 a2 a3 l4 l5 l6 l7 n sl SH FI FL FR v st := P_n h hne
  have h := P_n h hne
  rcases h with ⟨-, -, h⟩ | ⟨-, h⟩
  · rcases h with ⟨-, h⟩ | ⟨-, h⟩
    · exact ⟨_, h⟩
    · exact ⟨_, h⟩
  · exact ⟨_, h⟩
theorem rs_ra {s2 : ms_S} {p : Nat} (hp : l11.toInt = ((A + p : Nat) : Int)) (hpb : p ≤ bs.length) {st2 : hS} (h : ra_c n sl SH FI FL FR l o st2 s2) {n4 sl4 : Nat} {SH4 : Nat → Nat × Nat} {FI4 : Nat → Nat → Int32} {FL4 : Nat → Nat → Int64} {FR4 : Nat → Nat → Option Nat} (e : st2 = (n4, sl4, SH4, FI4, FL4, FR4)) (k : K l4 l11 l6 l7 n4 sl4 SH4 FI4 FL4 FR4 v st) : rs_c K E A bs l o l4 l6 l7 n sl SH FI FL FR v st (.inr (.inl (p, s2))) := by
  obtain ⟨F2, L2, e2, q1, q2, q3⟩ := h
  rw [e] at e2
  cases e2
  exact ⟨l11, _, _, k, hp, hpb, q1, q2, q3⟩
/-- the pushed value -/
theorem rs_pv {x : ms_O} {t y : Int64} {l16 : Int32} (hl : l4.toInt = l) (h1 : l ≤ 1) (hE : rE FI FL SH E) (hv : rv FI FL SH l s) (c0 : 0 ≤ l10.toInt) (c1 : l10.toInt ≤ 255) (hp : ms_pu l10.toInt = true) (h12 : l12 = x.1) (h14 : l10.toInt ≠ 158 → l14 = x.2.1) (h146 : l10.toInt = 146 → ¬ (x.1.toInt < 0 ∨ 31 < x.1.toInt)) (h21 : l10.toInt = 21 → 0 ≤ x.1.toInt ∧ x.1.toInt ≤ 255) (hw : ¬ ((s.1.length : Int) < ms_wt l10.toInt x.1)) (h151 : ¬ (l10.toInt = 151 ∧ (FI 121 10).toInt = 0)) (h156 : ¬ (l10.toInt = 156 ∧ (FI 121 6).toInt = -1)) (e16 : l16.toInt = s.1.length) (et : ∀ t' R, s.1 = t' :: R → t = t') (ey : ∀ t' s' Q, s.1 = t' :: s' :: Q → y = s') : ms_x E l10.toInt x.1 x.2.1 x.2.2.2 s.1 s.2.1 = ms_ps (fX12_pushes_ l10 l12 l14 t y (((128 : Int32)) * l4 + l16) SH FI FL FR) s.1 s.2.1 := by
  subst h12
  obtain ⟨e1, e2, e3, e4, e5, e6, e7, e8⟩ := hE
  have hlen := hv.2.1
  rcases ms_pu_i hp with hc | hc | hc | hc | hc | hc | hc | hc | hc
  · rw [mx_3 (Or.inl hc), pv_3 (Or.inl hc)]
  · by_cases h18 : l10.toInt = 18
    · rw [pv_18 h18]
      unfold ms_wt at hw
      rw [if_pos (by omega)] at hw
      obtain ⟨S, sr⟩ := s
      cases S with
      | nil => exact absurd hw (by simp)
      | cons t' R => (try dsimp only); rw [mx_18 h18, et t' R rfl]
    · rw [mx_3 (Or.inr (by omega)), pv_3 (Or.inr (by omega))]
  · rw [pv_20 hc]
    unfold ms_wt at hw
    rw [if_neg (by omega), if_pos (by omega)] at hw
    obtain ⟨S, sr⟩ := s
    match S, hw, ey with
    | [], hw, _ => exact absurd hw (by simp)
    | [t'], hw, _ => exact absurd hw (by simp)
    | t' :: s' :: Q, _, ey => (try dsimp only); rw [mx_20 hc, ey t' s' Q rfl]
  · obtain ⟨g1, g2⟩ := h21 hc
    rw [pv_21 hc]
    unfold ms_wt at hw
    rw [if_neg (by omega), if_neg (by omega), if_pos hc] at hw
    have hS := hv.2.2.1
    have k1 : (((((128 : Int32)) * l4 + l16) - ((1 : Int32))) - (x.1.toInt32)).toInt = ((128 * l + (s.1.length - 1 - x.1.toInt.toNat) : Nat) : Int) := by
      rw [i_sub (i_sub (rr_ix hl h1 e16 (by omega)) (by decide : ((1 : Int32)).toInt = 1) (by omega) (by omega)) (l_2i rfl (by omega) (by omega)) (by omega) (by omega)]
      omega
    rw [show (((((128 : Int32)) * l4 + l16) - ((1 : Int32))) - (x.1.toInt32)).toInt.toNat = 128 * l + (s.1.length - 1 - x.1.toInt.toNat) by omega]
    obtain ⟨z, hz⟩ : ∃ z, s.1[x.1.toInt.toNat]? = some z := ⟨_, List.getElem?_eq_getElem (by omega)⟩
    have hq := lv_get hS hz
    (try dsimp only at hq)
    rw [hq]
    obtain ⟨S, sr⟩ := s
    cases S with
    | nil => cases hz
    | cons t' R =>
      (try dsimp only at hz ⊢)
      rw [mx_21 hc, List.getD_eq_getElem?_getD, hz]
      rfl
  · rw [mx_48 hc, pv_48 hc]
    have k1 : (l10 - (48 : Int32)).toInt = l10.toInt - 48 := i_sub rfl (by decide) (by omega) (by omega)
    rw [show (l10 - (48 : Int32)).toInt64 = Int64.ofInt (l10.toInt - 48) from Int64.toInt_inj.mp (by rw [i_2l k1, Int64.toInt_ofInt, l_bm (by omega) (by omega)])]
  · rw [mx_112 hc, pv_112 hc]
    have k1 : (l10 - (112 : Int32)).toInt = l10.toInt - 112 := i_sub rfl (by decide) (by omega) (by omega)
    rw [k1, e1 _ (by omega)]
  · have := h146 hc
    rw [mx_146 hc, pv_146 hc, l_2i (A := x.1.toInt) rfl (by omega) (by omega), e1 _ (by omega), h14 (by omega)]
  · rw [mx_151 hc, pv_151 hc]
    rcases e7 with ⟨q, -⟩ | ⟨-, q⟩
    · exact absurd ⟨hc, q⟩ h151
    · rw [q]
  · rw [mx_156 hc, pv_156 hc, e5.1, e6]
    rw [if_neg (fun e => h156 ⟨hc, by rw [e5.1]; exact e⟩), e1 _ (by have : ms_cr E ≠ -1 := fun e => h156 ⟨hc, by rw [e5.1]; exact e⟩; omega)]
end RS
end
section
/-! THE REFERENCE'S STEP, behind decoding. -/
section RT
variable {K : Int32 → Int32 → Int32 → Int32 → Nat → Nat → (Nat → Nat × Nat) → (Nat → Nat → Int32) → (Nat → Nat → Int64) → (Nat → Nat → Option Nat) → Int32 → hS → Prop} {a1 a2 a3 l4 l5 l6 l7 l9 l10 l11 : Int32} {l12 l14 t y : Int64} {n sl : Nat} {SH : Nat → Nat × Nat} {FI : Nat → Nat → Int32} {FL : Nat → Nat → Int64} {FR : Nat → Nat → Option Nat} {v : Int32} {st : hS} {E : ms_E} {A l o : Nat} {bs : List Int32} {s : ms_S} {x : ms_O}
/-- a block's bytes lie where the second number says -/
def rd_e8 (SH : Nat → Nat × Nat) (FI : Nat → Nat → Int32) (x : ms_O) (l10 : Int32) (l14 : Int64) : Prop := l10.toInt = 158 → ∃ D : Nat, l14.toInt = D ∧ bk FI SH 124 D x.2.2.2 ∧ x.1.toInt = x.2.2.2.length ∧ x.2.2.2.length ≤ 100000
/-- what is known behind decoding -/
def rd_c (E : ms_E) (A : Nat) (bs : List Int32) (l o : Nat) (s : ms_S) (x : ms_O) (l4 l6 l7 l10 l11 : Int32) (l12 l14 : Int64) (SH : Nat → Nat × Nat) (FI : Nat → Nat → Int32) (FL : Nat → Nat → Int64) : Prop :=
  l4.toInt = l ∧ l ≤ 1 ∧ (FI 121 29).toInt = o ∧ o ≤ 8 ∧ bk FI SH 124 A bs ∧ l6.toInt = A ∧ l7.toInt = ((A + bs.length : Nat) : Int) ∧ l11.toInt = ((A + x.2.2.1 : Nat) : Int) ∧ x.2.2.1 ≤ bs.length ∧ rE FI FL SH E ∧ rv FI FL SH l s ∧ (0 ≤ l10.toInt ∧ l10.toInt ≤ 255) ∧ ms_kn l10.toInt = true ∧ l12 = x.1 ∧ FL 121 35 = x.1 ∧ (l10.toInt ≠ 158 → l14 = x.2.1) ∧
  rd_e8 SH FI x l10 l14 ∧ (l10.toInt = 147 → x.2.1 = 0) ∧ (l10.toInt = 21 → 0 ≤ x.1.toInt ∧ x.1.toInt ≤ 255) ∧ (l10.toInt = 152 ∨ l10.toInt = 153 → 0 ≤ x.1.toInt) ∧ (l10.toInt = 47 ∨ l10.toInt = 40 → -32768 ≤ x.1.toInt ∧ x.1.toInt ≤ 32767)
theorem rs_974 (h : RX12_exec_736 K a1 a2 a3 l4 l6 l7 (((128 : Int32)) * l4) l9 l10 l11 l12 l14 (FI 128 l) t y n sl SH FI FL FR v st) (k1 : ¬ (l10.toInt = 151 ∧ (FI 121 10).toInt = 0)) (k2 : ¬ (l10.toInt = 155 ∧ (FI 121 11).toInt = 0)) (k3 : ¬ (l10.toInt = 156 ∧ (FI 121 6).toInt = -1)) (k4 : l10.toInt ≠ 145) (k5 : ¬ (l10.toInt = 6 ∧ (t.toInt < 0 ∨ 4088 < t.toInt))) (k6 : ¬ (l10.toInt = 148 ∧ (t.toInt < 0 ∨ ((4096 : Int64) - l12).toInt < t.toInt))) (k7 : ¬ ((l10.toInt = 27 ∨ l10.toInt = 29) ∧ t.toInt = 0)) : RX12_exec_974 K a1 a2 a3 l4 l6 l7 (((128 : Int32)) * l4) l9 l10 l11 l12 l14 (FI 128 l) t y n sl SH FI FL FR v st := by
  have h := ((x736 h).resolve_left (fun e => k1 e.1)).2
  have h := ((x751 h).resolve_left (fun e => k2 e.1)).2
  have h := ((x766 h).resolve_left (fun e => k3 e.1)).2
  have h := x782 h k4
  have h := ((x813 h k4).resolve_left (fun e => k5 e.1)).2
  have h := ((x917 h).resolve_left (fun e => k6 e.1)).2
  exact ((x944 h).resolve_left (fun e => k7 e.1)).2
theorem rs_jp {s2 : ms_S} (hd : rd_c E A bs l o s x l4 l6 l7 l10 l11 l12 l14 SH FI FL) (hj : l10.toInt = 47 ∨ l10.toInt = 40) (hpu : ms_pu l10.toInt = false) (ha : ∀ {u : Unit} {st2 : hS}, RX12_acts l4 l10 l12 l14 n sl SH FI FL FR u st2 → ra_c n sl SH FI FL FR l o st2 s2) (h : RX12_exec_999 K a1 a2 a3 l4 l6 l7 (((128 : Int32)) * l4) l9 l10 l11 l12 l14 (FI 128 l) t y n sl SH FI FL FR v st) : rs_c K E A bs l o l4 l6 l7 n sl SH FI FL FR v st (ms_jp bs x.2.2.1 x.1 s2) := by
  obtain ⟨hl, h1, ho, ho8, hb, h6, h7, h11, hx, hE, hv, ⟨c0, c1⟩, hk, e12, e35, e14, -, e147, e21, e152, ejp⟩ := id hd
  have b2 := hb.2.1
  have b3 := hb.2.2.1
  obtain ⟨j1, j2⟩ := ejp hj
  have g1 : (l11.toInt64 + l12).toInt = ((A + x.2.2.1 : Nat) : Int) + x.1.toInt := l_add (i_2l h11) (by rw [e12]) (by omega) (by omega)
  unfold ms_jp
  have h := x999 h
  rw [g1, i_2l h6, i_2l h7] at h
  rcases h with ⟨q, e⟩ | ⟨q, h⟩
  · rw [if_pos (by omega)]
    show v.toInt = 7
    rw [e]; decide
  · rw [if_neg (by omega)]
    have h := ((x1039 h).resolve_left (fun e => e.1.1 ((w_pushes c0 c1).mpr hpu))).2
    obtain ⟨u, n4, sl4, SH4, FI4, FL4, FR4, hh, k⟩ := x1064a h (by omega) (by omega) ((w_pushes c0 c1).mpr hpu)
    exact rs_ra (p := (((x.2.2.1 : Nat) : Int) + x.1.toInt).toNat) (l_2i (A := ((A + (((x.2.2.1 : Nat) : Int) + x.1.toInt).toNat : Nat) : Int)) (by rw [g1]; omega) (by omega) (by omega)) (by omega) (ha hh) rfl k
theorem rs_47 (hd : rd_c E A bs l o s x l4 l6 l7 l10 l11 l12 l14 SH FI FL) (et : ∀ t' R, s.1 = t' :: R → t = t') (ey : ∀ t' s' Q, s.1 = t' :: s' :: Q → y = s') (hc : l10.toInt = 47) (h : RX12_exec_691 K a1 a2 a3 l4 l6 l7 (((128 : Int32)) * l4) l9 l10 l11 l12 l14 (FI 128 l) t y n sl SH FI FL FR v st) : rs_c K E A bs l o l4 l6 l7 n sl SH FI FL FR v st (ms_jp bs x.2.2.1 x.1 s) := by
  obtain ⟨hl, h1, ho, ho8, hb, h6, h7, h11, hx, hE, hv, ⟨c0, c1⟩, hk, e12, e35, e14, -, e147, e21, e152, ejp⟩ := id hd
  have h := rs_974 (x691 h (by omega) (by omega)) (by omega) (by omega) (by omega) (by omega) (by omega) (by omega) (by omega)
  exact rs_jp hd (Or.inl hc) (by rw [hc]; decide) (fun hh => ra_47 hl h1 hc hv hh) (x974j h (Or.inl hc))
theorem rs_40 {R : List Int64} (hd : rd_c E A bs l o s x l4 l6 l7 l10 l11 l12 l14 SH FI FL) (et : ∀ t' R, s.1 = t' :: R → t = t') (ey : ∀ t' s' Q, s.1 = t' :: s' :: Q → y = s') (hs : s.1 = t :: R) (hc : l10.toInt = 40) (h : RX12_exec_691 K a1 a2 a3 l4 l6 l7 (((128 : Int32)) * l4) l9 l10 l11 l12 l14 (FI 128 l) t y n sl SH FI FL FR v st) : rs_c K E A bs l o l4 l6 l7 n sl SH FI FL FR v st (if t.toInt = 0 then .inr (.inl (x.2.2.1, (R, s.2))) else ms_jp bs x.2.2.1 x.1 (R, s.2)) := by
  obtain ⟨hl, h1, ho, ho8, hb, h6, h7, h11, hx, hE, hv, ⟨c0, c1⟩, hk, e12, e35, e14, -, e147, e21, e152, ejp⟩ := id hd
  have hv2 : rv FI FL SH l (t :: R, s.2.1, s.2.2) := by rw [← hs]; exact hv
  have h := rs_974 (x691 h (by omega) (by omega)) (by omega) (by omega) (by omega) (by omega) (by omega) (by omega) (by omega)
  by_cases h0 : t.toInt = 0
  · rw [if_pos h0]
    have h := x974 h (by omega)
    have hpu : ms_pu l10.toInt = false := by rw [hc]; decide
    have h := ((x1039 h).resolve_left (fun e => e.1.1 ((w_pushes c0 c1).mpr hpu))).2
    obtain ⟨u, n4, sl4, SH4, FI4, FL4, FR4, hh, k⟩ := x1064a h (by omega) (by omega) ((w_pushes c0 c1).mpr hpu)
    exact rs_ra h11 hx (ra_40 hl h1 hc hv2 hh) rfl k
  · rw [if_neg h0]
    exact rs_jp hd (Or.inr hc) (by rw [hc]; decide) (fun hh => ra_40 hl h1 hc hv2 hh) (x974j h (Or.inr ⟨hc, h0⟩))
theorem rs_call (hd : rd_c E A bs l o s x l4 l6 l7 l10 l11 l12 l14 SH FI FL) (et : ∀ t' R, s.1 = t' :: R → t = t') (ey : ∀ t' s' Q, s.1 = t' :: s' :: Q → y = s') (hc : l10.toInt = 152 ∨ l10.toInt = 153) (h : RX12_exec_691 K a1 a2 a3 l4 l6 l7 (((128 : Int32)) * l4) l9 l10 l11 l12 l14 (FI 128 l) t y n sl SH FI FL FR v st) : rs_c K E A bs l o l4 l6 l7 n sl SH FI FL FR v st (if 15 < x.1.toInt ∨ o = 8 then .inl 8 else .inr (.inr (.inl (x.1.toInt.toNat, x.2.2.1)))) := by
  obtain ⟨hl, h1, ho, ho8, hb, h6, h7, h11, hx, hE, hv, ⟨c0, c1⟩, hk, e12, e35, e14, -, e147, e21, e152, ejp⟩ := id hd
  have b2 := hb.2.1
  have b3 := hb.2.2.1
  have g0 := e152 hc
  rcases x691c h hc with ⟨q, e⟩ | ⟨q, h⟩
  · rw [e12] at q
    rw [if_pos (by omega)]
    show v.toInt = 8
    rw [e]; decide
  · rw [e12] at q
    rw [if_neg (by omega)]
    have hpu : ms_pu l10.toInt = false := by rcases hc with hc | hc <;> (rw [hc]; decide)
    have h := rs_974 h (by omega) (by omega) (by omega) (by omega) (by omega) (by omega) (by omega)
    have h := x974 h (by omega)
    have h := ((x1039 h).resolve_left (fun e => e.1.1 ((w_pushes c0 c1).mpr hpu))).2
    have h := x1064c h hc
    have el : l4.toInt.toNat = l := by omega
    have eo : (FI 121 29).toInt.toNat = o := by omega
    have ek : l12.toInt32.toInt = x.1.toInt := l_2i (by rw [e12]) (by omega) (by omega)
    have e6 : ((600 : Int32) * l12.toInt32).toInt = ((600 * x.1.toInt.toNat : Nat) : Int) := by rw [i_mul (by decide : ((600 : Int32)).toInt = 600) ek (by omega) (by omega)]; omega
    obtain ⟨x1, x2, x3⟩ := hE.2.2.1 x.1.toInt.toNat (by omega)
    have fin : ∀ F1 : Nat → Nat → Int32, (∀ c, c ≠ 121 → F1 c = FI c) → (∀ k, k ≠ 33 → F1 121 k = FI 121 k) → RX12_exec_1100 K a1 a2 a3 l4 l6 l7 l11 l12 n sl SH F1 FL FR v st → rs_c K E A bs l o l4 l6 l7 n sl SH FI FL FR v st (.inr (.inr (.inl (x.1.toInt.toNat, x.2.2.1)))) := by
      intro F1 f1 f2 hh
      obtain ⟨-, -, -, -, -, -, hh⟩ := hh
      rw [el, f2 29 (by decide), eo, ek, f1 125 (by decide)] at hh
      refine ⟨_, _, _, hh, e6, ?_, by show x.1.toInt.toNat < 16; omega, hx, by omega, ?_, ?_, ?_, ?_⟩
      · rw [i_add e6 x1 (by omega) (by omega)]
        show _ = ((600 * x.1.toInt.toNat + (ms_ex E x.1.toInt.toNat).length : Nat) : Int)
        omega
      · rw [h_up_nc (by decide), h_up_nc (by decide), h_up_nc (by decide), h_up_nc (by decide), h_up_eq]; exact h11
      · rw [h_up_nc (by decide), h_up_nc (by decide), h_up_nc (by decide), h_up_eq]
      · rw [h_up_nc (by decide), h_up_nc (by decide), h_up_eq]
      · refine ⟨fun c g1 g2 g3 g4 g5 => by rw [h_up_nc g5, h_up_nc g1, h_up_nc g4, h_up_nc g3, h_up_nc g2]; exact f1 c g1, fun k g1 g2 => by rw [h_up_nc (by decide), h_up_ne g1, h_up_nc (by decide), h_up_nc (by decide), h_up_nc (by decide)]; exact f2 k g2, ?_, fun i hi => ⟨?_, ?_, ?_⟩, fun i hi => ?_, ?_⟩
        · rw [h_up_nc (by decide), h_up_eq]
        · rw [h_up_nc (by decide), h_up_nc (by decide), h_up_nc (by decide), h_up_nc (by decide), h_up_ne hi, f1 139 (by decide)]
        · rw [h_up_nc (by decide), h_up_nc (by decide), h_up_nc (by decide), h_up_ne hi, h_up_nc (by decide), f1 140 (by decide)]
        · rw [h_up_nc (by decide), h_up_nc (by decide), h_up_ne hi, h_up_nc (by decide), h_up_nc (by decide), f1 141 (by decide)]
        · rw [h_up_ne hi, h_up_nc (by decide), h_up_nc (by decide), h_up_nc (by decide), h_up_nc (by decide), f1 142 (by decide)]
        · rw [h_up_eq, f1 142 (by decide)]
    rcases h with ⟨-, -, h⟩ | ⟨-, h⟩
    · rcases h with ⟨-, h⟩ | ⟨-, h⟩
      · exact fin _ (fun c hc => h_up_nc hc) (fun k hk => h_up_ne hk) h
      · exact fin _ (fun c hc => rfl) (fun k hk => rfl) h
    · exact fin _ (fun c hc => rfl) (fun k hk => rfl) h
theorem rs_145 (hd : rd_c E A bs l o s x l4 l6 l7 l10 l11 l12 l14 SH FI FL) (et : ∀ t' R, s.1 = t' :: R → t = t') (ey : ∀ t' s' Q, s.1 = t' :: s' :: Q → y = s') (hc : l10.toInt = 145) (h : RX12_exec_691 K a1 a2 a3 l4 l6 l7 (((128 : Int32)) * l4) l9 l10 l11 l12 l14 (FI 128 l) t y n sl SH FI FL FR v st) : rs_c K E A bs l o l4 l6 l7 n sl SH FI FL FR v st (if l = 1 ∨ ms_fr E = -1 then .inl 11 else .inr (.inr (.inr (x.1, x.2.2.1)))) := by
  obtain ⟨hl, h1, ho, ho8, hb, h6, h7, h11, hx, hE, hv, ⟨c0, c1⟩, hk, e12, e35, e14, -, e147, e21, e152, ejp⟩ := id hd
  have h := x691 h (by omega) (by omega)
  have h := ((x736 h).resolve_left (fun e => absurd e.1.1 (by omega))).2
  have h := ((x751 h).resolve_left (fun e => absurd e.1.1 (by omega))).2
  have h := ((x766 h).resolve_left (fun e => absurd e.1.1 (by omega))).2
  obtain ⟨f1, f2, f3⟩ := hE.2.2.2.1
  rcases x782b h hc with ⟨q, e⟩ | ⟨q, h⟩
  · rw [if_pos (by omega)]
    show v.toInt = 11
    rw [e]; decide
  · rw [if_neg (by omega)]
    have h := P_p h (by rw [show ((145 : Int32)).toInt = 145 by decide]; exact hc)
    obtain ⟨v7, n7, sl7, SH7, FI7, FL7, FR7, hcl, -, h⟩ := h
    obtain ⟨-, -, -, -, -, -, ec⟩ := hcl
    rw [show ((1 : Int32)).toInt.toNat = 1 by decide] at ec
    cases ec
    have z5 : (h_up (h_up (h_up (h_up (h_up (h_up (h_up (h_up (h_up (h_up FI 121 40 l11) 121 41 l6) 121 42 l7) 121 43 (FI 121 33)) 121 33 l9) 128 1 (0 : Int32)) 129 1 (0 : Int32)) 135 1 (0 : Int32)) 136 1 (0 : Int32)) 142 1 (0 : Int32)) 121 5 = FI 121 5 := by
      rw [h_up_nc (by decide), h_up_nc (by decide), h_up_nc (by decide), h_up_nc (by decide), h_up_nc (by decide), h_up_ne (by decide), h_up_ne (by decide), h_up_ne (by decide), h_up_ne (by decide), h_up_ne (by decide)]
    rw [z5] at h
    obtain ⟨x1, x2, x3⟩ := hE.2.2.1 (ms_fr E).toNat (by omega)
    have e6 : ((600 : Int32) * FI 121 5).toInt = ((600 * (ms_fr E).toNat : Nat) : Int) := by rw [i_mul (by decide : ((600 : Int32)).toInt = 600) f1 (by omega) (by omega)]; omega
    refine ⟨by omega, by omega, _, _, _, _, h, e6, ?_, hx, ?_, ?_, ?_, ?_, ?_⟩
    · rw [h_up_nc (by decide), h_up_nc (by decide), h_up_nc (by decide), h_up_nc (by decide), h_up_nc (by decide), h_up_nc (by decide), h_up_nc (by decide), h_up_nc (by decide), h_up_nc (by decide), h_up_nc (by decide), show (FI 121 5).toInt.toNat = (ms_fr E).toNat by omega, i_add e6 x1 (by omega) (by omega)]
      omega
    · rw [h_up_nc (by decide), h_up_nc (by decide), h_up_nc (by decide), h_up_nc (by decide), h_up_nc (by decide), h_up_ne (by decide), h_up_ne (by decide), h_up_ne (by decide), h_up_ne (by decide), h_up_eq]; exact h11
    · rw [h_up_nc (by decide), h_up_nc (by decide), h_up_nc (by decide), h_up_nc (by decide), h_up_nc (by decide), h_up_ne (by decide), h_up_ne (by decide), h_up_ne (by decide), h_up_eq]
    · rw [h_up_nc (by decide), h_up_nc (by decide), h_up_nc (by decide), h_up_nc (by decide), h_up_nc (by decide), h_up_ne (by decide), h_up_ne (by decide), h_up_eq]
    · rw [h_up_eq]; exact e12
    · refine ⟨fun c g1 g2 g3 g4 g5 g6 => by rw [h_up_nc g6, h_up_nc g5, h_up_nc g4, h_up_nc g3, h_up_nc g2, h_up_nc g1, h_up_nc g1, h_up_nc g1, h_up_nc g1, h_up_nc g1], fun c g1 => h_up_nc g1, fun k g1 g2 => by rw [h_up_nc (by decide), h_up_nc (by decide), h_up_nc (by decide), h_up_nc (by decide), h_up_nc (by decide), h_up_ne g2, h_up_ne (by omega), h_up_ne (by omega), h_up_ne (by omega), h_up_ne (by omega)], fun k g1 => h_up_ne g1, fun r i hr hi => by rw [h_up_x (by omega), h_up_x (by omega), h_up_x (by omega), h_up_x (by omega), h_up_x (by omega), h_up_nc (by omega), h_up_nc (by omega), h_up_nc (by omega), h_up_nc (by omega), h_up_nc (by omega)], fun r hr => ?_⟩
      rcases hr with rfl | rfl | rfl | rfl | rfl
      · rw [h_up_nc (by decide), h_up_nc (by decide), h_up_nc (by decide), h_up_nc (by decide), h_up_eq]
      · rw [h_up_nc (by decide), h_up_nc (by decide), h_up_nc (by decide), h_up_eq]
      · rw [h_up_nc (by decide), h_up_nc (by decide), h_up_eq]
      · rw [h_up_nc (by decide), h_up_eq]
      · rw [h_up_eq]
end RT
end
section
/-! THE REFERENCE'S STEP, all codes. -/
section RU
variable {K : Int32 → Int32 → Int32 → Int32 → Nat → Nat → (Nat → Nat × Nat) → (Nat → Nat → Int32) → (Nat → Nat → Int64) → (Nat → Nat → Option Nat) → Int32 → hS → Prop} {a1 a2 a3 l4 l5 l6 l7 l9 l10 l11 : Int32} {l12 l14 t y : Int64} {n sl : Nat} {SH : Nat → Nat × Nat} {FI : Nat → Nat → Int32} {FL : Nat → Nat → Int64} {FR : Nat → Nat → Option Nat} {v : Int32} {st : hS} {E : ms_E} {A l o : Nat} {bs : List Int32} {s : ms_S} {x : ms_O}
theorem sh_1 {S : List Int64} (h : ¬ ((S.length : Int) < 1)) : ∃ t R, S = t :: R := by
  cases S with
  | nil => exact absurd h (by first | decide | simp)
  | cons t R => exact ⟨t, R, rfl⟩
theorem sh_2 {S : List Int64} (h : ¬ ((S.length : Int) < 2)) : ∃ t y Q, S = t :: y :: Q := by
  match S, h with
  | [], h => exact absurd h (by first | decide | simp)
  | [t], h => exact absurd h (by first | decide | simp)
  | t :: y :: Q, _ => exact ⟨t, y, Q, rfl⟩
theorem sh_3 {S : List Int64} (h : ¬ ((S.length : Int) < 3)) : ∃ t y r Q, S = t :: y :: r :: Q := by
  match S, h with
  | [], h => exact absurd h (by first | decide | simp)
  | [t], h => exact absurd h (by first | decide | simp)
  | [t, y], h => exact absurd h (by first | decide | simp)
  | t :: y :: r :: Q, _ => exact ⟨t, y, r, Q, rfl⟩
theorem wt_1 {c : Int} {a : Int64} (h : c = 6 ∨ c = 18 ∨ c = 19 ∨ c = 25 ∨ c = 31 ∨ c = 32 ∨ c = 35 ∨ c = 40 ∨ c = 148 ∨ c = 155 ∨ c = 159) : ms_wt c a = 1 := by
  unfold ms_wt
  rw [if_pos h]
theorem wt_2 {c : Int} {a : Int64} (h : c = 20 ∨ c = 22 ∨ (26 ≤ c ∧ c ≤ 46 ∧ c ≠ 31 ∧ c ≠ 32 ∧ c ≠ 35 ∧ c ≠ 40)) : ms_wt c a = 2 := by
  unfold ms_wt
  rw [if_neg (by omega)]
  by_cases h1 : c = 20 ∨ c = 22
  · rw [if_pos h1]
  · rw [if_neg h1, if_neg (by omega), if_neg (by omega), if_pos (by omega)]
theorem wt_3 {c : Int} {a : Int64} (h : c = 23) : ms_wt c a = 3 := by
  unfold ms_wt
  rw [if_neg (by omega), if_neg (by omega), if_neg (by omega), if_pos h]
def rs_cb (k : Int) : Bool := decide (k = 47) || (decide (k = 40) || (decide (k = 152) || (decide (k = 153) || (decide (k = 145) || (decide (k = 147) || (decide (k = 157) || (decide (k = 6) || (decide (k = 148) || (decide (k = 19) || (decide (k = 25) || (decide (k = 31) || (decide (k = 32) || (decide (k = 35) || (decide (k = 155) || (decide (k = 159) || (decide (k = 22) || (decide (k = 23) || ((decide (26 ≤ k) && decide (k ≤ 46)) || ((decide (80 ≤ k) && decide (k ≤ 111)) || (decide (k = 144) || (decide (k = 150) || (decide (k = 158)))))))))))))))))))))))
theorem rs_cp {k : Int} (h : rs_cb k = true) : k = 47 ∨ k = 40 ∨ k = 152 ∨ k = 153 ∨ k = 145 ∨ k = 147 ∨ k = 157 ∨ k = 6 ∨ k = 148 ∨ k = 19 ∨ k = 25 ∨ k = 31 ∨ k = 32 ∨ k = 35 ∨ k = 155 ∨ k = 159 ∨ k = 22 ∨ k = 23 ∨ (26 ≤ k ∧ k ≤ 46) ∨ (80 ≤ k ∧ k ≤ 111) ∨ k = 144 ∨ k = 150 ∨ k = 158 := by
  unfold rs_cb at h
  simp only [Bool.or_eq_true, Bool.and_eq_true, decide_eq_true_eq] at h
  exact h
theorem rs_cod (k : Nat) (hk : k < 256) (h1 : ms_kn (k : Int) = true) (h2 : ms_pu (k : Int) = false) : (k : Int) = 47 ∨ (k : Int) = 40 ∨ (k : Int) = 152 ∨ (k : Int) = 153 ∨ (k : Int) = 145 ∨ (k : Int) = 147 ∨ (k : Int) = 157 ∨ (k : Int) = 6 ∨ (k : Int) = 148 ∨ (k : Int) = 19 ∨ (k : Int) = 25 ∨ (k : Int) = 31 ∨ (k : Int) = 32 ∨ (k : Int) = 35 ∨ (k : Int) = 155 ∨ (k : Int) = 159 ∨ (k : Int) = 22 ∨ (k : Int) = 23 ∨ (26 ≤ (k : Int) ∧ (k : Int) ≤ 46) ∨ (80 ≤ (k : Int) ∧ (k : Int) ≤ 111) ∨ (k : Int) = 144 ∨ (k : Int) = 150 ∨ (k : Int) = 158 := by
  have key : ∀ k : Nat, k < 256 → ms_kn (k : Int) = true → ms_pu (k : Int) = false → rs_cb (k : Int) = true := by decide +kernel
  exact rs_cp (key k hk h1 h2)
theorem rs_x (hd : rd_c E A bs l o s x l4 l6 l7 l10 l11 l12 l14 SH FI FL) (et : ∀ t' R, s.1 = t' :: R → t = t') (ey : ∀ t' s' Q, s.1 = t' :: s' :: Q → y = s') (hw : ¬ ((s.1.length : Int) < ms_wt l10.toInt x.1)) (h14 : ¬ ((l10.toInt = 144 ∨ l10.toInt = 146) ∧ (x.1.toInt < 0 ∨ 31 < x.1.toInt))) (h10 : ¬ (l10.toInt = 148 ∧ (x.1.toInt < 1 ∨ 8 < x.1.toInt))) (hn : ¬ (l10.toInt = 47 ∨ l10.toInt = 40 ∨ l10.toInt = 152 ∨ l10.toInt = 153 ∨ l10.toInt = 145 ∨ l10.toInt = 147 ∨ l10.toInt = 157)) (h : RX12_exec_691 K a1 a2 a3 l4 l6 l7 (((128 : Int32)) * l4) l9 l10 l11 l12 l14 (FI 128 l) t y n sl SH FI FL FR v st) : rs_c K E A bs l o l4 l6 l7 n sl SH FI FL FR v st (ms_d4 x.2.2.1 s (ms_x E l10.toInt x.1 x.2.1 x.2.2.2 s.1 s.2.1)) := by
  obtain ⟨hl, h1, ho, ho8, hb, h6, h7, h11, hx, hE, hv, ⟨c0, c1⟩, hk, e12, e35, e14, e158, e147, e21, e152, ejp⟩ := id hd
  have n47 : l10.toInt ≠ 47 := fun e => hn (Or.inl e)
  have n40 : l10.toInt ≠ 40 := fun e => hn (Or.inr (Or.inl e))
  have n152 : l10.toInt ≠ 152 := fun e => hn (Or.inr (Or.inr (Or.inl e)))
  have n153 : l10.toInt ≠ 153 := fun e => hn (Or.inr (Or.inr (Or.inr (Or.inl e))))
  have n145 : l10.toInt ≠ 145 := fun e => hn (Or.inr (Or.inr (Or.inr (Or.inr (Or.inl e)))))
  have h8 : l10.toInt = 148 → 1 ≤ x.1.toInt ∧ x.1.toInt ≤ 8 := fun e => (fun q : ¬ (x.1.toInt < 1 ∨ 8 < x.1.toInt) => by omega) (fun q => h10 ⟨e, q⟩)
  obtain ⟨k9, hk9, ek9⟩ : ∃ k : Nat, k < 256 ∧ l10.toInt = (k : Int) := ⟨l10.toInt.toNat, by omega, by omega⟩
  replace hn := hid_i hn
  replace h14 := hid_i h14
  replace h10 := hid_i h10
  replace e21 := hid_i e21
  replace e152 := hid_i e152
  replace ejp := hid_i ejp
  replace e14 := hid_i e14
  replace e147 := hid_i e147
  replace h8 := hid_i h8
  have hE2 := hE
  obtain ⟨p1, p2, p3, p4, p5, p6, p7, p8⟩ := hE2
  replace p7 := hid_i p7
  replace p8 := hid_i p8
  have h := x691 h n152 n153
  rcases x736 h with ⟨⟨q, q2⟩, e⟩ | ⟨k1, h⟩
  · rw [mx_151 q]
    rcases hid_e p7 with ⟨-, r⟩ | ⟨r, -⟩
    · rw [r]
      show v.toInt = 11
      rw [e]; decide
    · exact absurd q2 r
  replace k1 := hid_i k1
  rcases x751 h with ⟨⟨q, q2⟩, e⟩ | ⟨k2, h⟩
  · rw [wt_1 (c := l10.toInt) (by rw [q]; decide)] at hw
    obtain ⟨t', R, hS⟩ := sh_1 hw
    rw [hS, mx_155 q]
    rcases hid_e p8 with ⟨-, r⟩ | ⟨r, -⟩
    · rw [r]
      show v.toInt = 11
      rw [e]; decide
    · exact absurd q2 r
  replace k2 := hid_i k2
  rcases x766 h with ⟨⟨q, q2⟩, e⟩ | ⟨k3, h⟩
  · rw [mx_156 q, if_pos (by rw [← p5.1]; exact q2)]
    show v.toInt = 11
    rw [e]; decide
  replace k3 := hid_i k3
  have h := x782 h n145
  rcases x813 h n145 with ⟨⟨q, q2⟩, e⟩ | ⟨k5, h⟩
  · rw [wt_1 (c := l10.toInt) (by rw [q]; decide)] at hw
    obtain ⟨t', R, hS⟩ := sh_1 hw
    rw [et t' R hS] at q2
    rw [hS, mx_6 q, if_pos q2]
    show v.toInt = 5
    rw [e]; decide
  replace k5 := hid_i k5
  rcases x917 h with ⟨⟨q, q2⟩, e⟩ | ⟨k6, h⟩
  · rw [wt_1 (c := l10.toInt) (by rw [q]; decide)] at hw
    obtain ⟨t', R, hS⟩ := sh_1 hw
    have h8 := hid_e h8 q
    rw [et t' R hS, e12, l_sub (by decide : ((4096 : Int64)).toInt = 4096) (rfl : x.1.toInt = x.1.toInt) (by omega) (by omega)] at q2
    rw [hS, mx_148 q, if_pos q2]
    show v.toInt = 5
    rw [e]; decide
  replace k6 := hid_i k6
  rcases x944 h with ⟨⟨q, q2⟩, e⟩ | ⟨k7, h⟩
  · rw [wt_2 (c := l10.toInt) (by rcases q with q | q <;> (rw [q]; decide))] at hw
    obtain ⟨t', y', Q, hS⟩ := sh_2 hw
    rw [et t' (y' :: Q) hS] at q2
    rw [hS, mx_bin (by rcases q with q | q <;> (rw [q]; decide)), if_pos ⟨q, q2⟩]
    show v.toInt = 6
    rw [e]; decide
  replace k7 := hid_i k7
  have h := x974 h (fun e => e.elim n47 (fun e => n40 e.1))
  have hlen := hv.2.1
  have ht := hv.1
  rcases x1039 h with ⟨⟨q, q2⟩, e⟩ | ⟨k8, h⟩
  · have hpu : ms_pu l10.toInt = true := by
      cases hq : ms_pu l10.toInt with
      | true => rfl
      | false => exact absurd ((w_pushes c0 c1).mpr hq) q
    rw [rs_pv (FR := FR) hl h1 hE hv c0 c1 hpu e12 (hid_e e14) (fun e hh => hid_e h14 ⟨Or.inr e, hh⟩) (hid_e e21) hw (hid_e k1) (hid_e k3) ht et ey]
    unfold ms_ps
    rw [if_pos (by omega)]
    show v.toInt = 4
    rw [e]; decide
  cases hpu : ms_pu l10.toInt with
  | true =>
    have q : (fX12_pushes l10 SH FI FL FR).toInt ≠ 0 := fun e => by
      have := (w_pushes c0 c1).mp e
      rw [hpu] at this
      cases this
    rw [rs_pv (FR := FR) hl h1 hE hv c0 c1 hpu e12 (hid_e e14) (fun e hh => hid_e h14 ⟨Or.inr e, hh⟩) (hid_e e21) hw (hid_e k1) (hid_e k3) ht et ey]
    obtain ⟨u, n4, sl4, SH4, FI4, FL4, FR4, hh, k⟩ := x1064p h n152 n153 q
    unfold ms_ps
    rw [if_neg (fun e => k8 ⟨q, by omega⟩)]
    have := rr_push (o := o) hl h1 hv (by have : ¬ s.1.length = 128 := fun e => k8 ⟨q, by omega⟩; omega) hh
    exact rs_ra h11 hx this rfl k
  | false =>
    obtain ⟨u, n4, sl4, SH4, FI4, FL4, FR4, hh, k⟩ := x1064a h n152 n153 ((w_pushes c0 c1).mpr hpu)
    by_cases g6 : l10.toInt = 6
    · rw [wt_1 (c := l10.toInt) (by rw [g6]; decide)] at hw
      obtain ⟨t', R, hS⟩ := sh_1 hw
      have hv2 : rv FI FL SH l (t' :: R, s.2.1, s.2.2) := by rw [← hS]; exact hv
      have k5' : ¬ (t.toInt < 0 ∨ 4088 < t.toInt) := fun hh => hid_e k5 ⟨g6, hh⟩
      have ett := et t' R hS
      subst ett
      rw [hS, mx_6 g6, if_neg k5']
      exact rs_ra h11 hx (ra_6 hl h1 g6 hv2 hh hE (by omega)) rfl k
    by_cases g148 : l10.toInt = 148
    · rw [wt_1 (c := l10.toInt) (by rw [g148]; decide)] at hw
      obtain ⟨t', R, hS⟩ := sh_1 hw
      have hv2 : rv FI FL SH l (t' :: R, s.2.1, s.2.2) := by rw [← hS]; exact hv
      have ett := et t' R hS
      subst ett
      have h8 := hid_e h8 g148
      have k6 := hid_e k6
      rw [e12, l_sub (by decide : ((4096 : Int64)).toInt = 4096) (rfl : x.1.toInt = x.1.toInt) (by omega) (by omega)] at k6
      have k6' := fun hh => k6 ⟨g148, hh⟩
      rw [e12] at hh
      rw [hS, mx_148 g148, if_neg k6']
      exact rs_ra h11 hx (ra_148 hl h1 g148 hv2 hh hE (by omega) (by omega)) rfl k
    by_cases g19 : l10.toInt = 19
    · rw [wt_1 (c := l10.toInt) (by rw [g19]; decide)] at hw
      obtain ⟨t', R, hS⟩ := sh_1 hw
      have hv2 : rv FI FL SH l (t' :: R, s.2.1, s.2.2) := by rw [← hS]; exact hv
      have ett := et t' R hS
      subst ett
      rw [hS, mx_19 g19]
      exact rs_ra h11 hx (ra_19 hl h1 g19 hv2 hh) rfl k
    by_cases g25 : l10.toInt = 25
    · rw [wt_1 (c := l10.toInt) (by rw [g25]; decide)] at hw
      obtain ⟨t', R, hS⟩ := sh_1 hw
      have hv2 : rv FI FL SH l (t' :: R, s.2.1, s.2.2) := by rw [← hS]; exact hv
      have ett := et t' R hS
      subst ett
      rw [hS, mx_25 g25]
      exact rs_ra h11 hx (ra_25 hl h1 g25 hv2 hh) rfl k
    by_cases g31 : l10.toInt = 31
    · rw [wt_1 (c := l10.toInt) (by rw [g31]; decide)] at hw
      obtain ⟨t', R, hS⟩ := sh_1 hw
      have hv2 : rv FI FL SH l (t' :: R, s.2.1, s.2.2) := by rw [← hS]; exact hv
      have ett := et t' R hS
      subst ett
      rw [hS, mx_31 g31]
      exact rs_ra h11 hx (ra_31 hl h1 g31 hv2 hh) rfl k
    by_cases g32 : l10.toInt = 32
    · rw [wt_1 (c := l10.toInt) (by rw [g32]; decide)] at hw
      obtain ⟨t', R, hS⟩ := sh_1 hw
      have hv2 : rv FI FL SH l (t' :: R, s.2.1, s.2.2) := by rw [← hS]; exact hv
      have ett := et t' R hS
      subst ett
      rw [hS, mx_32 g32]
      exact rs_ra h11 hx (ra_32 hl h1 g32 hv2 hh) rfl k
    by_cases g35 : l10.toInt = 35
    · rw [wt_1 (c := l10.toInt) (by rw [g35]; decide)] at hw
      obtain ⟨t', R, hS⟩ := sh_1 hw
      have hv2 : rv FI FL SH l (t' :: R, s.2.1, s.2.2) := by rw [← hS]; exact hv
      rw [e12] at hh
      rw [hS, mx_35 g35]
      exact rs_ra h11 hx (ra_35 hl h1 g35 hv2 hh) rfl k
    by_cases g155 : l10.toInt = 155
    · rw [wt_1 (c := l10.toInt) (by rw [g155]; decide)] at hw
      obtain ⟨t', R, hS⟩ := sh_1 hw
      have hv2 : rv FI FL SH l (t' :: R, s.2.1, s.2.2) := by rw [← hS]; exact hv
      rw [hS, mx_155 g155]
      rcases hid_e p8 with ⟨r, -⟩ | ⟨-, r⟩
      · exact absurd ⟨g155, r⟩ (hid_e k2)
      · rw [r]
        exact rs_ra h11 hx (ra_155 hl h1 g155 hv2 hh) rfl k
    by_cases g159 : l10.toInt = 159
    · rw [wt_1 (c := l10.toInt) (by rw [g159]; decide)] at hw
      obtain ⟨t', R, hS⟩ := sh_1 hw
      have hv2 : rv FI FL SH l (t' :: R, s.2.1, s.2.2) := by rw [← hS]; exact hv
      rw [hS, mx_159 g159]
      exact rs_ra h11 hx (ra_159 hl h1 g159 hv2 hh) rfl k
    by_cases g22 : l10.toInt = 22
    · rw [wt_2 (c := l10.toInt) (by rw [g22]; decide)] at hw
      obtain ⟨t', y', Q, hS⟩ := sh_2 hw
      have hv2 : rv FI FL SH l (t' :: y' :: Q, s.2.1, s.2.2) := by rw [← hS]; exact hv
      rw [hS, mx_22 g22]
      exact rs_ra h11 hx (ra_22 hl h1 g22 hv2 hh) rfl k
    by_cases g23 : l10.toInt = 23
    · rw [wt_3 g23] at hw
      obtain ⟨t', y', r', Q, hS⟩ := sh_3 hw
      have hv2 : rv FI FL SH l (t' :: y' :: r' :: Q, s.2.1, s.2.2) := by rw [← hS]; exact hv
      rw [hS, mx_23 g23]
      exact rs_ra h11 hx (ra_23 hl h1 g23 hv2 hh) rfl k
    by_cases gb : 26 ≤ l10.toInt ∧ l10.toInt ≤ 46
    · rw [wt_2 (c := l10.toInt) (Or.inr (Or.inr ⟨gb.1, gb.2, g31, g32, g35, n40⟩))] at hw
      obtain ⟨t', y', Q, hS⟩ := sh_2 hw
      have hv2 : rv FI FL SH l (t' :: y' :: Q, s.2.1, s.2.2) := by rw [← hS]; exact hv
      have ett := et t' (y' :: Q) hS
      subst ett
      rw [hS, mx_bin ⟨gb.1, gb.2, g31, g32, g35, n40⟩, if_neg (hid_e k7)]
      exact rs_ra h11 hx (ra_bin hl h1 ⟨gb.1, gb.2, g31, g32, g35, n40⟩ hv2 hh) rfl k
    by_cases g80 : 80 ≤ l10.toInt ∧ l10.toInt ≤ 111
    · rw [mx_80 g80]
      exact rs_ra h11 hx (ra_80 hl h1 g80 hv hh) rfl k
    by_cases g144 : l10.toInt = 144
    · rw [mx_144 g144]
      rw [e12] at hh
      exact rs_ra h11 hx (ra_144 hl h1 g144 (by have q9 : ¬ (x.1.toInt < 0 ∨ 31 < x.1.toInt) := fun hh => hid_e h14 ⟨Or.inl g144, hh⟩; omega) hv hh) rfl k
    by_cases g150 : l10.toInt = 150
    · rw [mx_150 g150]
      exact rs_ra h11 hx (ra_150 hl h1 g150 hv hh) rfl k
    by_cases g158 : l10.toInt = 158
    · rw [mx_158 g158]
      rw [e12] at hh
      obtain ⟨D9, d1, d2, d3, d4⟩ := e158 g158
      exact rs_ra h11 hx (ra_158 hl h1 g158 d1 d2 d3 d4 hv hh) rfl k
    have fin := rs_cod k9 hk9 (by rw [← ek9]; exact hk) (by rw [← ek9]; exact hpu)
    rw [← ek9] at fin
    rcases fin with e | e | e | e | e | e | e | e | e | e | e | e | e | e | e | e | e | e | e | e | e | e | e
    · exact absurd e n47
    · exact absurd e n40
    · exact absurd e n152
    · exact absurd e n153
    · exact absurd e n145
    · exact absurd (Or.inr (Or.inr (Or.inr (Or.inr (Or.inr (Or.inl e)))))) (hid_e hn)
    · exact absurd (Or.inr (Or.inr (Or.inr (Or.inr (Or.inr (Or.inr e)))))) (hid_e hn)
    · exact absurd e g6
    · exact absurd e g148
    · exact absurd e g19
    · exact absurd e g25
    · exact absurd e g31
    · exact absurd e g32
    · exact absurd e g35
    · exact absurd e g155
    · exact absurd e g159
    · exact absurd e g22
    · exact absurd e g23
    · exact absurd e gb
    · exact absurd e g80
    · exact absurd e g144
    · exact absurd e g150
    · exact absurd e g158
theorem rs_691 (hd : rd_c E A bs l o s x l4 l6 l7 l10 l11 l12 l14 SH FI FL) (et : ∀ t' R, s.1 = t' :: R → t = t') (ey : ∀ t' s' Q, s.1 = t' :: s' :: Q → y = s') (hw : ¬ ((s.1.length : Int) < ms_wt l10.toInt x.1)) (h14 : ¬ ((l10.toInt = 144 ∨ l10.toInt = 146) ∧ (x.1.toInt < 0 ∨ 31 < x.1.toInt))) (h10 : ¬ (l10.toInt = 148 ∧ (x.1.toInt < 1 ∨ 8 < x.1.toInt))) (hn : ¬ (l10.toInt = 147 ∨ l10.toInt = 157)) (h : RX12_exec_691 K a1 a2 a3 l4 l6 l7 (((128 : Int32)) * l4) l9 l10 l11 l12 l14 (FI 128 l) t y n sl SH FI FL FR v st) : rs_c K E A bs l o l4 l6 l7 n sl SH FI FL FR v st (ms_d3 E l o bs l10.toInt x s) := by
  unfold ms_d3
  by_cases g1 : l10.toInt = 47
  · rw [if_pos g1]; exact rs_47 hd et ey g1 h
  rw [if_neg g1]
  by_cases g2 : l10.toInt = 40
  · rw [if_pos g2]
    rw [wt_1 (by omega)] at hw
    obtain ⟨t', R, hS⟩ := sh_1 hw
    have ett := et t' R hS
    subst ett
    rw [hS]
    exact rs_40 hd et ey hS g2 h
  rw [if_neg g2]
  by_cases g3 : l10.toInt = 152 ∨ l10.toInt = 153
  · rw [if_pos g3]; exact rs_call hd et ey g3 h
  rw [if_neg g3]
  by_cases g4 : l10.toInt = 145
  · rw [if_pos g4]; exact rs_145 hd et ey g4 h
  rw [if_neg g4]
  exact rs_x hd et ey hw h14 h10 (by omega) h
theorem rs_592 {bw : Int32} (hd : rd_c E A bs l o s x l4 l6 l7 l10 l11 l12 l14 SH FI FL) (hc : (l10.toInt = 147 ∧ bw = 0) ∨ (l10.toInt = 157 ∧ bw = 1)) (h : RX12_exec_592 K a1 a2 a3 l4 l6 l7 l9 l11 l12 l14 bw l4 n sl SH FI FL FR v st) : rs_c K E A bs l o l4 l6 l7 n sl SH FI FL FR v st (match ms_pc l10.toInt x.1 x.2.1 s with | none => .inl 13 | some s2 => .inr (.inl (x.2.2.1, s2))) := by
  obtain ⟨hl, h1, ho, ho8, hb, h6, h7, h11, hx, hE, hv, ⟨c0, c1⟩, hk, e12, e35, e14, e158, e147, e21, e152, ejp⟩ := id hd
  obtain ⟨v0, n0, sl0, SH0, FI0, FL0, FR0, hp, h⟩ := h
  rw [e12, e14 (by omega)] at hp
  have hp := r_piece (o := o) (c := l10.toInt) hl h1 hv (by rcases hc with hc | hc; { exact Or.inl ⟨hc.1, hc.2, e147 hc.1⟩ }; { exact Or.inr hc }) hp
  cases hq : ms_pc l10.toInt x.1 x.2.1 s with
  | none =>
    rw [hq] at hp
    have hp : v0 = 0 := hp
    have h := P_p h (by rw [hp]; decide)
    show v.toInt = 13
    rw [fl h]; decide
  | some s2 =>
    rw [hq] at hp
    obtain ⟨hp, hr⟩ := hp
    have h := P_n h (by rw [hp]; decide)
    exact rs_ra h11 hx hr rfl h
theorem rs_560 (hd : rd_c E A bs l o s x l4 l6 l7 l10 l11 l12 l14 SH FI FL) (h14 : ¬ ((l10.toInt = 144 ∨ l10.toInt = 146) ∧ (x.1.toInt < 0 ∨ 31 < x.1.toInt))) (h10 : ¬ (l10.toInt = 148 ∧ (x.1.toInt < 1 ∨ 8 < x.1.toInt))) (h : RX12_exec_560 K a1 a2 a3 l4 l6 l7 (((128 : Int32)) * l4) l9 l10 l11 l12 l14 n sl SH FI FL FR v st) : rs_c K E A bs l o l4 l6 l7 n sl SH FI FL FR v st (ms_d2 E l o bs l10.toInt x s) := by
  obtain ⟨hl, h1, ho, ho8, hb, h6, h7, h11, hx, hE, hv, ⟨c0, c1⟩, hk, e12, e35, e14, e158, e147, e21, e152, ejp⟩ := id hd
  unfold ms_d2
  have hlen := hv.2.1
  have ht := hv.1
  rcases h with ⟨g1, h⟩ | ⟨g1, h⟩
  · rw [show ((147 : Int32)).toInt = 147 by decide] at g1
    rw [if_pos (Or.inl g1)]
    have h := P_n h (by rw [show ((157 : Int32)).toInt = 157 by decide]; omega)
    exact rs_592 hd (Or.inl ⟨g1, rfl⟩) h
  · rw [show ((147 : Int32)).toInt = 147 by decide] at g1
    rcases h with ⟨g2, h⟩ | ⟨g2, h⟩
    · rw [show ((157 : Int32)).toInt = 157 by decide] at g2
      rw [if_pos (Or.inr g2)]
      have h := P_p h (by rw [show ((157 : Int32)).toInt = 157 by decide]; omega)
      exact rs_592 hd (Or.inr ⟨g2, rfl⟩) h
    · rw [show ((157 : Int32)).toInt = 157 by decide] at g2
      rw [if_neg (fun e => e.elim g1 g2)]
      obtain ⟨-, h⟩ := h
      rw [show l4.toInt.toNat = l by omega, w_wants e35 e21, ht] at h
      rcases h with ⟨q, h⟩ | ⟨q, h⟩
      · rw [if_pos q]
        show v.toInt = 3
        rw [fl h]; decide
      · rw [if_neg q]
        have hS := hv.2.2.1
        have step : ∀ {t : Int64}, (∀ t' R, s.1 = t' :: R → t = t') → RX12_exec_667 K a1 a2 a3 l4 l6 l7 (((128 : Int32)) * l4) l9 l10 l11 l12 l14 (FI 128 l) t n sl SH FI FL FR v st → rs_c K E A bs l o l4 l6 l7 n sl SH FI FL FR v st (ms_d3 E l o bs l10.toInt x s) := by
          intro t et h
          unfold RX12_exec_667 at h
          rw [ht, show ((1 : Int32)).toInt = 1 by decide] at h
          rcases h with ⟨w, -, h⟩ | ⟨w, h⟩
          · refine rs_691 hd et (fun t' s' Q e => ?_) q h14 h10 (fun e => e.elim g1 g2) h
            rw [e] at hS ht
            simp only [List.length_cons] at ht
            have k2 : ((((128 : Int32)) * l4 + FI 128 l) - (2 : Int32)).toInt = ((128 * l + Q.length : Nat) : Int) := by rw [i_sub (rr_ix hl h1 ht (by rw [e] at hlen; simp only [List.length_cons] at hlen; omega)) (by decide : ((2 : Int32)).toInt = 2) (by omega) (by rw [e] at hlen; simp only [List.length_cons] at hlen; omega)]; omega
            rw [show ((((128 : Int32)) * l4 + FI 128 l) - (2 : Int32)).toInt.toNat = 128 * l + Q.length by omega]
            exact hS.2.1
          · refine rs_691 hd et (fun t' s' Q e => ?_) q h14 h10 (fun e => e.elim g1 g2) h
            exfalso
            rw [e] at w
            simp only [List.length_cons] at w
            omega
        rcases h with ⟨w, -, h⟩ | ⟨w, h⟩
        · refine step (fun t' R e => ?_) h
          rw [e] at hS ht hlen
          simp only [List.length_cons] at ht hlen
          have k2 : ((((128 : Int32)) * l4 + FI 128 l) - (1 : Int32)).toInt = ((128 * l + R.length : Nat) : Int) := by rw [i_sub (rr_ix hl h1 ht (by omega)) (by decide : ((1 : Int32)).toInt = 1) (by omega) (by omega)]; omega
          rw [show ((((128 : Int32)) * l4 + FI 128 l) - (1 : Int32)).toInt.toNat = 128 * l + R.length by omega]
          exact hS.1
        · refine step (fun t' R e => ?_) h
          exfalso
          rw [e] at w
          simp only [List.length_cons] at w
          omega
theorem rs_490 (hd : rd_c E A bs l o s x l4 l6 l7 l10 l11 l12 l14 SH FI FL) (h9 : ¬ (s.2.1.1 ≠ 0 ∧ ¬ (l10.toInt = 147 ∨ l10.toInt = 157 ∨ l10.toInt = 150 ∨ l10.toInt = 47 ∨ l10.toInt = 152 ∨ l10.toInt = 153))) (h : RX12_exec_490 K a1 a2 a3 l4 l6 l7 (((128 : Int32)) * l4) l9 l10 l11 l12 l14 n sl SH FI FL FR v st) : rs_c K E A bs l o l4 l6 l7 n sl SH FI FL FR v st (ms_do E l o bs l10.toInt x s) := by
  obtain ⟨hl, h1, ho, ho8, hb, h6, h7, h11, hx, hE, hv, ⟨c0, c1⟩, hk, e12, e35, e14, e158, e147, e21, e152, ejp⟩ := id hd
  unfold ms_do
  rw [if_neg h9]
  have h := x490 h
  rw [e12] at h
  rcases h with ⟨q, e⟩ | ⟨q, h⟩
  · rw [if_pos q]
    show v.toInt = 14
    rw [e]; decide
  · rw [if_neg q]
    rw [← e12] at h
    have h := x527 h
    rw [e12] at h
    rcases h with ⟨q2, e⟩ | ⟨q2, h⟩
    · rw [if_pos q2]
      show v.toInt = 10
      rw [e]; decide
    · rw [if_neg q2]
      rw [← e12] at h
      exact rs_560 hd q q2 h
end RU
end
section
/-! WHAT DECODING GIVES; THE REFERENCE'S RUN. -/
theorem le_st {r : List Int32} {b : Int32} {M : Int} (h0 : 0 ≤ (ms_le r).toInt) (h1 : (ms_le r).toInt ≤ M) (hM : M ≤ 140737488355328) (b0 : 0 ≤ b.toInt) (b1 : b.toInt ≤ 255) : 0 ≤ (ms_le (b :: r)).toInt ∧ (ms_le (b :: r)).toInt ≤ M * 256 + 255 := by
  have e : (ms_le (b :: r)).toInt = (ms_le r).toInt * 256 + b.toInt := by
    show ((ms_le r <<< (((8 : Int32)).toInt64 &&& 63)) ||| b.toInt64).toInt = _
    exact l_or8 (l_shl8 rfl h0 (by omega)) (i_2l rfl) h0 (by omega) b0 b1
  omega
theorem le_rg : ∀ (L : List Int32), (∀ b, b ∈ L → 0 ≤ b.toInt ∧ b.toInt ≤ 255) → L.length ≤ 4 → 0 ≤ (ms_le L).toInt ∧ (ms_le L).toInt ≤ 4294967295 ∧ (L.length ≤ 1 → (ms_le L).toInt ≤ 255)
  | [], _, _ => by decide
  | [a], h, _ => by
    have k1 := le_st (r := []) (M := 0) (by decide) (by decide) (by decide) (h a (by simp)).1 (h a (by simp)).2
    omega
  | [a, b], h, _ => by
    have k1 := le_st (r := []) (M := 0) (by decide) (by decide) (by decide) (h b (by simp)).1 (h b (by simp)).2
    have k2 := le_st (M := 255) k1.1 (by omega) (by decide) (h a (by simp)).1 (h a (by simp)).2
    exact ⟨k2.1, by omega, fun e => absurd e (by simp)⟩
  | [a, b, c], h, _ => by
    have k1 := le_st (r := []) (M := 0) (by decide) (by decide) (by decide) (h c (by simp)).1 (h c (by simp)).2
    have k2 := le_st (M := 255) k1.1 (by omega) (by decide) (h b (by simp)).1 (h b (by simp)).2
    have k3 := le_st (M := 65535) k2.1 (by omega) (by decide) (h a (by simp)).1 (h a (by simp)).2
    exact ⟨k3.1, by omega, fun e => absurd e (by simp)⟩
  | [a, b, c, d], h, _ => by
    have k1 := le_st (r := []) (M := 0) (by decide) (by decide) (by decide) (h d (by simp)).1 (h d (by simp)).2
    have k2 := le_st (M := 255) k1.1 (by omega) (by decide) (h c (by simp)).1 (h c (by simp)).2
    have k3 := le_st (M := 65535) k2.1 (by omega) (by decide) (h b (by simp)).1 (h b (by simp)).2
    have k4 := le_st (M := 16777215) k3.1 (by omega) (by decide) (h a (by simp)).1 (h a (by simp)).2
    exact ⟨k4.1, by omega, fun e => absurd e (by simp)⟩
  | a :: b :: c :: d :: e :: r, _, h => absurd h (by simp)
def ms_by (bs : List Int32) : Prop := ∀ b, b ∈ bs → 0 ≤ b.toInt ∧ b.toInt ≤ 255
theorem bk_by {FI : Nat → Nat → Int32} {SH : Nat → Nat × Nat} {r A : Nat} {L : List Int32} (h : bk FI SH r A L) : ms_by L := fun b hb => by
  obtain ⟨i, hi⟩ := List.mem_iff_getElem?.mp hb
  exact (h.2.2.2 i b hi).2
theorem by_tk {bs : List Int32} {p k : Nat} (h : ms_by bs) : ms_by ((bs.drop p).take k) := fun b hb => h b (List.mem_of_mem_drop (List.mem_of_mem_take hb))
theorem sx_2 (v : Int64) : -32768 ≤ (ms_sx (2 : Int32) v).toInt ∧ (ms_sx (2 : Int32) v).toInt ≤ 32767 := by
  unfold ms_sx
  have e : ((((64 : Int32)) - (((8 : Int32)) * ((2 : Int32)))).toInt64 &&& 63) = Int64.ofNat (8 * 6) := by decide
  rw [e]
  generalize v <<< Int64.ofNat (8 * 6) = w
  have k : (w >>> Int64.ofNat (8 * 6)).toInt = w.toInt / 281474976710656 := by
    show (w >>> Int64.ofNat (8 * 6)).toBitVec.toInt = _
    rw [l_sshr w 6 (by decide), BitVec.toInt_sshiftRight, Int.shiftRight_eq_div_pow]
    rfl
  have := l_rng w
  omega
section MD
variable {bs : List Int32} {p : Nat} {x : ms_O}
theorem md_fx {k : Nat} (h : ms_o1 (ms_fx bs p k) = .inr x) : x = (ms_le ((bs.drop p).take k), 0, p + k, []) ∧ p + k ≤ bs.length := by
  unfold ms_fx at h
  by_cases h1 : bs.length < p + k
  · rw [if_pos h1] at h; cases h
  · rw [if_neg h1] at h
    cases h
    exact ⟨rfl, by omega⟩
theorem md_fs {k : Nat} (h : ms_o1 (ms_fs bs p k) = .inr x) : x = (ms_sx (Int32.ofNat k) (ms_le ((bs.drop p).take k)), 0, p + k, []) ∧ p + k ≤ bs.length := by
  unfold ms_fs at h
  by_cases h1 : bs.length < p + k
  · rw [if_pos h1] at h; cases h
  · rw [if_neg h1] at h
    cases h
    exact ⟨rfl, by omega⟩
theorem md_o1 {r : Int ⊕ (Int64 × Nat)} (h : ms_o1 r = .inr x) : x.2.1 = 0 := by
  unfold ms_o1 at h
  match r, h with
  | .inr y, h => cases h; rfl
theorem md_158 (h : ms_op 158 bs p = .inr x) : ∃ q k : Nat, x.1.toInt = k ∧ x.2.2.1 = q + k ∧ q + k ≤ bs.length ∧ x.2.2.2 = (bs.drop q).take k := by
  have h : ms_o3 bs (ms_lu bs p) = .inr x := h
  generalize ms_lu bs p = r at h
  match r, h with
  | .inr y, h =>
    unfold ms_o3 at h
    (try dsimp only at h)
    by_cases h1 : y.1.toInt < 0 ∨ (bs.length : Int) - y.2 < y.1.toInt
    · rw [if_pos h1] at h; cases h
    · rw [if_neg h1] at h
      cases h
      refine ⟨y.2, y.1.toInt.toNat, ?_, rfl, by omega, rfl⟩
      show y.1.toInt = _
      omega
theorem md_147 (h : ms_op 147 bs p = .inr x) : x.2.1 = 0 := md_o1 (r := ms_lu bs p) h
theorem md_21 (hb : ms_by bs) (h : ms_op 21 bs p = .inr x) : 0 ≤ x.1.toInt ∧ x.1.toInt ≤ 255 := by
  obtain ⟨e, hl⟩ := md_fx (k := 1) h
  rw [e]
  have k := le_rg ((bs.drop p).take 1) (by_tk hb) (by rw [ms_ln hl]; decide)
  exact ⟨k.1, k.2.2 (by rw [ms_ln hl]; decide)⟩
theorem md_152 (hb : ms_by bs) (h : ms_op 152 bs p = .inr x) : 0 ≤ x.1.toInt := by
  obtain ⟨e, hl⟩ := md_fx (k := 2) h
  rw [e]
  exact (le_rg ((bs.drop p).take 2) (by_tk hb) (by rw [ms_ln hl]; decide)).1
theorem md_153 (hb : ms_by bs) (h : ms_op 153 bs p = .inr x) : 0 ≤ x.1.toInt := by
  obtain ⟨e, hl⟩ := md_fx (k := 4) h
  rw [e]
  exact (le_rg ((bs.drop p).take 4) (by_tk hb) (by rw [ms_ln hl]; decide)).1
theorem md_jp {c : Int} (hc : c = 47 ∨ c = 40) (h : ms_op c bs p = .inr x) : -32768 ≤ x.1.toInt ∧ x.1.toInt ≤ 32767 := by
  have h : ms_o1 (ms_fs bs p 2) = .inr x := by
    rcases hc with rfl | rfl
    · exact h
    · exact h
  obtain ⟨e, -⟩ := md_fs (k := 2) h
  rw [e]
  exact sx_2 _
end MD
theorem bk_sub {FI : Nat → Nat → Int32} {SH : Nat → Nat × Nat} {r A q k : Nat} {L : List Int32} (h : bk FI SH r A L) (hq : q + k ≤ L.length) : bk FI SH r (A + q) ((L.drop q).take k) := by
  refine ⟨h.1, by rw [ms_ln hq]; have := h.2.1; omega, h.2.2.1, fun i b hi => ?_⟩
  have hi2 : i < k := by
    have := (List.getElem?_eq_some_iff.mp hi).1
    rw [ms_ln hq] at this
    exact this
  rw [List.getElem?_take_of_lt hi2, List.getElem?_drop] at hi
  rw [show A + q + i = A + (q + i) by omega]
  exact h.2.2.2 (q + i) b hi
section RN
variable {a1 a2 a3 l4 l5 l6 l7 : Int32} {n sl : Nat} {SH : Nat → Nat × Nat} {FI : Nat → Nat → Int32} {FL : Nat → Nat → Int64} {FR : Nat → Nat → Option Nat} {v : Int32} {st : hS} {E : ms_E} {A l o f p : Nat} {bs : List Int32} {s : ms_S}
variable {K : Int32 → Int32 → Int32 → Int32 → Nat → Nat → (Nat → Nat × Nat) → (Nat → Nat → Int32) → (Nat → Nat → Int64) → (Nat → Nat → Option Nat) → Int32 → hS → Prop}
/-- one turn of the loop, at an operation: from a state F1, L1 on that differs from FI, FL by what is counted and decoded alone -/
theorem rs_one (hl : l4.toInt = l) (h1 : l ≤ 1) (ho : (FI 121 29).toInt = o) (ho8 : o ≤ 8) (hb : bk FI SH 124 A bs) (hbl : bs.length ≤ 100000) (h5 : l5.toInt = ((A + p : Nat) : Int)) (h6 : l6.toInt = A) (h7 : l7.toInt = ((A + bs.length : Nat) : Int)) (hp : p < bs.length) (hE : rE FI FL SH E) (hv : rv FI FL SH l s) (hf : (FI 121 30).toInt = f) (hf2 : f ≤ 1000) (h : BX12_exec_18 K a1 a2 a3 l4 l5 l6 l7 n sl SH FI FL FR v st) : (f = 0 ∧ v.toInt = 12) ∨ (f ≠ 0 ∧ ∃ F1 L1, gz l o FI FL F1 L1 ∧ rv F1 L1 SH l s ∧ (F1 121 30).toInt = ((f - 1 : Nat) : Int) ∧ rs_c K E A bs l o l4 l6 l7 n sl SH F1 L1 FR v st (ms_one E l o bs p s)) := by
  obtain ⟨pl, h⟩ := rs_18 (by omega) h
  have b2 := hb.2.1
  have b3 := hb.2.2.1
  unfold RX12_exec_308 at h
  rw [hf] at h
  rcases h with ⟨q, h⟩ | ⟨q, -, h⟩
  · refine Or.inl ⟨by omega, ?_⟩
    rw [fl h]; decide
  refine Or.inr ⟨by omega, ?_⟩
  obtain ⟨b, hb0⟩ := ms_ex_i (bs := bs) (i := p) hp
  obtain ⟨fb1, fb2, fb3⟩ := hb.2.2.2 p b hb0
  rw [show l5.toInt.toNat = A + p by omega, fb1] at h
  have gA : gz l o FI FL (h_up (h_up FI 121 30 (FI 121 30 - (1 : Int32))) 121 31 (FI 121 31 + (1 : Int32))) FL := gz_i (gz_i gz_rf (Or.inl ⟨rfl, by decide, by decide⟩)) (Or.inl ⟨rfl, by decide, by decide⟩)
  have e30 : ((h_up (h_up FI 121 30 (FI 121 30 - (1 : Int32))) 121 31 (FI 121 31 + (1 : Int32))) 121 30).toInt = ((f - 1 : Nat) : Int) := by
    rw [h_up_ne (by decide), h_up_eq, i_sub hf (by decide : ((1 : Int32)).toInt = 1) (by omega) (by omega)]
    omega
  have eA : ∀ c, c ≠ 121 → (h_up (h_up FI 121 30 (FI 121 30 - (1 : Int32))) 121 31 (FI 121 31 + (1 : Int32))) c = FI c := fun c hc => by rw [h_up_nc hc, h_up_nc hc]
  generalize h_up (h_up FI 121 30 (FI 121 30 - (1 : Int32))) 121 31 (FI 121 31 + (1 : Int32)) = FA at h gA e30 eA
  have hvA : rv FA FL SH l s := rv_fr hv ⟨eA 124 (by decide), fun r hr => by rw [eA r (by omega)], fun r i hr _ _ => by rw [eA r (by omega)], rfl, fun _ _ _ => rfl, fun _ _ _ => rfl⟩
  unfold ms_one
  rw [hb0]
  (try dsimp only)
  rw [w_known fb2 fb3] at h
  rcases h with ⟨q2, h⟩ | ⟨q2, h⟩
  · refine ⟨FA, FL, gA, hvA, e30, ?_⟩
    have e : ms_op b.toInt bs (p + 1) = .inl 2 := by
      unfold ms_op
      rw [if_pos q2]
    rw [e]
    show v.toInt = 2
    rw [fl h]; decide
  have hk : ms_kn b.toInt = true := by
    cases hq : ms_kn b.toInt with
    | true => rfl
    | false => exact absurd hq q2
  obtain ⟨v8, n8, sl8, SH8, FI8, FL8, FR8, hop, h⟩ := h
  have gB : gz l o FI FL (h_up FA 121 37 (l5 + (1 : Int32))) FL := gz_i gA (Or.inl ⟨rfl, by decide, by decide⟩)
  have e31 : (h_up FA 121 37 (l5 + (1 : Int32))) 121 30 = FA 121 30 := h_up_ne (by decide)
  have hn : ((h_up FA 121 37 (l5 + (1 : Int32))) 121 37).toInt = ((A + (p + 1) : Nat) : Int) := by
    rw [h_up_eq, i_add h5 (by decide : ((1 : Int32)).toInt = 1) (by omega) (by omega)]
    omega
  have hbB : bk (h_up FA 121 37 (l5 + (1 : Int32))) SH 124 A bs := bk_fr hb (by rw [h_up_nc (by decide)]; exact eA 124 (by decide))
  have hvB : rv (h_up FA 121 37 (l5 + (1 : Int32))) FL SH l s := rv_fr hvA (lf_fk (fk_up (K := [37]) fk_rf (by decide)) (fk_rf (K := [])))
  generalize h_up FA 121 37 (l5 + (1 : Int32)) = FB at hop gB e31 hn hbB hvB
  obtain ⟨F2, L2, e2, ro1, ro2, ro3⟩ := ro_op (p := p + 1) hbB h7 hn (by omega) hk hop
  cases e2
  have g8 : gz l o FI FL FI8 FL8 := gz_tr gB (gz_fk ro1 ro2)
  have e38 : (FI8 121 30).toInt = ((f - 1 : Nat) : Int) := by rw [fk_at ro1 (by decide), e31]; exact e30
  have hb8 : bk FI8 SH 124 A bs := bk_fr hbB (fk_row ro1 (by decide))
  have hv8 : rv FI8 FL8 SH l s := rv_fr hvB (lf_fk ro1 ro2)
  have hE8 : rE FI8 FL8 SH E := rE_gf hE g8
  refine ⟨FI8, FL8, g8, hv8, e38, ?_⟩
  cases hx : ms_op b.toInt bs (p + 1) with
  | inl e =>
    rw [hx] at ro3
    obtain ⟨r1, r2⟩ := ro3
    have h := P_n h (by rw [r1]; exact r2)
    show v.toInt = e
    rw [fl h]; exact r1
  | inr x =>
    rw [hx] at ro3
    obtain ⟨r1, r2, r3, r4, r5, r6⟩ := ro3
    (try dsimp only)
    obtain ⟨-, h⟩ := P_p h r1
    have hd : rd_c E A bs l o s x l4 l6 l7 b (FI8 121 37) (FL8 121 35) (FL8 121 36) SH FI8 FL8 := by
      refine ⟨hl, h1, by rw [g8.2.2.1]; exact ho, ho8, hb8, h6, h7, r5, r6, hE8, hv8, ⟨fb2, fb3⟩, hk, r2, r2, fun e => r3 (decide_eq_false e), fun e => ?_, fun e => ?_, fun e => ?_, fun e => ?_, fun e => ?_⟩
      · rw [e] at hx
        obtain ⟨q9, k9, y1, y2, y3, y4⟩ := md_158 hx
        obtain ⟨z1, z2, z3⟩ := r4 (decide_eq_true e)
        refine ⟨A + q9, by rw [z3]; omega, by rw [y4]; exact bk_sub hb8 y3, by rw [y4, ms_ln y3]; exact y1, ?_⟩
        rw [y4, ms_ln y3]
        omega
      · rw [e] at hx; exact md_147 hx
      · rw [e] at hx; exact md_21 (bk_by hb) hx
      · rcases e with e | e
        · rw [e] at hx; exact md_152 (bk_by hb) hx
        · rw [e] at hx; exact md_153 (bk_by hb) hx
      · exact md_jp e hx
    have el : l4.toInt.toNat = l := by omega
    rw [el] at h
    have hk0 := hv8.2.2.2.1.1
    rw [hk0] at h
    have go : ∀ _ : ¬ (s.2.1.1 ≠ 0 ∧ ¬ (b.toInt = 147 ∨ b.toInt = 157 ∨ b.toInt = 150 ∨ b.toInt = 47 ∨ b.toInt = 152 ∨ b.toInt = 153)), RX12_exec_490 K a1 a2 a3 l4 l6 l7 (((128 : Int32)) * l4) pl b (FI8 121 37) (FL8 121 35) (FL8 121 36) n sl SH FI8 FL8 FR v st → rs_c K E A bs l o l4 l6 l7 n sl SH FI8 FL8 FR v st (ms_do E l o bs b.toInt x s) := fun q h => rs_490 hd q h
    rcases h with ⟨w, h⟩ | ⟨w, h⟩
    · exact go (fun e => e.1 w) h
    rw [show ((147 : Int32)).toInt = 147 by decide, show ((157 : Int32)).toInt = 157 by decide, show ((150 : Int32)).toInt = 150 by decide, show ((47 : Int32)).toInt = 47 by decide, show ((152 : Int32)).toInt = 152 by decide, show ((153 : Int32)).toInt = 153 by decide] at h
    rcases h with ⟨w1, h⟩ | ⟨w1, h⟩
    · exact go (by omega) h
    rcases h with ⟨w2, h⟩ | ⟨w2, h⟩
    · exact go (by omega) h
    rcases h with ⟨w3, h⟩ | ⟨w3, h⟩
    · exact go (by omega) h
    rcases h with ⟨w4, h⟩ | ⟨w4, h⟩
    · exact go (by omega) h
    rcases h with ⟨w5, h⟩ | ⟨w5, h⟩
    · exact go (by omega) h
    rcases h with ⟨w6, h⟩ | ⟨w6, h⟩
    · exact go (by omega) h
    unfold ms_do
    rw [if_pos (by omega)]
    show v.toInt = 9
    rw [fl h]; decide
end RN
end
section
/-! THE REFERENCE'S RUN of one row of bytes. -/
def rn_c (a1 a2 a3 l4 l6 l7 : Int32) (n sl : Nat) (SH : Nat → Nat × Nat) (FI : Nat → Nat → Int32) (FL : Nat → Nat → Int64) (FR : Nat → Nat → Option Nat) (v : Int32) (st : hS) (l o g : Nat) : Int ⊕ (Nat × ms_S) → Prop
  | .inl e => v.toInt = e
  | .inr y => ∃ g2 F2 L2, g2 ≤ g ∧ GX12_exec_18 a1 a2 a3 g2 l4 l7 l6 l7 n sl SH F2 L2 FR v st ∧ rv F2 L2 SH l y.2 ∧ gz l o FI FL F2 L2 ∧ (F2 121 30).toInt = (y.1 : Int) ∧ y.1 ≤ 1000
section RR
variable {a1 a2 a3 l4 l5 l6 l7 : Int32} {n sl : Nat} {SH : Nat → Nat × Nat} {FI F1 F2 F3 F4 : Nat → Nat → Int32} {FL L1 L2 L3 L4 : Nat → Nat → Int64} {FR : Nat → Nat → Option Nat} {v : Int32} {st : hS} {E : ms_E} {A l o f p g : Nat} {bs : List Int32} {s : ms_S}
theorem rn_up {g2 : Nat} {r : Int ⊕ (Nat × ms_S)} (h : rn_c a1 a2 a3 l4 l6 l7 n sl SH F1 L1 FR v st l o g2 r) (hg : g2 ≤ g) (gg : gz l o FI FL F1 L1) : rn_c a1 a2 a3 l4 l6 l7 n sl SH FI FL FR v st l o g r := by
  match r, h with
  | .inl e, h => exact h
  | .inr y, ⟨g3, F2, L2, h1, h2, h3, h4, h5, h6⟩ => exact ⟨g3, F2, L2, by omega, h2, h3, gz_tr gg h4, h5, h6⟩
theorem cf_lf (h : cf l o F1 F2) : lf l F1 L1 F2 L1 := ⟨h.1 124 (by decide) (by decide) (by decide) (by decide) (by decide), fun r hr => by rw [h.1 r (by omega) (by omega) (by omega) (by omega) (by omega)], fun r i hr _ _ => by rw [h.1 r (by omega) (by omega) (by omega) (by omega) (by omega)], rfl, fun _ _ _ => rfl, fun _ _ _ => rfl⟩
theorem cf_lf0 (h : cf l o F1 F2) : lf 0 F1 L1 F2 L1 := ⟨h.1 124 (by decide) (by decide) (by decide) (by decide) (by decide), fun r hr => by rw [h.1 r (by omega) (by omega) (by omega) (by omega) (by omega)], fun r i hr _ _ => by rw [h.1 r (by omega) (by omega) (by omega) (by omega) (by omega)], rfl, fun _ _ _ => rfl, fun _ _ _ => rfl⟩
theorem i_as (x : Int32) : x + (1 : Int32) - (1 : Int32) = x := by
  apply Int32.toBitVec_inj.mp
  show (x.toBitVec + 1#32) - 1#32 = x.toBitVec
  exact BitVec.add_sub_cancel _ _
/-- a call has been gone through -/
theorem cf_gf (h : cf l o F1 F2) (hg : gz l (o + 1) F2 L1 F3 L3) (e1 : ∀ c, c ≠ 121 → c ≠ 142 → F4 c = F3 c) (e2 : ∀ k, k ≠ 29 → k ≠ 33 → F4 121 k = F3 121 k) (e3 : F4 121 29 = F3 121 29 - (1 : Int32)) (e4 : ∀ i, i ≠ l → F4 142 i = F3 142 i) (e5 : F4 142 l = F3 142 l - (1 : Int32)) : gz l o F1 L1 F4 L3 := by
  obtain ⟨a1, a2, a3, a4, a5, a6⟩ := h
  obtain ⟨b1, b2, b3, b4, b5, b6⟩ := hg
  refine ⟨fun c hc => ⟨?_, (b1 c hc).2⟩, fun k hk => ⟨?_, (b2 k hk).2⟩, ?_, fun i hi => ⟨?_, ?_, ?_⟩, fun i hi => ?_, fun h1 => ?_⟩
  · rw [e1 c (by omega) (by omega), (b1 c hc).1, a1 c (by omega) (by omega) (by omega) (by omega) (by omega)]
  · rw [e2 k (by omega) (by omega), (b2 k hk).1, a2 k (by omega) (by omega)]
  · rw [e3, b3, a3, i_as]
  · rw [e1 139 (by decide) (by decide), (b4 i (by omega)).1, (a4 i (by omega)).1]
  · rw [e1 140 (by decide) (by decide), (b4 i (by omega)).2.1, (a4 i (by omega)).2.1]
  · rw [e1 141 (by decide) (by decide), (b4 i (by omega)).2.2, (a4 i (by omega)).2.2]
  · by_cases hi2 : i = l
    · rw [hi2, e5, b5 l (Nat.le_refl _), a6, i_as]
    · rw [e4 i hi2, b5 i hi, a5 i hi2]
  · obtain ⟨c1, c2, c3, c4, c5⟩ := b6 h1
    refine ⟨lf_tr (cf_lf0 ⟨a1, a2, a3, a4, a5, a6⟩) (lf_tr c1 ⟨e1 124 (by decide) (by decide), fun r hr => by rw [e1 r (by omega) (by omega)], fun r i hr _ _ => by rw [e1 r (by omega) (by omega)], rfl, fun _ _ _ => rfl, fun _ _ _ => rfl⟩), ?_, ?_, ?_, c5⟩
    · rw [e2 40 (by decide) (by decide), c2, a2 40 (by decide) (by decide)]
    · rw [e2 41 (by decide) (by decide), c3, a2 41 (by decide) (by decide)]
    · rw [e2 42 (by decide) (by decide), c4, a2 42 (by decide) (by decide)]
theorem bf_lf (h : bf F1 L1 F2 L2) : lf 0 F1 L1 F2 L2 := ⟨h.1 124 (by decide) (by decide) (by decide) (by decide) (by decide) (by decide), fun r hr => by
  by_cases h138 : r = 138
  · rw [h138, h.1 138 (by decide) (by decide) (by decide) (by decide) (by decide) (by decide)]
  · exact h.2.2.2.2.1 r 0 (by omega) (by decide), fun r i hr _ _ => by rw [h.1 r (by omega) (by omega) (by omega) (by omega) (by omega) (by omega)], by rw [h.2.1 137 (by decide)], fun i _ _ => by rw [h.2.1 127 (by decide)], fun i _ _ => by rw [h.2.1 131 (by decide)]⟩
theorem bf_gf (h : bf F1 L1 F2 L2) (hg : gz 1 o F2 L2 F3 L3) : gz 0 o F1 L1 F3 L3 := by
  obtain ⟨a1, a2, a3, a4, a5, a6⟩ := h
  obtain ⟨b1, b2, b3, b4, b5, b6⟩ := hg
  refine ⟨fun c hc => ⟨?_, ?_⟩, fun k hk => ⟨?_, ?_⟩, ?_, fun i hi => ⟨?_, ?_, ?_⟩, fun i hi => ?_, fun h1 => absurd h1 (by first | decide | simp)⟩
  · rw [(b1 c hc).1, a1 c (by omega) (by omega) (by omega) (by omega) (by omega) (by omega)]
  · rw [(b1 c hc).2, a2 c (by omega)]
  · rw [(b2 k hk).1, a3 k (by omega) (by omega)]
  · rw [(b2 k hk).2, a4 k (by omega)]
  · rw [b3, a3 29 (by omega) (by omega)]
  · rw [(b4 i hi).1, a1 139 (by decide) (by decide) (by decide) (by decide) (by decide) (by decide)]
  · rw [(b4 i hi).2.1, a1 140 (by decide) (by decide) (by decide) (by decide) (by decide) (by decide)]
  · rw [(b4 i hi).2.2, a1 141 (by decide) (by decide) (by decide) (by decide) (by decide) (by decide)]
  · have : i = 0 := by omega
    rw [this, b5 0 (by decide), a5 142 0 (by omega) (by decide)]
theorem bf_rv (h : bf F1 L1 F2 L2) : rv F2 L2 SH 1 ([], ms_0, []) := by
  have z := h.2.2.2.2.2
  have z0 : ((0 : Int32)).toInt = 0 := by decide
  exact ⟨by rw [z 128 (by omega)]; exact z0, by decide, trivial, ⟨by rw [z 136 (by omega)]; exact z0, Or.inl ⟨rfl, rfl⟩, fun e => absurd e (by first | decide | simp), fun e => absurd e (by first | decide | simp)⟩, by rw [z 129 (by omega)]; exact z0, by decide, by rw [z 135 (by omega)]; exact z0, by decide, by decide, trivial⟩
/-- the end of FRAME's run -/
theorem r_base {b1 : Int32} {n2 sl2 : Nat} {S2 : Nat → Nat × Nat} {R2 : Nat → Nat → Option Nat} (hE : rE FI FL SH E) (hv : rv FI FL SH 1 s) (h : RX12_isBase n sl SH FI FL FR b1 (n2, sl2, S2, F2, L2, R2)) (hp : s.2.2 ≠ [] → s.2.1.1 = 0 ∧ s.1 = []) : (∃ e, ms_bs E s = .inl e ∧ e = 11 ∧ b1 = 0) ∨ (∃ x, ms_bs E s = .inr x ∧ b1 = 1 ∧ (n2, sl2, S2, F2, L2, R2) = (n, sl, SH, FI, h_up FL 121 39 x, FR)) := by
  obtain ⟨v1, v2, v3, v4, v5, v6, v7, v8, v9, v10⟩ := hv
  obtain ⟨-, h⟩ := h
  unfold ms_bs
  rcases h with ⟨h0, e, -⟩ | ⟨h0, -, h⟩
  · have hne : s.2.2 ≠ [] := by
      intro e
      rw [e] at v5
      rw [v5] at h0
      exact absurd h0 (by first | decide | simp)
    obtain ⟨q1, q2⟩ := hp hne
    rw [if_pos hne, if_neg (by rw [q1, q2]; simp)]
    exact Or.inl ⟨11, rfl, rfl, e⟩
  have hnil : s.2.2 = [] := by
    cases hq : s.2.2 with
    | nil => rfl
    | cons a r => rw [hq] at v5; simp only [List.length_cons] at v5; exfalso; omega
  rw [if_neg (fun e => e hnil)]
  rw [v4.1, show ((2 : Int32)).toInt = 2 by decide] at h
  rcases h with ⟨h2, -, -, e1, e⟩ | ⟨h2, -, h⟩
  · rw [if_pos h2]
    have k1 := v4.2.2.1 (Or.inr (Or.inl h2))
    have k2 : 0 ≤ s.2.1.2.1.toInt ∧ s.2.1.2.1.toInt ≤ 31 := by
      rcases v4.2.1 with q | q | q | q | q
      · exfalso; have := q.1; omega
      · exfalso; have := q.1; omega
      · exact q.2.2
      · exfalso; have := q.1; omega
      · exfalso; have := q.1; omega
    rw [k1, l_2i (A := s.2.1.2.1.toInt) rfl (by omega) (by omega), hE.1 _ (by omega)] at e
    exact Or.inr ⟨_, rfl, e1, e⟩
  rw [if_neg h2]
  rw [show ((3 : Int32)).toInt = 3 by decide] at h
  rcases h with ⟨h3, -, e1, e⟩ | ⟨h3, -, h⟩
  · rw [if_pos h3]
    rw [v4.2.2.1 (Or.inr (Or.inr h3))] at e
    exact Or.inr ⟨_, rfl, e1, e⟩
  rw [if_neg h3]
  try rw [v4.1] at h
  rcases h with ⟨h4, -, h⟩ | ⟨h4, e1, -⟩
  · rw [if_pos h4]
    obtain ⟨S, sr⟩ := s
    (try dsimp only at v1 v3 ⊢)
    rcases h with ⟨h5, -, -, e1, e⟩ | ⟨h5, e1, -⟩
    · cases S with
      | nil => rw [v1] at h5; exact absurd h5 (by first | decide | simp)
      | cons t R =>
        simp only [List.length_cons] at v1 v2
        have k : (((128 : Int32) + FI 128 1) - (1 : Int32)).toInt = ((128 * 1 + R.length : Nat) : Int) := by
          rw [i_sub (i_add (by decide : ((128 : Int32)).toInt = 128) v1 (by omega) (by omega)) (by decide : ((1 : Int32)).toInt = 1) (by omega) (by omega)]
          omega
        rw [show (((128 : Int32) + FI 128 1) - (1 : Int32)).toInt.toNat = 128 * 1 + R.length by omega, show FL 127 (128 * 1 + R.length) = t from v3.1] at e
        exact Or.inr ⟨t, rfl, e1, e⟩
    · cases S with
      | nil => exact Or.inl ⟨11, rfl, rfl, e1⟩
      | cons t R =>
        simp only [List.length_cons] at v1
        rw [v1] at h5
        exfalso; omega
  · rw [if_neg h4]
    exact Or.inl ⟨11, rfl, rfl, e1⟩
theorem rl_run : ∀ (g l o f A p : Nat) (bs : List Int32) (s : ms_S) (l4 l5 l6 l7 : Int32) (FI : Nat → Nat → Int32) (FL : Nat → Nat → Int64), l4.toInt = l → l ≤ 1 → (l = 0 → a1.toInt ≠ 1) → (FI 121 29).toInt = o → o ≤ 8 → bk FI SH 124 A bs → bs.length ≤ 100000 → l5.toInt = ((A + p : Nat) : Int) → p ≤ bs.length → l6.toInt = A → l7.toInt = ((A + bs.length : Nat) : Int) → rE FI FL SH E → rv FI FL SH l s → (FI 121 30).toInt = f → f ≤ 1000 → 0 ≤ (FI 142 l).toInt → (FI 142 l).toInt ≤ o → GX12_exec_18 a1 a2 a3 g l4 l5 l6 l7 n sl SH FI FL FR v st → ∃ r, ms_R E l o bs p f s r ∧ rn_c a1 a2 a3 l4 l6 l7 n sl SH FI FL FR v st l o g r := by
  intro g
  induction g using Nat.strongRecOn with
  | ind g ih =>
    intro l o f A p bs s l4 l5 l6 l7 FI FL hl h1 ha1 ho ho8 hb hbl h5 hp h6 h7 hE hv hf hf2 d0 d1 h
    by_cases hpe : p = bs.length
    · have e5 : l5 = l7 := i_eqv (by rw [h5, h7, hpe])
      rw [e5] at h
      exact ⟨_, ms_R_end hpe, g, FI, FL, Nat.le_refl _, h, hv, gz_rf, hf, hf2⟩
    cases g with
    | zero => exact h.elim
    | succ g =>
      rcases rs_one (K := GX12_exec_18 a1 a2 a3 g) hl h1 ho ho8 hb hbl h5 h6 h7 (by omega) hE hv hf hf2 h with ⟨hf0, e⟩ | ⟨hf0, F1, L1, gA, hvA, e30, hc⟩
      · exact ⟨.inl 12, ms_R_12 hpe hf0, e⟩
      have hEA := rE_gf hE gA
      cases hq : ms_one E l o bs p s with
      | inl e =>
        rw [hq] at hc
        exact ⟨.inl e, ms_R_e hpe hf0 hq, hc⟩
      | inr q =>
        rw [hq] at hc
        match q, hc, hq with
        | .inl x, ⟨pc, F2, L2, k, hpc, hxb, hv2, g2, e2⟩, hq =>
          have g3 := gz_tr gA g2
          obtain ⟨r, hr, hrc⟩ := ih g (Nat.lt_succ_self g) l o (f - 1) A x.1 bs x.2 l4 pc l6 l7 F2 L2 hl h1 ha1 (by rw [g3.2.2.1]; exact ho) ho8 (bk_fr hb (g3.1 124 (by omega)).1) hbl hpc hxb h6 h7 (rE_gf hE g3) hv2 (by rw [e2]; exact e30) (by omega) (by rw [g3.2.2.2.2.1 l (Nat.le_refl _)]; exact d0) (by rw [g3.2.2.2.2.1 l (Nat.le_refl _)]; exact d1) k
          exact ⟨r, ms_R_go hpe hf0 hq hr, rn_up hrc (Nat.le_succ g) g3⟩
        | .inr (.inl x), ⟨k6, k7, F2, k, e6, e7, hx16, hxb, hol, b1, b2, b3, hcf⟩, hq =>
          obtain ⟨x1, x2, x3⟩ := hEA.2.2.1 x.1 hx16
          have hE2 : rE F2 L1 SH E := rE_fr hEA (hcf.1 123 (by decide) (by decide) (by decide) (by decide) (by decide)) (hcf.1 124 (by decide) (by decide) (by decide) (by decide) (by decide)) (hcf.1 125 (by decide) (by decide) (by decide) (by decide) (by decide)) (fun k hk => hcf.2.1 k (by omega) (by omega)) (fun _ _ => rfl) rfl
          have eo : (F2 121 29).toInt = ((o + 1 : Nat) : Int) := by rw [hcf.2.2.1, gA.2.2.1, i_add ho (by decide : ((1 : Int32)).toInt = 1) (by omega) (by omega)]; omega
          have ed : (F2 142 l).toInt = (FI 142 l).toInt + 1 := by rw [hcf.2.2.2.2.2, gA.2.2.2.2.1 l (Nat.le_refl _)]; exact i_add rfl (by decide) (by omega) (by omega)
          obtain ⟨r1, hr1, hc1⟩ := ih g (Nat.lt_succ_self g) l (o + 1) (f - 1) (600 * x.1) 0 (ms_ex E x.1) s l4 k6 k6 k7 F2 L1 hl h1 ha1 eo (by omega) (bk_fr x3 (hcf.1 124 (by decide) (by decide) (by decide) (by decide) (by decide))) (by omega) (by rw [e6, Nat.add_zero]) (by omega) e6 e7 hE2 (rv_fr hvA (cf_lf hcf)) (by rw [hcf.2.1 30 (by decide) (by decide)]; exact e30) (by omega) (by omega) (by omega) k
          match r1, hr1, hc1 with
          | .inl e, hr1, hc1 => exact ⟨.inl e, ms_R_ce hpe hf0 hq hr1, hc1⟩
          | .inr y, hr1, ⟨g2, F3, L3, hg2, k3, hv3, gf3, e3, e3b⟩ =>
            cases g2 with
            | zero => exact k3.elim
            | succ g3 =>
              obtain ⟨-, k3⟩ := P_p k3 (rfl : k7.toInt = k7.toInt)
              have el : l4.toInt.toNat = l := by omega
              have d3 : F3 142 l = F2 142 l := gf3.2.2.2.2.1 l (Nat.le_refl _)
              have k3 := P_p k3 (by rw [el, d3]; omega)
              obtain ⟨-, -, -, -, -, k3⟩ := k3
              have o3 : (F3 121 29).toInt = ((o + 1 : Nat) : Int) := by rw [gf3.2.2.1]; exact eo
              have eo2 : (F3 121 29 - (1 : Int32)).toInt.toNat = o := by rw [i_sub o3 (by decide : ((1 : Int32)).toInt = 1) (by omega) (by omega)]; omega
              obtain ⟨m1, m2, m3⟩ := gf3.2.2.2.1 o (by omega)
              rw [el, eo2, m1, m2, m3, b2, b3] at k3
              have fin : ∀ F4 : Nat → Nat → Int32, (∀ c, c ≠ 121 → c ≠ 142 → F4 c = F3 c) → (∀ k, k ≠ 29 → k ≠ 33 → F4 121 k = F3 121 k) → F4 121 29 = F3 121 29 - (1 : Int32) → (∀ i, i ≠ l → F4 142 i = F3 142 i) → F4 142 l = F3 142 l - (1 : Int32) → GX12_exec_18 a1 a2 a3 g3 l4 (F2 139 o) l6 l7 n sl SH F4 L3 FR v st → ∃ r, ms_R E l o bs p f s r ∧ rn_c a1 a2 a3 l4 l6 l7 n sl SH FI FL FR v st l o (g + 1) r := by
                intro F4 q1 q2 q3 q4 q5 k4
                have g5 := gz_tr gA (cf_gf hcf gf3 q1 q2 q3 q4 q5)
                have hv4 : rv F4 L3 SH l y.2 := rv_fr hv3 ⟨q1 124 (by decide) (by decide), fun r hr => by rw [q1 r (by omega) (by omega)], fun r i hr _ _ => by rw [q1 r (by omega) (by omega)], rfl, fun _ _ _ => rfl, fun _ _ _ => rfl⟩
                obtain ⟨r, hr, hrc⟩ := ih g3 (by omega) l o y.1 A x.2 bs y.2 l4 (F2 139 o) l6 l7 F4 L3 hl h1 ha1 (by rw [g5.2.2.1]; exact ho) ho8 (bk_fr hb (g5.1 124 (by omega)).1) hbl b1 hxb h6 h7 (rE_gf hE g5) hv4 (by rw [q2 30 (by decide) (by decide)]; exact e3) e3b (by rw [g5.2.2.2.2.1 l (Nat.le_refl _)]; exact d0) (by rw [g5.2.2.2.2.1 l (Nat.le_refl _)]; exact d1) k4
                exact ⟨r, ms_R_c hpe hf0 hq hr1 hr, rn_up hrc (by omega) g5⟩
              have q1 : ∀ c, c ≠ 121 → c ≠ 142 → (h_up (h_up F3 142 l (F3 142 l - (1 : Int32))) 121 29 (F3 121 29 - (1 : Int32))) c = F3 c := fun c g1 g2 => by rw [h_up_nc g1, h_up_nc g2]
              have q2 : ∀ k, k ≠ 29 → k ≠ 33 → (h_up (h_up F3 142 l (F3 142 l - (1 : Int32))) 121 29 (F3 121 29 - (1 : Int32))) 121 k = F3 121 k := fun k g1 _ => by rw [h_up_ne g1, h_up_nc (by decide)]
              have q4 : ∀ i, i ≠ l → (h_up (h_up F3 142 l (F3 142 l - (1 : Int32))) 121 29 (F3 121 29 - (1 : Int32))) 142 i = F3 142 i := fun i hi => by rw [h_up_nc (by decide), h_up_ne hi]
              have q5 : (h_up (h_up F3 142 l (F3 142 l - (1 : Int32))) 121 29 (F3 121 29 - (1 : Int32))) 142 l = F3 142 l - (1 : Int32) := by rw [h_up_nc (by decide), h_up_eq]
              rcases k3 with ⟨-, -, k3⟩ | ⟨-, k3⟩
              · rcases k3 with ⟨-, k3⟩ | ⟨-, k3⟩
                · exact fin _ (fun c g1 g2 => by rw [h_up_nc g1]; exact q1 c g1 g2) (fun k g1 g2 => by rw [h_up_ne g2]; exact q2 k g1 g2) (by rw [h_up_ne (by decide), h_up_eq]) (fun i hi => by rw [h_up_nc (by decide)]; exact q4 i hi) (by rw [h_up_nc (by decide)]; exact q5) k3
                · exact fin _ q1 q2 h_up_eq q4 q5 k3
              · exact fin _ q1 q2 h_up_eq q4 q5 k3
        | .inr (.inr x), ⟨hl0, hfr, k6, k7, F2, L2, k, e6, e7, hxb, b40, b41, b42, b44, hbf⟩, hq =>
          subst hl0
          obtain ⟨x1, x2, x3⟩ := hEA.2.2.1 (ms_fr E).toNat (by have := hE.2.2.2.1; omega)
          have hE2 : rE F2 L2 SH E := rE_fr hEA (hbf.1 123 (by decide) (by decide) (by decide) (by decide) (by decide) (by decide)) (hbf.1 124 (by decide) (by decide) (by decide) (by decide) (by decide) (by decide)) (hbf.1 125 (by decide) (by decide) (by decide) (by decide) (by decide) (by decide)) (fun k hk => hbf.2.2.1 k (by omega) (by omega)) (fun k hk => hbf.2.2.2.1 k (by omega)) (hbf.2.1 122 (by decide))
          have eo : (F2 121 29).toInt = (o : Int) := by rw [hbf.2.2.1 29 (by omega) (by omega), gA.2.2.1]; exact ho
          have z142 : (F2 142 1).toInt = 0 := by rw [hbf.2.2.2.2.2 142 (by omega)]; decide
          obtain ⟨r1, hr1, hc1⟩ := ih g (Nat.lt_succ_self g) 1 o (f - 1) (600 * (ms_fr E).toNat) 0 (ms_ex E (ms_fr E).toNat) ([], ms_0, []) 1 k6 k6 k7 F2 L2 (by decide) (by decide) (fun e => absurd e (by first | decide | simp)) eo ho8 (bk_fr x3 (hbf.1 124 (by decide) (by decide) (by decide) (by decide) (by decide) (by decide))) (by omega) (by rw [e6, Nat.add_zero]) (by omega) e6 e7 hE2 (bf_rv hbf) (by rw [hbf.2.2.1 30 (by omega) (by omega)]; exact e30) (by omega) (by omega) (by omega) k
          match r1, hr1, hc1 with
          | .inl e, hr1, hc1 => exact ⟨.inl e, ms_R_be hpe hf0 hq hr1, hc1⟩
          | .inr y, hr1, ⟨g2, F3, L3, hg2, k3, hv3, gf3, e3, e3b⟩ =>
            cases g2 with
            | zero => exact k3.elim
            | succ g3 =>
              obtain ⟨-, k3⟩ := P_p k3 (rfl : k7.toInt = k7.toInt)
              rw [show ((1 : Int32)).toInt.toNat = 1 by decide] at k3
              have d3 : F3 142 1 = F2 142 1 := gf3.2.2.2.2.1 1 (Nat.le_refl _)
              have k3 := P_n k3 (by rw [d3]; omega)
              obtain ⟨-, k3⟩ := P_p k3 (rfl : k7.toInt = k7.toInt)
              rw [show ((1 : Int32)).toInt.toNat = 1 by decide] at k3
              have hE3 : rE F3 L3 SH E := rE_gf hE2 gf3
              obtain ⟨w1, w2, w3, w4, w5, w6, w7, w8, w9, w10⟩ := id hv3
              have go : (y.2.2.2 ≠ [] → y.2.2.1.1 = 0 ∧ y.2.1 = []) → RX12_exec_175 (GX12_exec_18 a1 a2 a3 g3) a1 a2 a3 1 n sl SH F3 L3 FR v st → ∃ r, ms_R E 0 o bs p f s r ∧ rn_c a1 a2 a3 l4 l6 l7 n sl SH FI FL FR v st 0 o (g + 1) r := by
                intro hpp k4
                have k4 := P_n k4 (by decide)
                obtain ⟨b1, n1, sl1, SH1, FI1, FL1, FR1, hbase, k4⟩ := k4
                rcases r_base hE3 hv3 hbase hpp with ⟨e, e1, e2, e4⟩ | ⟨z, e1, e2, e4⟩
                · have k4 := P_p k4 (by rw [e4]; decide)
                  refine ⟨.inl e, ms_R_bf hpe hf0 hq hr1 e1, ?_⟩
                  show v.toInt = e
                  rw [fl k4, e2]; decide
                · cases e4
                  have k4 := P_n k4 (by rw [e2]; decide)
                  have k4 := P_n k4 (by rw [show ((1 : Int32)).toInt = 1 by decide]; exact ha1 rfl)
                  obtain ⟨-, k4⟩ := k4
                  have hv0 : rv F3 L3 SH 0 s := rv_fr (rv_fr hvA (bf_lf hbf)) (gf3.2.2.2.2.2 rfl).1
                  rw [hv0.1, show ((128 : Int32)).toInt = 128 by decide] at k4
                  rcases k4 with ⟨h128, k4⟩ | ⟨h128, k4⟩
                  · refine ⟨.inl 4, ms_R_b4 hpe hf0 hq hr1 e1 (by omega), ?_⟩
                    show v.toInt = 4
                    rw [fl k4]; decide
                  · obtain ⟨u8, n8, sl8, SH8, FI8, FL8, FR8, hpush, k4⟩ := k4
                    have hlen := hv0.2.1
                    have hvp : rv (h_up F3 121 33 (F3 121 43)) (h_up L3 121 39 z) SH 0 s := rv_fr hv0 (lf_fk (fk_up (K := [33]) fk_rf (by decide)) (fk_up (K := [39]) fk_rf (by decide)))
                    obtain ⟨F5, L5, e5, hv5, g5, e35⟩ := rr_push (l := 0) (o := o) (by decide) (by decide) hvp (by omega) hpush
                    cases e5
                    rw [h_up_eq, h_up_ne (show (44 : Nat) ≠ 39 by decide), (gf3.2.2.2.2.2 rfl).2.2.2.2, b44] at hv5
                    have g6 : gz 0 o FI FL FI8 FL8 := gz_tr gA (gz_tr (bf_gf hbf gf3) (gz_tr (gz_i (gz_l gz_rf (Or.inl ⟨rfl, Or.inr (Or.inr rfl)⟩)) (Or.inl ⟨rfl, by decide, by decide⟩)) g5))
                    have c40 : F3 121 40 = F2 121 40 := (gf3.2.2.2.2.2 rfl).2.1
                    have c41 : F3 121 41 = F2 121 41 := (gf3.2.2.2.2.2 rfl).2.2.1
                    have c42 : F3 121 42 = F2 121 42 := (gf3.2.2.2.2.2 rfl).2.2.2.1
                    rw [c41, c42, b41, b42] at k4
                    have e0 : l4 = 0 := i_eqv (by rw [hl]; decide)
                    rw [e0]
                    obtain ⟨r, hr, hrc⟩ := ih g3 (by omega) 0 o y.1 A x.2 bs ((z + x.1) :: s.1, s.2) 0 (F3 121 40) l6 l7 FI8 FL8 (by decide) (by decide) ha1 (by rw [g6.2.2.1]; exact ho) ho8 (bk_fr hb (g6.1 124 (by omega)).1) hbl (by rw [c40]; exact b40) hxb h6 h7 (rE_gf hE g6) hv5 (by rw [e35, h_up_ne (by decide)]; exact e3) e3b (by rw [g6.2.2.2.2.1 0 (Nat.le_refl _)]; exact d0) (by rw [g6.2.2.2.2.1 0 (Nat.le_refl _)]; exact d1) k4
                    exact ⟨r, ms_R_b hpe hf0 hq hr1 e1 (by omega) hr, rn_up hrc (by omega) g6⟩
              have bad : y.2.2.2 ≠ [] → (y.2.2.1.1 ≠ 0 ∨ y.2.1 ≠ []) → RX12_exec_153 a1 a2 a3 1 n sl SH F3 L3 FR v st → ∃ r, ms_R E 0 o bs p f s r ∧ rn_c a1 a2 a3 l4 l6 l7 n sl SH FI FL FR v st 0 o (g + 1) r := by
                intro q1 q2 k4
                have k4 := P_n k4 (by decide)
                refine ⟨.inl 13, ms_R_bf hpe hf0 hq hr1 (by unfold ms_bs; rw [if_pos q1, if_pos q2]), ?_⟩
                show v.toInt = 13
                rw [fl k4]; decide
              have nn : 0 < (F3 129 1).toInt → y.2.2.2 ≠ [] := fun hlt e => by
                rw [w5, e] at hlt
                exact absurd hlt (by first | decide | simp)
              rcases k3 with ⟨hlt, -, k3⟩ | ⟨hlt, k3⟩
              · rw [w4.1] at k3
                rcases k3 with ⟨hh, -, k3⟩ | ⟨hh, k3⟩
                · rw [w1] at k3
                  rcases k3 with ⟨hs, k3⟩ | ⟨hs, k3⟩
                  · exact bad (nn hlt) (Or.inr (fun e => by rw [e] at hs; exact absurd hs (by first | decide | simp))) k3
                  · refine go (fun _ => ⟨hh, ?_⟩) k3
                    cases hy : y.2.1 with
                    | nil => rfl
                    | cons a r => rw [hy] at hs; simp only [List.length_cons] at hs; exfalso; omega
                · exact bad (nn hlt) (Or.inl hh) k3
              · refine go (fun e => ?_) k3
                exfalso
                cases hy : y.2.2.2 with
                | nil => exact e hy
                | cons a r => rw [w5, hy] at hlt; simp only [List.length_cons] at hlt; omega
end RR
end
section
/-! A HOLD is never an ADDRESS. -/
def hz (H : ms_H) : Prop := H.1 ≠ 1 ∧ H.2.2.length ≤ 600
def sz (s : ms_S) : Prop := hz s.2.1 ∧ ∀ p, p ∈ s.2.2 → p.1.2.2.length ≤ 600
theorem ps_h {v : Int64} {S : List Int64} {H : ms_H} {y : List Int64 × ms_H} (hH : hz H) (h : ms_ps v S H = .inr y) : hz y.2 := by
  unfold ms_ps at h
  by_cases h1 : S.length = 128
  · rw [if_pos h1] at h; cases h
  · rw [if_neg h1] at h; cases h; exact hH
theorem mx_h {E : ms_E} {c : Int} {a b : Int64} {bl : List Int32} {S : List Int64} {H : ms_H} {y : List Int64 × ms_H} (hbl : bl.length ≤ 600) (hH : hz H) (h : ms_x E c a b bl S H = .inr y) : hz y.2 := by
  unfold ms_x at h
  by_cases g0 : 48 ≤ c ∧ c ≤ 79
  · rw [if_pos g0] at h
    exact ps_h hH h
  rw [if_neg g0] at h
  by_cases g1 : 80 ≤ c ∧ c ≤ 111
  · rw [if_pos g1] at h
    cases h; exact ⟨by show (2 : Int) ≠ 1; decide, by show ([] : List Int32).length ≤ 600; decide⟩
  rw [if_neg g1] at h
  by_cases g2 : 112 ≤ c ∧ c ≤ 143
  · rw [if_pos g2] at h
    exact ps_h hH h
  rw [if_neg g2] at h
  by_cases g3 : c = 3 ∨ (8 ≤ c ∧ c ≤ 17)
  · rw [if_pos g3] at h
    exact ps_h hH h
  rw [if_neg g3] at h
  by_cases g4 : c = 144
  · rw [if_pos g4] at h
    cases h; exact ⟨by show (2 : Int) ≠ 1; decide, by show ([] : List Int32).length ≤ 600; decide⟩
  rw [if_neg g4] at h
  by_cases g5 : c = 146
  · rw [if_pos g5] at h
    exact ps_h hH h
  rw [if_neg g5] at h
  by_cases g6 : c = 150
  · rw [if_pos g6] at h
    cases h; exact hH
  rw [if_neg g6] at h
  by_cases g7 : c = 151
  · rw [if_pos g7] at h
    cases ho : ms_ob E with
    | none => rw [ho] at h; cases h
    | some v => rw [ho] at h; exact ps_h hH h
  rw [if_neg g7] at h
  by_cases g8 : c = 156
  · rw [if_pos g8] at h
    by_cases hq : ms_cr E = -1
    · rw [if_pos hq] at h; cases h
    · rw [if_neg hq] at h; exact ps_h hH h
  rw [if_neg g8] at h
  by_cases g9 : c = 158
  · rw [if_pos g9] at h
    cases h; exact ⟨by show (4 : Int) ≠ 1; decide, hbl⟩
  rw [if_neg g9] at h
  match S, h with
  | [], h => cases h
  | t :: R, h =>
    (try dsimp only at h)
    by_cases k0 : c = 6
    · rw [if_pos k0] at h
      by_cases hq : t.toInt < 0 ∨ 4088 < t.toInt
      · rw [if_pos hq] at h; cases h
      · rw [if_neg hq] at h; cases h; exact hH
    rw [if_neg k0] at h
    by_cases k1 : c = 148
    · rw [if_pos k1] at h
      by_cases hq : t.toInt < 0 ∨ 4096 - a.toInt < t.toInt
      · rw [if_pos hq] at h; cases h
      · rw [if_neg hq] at h; cases h; exact hH
    rw [if_neg k1] at h
    by_cases k2 : c = 18
    · rw [if_pos k2] at h
      exact ps_h hH h
    rw [if_neg k2] at h
    by_cases k3 : c = 19
    · rw [if_pos k3] at h
      cases h; exact hH
    rw [if_neg k3] at h
    by_cases k4 : c = 21
    · rw [if_pos k4] at h
      exact ps_h hH h
    rw [if_neg k4] at h
    by_cases k5 : c = 25
    · rw [if_pos k5] at h
      cases h; exact hH
    rw [if_neg k5] at h
    by_cases k6 : c = 31
    · rw [if_pos k6] at h
      cases h; exact hH
    rw [if_neg k6] at h
    by_cases k7 : c = 32
    · rw [if_pos k7] at h
      cases h; exact hH
    rw [if_neg k7] at h
    by_cases k8 : c = 35
    · rw [if_pos k8] at h
      cases h; exact hH
    rw [if_neg k8] at h
    by_cases k9 : c = 155
    · rw [if_pos k9] at h
      cases ho : ms_tl E with
      | none => rw [ho] at h; cases h
      | some v => rw [ho] at h; cases h; exact hH
    rw [if_neg k9] at h
    by_cases k10 : c = 159
    · rw [if_pos k10] at h
      cases h; exact ⟨by show (3 : Int) ≠ 1; decide, by show ([] : List Int32).length ≤ 600; decide⟩
    rw [if_neg k10] at h
    match R, h with
    | [], h => cases h
    | s :: Q, h =>
      (try dsimp only at h)
      by_cases m0 : c = 20
      · rw [if_pos m0] at h
        exact ps_h hH h
      rw [if_neg m0] at h
      by_cases m1 : c = 22
      · rw [if_pos m1] at h; cases h; exact hH
      rw [if_neg m1] at h
      by_cases m2 : c = 23
      · rw [if_pos m2] at h
        match Q, h with
        | [], h => cases h
        | r :: Q2, h => cases h; exact hH
      rw [if_neg m2] at h
      by_cases m3 : (c = 27 ∨ c = 29) ∧ t.toInt = 0
      · rw [if_pos m3] at h; cases h
      · rw [if_neg m3] at h; cases h; exact hH
theorem jp_h {bs : List Int32} {p : Nat} {a : Int64} {s : ms_S} {x : Nat × ms_S} (hs : sz s) (h : ms_jp bs p a s = .inr (.inl x)) : sz x.2 := by
  unfold ms_jp at h
  by_cases h1 : (p : Int) + a.toInt < 0 ∨ (bs.length : Int) < p + a.toInt
  · rw [if_pos h1] at h; cases h
  · rw [if_neg h1] at h; cases h; exact hs
theorem o1_b {r : Int ⊕ (Int64 × Nat)} {y : ms_O} (h : ms_o1 r = .inr y) : y.2.2.2 = [] := by
  unfold ms_o1 at h
  match r, h with
  | .inr x, h => cases h; rfl
theorem o2_b {r : Int ⊕ (Int64 × Nat)} {q : Nat → Int ⊕ (Int64 × Nat)} {y : ms_O} (h : ms_o2 r q = .inr y) : y.2.2.2 = [] := by
  unfold ms_o2 at h
  match r, h with
  | .inr x, h =>
    (try dsimp only at h)
    cases hq : q x.2 with
    | inl e => rw [hq] at h; cases h
    | inr z => rw [hq] at h; cases h; rfl
theorem op_b {c : Int} {bs : List Int32} {p : Nat} {y : ms_O} (hl : bs.length ≤ 600) (h : ms_op c bs p = .inr y) : y.2.2.2.length ≤ 600 := by
  unfold ms_op at h
  by_cases h0 : ms_kn c = false
  · rw [if_pos h0] at h; cases h
  rw [if_neg h0] at h
  by_cases h1 : ms_sh c = 24
  · rw [if_pos h1] at h
    generalize ms_lu bs p = r at h
    unfold ms_o3 at h
    match r, h with
    | .inr x, h =>
      (try dsimp only at h)
      by_cases h2 : x.1.toInt < 0 ∨ (bs.length : Int) - x.2 < x.1.toInt
      · rw [if_pos h2] at h; cases h
      · rw [if_neg h2] at h
        cases h
        show ((bs.drop x.2).take x.1.toInt.toNat).length ≤ 600
        rw [List.length_take, List.length_drop]
        omega
  rw [if_neg h1] at h
  have nil : ∀ {z : List Int32}, z = [] → z.length ≤ 600 := fun e => by rw [e]; decide
  by_cases h2 : ms_sh c = 23
  · rw [if_pos h2] at h; exact nil (o2_b h)
  rw [if_neg h2] at h
  by_cases h3 : ms_sh c = 22
  · rw [if_pos h3] at h; exact nil (o2_b h)
  rw [if_neg h3] at h
  by_cases h4 : ms_sh c = 21
  · rw [if_pos h4] at h; exact nil (o1_b h)
  rw [if_neg h4] at h
  by_cases h5 : ms_sh c = 20
  · rw [if_pos h5] at h; exact nil (o1_b h)
  rw [if_neg h5] at h
  by_cases h6 : 10 < ms_sh c
  · rw [if_pos h6] at h; exact nil (o1_b h)
  · rw [if_neg h6] at h; exact nil (o1_b h)
theorem tg_b {s : ms_S} (hs : sz s) : (ms_tg s).2.2.length ≤ 600 := by
  unfold ms_tg
  by_cases h : s.2.1.1 = 0
  · rw [if_pos h]
    cases s.1 with
    | nil => show ([] : List Int32).length ≤ 600; decide
    | cons t R => show ([] : List Int32).length ≤ 600; decide
  · rw [if_neg h]; exact hs.1.2
theorem one_h {E : ms_E} {l o : Nat} {bs : List Int32} {p : Nat} {s : ms_S} {x : Nat × ms_S} (hbs : bs.length ≤ 600) (hs : sz s) (h : ms_one E l o bs p s = .inr (.inl x)) : sz x.2 := by
  unfold ms_one at h
  cases hb : bs[p]? with
  | none => rw [hb] at h; cases h
  | some b =>
    rw [hb] at h
    (try dsimp only at h)
    cases ho : ms_op b.toInt bs (p + 1) with
    | inl e => rw [ho] at h; cases h
    | inr y =>
      rw [ho] at h
      (try dsimp only at h)
      unfold ms_do at h
      by_cases h1 : s.2.1.1 ≠ 0 ∧ ¬ (b.toInt = 147 ∨ b.toInt = 157 ∨ b.toInt = 150 ∨ b.toInt = 47 ∨ b.toInt = 152 ∨ b.toInt = 153)
      · rw [if_pos h1] at h; cases h
      rw [if_neg h1] at h
      by_cases h2 : (b.toInt = 144 ∨ b.toInt = 146) ∧ (y.1.toInt < 0 ∨ 31 < y.1.toInt)
      · rw [if_pos h2] at h; cases h
      rw [if_neg h2] at h
      by_cases h3 : b.toInt = 148 ∧ (y.1.toInt < 1 ∨ 8 < y.1.toInt)
      · rw [if_pos h3] at h; cases h
      rw [if_neg h3] at h
      unfold ms_d2 at h
      by_cases h4 : b.toInt = 147 ∨ b.toInt = 157
      · rw [if_pos h4] at h
        cases hp : ms_pc b.toInt y.1 y.2.1 s with
        | none => rw [hp] at h; cases h
        | some s2 =>
          rw [hp] at h
          cases h
          unfold ms_pc at hp
          by_cases hc9 : s.2.2.length = 16 ∨ y.1.toInt < 0 ∨ (if b.toInt = 157 then 4096 else 512) < y.1.toInt ∨ (b.toInt = 157 ∧ (y.2.1.toInt < 0 ∨ 4096 < y.2.1.toInt)) ∨ 4096 < ms_tb s.2.2 + (if b.toInt = 157 then y.1.toInt else 8 * y.1.toInt)
          · rw [if_pos hc9] at hp; cases hp
          · rw [if_neg hc9] at hp
            cases hp
            refine ⟨⟨by show (0 : Int) ≠ 1; decide, by show ([] : List Int32).length ≤ 600; decide⟩, fun q hq => ?_⟩
            rcases List.mem_cons.mp hq with e | e
            · rw [e]; exact tg_b hs
            · exact hs.2 q e
      rw [if_neg h4] at h
      by_cases h5 : (s.1.length : Int) < ms_wt b.toInt y.1
      · rw [if_pos h5] at h; cases h
      rw [if_neg h5] at h
      unfold ms_d3 at h
      by_cases h6 : b.toInt = 47
      · rw [if_pos h6] at h; exact jp_h hs h
      rw [if_neg h6] at h
      by_cases h7 : b.toInt = 40
      · rw [if_pos h7] at h
        cases hS : s.1 with
        | nil => rw [hS] at h; cases h
        | cons t R =>
          rw [hS] at h
          (try dsimp only at h)
          by_cases h8 : t.toInt = 0
          · rw [if_pos h8] at h; cases h; exact hs
          · rw [if_neg h8] at h; exact jp_h (s := (R, s.2)) hs h
      rw [if_neg h7] at h
      by_cases h9 : b.toInt = 152 ∨ b.toInt = 153
      · rw [if_pos h9] at h
        by_cases ha : 15 < y.1.toInt ∨ o = 8
        · rw [if_pos ha] at h; cases h
        · rw [if_neg ha] at h; cases h
      rw [if_neg h9] at h
      by_cases h10 : b.toInt = 145
      · rw [if_pos h10] at h
        by_cases ha : l = 1 ∨ ms_fr E = -1
        · rw [if_pos ha] at h; cases h
        · rw [if_neg ha] at h; cases h
      rw [if_neg h10] at h
      unfold ms_d4 at h
      cases hx : ms_x E b.toInt y.1 y.2.1 y.2.2.2 s.1 s.2.1 with
      | inl e => rw [hx] at h; cases h
      | inr z =>
        rw [hx] at h
        cases h
        exact ⟨mx_h (op_b hbs ho) hs.1 hx, hs.2⟩
theorem one_c {E : ms_E} {l o : Nat} {bs : List Int32} {p : Nat} {s : ms_S} {x : Nat × Nat} (h : ms_one E l o bs p s = .inr (.inr (.inl x))) : x.1 < 16 := by
  unfold ms_one at h
  cases hb : bs[p]? with
  | none => rw [hb] at h; cases h
  | some b =>
    rw [hb] at h
    (try dsimp only at h)
    cases ho : ms_op b.toInt bs (p + 1) with
    | inl e => rw [ho] at h; cases h
    | inr y =>
      rw [ho] at h
      (try dsimp only at h)
      unfold ms_do at h
      split at h
      · cases h
      split at h
      · cases h
      split at h
      · cases h
      unfold ms_d2 at h
      split at h
      · split at h
        · cases h
        · cases h
      split at h
      · cases h
      unfold ms_d3 at h
      split at h
      · unfold ms_jp at h
        split at h
        · cases h
        · cases h
      split at h
      · split at h
        · cases h
        · split at h
          · cases h
          · unfold ms_jp at h
            split at h
            · cases h
            · cases h
      split at h
      · split at h
        · cases h
        · cases h
          show y.1.toInt.toNat < 16
          omega
      split at h
      · split at h
        · cases h
        · cases h
      unfold ms_d4 at h
      split at h
      · cases h
      · cases h
theorem run_h {E : ms_E} (hex : ∀ k, k < 16 → (ms_ex E k).length ≤ 600) (hfr : ms_fr E ≤ 15) : ∀ (g l o : Nat) (bs : List Int32) (p f : Nat) (s : ms_S) (y : Nat × ms_S), bs.length ≤ 600 → sz s → ms_run E g l o bs p f s = some (.inr y) → sz y.2 := by
  intro g
  induction g with
  | zero => intro l o bs p f s y _ _ h; cases h
  | succ g ih =>
    intro l o bs p f s y hbs hs h
    rw [ms_run] at h
    by_cases h1 : p = bs.length
    · rw [if_pos h1] at h
      cases h
      exact hs
    rw [if_neg h1] at h
    by_cases h2 : f = 0
    · rw [if_pos h2] at h; cases h
    rw [if_neg h2] at h
    cases hq : ms_one E l o bs p s with
    | inl e => rw [hq] at h; cases h
    | inr q =>
      rw [hq] at h
      match q, h, hq with
      | .inl x, h, hq => exact ih _ _ _ _ _ _ _ hbs (one_h hbs hs hq) h
      | .inr (.inl x), h, hq =>
        (try dsimp only at h)
        cases hc : ms_run E g l (o + 1) (ms_ex E x.1) 0 (f - 1) s with
        | none => rw [hc] at h; cases h
        | some w =>
          rw [hc] at h
          match w, h, hc with
          | .inl e, h, _ => cases h
          | .inr z, h, hc => exact ih _ _ _ _ _ _ _ hbs (ih _ _ _ _ _ _ _ (hex _ (one_c hq)) hs hc) h
      | .inr (.inr x), h, hq =>
        (try dsimp only at h)
        cases hc : ms_run E g 1 o (ms_ex E (ms_fr E).toNat) 0 (f - 1) ([], ms_0, []) with
        | none => rw [hc] at h; cases h
        | some w =>
          rw [hc] at h
          match w, h, hc with
          | .inl e, h, _ => cases h
          | .inr z, h, hc =>
            (try dsimp only at h)
            cases hb : ms_bs E z.2 with
            | inl e => rw [hb] at h; cases h
            | inr v =>
              rw [hb] at h
              (try dsimp only at h)
              by_cases h3 : s.1.length = 128
              · rw [if_pos h3] at h; cases h
              · rw [if_neg h3] at h
                exact ih _ _ _ _ _ _ _ hbs (show sz ((v + x.1) :: s.1, s.2) from hs) h
theorem sz_0 : sz ([], ms_0, []) := ⟨⟨by show (0 : Int) ≠ 1; decide, by show ([] : List Int32).length ≤ 600; decide⟩, fun p hp => by cases hp⟩
theorem ms_hz {E : ms_E} (hex : ∀ k, k < 16 → (ms_ex E k).length ≤ 600) (hfr : ms_fr E ≤ 15) {l o : Nat} {bs : List Int32} {p f : Nat} {s : ms_S} {y : Nat × ms_S} (h : ms_R E l o bs p f s (.inr y)) (hbs : bs.length ≤ 600) (hs : sz s) : sz y.2 := by
  obtain ⟨g, h⟩ := h
  exact run_h hex hfr g l o bs p f s y hbs hs h
end
section
/-! THE REFERENCE'S RESULTS. -/
/-- a result: are there pieces, and the parts (the last one first) -/
abbrev ms_Q := Bool × List ms_P
def ms_fin (s : ms_S) : Int ⊕ ms_Q := if s.2.2 ≠ [] then (if s.2.1.1 ≠ 0 ∨ s.1 ≠ [] then .inl 13 else .inr (true, s.2.2)) else .inr (false, [(ms_tg s, 0, 0)])
def ms_en (q : Int ⊕ (Nat × ms_S)) : Int ⊕ ms_Q := match q with
  | .inl e => .inl e
  | .inr y => ms_fin y.2
/-- part i of the reference -/
def rp (FI : Nat → Nat → Int32) (FL : Nat → Nat → Int64) (i : Nat) (p : ms_P) : Prop := (FI 143 i).toInt = p.1.1 ∧ FL 144 i = p.1.2.1 ∧ (FI 145 i).toInt = p.2.1 ∧ (FI 146 i).toInt = p.2.2 ∧ ms_ok p.1 ∧ (0 ≤ p.2.1 ∧ p.2.1 ≤ 4096 ∧ 0 ≤ p.2.2 ∧ p.2.2 ≤ 4096) ∧ p.1.2.2.length ≤ 600 ∧ ∀ k b, p.1.2.2[k]? = some b → FI 147 (600 * i + k) = b ∧ 0 ≤ b.toInt ∧ b.toInt ≤ 255
def rr (FI : Nat → Nat → Int32) (FL : Nat → Nat → Int64) (Q : ms_Q) : Prop := (FI 121 46).toInt = Q.2.length ∧ ((FI 121 47).toInt = 0 ↔ Q.1 = false) ∧ (1 ≤ Q.2.length ∧ Q.2.length ≤ 16) ∧ (Q.1 = false → Q.2.length = 1) ∧ lv (fun i p => rp FI FL i p) Q.2
section RP
variable {n sl : Nat} {SH : Nat → Nat × Nat} {FI F2 : Nat → Nat → Int32} {FL L2 : Nat → Nat → Int64} {FR : Nat → Nat → Option Nat} {u : Unit} {st : hS}
/-- the other parts stay -/
def pf (i : Nat) (FI : Nat → Nat → Int32) (FL : Nat → Nat → Int64) (F2 : Nat → Nat → Int32) (L2 : Nat → Nat → Int64) : Prop := (∀ c, c ≠ 143 → c ≠ 145 → c ≠ 146 → c ≠ 147 → F2 c = FI c) ∧ (∀ c, c ≠ 144 → L2 c = FL c) ∧ (∀ j, j ≠ i → F2 143 j = FI 143 j ∧ F2 145 j = FI 145 j ∧ F2 146 j = FI 146 j ∧ L2 144 j = FL 144 j) ∧ (∀ m, m < 600 * i ∨ 600 * i + 600 ≤ m → F2 147 m = FI 147 m)
theorem rp_fr {j i : Nat} {p : ms_P} (h : rp FI FL j p) (k : pf i FI FL F2 L2) (hj : j ≠ i) : rp F2 L2 j p := by
  obtain ⟨h1, h2, h3, h4, h5, h6, h7, h8⟩ := h
  obtain ⟨k1, k2, k3, k4⟩ := k
  obtain ⟨e1, e2, e3, e4⟩ := k3 j hj
  refine ⟨by rw [e1]; exact h1, by rw [e4]; exact h2, by rw [e2]; exact h3, by rw [e3]; exact h4, h5, h6, h7, fun m b hm => ?_⟩
  have hl := (List.getElem?_eq_some_iff.mp hm).1
  rw [k4 (600 * j + m) (by omega)]
  exact h8 m b hm
theorem rp_57 {i D : Nat} {B : List Int32} {a1 a2 a4 a5 a6 : Int32} {a3 : Int64} (hi : a1.toInt = i) (hi2 : i < 16) (h3 : a3.toInt = D) (h6 : a6.toInt = B.length) (hB6 : B.length ≤ 600) : ∀ (g k : Nat) (l8 : Int32) (FI : Nat → Nat → Int32), l8.toInt = k → k ≤ B.length → bk FI SH 124 D B → (∀ j b, j < k → B[j]? = some b → FI 147 (600 * i + j) = b) → GX12_part_57 a1 a2 a3 a4 a5 a6 g l8 n sl SH FI FL FR u st → ∃ F2, st = (n, sl, SH, F2, FL, FR) ∧ (∀ c, c ≠ 147 → F2 c = FI c) ∧ (∀ m, m < 600 * i ∨ 600 * i + 600 ≤ m → F2 147 m = FI 147 m) ∧ (∀ j b, B[j]? = some b → F2 147 (600 * i + j) = b) := by
  intro g
  induction g with
  | zero => intro k l8 FI _ _ _ _ h; exact h.elim
  | succ g ih =>
    intro k l8 FI hk hkl hb hd h
    have b2 := hb.2.1
    have b3 := hb.2.2.1
    rcases h with ⟨h0, -, -, h⟩ | ⟨h0, -, e⟩
    · have e1 : (a3.toInt32 + l8).toInt = ((D + k : Nat) : Int) := by rw [i_add (l_2i h3 (by omega) (by omega)) hk (by omega) (by omega)]; omega
      have e2 : ((600 : Int32) * a1 + l8).toInt = ((600 * i + k : Nat) : Int) := by rw [i_add (i_mul (by decide : ((600 : Int32)).toInt = 600) hi (by omega) (by omega)) hk (by omega) (by omega)]; omega
      obtain ⟨b, hb0⟩ := ms_ex_i (bs := B) (i := k) (by omega)
      rw [show (a3.toInt32 + l8).toInt.toNat = D + k by omega, show ((600 : Int32) * a1 + l8).toInt.toNat = 600 * i + k by omega, (hb.2.2.2 k b hb0).1] at h
      obtain ⟨F2, q1, q2, q3, q4⟩ := ih (k + 1) _ _ (by rw [i_add hk (by decide : ((1 : Int32)).toInt = 1) (by omega) (by omega)]; omega) (by omega) (bk_fr hb (h_up_nc (by decide))) (fun j b9 hj hb9 => by
        by_cases ej : j = k
        · subst ej
          rw [h_up_eq]
          rw [hb0] at hb9
          exact Option.some.inj hb9
        · rw [h_up_ne (by omega)]
          exact hd j b9 (by omega) hb9) h
      exact ⟨F2, q1, fun c hc => by rw [q2 c hc, h_up_nc hc], fun m hm => by rw [q3 m hm, h_up_ne (by omega)], q4⟩
    · refine ⟨_, e, fun _ _ => rfl, fun _ _ => rfl, fun j b hj => hd j b ?_ hj⟩
      have := (List.getElem?_eq_some_iff.mp hj).1
      omega
theorem r_part {i : Nat} {T : ms_H} {w f : Int} {a1 a2 a4 a5 a6 : Int32} {a3 : Int64} (hi : a1.toInt = i) (hi2 : i < 16) (hk : a2.toInt = T.1) (hok : ms_ok T) (hv : (T.1 = 1 ∨ T.1 = 2 ∨ T.1 = 3) → a3 = T.2.1) (h4 : T.1 = 4 → ∃ D : Nat, a3.toInt = D ∧ a6.toInt = T.2.2.length ∧ bk FI SH 124 D T.2.2) (hl : T.2.2.length ≤ 600) (hw : a4.toInt = w) (hf : a5.toInt = f) (hr : 0 ≤ w ∧ w ≤ 4096 ∧ 0 ≤ f ∧ f ≤ 4096) (h : RX12_part a1 a2 a3 a4 a5 a6 n sl SH FI FL FR u st) : ∃ F2 L2, st = (n, sl, SH, F2, L2, FR) ∧ rp F2 L2 i (T, w, f) ∧ pf i FI FL F2 L2 := by
  obtain ⟨-, h⟩ := h
  have ei : a1.toInt.toNat = i := by omega
  rw [ei, show ((4 : Int32)).toInt = 4 by decide, hk] at h
  have gen : ∀ z : Int64, (T.1 = 4 → z = a6.toInt64) → (T.1 = 0 → z = 0) → ((T.1 = 1 ∨ T.1 = 2 ∨ T.1 = 3) → z = a3) → RX12_part_32 a1 a2 a3 a4 a5 a6 z a1 n sl SH (h_up FI 143 i a2) FL FR u st → ∃ F2 L2, st = (n, sl, SH, F2, L2, FR) ∧ rp F2 L2 i (T, w, f) ∧ pf i FI FL F2 L2 := by
    intro z z4 z0 z1 h
    obtain ⟨-, -, -, h⟩ := h
    rw [ei, show ((4 : Int32)).toInt = 4 by decide, hk] at h
    have ez : z = T.2.1 := by
      rcases hok with q | q | q | q | q
      · rw [z0 q.1, q.2]; rfl
      · rw [z1 (Or.inl q.1), hv (Or.inl q.1)]
      · rw [z1 (Or.inr (Or.inl q.1)), hv (Or.inr (Or.inl q.1))]
      · rw [z1 (Or.inr (Or.inr q.1)), hv (Or.inr (Or.inr q.1))]
      · obtain ⟨D, d1, d2, d3⟩ := h4 q.1
        rw [z4 q.1]
        exact Int64.toInt_inj.mp (by rw [i_2l d2]; exact q.2.symm)
    rcases h with ⟨g4, g, h⟩ | ⟨g4, -, e⟩
    · obtain ⟨D, d1, d2, d3⟩ := h4 g4
      obtain ⟨F2, q1, q2, q3, q4⟩ := rp_57 (i := i) hi hi2 d1 d2 hl g 0 _ _ (by decide) (Nat.zero_le _) (bk_fr d3 (by rw [h_up_nc (by decide), h_up_nc (by decide), h_up_nc (by decide)])) (fun j b hj => by omega) h
      refine ⟨F2, _, q1, ⟨?_, ?_, ?_, ?_, hok, hr, hl, fun k b hkb => ⟨q4 k b hkb, (d3.2.2.2 k b hkb).2⟩⟩, fun c c1 c2 c3 c4 => ?_, fun c hc => h_up_nc hc, fun j hj => ⟨?_, ?_, ?_, h_up_ne hj⟩, fun m hm => ?_⟩
      · rw [q2 143 (by decide), h_up_nc (by decide), h_up_nc (by decide), h_up_eq]; exact hk
      · rw [h_up_eq]; exact ez
      · rw [q2 145 (by decide), h_up_nc (by decide), h_up_eq]; exact hw
      · rw [q2 146 (by decide), h_up_eq]; exact hf
      · rw [q2 c c4, h_up_nc c3, h_up_nc c2, h_up_nc c1]
      · rw [q2 143 (by decide), h_up_nc (by decide), h_up_nc (by decide), h_up_ne hj]
      · rw [q2 145 (by decide), h_up_nc (by decide), h_up_ne hj, h_up_nc (by decide)]
      · rw [q2 146 (by decide), h_up_ne hj, h_up_nc (by decide), h_up_nc (by decide)]
      · rw [q3 m hm, h_up_nc (by decide), h_up_nc (by decide), h_up_nc (by decide)]
    · have hnil : T.2.2 = [] := by
        rcases hok with q | q | q | q | q
        · rw [q.2]; rfl
        · exact q.2
        · exact q.2.1
        · exact q.2
        · exact absurd q.1 g4
      refine ⟨_, _, e, ⟨?_, ?_, ?_, ?_, hok, hr, hl, fun k b hkb => ?_⟩, fun c c1 c2 c3 c4 => ?_, fun c hc => h_up_nc hc, fun j hj => ⟨?_, ?_, ?_, h_up_ne hj⟩, fun m hm => ?_⟩
      · rw [h_up_nc (by decide), h_up_nc (by decide), h_up_eq]; exact hk
      · rw [h_up_eq]; exact ez
      · rw [h_up_nc (by decide), h_up_eq]; exact hw
      · rw [h_up_eq]; exact hf
      · (try dsimp only at hkb)
        rw [hnil] at hkb
        simp at hkb
      · rw [h_up_nc c3, h_up_nc c2, h_up_nc c1]
      · rw [h_up_nc (by decide), h_up_nc (by decide), h_up_ne hj]
      · rw [h_up_nc (by decide), h_up_ne hj, h_up_nc (by decide)]
      · rw [h_up_ne hj, h_up_nc (by decide), h_up_nc (by decide)]
      · rw [h_up_nc (by decide), h_up_nc (by decide), h_up_nc (by decide)]
  rcases h with ⟨g4, h⟩ | ⟨g4, h⟩
  · exact gen _ (fun _ => rfl) (fun e => by omega) (fun e => by omega) h
  · rcases h with ⟨g0, h⟩ | ⟨g0, h⟩
    · exact gen _ (fun e => absurd e g4) (fun _ => rfl) (fun e => by omega) h
    · exact gen _ (fun e => absurd e g4) (fun e => absurd e g0) (fun _ => rfl) h
end RP
end
section
/-! THE REFERENCE'S RUNS, to their ends. -/
/-- what runs leave alone -/
def xr (FI : Nat → Nat → Int32) (FL : Nat → Nat → Int64) (F2 : Nat → Nat → Int32) (L2 : Nat → Nat → Int64) : Prop := (∀ c, (c < 121 ∨ (121 < c ∧ c < 127) ∨ 147 < c) → F2 c = FI c ∧ L2 c = FL c) ∧ (∀ k, (k < 29 ∨ 57 < k) → F2 121 k = FI 121 k ∧ L2 121 k = FL 121 k)
section RH
variable {n sl : Nat} {SH : Nat → Nat × Nat} {FI F2 F3 : Nat → Nat → Int32} {FL L2 L3 : Nat → Nat → Int64} {FR : Nat → Nat → Option Nat} {st : hS} {E : ms_E} {v : Int32}
theorem xr_tr (h : xr FI FL F2 L2) (g : xr F2 L2 F3 L3) : xr FI FL F3 L3 := ⟨fun c hc => ⟨(g.1 c hc).1.trans (h.1 c hc).1, (g.1 c hc).2.trans (h.1 c hc).2⟩, fun k hk => ⟨(g.2 k hk).1.trans (h.2 k hk).1, (g.2 k hk).2.trans (h.2 k hk).2⟩⟩
theorem k_out {L : List (Nat × Nat)} {A : List Nat} {c k : Nat} (h1 : L.all (fun e => decide (e.1 = 121 ∧ 29 ≤ e.2 ∧ e.2 ≤ 57)) = true) (h2 : A.all (fun a => decide (127 ≤ a ∧ a ≤ 147)) = true) (h : (c < 121 ∨ (121 < c ∧ c < 127) ∨ 147 < c) ∨ (c = 121 ∧ (k < 29 ∨ 57 < k))) : k_in L A c k = false := by
  cases hq : k_in L A c k with
  | false => rfl
  | true =>
    exfalso
    unfold k_in at hq
    rw [Bool.or_eq_true] at hq
    rcases hq with q | q
    · have q := List.contains_iff_mem.mp q
      have := of_decide_eq_true (List.all_eq_true.mp h1 (c, k) q)
      (try dsimp only at this)
      omega
    · have q := List.contains_iff_mem.mp q
      have := of_decide_eq_true (List.all_eq_true.mp h2 c q)
      omega
/-- out of the printed frames -/
theorem xr_kq {m : k_M} (h : kq m (n, sl, SH, FI, FL, FR) st) (m1 : (m.1.all (fun e => decide (e.1 = 121 ∧ 29 ≤ e.2 ∧ e.2 ≤ 57)) && m.2.1.all (fun a => decide (127 ≤ a ∧ a ≤ 147)) && m.2.2.1.all (fun e => decide (e.1 = 121 ∧ 29 ≤ e.2 ∧ e.2 ≤ 57)) && m.2.2.2.all (fun a => decide (127 ≤ a ∧ a ≤ 147))) = true) : ∃ F2 L2, st = (n, sl, SH, F2, L2, FR) ∧ xr FI FL F2 L2 := by
  obtain ⟨n2, sl2, S2, F2, L2, R2⟩ := st
  obtain ⟨h1, h2, h3, h4, h5, h6, -⟩ := h
  (try dsimp only at h1 h2 h3 h4 h5 h6)
  subst h1; subst h2; subst h3; subst h4
  rw [Bool.and_eq_true, Bool.and_eq_true, Bool.and_eq_true] at m1
  obtain ⟨⟨⟨a1, a2⟩, a3⟩, a4⟩ := m1
  exact ⟨F2, L2, rfl, fun c hc => ⟨funext fun k => h5 c k (k_out a1 a2 (Or.inl hc)), funext fun k => h6 c k (k_out a3 a4 (Or.inl hc))⟩, fun k hk => ⟨h5 121 k (k_out a1 a2 (Or.inr ⟨rfl, hk⟩)), h6 121 k (k_out a3 a4 (Or.inr ⟨rfl, hk⟩))⟩⟩
theorem r_tells {a1 a2 : Int32} (h : RX12_tells a1 a2 n sl SH FI FL FR v st) : v = a1 ∧ ∃ F2, st = (n, sl, SH, F2, FL, FR) ∧ fk [53, 54, 55, 56, 57] FI F2 := by
  rcases h with ⟨-, e1, e⟩ | ⟨-, e1, e⟩
  · exact ⟨e1, _, e, fk_up (fk_up (fk_up (fk_up (fk_up fk_rf (by decide)) (by decide)) (by decide)) (by decide)) (by decide)⟩
  · exact ⟨e1, _, e, fk_up (fk_up (fk_up (fk_up (fk_up fk_rf (by decide)) (by decide)) (by decide)) (by decide)) (by decide)⟩
theorem rr_fr {Q : ms_Q} (h : rr FI FL Q) (e1 : ∀ c, c = 143 ∨ c = 145 ∨ c = 146 ∨ c = 147 → F2 c = FI c) (e2 : L2 144 = FL 144) (e3 : F2 121 46 = FI 121 46) (e4 : F2 121 47 = FI 121 47) : rr F2 L2 Q := by
  obtain ⟨h1, h2, h3, h4, h5⟩ := h
  refine ⟨by rw [e3]; exact h1, by rw [e4]; exact h2, h3, h4, lv_mono (fun i p _ _ hp => ?_) h5⟩
  unfold rp
  rw [e1 143 (by omega), e1 145 (by omega), e1 146 (by omega), e1 147 (by omega), e2]
  exact hp
/-- exec, from its beginning -/
theorem r_exec {A f : Nat} {bs : List Int32} {a2 a3 : Int32} (hb : bk FI SH 124 A bs) (hbl : bs.length ≤ 600) (h2 : a2.toInt = A) (h3 : a3.toInt = ((A + bs.length : Nat) : Int)) (hE : rE FI FL SH E) (hf : (FI 121 30).toInt = f) (hf1 : f ≤ 1000) (ho : (FI 121 29).toInt = 0) (h : RX12_exec (0 : Int32) a2 a3 n sl SH FI FL FR v st) : ∃ q, ms_R E 0 0 bs 0 f ([], ms_0, []) q ∧ ∃ F2 L2, st = (n, sl, SH, F2, L2, FR) ∧ xr FI FL F2 L2 ∧ F2 143 = FI 143 ∧ F2 145 = FI 145 ∧ F2 146 = FI 146 ∧ F2 147 = FI 147 ∧ L2 144 = FL 144 ∧ F2 121 46 = FI 121 46 ∧ F2 121 47 = FI 121 47 ∧ match q with
    | .inl e => v.toInt = e
    | .inr y => (y.2.2.2 ≠ [] ∧ (y.2.2.1.1 ≠ 0 ∨ y.2.1 ≠ []) ∧ v.toInt = 13) ∨ (¬ (y.2.2.2 ≠ [] ∧ (y.2.2.1.1 ≠ 0 ∨ y.2.1 ≠ [])) ∧ v.toInt = 0 ∧ rv F2 L2 SH 0 y.2) := by
  have hk := kX12_exec h
  obtain ⟨F9, L9, e9, xr9⟩ := xr_kq hk (by decide)
  have row : ∀ c, k_no mX12_exec c = true → F9 c = FI c := fun c hc => by
    have := kq_cell hk hc
    rw [e9] at this
    exact this
  have r46 : F9 121 46 = FI 121 46 := by
    have := kq_fld (c := 121) (k := 46) hk (by decide)
    rw [e9] at this
    exact this
  have r47 : F9 121 47 = FI 121 47 := by
    have := kq_fld (c := 121) (k := 47) hk (by decide)
    rw [e9] at this
    exact this
  have l144 : L9 144 = FL 144 := by
    have := kq_fl (c := 144) hk (by decide)
    rw [e9] at this
    exact this
  obtain ⟨u0, n0, sl0, SH0, FI0, FL0, FR0, hcl, g, h⟩ := h
  obtain ⟨-, -, -, -, -, -, ec⟩ := hcl
  rw [show ((0 : Int32)).toInt.toNat = 0 by decide] at ec
  cases ec
  have eC : ∀ c, c ≠ 128 → c ≠ 129 → c ≠ 135 → c ≠ 136 → c ≠ 142 → (h_up (h_up (h_up (h_up (h_up FI 128 0 (0 : Int32)) 129 0 (0 : Int32)) 135 0 (0 : Int32)) 136 0 (0 : Int32)) 142 0 (0 : Int32)) c = FI c := fun c c1 c2 c3 c4 c5 => by rw [h_up_nc c5, h_up_nc c4, h_up_nc c3, h_up_nc c2, h_up_nc c1]
  have z0 : ((0 : Int32)).toInt = 0 := by decide
  have d0 : ((h_up (h_up (h_up (h_up (h_up FI 128 0 (0 : Int32)) 129 0 (0 : Int32)) 135 0 (0 : Int32)) 136 0 (0 : Int32)) 142 0 (0 : Int32)) 142 0).toInt = 0 := by rw [h_up_eq]; exact z0
  have hv0 : rv (h_up (h_up (h_up (h_up (h_up FI 128 0 (0 : Int32)) 129 0 (0 : Int32)) 135 0 (0 : Int32)) 136 0 (0 : Int32)) 142 0 (0 : Int32)) FL SH 0 ([], ms_0, []) := by
    refine ⟨?_, by decide, trivial, ⟨?_, Or.inl ⟨rfl, rfl⟩, fun e => absurd e (by first | decide | simp), fun e => absurd e (by first | decide | simp)⟩, ?_, by decide, ?_, by decide, by decide, trivial⟩
    · rw [h_up_nc (by decide), h_up_nc (by decide), h_up_nc (by decide), h_up_nc (by decide), h_up_eq]; exact z0
    · rw [h_up_nc (by decide), h_up_eq]; exact z0
    · rw [h_up_nc (by decide), h_up_nc (by decide), h_up_nc (by decide), h_up_eq]; exact z0
    · rw [h_up_nc (by decide), h_up_nc (by decide), h_up_eq]; exact z0
  generalize h_up (h_up (h_up (h_up (h_up FI 128 0 (0 : Int32)) 129 0 (0 : Int32)) 135 0 (0 : Int32)) 136 0 (0 : Int32)) 142 0 (0 : Int32) = FC at h eC d0 hv0
  have e121 : FC 121 = FI 121 := eC 121 (by decide) (by decide) (by decide) (by decide) (by decide)
  have hEC : rE FC FL SH E := rE_fr hE (eC 123 (by decide) (by decide) (by decide) (by decide) (by decide)) (eC 124 (by decide) (by decide) (by decide) (by decide) (by decide)) (eC 125 (by decide) (by decide) (by decide) (by decide) (by decide)) (fun k _ => by rw [e121]) (fun _ _ => rfl) rfl
  obtain ⟨q, hq, hrc⟩ := rl_run (a1 := (0 : Int32)) (a2 := a2) (a3 := a3) g 0 0 f A 0 bs ([], ms_0, []) 0 a2 a2 a3 FC FL (by decide) (by decide) (fun _ => by decide) (by rw [e121]; exact ho) (by decide) (bk_fr hb (eC 124 (by decide) (by decide) (by decide) (by decide) (by decide))) (by omega) (by rw [h2]; omega) (by omega) h2 h3 hEC hv0 (by rw [e121]; exact hf) hf1 (by omega) (by omega) h
  refine ⟨q, hq, F9, L9, e9, xr9, row 143 (by decide), row 145 (by decide), row 146 (by decide), row 147 (by decide), l144, r46, r47, ?_⟩
  match q, hq, hrc with
  | .inl e, _, hrc => exact hrc
  | .inr y, _, ⟨g2, F2, L2, hg2, k3, hv3, gf3, e3, e3b⟩ =>
    cases g2 with
    | zero => exact k3.elim
    | succ g3 =>
      obtain ⟨-, k3⟩ := P_p k3 (rfl : a3.toInt = a3.toInt)
      rw [show ((0 : Int32)).toInt.toNat = 0 by decide] at k3
      have d3 : (F2 142 0).toInt = 0 := by rw [gf3.2.2.2.2.1 0 (Nat.le_refl _)]; exact d0
      have k3 := P_n k3 (by omega)
      obtain ⟨-, k3⟩ := P_p k3 (rfl : a3.toInt = a3.toInt)
      rw [show ((0 : Int32)).toInt.toNat = 0 by decide] at k3
      obtain ⟨w1, w2, w3, w4, w5, w6, w7, w8, w9, w10⟩ := id hv3
      have good : ¬ (y.2.2.2 ≠ [] ∧ (y.2.2.1.1 ≠ 0 ∨ y.2.1 ≠ [])) → RX12_exec_175 (GX12_exec_18 (0 : Int32) a2 a3 g3) (0 : Int32) a2 a3 0 n sl SH F2 L2 FR v st → (y.2.2.2 ≠ [] ∧ (y.2.2.1.1 ≠ 0 ∨ y.2.1 ≠ []) ∧ v.toInt = 13) ∨ (¬ (y.2.2.2 ≠ [] ∧ (y.2.2.1.1 ≠ 0 ∨ y.2.1 ≠ [])) ∧ v.toInt = 0 ∧ rv F9 L9 SH 0 y.2) := by
        intro hn k4
        have k4 := P_p k4 (by decide)
        rw [k4.2] at e9
        cases e9
        exact Or.inr ⟨hn, by rw [k4.1]; decide, hv3⟩
      have bad : y.2.2.2 ≠ [] → (y.2.2.1.1 ≠ 0 ∨ y.2.1 ≠ []) → RX12_exec_153 (0 : Int32) a2 a3 0 n sl SH F2 L2 FR v st → (y.2.2.2 ≠ [] ∧ (y.2.2.1.1 ≠ 0 ∨ y.2.1 ≠ []) ∧ v.toInt = 13) ∨ (¬ (y.2.2.2 ≠ [] ∧ (y.2.2.1.1 ≠ 0 ∨ y.2.1 ≠ [])) ∧ v.toInt = 0 ∧ rv F9 L9 SH 0 y.2) := by
        intro q1 q2 k4
        have k4 := P_p k4 (by decide)
        exact Or.inl ⟨q1, q2, by rw [fl k4]; decide⟩
      have nn : 0 < (F2 129 0).toInt → y.2.2.2 ≠ [] := fun hlt e => by
        rw [w5, e] at hlt
        exact absurd hlt (by first | decide | simp)
      rcases k3 with ⟨hlt, -, k3⟩ | ⟨hlt, k3⟩
      · rw [w4.1] at k3
        rcases k3 with ⟨hh, -, k3⟩ | ⟨hh, k3⟩
        · rw [w1] at k3
          rcases k3 with ⟨hs, k3⟩ | ⟨hs, k3⟩
          · exact bad (nn hlt) (Or.inr (fun e => by rw [e] at hs; exact absurd hs (by first | decide | simp))) k3
          · refine good (fun e => ?_) k3
            rcases e.2 with e2 | e2
            · exact e2 hh
            · cases hy : y.2.1 with
              | nil => exact e2 hy
              | cons a r => rw [hy] at hs; simp only [List.length_cons] at hs; omega
        · exact bad (nn hlt) (Or.inl hh) k3
      · refine good (fun e => ?_) k3
        cases hy : y.2.2.2 with
        | nil => exact e.1 hy
        | cons a r => rw [w5, hy] at hlt; simp only [List.length_cons] at hlt; omega
end RH
end
