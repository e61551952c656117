/-! THE REFERENCE'S acts, code by code; its pieces. -/
section RB
variable {n sl : Nat} {SH : Nat → Nat × Nat} {FI : Nat → Nat → Int32} {FL : Nat → Nat → Int64} {FR : Nat → Nat → Option Nat} {l o : Nat} {l4 c : Int32} {a b t y r : Int64} {R Q : List Int64} {H : ms_H} {P : List ms_P} {s : ms_S} {u : Unit} {st : hS} {E : ms_E}
theorem ra_19 (hl : l4.toInt = l) (h1 : l ≤ 1) (hc : c.toInt = 19) (hv : rv FI FL SH l (t :: R, H, P)) (h : RX12_acts l4 c a b n sl SH FI FL FR u st) : ra_c n sl SH FI FL FR l o st (R, H, P) := by
  obtain ⟨i, t9, y9, h, hi, et, ey⟩ := r_a57 hl h1 hv h
  have h := P_p (h) (by rw [show ((19 : Int32)).toInt = 19 by decide]; omega)
  obtain ⟨-, -, e⟩ := h
  rw [show l4.toInt.toNat = l by omega] at e
  obtain ⟨F2, e2, q1, q2, q3⟩ := ra_pop (o := o) hv
  rw [← e2] at e
  exact ⟨F2, FL, e, q1, q2, q3⟩
theorem ra_40 (hl : l4.toInt = l) (h1 : l ≤ 1) (hc : c.toInt = 40) (hv : rv FI FL SH l (t :: R, H, P)) (h : RX12_acts l4 c a b n sl SH FI FL FR u st) : ra_c n sl SH FI FL FR l o st (R, H, P) := by
  obtain ⟨i, t9, y9, h, hi, et, ey⟩ := r_a57 hl h1 hv h
  have h := P_p (P_n (h) (by rw [show ((19 : Int32)).toInt = 19 by decide]; omega)) (by rw [show ((40 : Int32)).toInt = 40 by decide]; omega)
  obtain ⟨-, -, e⟩ := h
  rw [show l4.toInt.toNat = l by omega] at e
  obtain ⟨F2, e2, q1, q2, q3⟩ := ra_pop (o := o) hv
  rw [← e2] at e
  exact ⟨F2, FL, e, q1, q2, q3⟩
theorem ra_22 (hl : l4.toInt = l) (h1 : l ≤ 1) (hc : c.toInt = 22) (hv : rv FI FL SH l (t :: y :: Q, H, P)) (h : RX12_acts l4 c a b n sl SH FI FL FR u st) : ra_c n sl SH FI FL FR l o st (y :: t :: Q, H, P) := by
  obtain ⟨i, t9, y9, h, hi, et, ey⟩ := r_a57 hl h1 hv h
  rw [et _ _ rfl, ey _ _ _ rfl] at h
  have h := P_p (P_n (P_n (h) (by rw [show ((19 : Int32)).toInt = 19 by decide]; omega)) (by rw [show ((40 : Int32)).toInt = 40 by decide]; omega)) (by rw [show ((22 : Int32)).toInt = 22 by decide]; omega)
  obtain ⟨-, -, -, e⟩ := h
  simp only [List.length_cons] at hi
  have h9 := hv.2.1
  simp only [List.length_cons] at h9
  have k2 : (i - (1 : Int32)).toInt = (128 * l : Int) + Q.length := by rw [i_sub hi (by decide : ((1 : Int32)).toInt = 1) (by omega) (by omega)]; omega
  rw [show i.toInt.toNat = 128 * l + (Q.length + 1) by omega, show (i - (1 : Int32)).toInt.toNat = 128 * l + Q.length by omega] at e
  have ht := hv.1
  have hlen := hv.2.1
  simp only [List.length_cons] at ht hlen
  refine ⟨_, _, e, rv_st hv (fun _ _ _ => rfl) (fun r h1 _ => by rw [h_up_nc h1, h_up_nc h1]) ht hlen ⟨?_, ?_, ?_⟩, gz_l (gz_l gz_rf (w_top h1 (by omega))) (w_top h1 (by omega)), rfl⟩
  · show h_up (h_up FL 127 (128 * l + (Q.length + 1)) y) 127 (128 * l + Q.length) t 127 (128 * l + (Q.length + 1)) = y
    rw [h_up_ne (by omega), h_up_eq]
  · exact h_up_eq
  · exact lv_up (lv_up hv.2.2.1.2.2 (by omega)) (Nat.le_refl _)
theorem ra_23 (hl : l4.toInt = l) (h1 : l ≤ 1) (hc : c.toInt = 23) (hv : rv FI FL SH l (t :: y :: r :: Q, H, P)) (h : RX12_acts l4 c a b n sl SH FI FL FR u st) : ra_c n sl SH FI FL FR l o st (y :: r :: t :: Q, H, P) := by
  obtain ⟨i, t9, y9, h, hi, et, ey⟩ := r_a57 hl h1 hv h
  rw [et _ _ rfl, ey _ _ _ rfl] at h
  have h := P_p (P_n (P_n (P_n (h) (by rw [show ((19 : Int32)).toInt = 19 by decide]; omega)) (by rw [show ((40 : Int32)).toInt = 40 by decide]; omega)) (by rw [show ((22 : Int32)).toInt = 22 by decide]; omega)) (by rw [show ((23 : Int32)).toInt = 23 by decide]; omega)
  obtain ⟨-, -, -, -, -, e⟩ := h
  simp only [List.length_cons] at hi
  have h9 := hv.2.1
  simp only [List.length_cons] at h9
  have k2 : (i - (1 : Int32)).toInt = (128 * l : Int) + (Q.length + 1) := by rw [i_sub hi (by decide : ((1 : Int32)).toInt = 1) (by omega) (by omega)]; omega
  have k3 : (i - (2 : Int32)).toInt = (128 * l : Int) + Q.length := by rw [i_sub hi (by decide : ((2 : Int32)).toInt = 2) (by omega) (by omega)]; omega
  rw [show i.toInt.toNat = 128 * l + (Q.length + 2) by omega, show (i - (1 : Int32)).toInt.toNat = 128 * l + (Q.length + 1) by omega, show (i - (2 : Int32)).toInt.toNat = 128 * l + Q.length by omega] at e
  have ht := hv.1
  have hlen := hv.2.1
  simp only [List.length_cons] at ht hlen
  have hr : FL 127 (128 * l + Q.length) = r := hv.2.2.1.2.2.1
  rw [h_up_ne (show 128 * l + Q.length ≠ 128 * l + (Q.length + 2) by omega), hr] at e
  refine ⟨_, _, e, rv_st hv (fun _ _ _ => rfl) (fun r h1 _ => by rw [h_up_nc h1, h_up_nc h1, h_up_nc h1]) ht hlen ⟨?_, ?_, ?_, ?_⟩, gz_l (gz_l (gz_l gz_rf (w_top h1 (by omega))) (w_top h1 (by omega))) (w_top h1 (by omega)), rfl⟩
  · show h_up (h_up (h_up FL 127 (128 * l + (Q.length + 2)) y) 127 (128 * l + (Q.length + 1)) r) 127 (128 * l + Q.length) t 127 (128 * l + (Q.length + 2)) = y
    rw [h_up_ne (by omega), h_up_ne (by omega), h_up_eq]
  · show h_up (h_up (h_up FL 127 (128 * l + (Q.length + 2)) y) 127 (128 * l + (Q.length + 1)) r) 127 (128 * l + Q.length) t 127 (128 * l + (Q.length + 1)) = r
    rw [h_up_ne (by omega), h_up_eq]
  · exact h_up_eq
  · exact lv_up (lv_up (lv_up hv.2.2.1.2.2.2 (by omega)) (by omega)) (Nat.le_refl _)
theorem ra_6 (hl : l4.toInt = l) (h1 : l ≤ 1) (hc : c.toInt = 6) (hv : rv FI FL SH l (t :: R, H, P)) (h : RX12_acts l4 c a b n sl SH FI FL FR u st) (hE : rE FI FL SH E) (h5 : ¬ (t.toInt < 0 ∨ 4088 < t.toInt)) : ra_c n sl SH FI FL FR l o st (ms_rd E t.toInt.toNat 8 :: R, H, P) := by
  obtain ⟨i, t9, y9, h, hi, et, ey⟩ := r_a57 hl h1 hv h
  rw [et _ _ rfl] at h
  have h := P_p (P_n (P_n (P_n (P_n (h) (by rw [show ((19 : Int32)).toInt = 19 by decide]; omega)) (by rw [show ((40 : Int32)).toInt = 40 by decide]; omega)) (by rw [show ((22 : Int32)).toInt = 22 by decide]; omega)) (by rw [show ((23 : Int32)).toInt = 23 by decide]; omega)) (by rw [show ((6 : Int32)).toInt = 6 by decide]; omega)
  obtain ⟨v5, n5, sl5, SH5, FI5, FL5, FR5, hr, -, -, e⟩ := h
  obtain ⟨ev, e5⟩ := ra_read (k := 8) hE (by decide) (by decide) (by omega) (by omega) hr
  cases e5
  rw [ev] at e
  exact ra_un h1 hv hi e
theorem ra_148 (hl : l4.toInt = l) (h1 : l ≤ 1) (hc : c.toInt = 148) (hv : rv FI FL SH l (t :: R, H, P)) (h : RX12_acts l4 c a b n sl SH FI FL FR u st) (hE : rE FI FL SH E) (ha : ¬ (a.toInt < 1 ∨ 8 < a.toInt)) (h5 : ¬ (t.toInt < 0 ∨ 4096 - a.toInt < t.toInt)) : ra_c n sl SH FI FL FR l o st (ms_rd E t.toInt.toNat a.toInt.toNat :: R, H, P) := by
  obtain ⟨i, t9, y9, h, hi, et, ey⟩ := r_a57 hl h1 hv h
  rw [et _ _ rfl] at h
  have h := P_p (P_n (P_n (P_n (P_n (P_n (h) (by rw [show ((19 : Int32)).toInt = 19 by decide]; omega)) (by rw [show ((40 : Int32)).toInt = 40 by decide]; omega)) (by rw [show ((22 : Int32)).toInt = 22 by decide]; omega)) (by rw [show ((23 : Int32)).toInt = 23 by decide]; omega)) (by rw [show ((6 : Int32)).toInt = 6 by decide]; omega)) (by rw [show ((148 : Int32)).toInt = 148 by decide]; omega)
  obtain ⟨v5, n5, sl5, SH5, FI5, FL5, FR5, hr, -, -, e⟩ := h
  obtain ⟨ev, e5⟩ := ra_read (k := a.toInt.toNat) hE (by rw [l_2i rfl (by omega) (by omega)]; omega) (by omega) (by omega) (by omega) hr
  cases e5
  rw [ev] at e
  exact ra_un h1 hv hi e
theorem ra_25 (hl : l4.toInt = l) (h1 : l ≤ 1) (hc : c.toInt = 25) (hv : rv FI FL SH l (t :: R, H, P)) (h : RX12_acts l4 c a b n sl SH FI FL FR u st) : ra_c n sl SH FI FL FR l o st ((if t.toInt < 0 then -t else t) :: R, H, P) := by
  obtain ⟨i, t9, y9, h, hi, et, ey⟩ := r_a57 hl h1 hv h
  rw [et _ _ rfl] at h
  have h := P_p (P_n (P_n (P_n (P_n (P_n (P_n (h) (by rw [show ((19 : Int32)).toInt = 19 by decide]; omega)) (by rw [show ((40 : Int32)).toInt = 40 by decide]; omega)) (by rw [show ((22 : Int32)).toInt = 22 by decide]; omega)) (by rw [show ((23 : Int32)).toInt = 23 by decide]; omega)) (by rw [show ((6 : Int32)).toInt = 6 by decide]; omega)) (by rw [show ((148 : Int32)).toInt = 148 by decide]; omega)) (by rw [show ((25 : Int32)).toInt = 25 by decide]; omega)
  rw [show ((0 : Int64)).toInt = 0 by decide] at h
  rcases h with ⟨h0, -, -, e⟩ | ⟨h0, -, -, e⟩
  · rw [if_pos h0]; exact ra_un h1 hv hi e
  · rw [if_neg h0]; exact ra_un h1 hv hi e
theorem ra_31 (hl : l4.toInt = l) (h1 : l ≤ 1) (hc : c.toInt = 31) (hv : rv FI FL SH l (t :: R, H, P)) (h : RX12_acts l4 c a b n sl SH FI FL FR u st) : ra_c n sl SH FI FL FR l o st (-t :: R, H, P) := by
  obtain ⟨i, t9, y9, h, hi, et, ey⟩ := r_a57 hl h1 hv h
  rw [et _ _ rfl] at h
  have h := P_p (P_n (P_n (P_n (P_n (P_n (P_n (P_n (h) (by rw [show ((19 : Int32)).toInt = 19 by decide]; omega)) (by rw [show ((40 : Int32)).toInt = 40 by decide]; omega)) (by rw [show ((22 : Int32)).toInt = 22 by decide]; omega)) (by rw [show ((23 : Int32)).toInt = 23 by decide]; omega)) (by rw [show ((6 : Int32)).toInt = 6 by decide]; omega)) (by rw [show ((148 : Int32)).toInt = 148 by decide]; omega)) (by rw [show ((25 : Int32)).toInt = 25 by decide]; omega)) (by rw [show ((31 : Int32)).toInt = 31 by decide]; omega)
  exact ra_un h1 hv hi h.2.2
theorem ra_32 (hl : l4.toInt = l) (h1 : l ≤ 1) (hc : c.toInt = 32) (hv : rv FI FL SH l (t :: R, H, P)) (h : RX12_acts l4 c a b n sl SH FI FL FR u st) : ra_c n sl SH FI FL FR l o st ((t ^^^ (-1 : Int64)) :: R, H, P) := by
  obtain ⟨i, t9, y9, h, hi, et, ey⟩ := r_a57 hl h1 hv h
  rw [et _ _ rfl] at h
  have h := P_p (P_n (P_n (P_n (P_n (P_n (P_n (P_n (P_n (h) (by rw [show ((19 : Int32)).toInt = 19 by decide]; omega)) (by rw [show ((40 : Int32)).toInt = 40 by decide]; omega)) (by rw [show ((22 : Int32)).toInt = 22 by decide]; omega)) (by rw [show ((23 : Int32)).toInt = 23 by decide]; omega)) (by rw [show ((6 : Int32)).toInt = 6 by decide]; omega)) (by rw [show ((148 : Int32)).toInt = 148 by decide]; omega)) (by rw [show ((25 : Int32)).toInt = 25 by decide]; omega)) (by rw [show ((31 : Int32)).toInt = 31 by decide]; omega)) (by rw [show ((32 : Int32)).toInt = 32 by decide]; omega)
  exact ra_un h1 hv hi h.2.2
theorem ra_35 (hl : l4.toInt = l) (h1 : l ≤ 1) (hc : c.toInt = 35) (hv : rv FI FL SH l (t :: R, H, P)) (h : RX12_acts l4 c a b n sl SH FI FL FR u st) : ra_c n sl SH FI FL FR l o st ((t + a) :: R, H, P) := by
  obtain ⟨i, t9, y9, h, hi, et, ey⟩ := r_a57 hl h1 hv h
  rw [et _ _ rfl] at h
  have h := P_p (P_n (P_n (P_n (P_n (P_n (P_n (P_n (P_n (P_n (h) (by rw [show ((19 : Int32)).toInt = 19 by decide]; omega)) (by rw [show ((40 : Int32)).toInt = 40 by decide]; omega)) (by rw [show ((22 : Int32)).toInt = 22 by decide]; omega)) (by rw [show ((23 : Int32)).toInt = 23 by decide]; omega)) (by rw [show ((6 : Int32)).toInt = 6 by decide]; omega)) (by rw [show ((148 : Int32)).toInt = 148 by decide]; omega)) (by rw [show ((25 : Int32)).toInt = 25 by decide]; omega)) (by rw [show ((31 : Int32)).toInt = 31 by decide]; omega)) (by rw [show ((32 : Int32)).toInt = 32 by decide]; omega)) (by rw [show ((35 : Int32)).toInt = 35 by decide]; omega)
  exact ra_un h1 hv hi h.2.2
theorem ra_155 (hl : l4.toInt = l) (h1 : l ≤ 1) (hc : c.toInt = 155) (hv : rv FI FL SH l (t :: R, H, P)) (h : RX12_acts l4 c a b n sl SH FI FL FR u st) : ra_c n sl SH FI FL FR l o st ((FL 121 9 + t) :: R, H, P) := by
  obtain ⟨i, t9, y9, h, hi, et, ey⟩ := r_a57 hl h1 hv h
  rw [et _ _ rfl] at h
  have h := P_p (P_n (P_n (P_n (P_n (P_n (P_n (P_n (P_n (P_n (P_n (h) (by rw [show ((19 : Int32)).toInt = 19 by decide]; omega)) (by rw [show ((40 : Int32)).toInt = 40 by decide]; omega)) (by rw [show ((22 : Int32)).toInt = 22 by decide]; omega)) (by rw [show ((23 : Int32)).toInt = 23 by decide]; omega)) (by rw [show ((6 : Int32)).toInt = 6 by decide]; omega)) (by rw [show ((148 : Int32)).toInt = 148 by decide]; omega)) (by rw [show ((25 : Int32)).toInt = 25 by decide]; omega)) (by rw [show ((31 : Int32)).toInt = 31 by decide]; omega)) (by rw [show ((32 : Int32)).toInt = 32 by decide]; omega)) (by rw [show ((35 : Int32)).toInt = 35 by decide]; omega)) (by rw [show ((155 : Int32)).toInt = 155 by decide]; omega)
  exact ra_un h1 hv hi h.2.2
theorem ra_bin (hl : l4.toInt = l) (h1 : l ≤ 1) (hc : 26 ≤ c.toInt ∧ c.toInt ≤ 46 ∧ c.toInt ≠ 31 ∧ c.toInt ≠ 32 ∧ c.toInt ≠ 35 ∧ c.toInt ≠ 40) (hv : rv FI FL SH l (t :: y :: Q, H, P)) (h : RX12_acts l4 c a b n sl SH FI FL FR u st) : ra_c n sl SH FI FL FR l o st (ms_wk c.toInt y t :: Q, H, P) := by
  obtain ⟨i, t9, y9, h, hi, et, ey⟩ := r_a57 hl h1 hv h
  rw [et _ _ rfl, ey _ _ _ rfl] at h
  have h := P_n (P_n (P_n (P_n (P_n (P_n (P_n (P_n (P_n (P_n (P_n (h) (by rw [show ((19 : Int32)).toInt = 19 by decide]; omega)) (by rw [show ((40 : Int32)).toInt = 40 by decide]; omega)) (by rw [show ((22 : Int32)).toInt = 22 by decide]; omega)) (by rw [show ((23 : Int32)).toInt = 23 by decide]; omega)) (by rw [show ((6 : Int32)).toInt = 6 by decide]; omega)) (by rw [show ((148 : Int32)).toInt = 148 by decide]; omega)) (by rw [show ((25 : Int32)).toInt = 25 by decide]; omega)) (by rw [show ((31 : Int32)).toInt = 31 by decide]; omega)) (by rw [show ((32 : Int32)).toInt = 32 by decide]; omega)) (by rw [show ((35 : Int32)).toInt = 35 by decide]; omega)) (by rw [show ((155 : Int32)).toInt = 155 by decide]; omega)
  have h := P_n (P_n h (by rw [show ((26 : Int32)).toInt = 26 by decide]; omega)) (by rw [show ((46 : Int32)).toInt = 46 by decide]; omega)
  obtain ⟨-, -, -, e⟩ := h
  simp only [List.length_cons] at hi
  have h9 := hv.2.1
  simp only [List.length_cons] at h9
  have k2 : (i - (1 : Int32)).toInt = (128 * l : Int) + Q.length := by rw [i_sub hi (by decide : ((1 : Int32)).toInt = 1) (by omega) (by omega)]; omega
  have ew : fX12_worked c y t SH (h_up FI 128 l4.toInt.toNat (FI 128 l - (1 : Int32))) FL FR = ms_wk c.toInt y t := by
    unfold ms_wk
    rw [show Int32.ofInt c.toInt = c from Int32.ofInt_toInt c]
    rfl
  rw [ew, show l4.toInt.toNat = l by omega, show (i - (1 : Int32)).toInt.toNat = 128 * l + Q.length by omega] at e
  obtain ⟨F2, e2, q1, q2, q3⟩ := ra_pop (o := o) hv
  rw [← e2] at e
  exact ⟨F2, _, e, (ra_top (o := o) h1 q1).1, gz_tr q2 (ra_top h1 q1).2, q3⟩
theorem ra_80 (hl : l4.toInt = l) (h1 : l ≤ 1) (hc : 80 ≤ c.toInt ∧ c.toInt ≤ 111) (hv : rv FI FL SH l s) (h : RX12_acts l4 c a b n sl SH FI FL FR u st) : ra_c n sl SH FI FL FR l o st (s.1, (2, Int64.ofInt (c.toInt - 80), []), s.2.2) := by
  obtain ⟨i, t9, y9, h, hi, et, ey⟩ := r_a57 hl h1 hv h
  have h := P_p (P_n (P_n (P_n (P_n (P_n (P_n (P_n (P_n (P_n (P_n (P_n (P_n (h) (by rw [show ((19 : Int32)).toInt = 19 by decide]; omega)) (by rw [show ((40 : Int32)).toInt = 40 by decide]; omega)) (by rw [show ((22 : Int32)).toInt = 22 by decide]; omega)) (by rw [show ((23 : Int32)).toInt = 23 by decide]; omega)) (by rw [show ((6 : Int32)).toInt = 6 by decide]; omega)) (by rw [show ((148 : Int32)).toInt = 148 by decide]; omega)) (by rw [show ((25 : Int32)).toInt = 25 by decide]; omega)) (by rw [show ((31 : Int32)).toInt = 31 by decide]; omega)) (by rw [show ((32 : Int32)).toInt = 32 by decide]; omega)) (by rw [show ((35 : Int32)).toInt = 35 by decide]; omega)) (by rw [show ((155 : Int32)).toInt = 155 by decide]; omega)) (by rw [show ((26 : Int32)).toInt = 26 by decide]; omega)) (by rw [show ((46 : Int32)).toInt = 46 by decide]; omega)
  have h := P_n (P_n h (by rw [show ((80 : Int32)).toInt = 80 by decide]; omega)) (by rw [show ((111 : Int32)).toInt = 111 by decide]; omega)
  obtain ⟨v2, n2, sl2, SH2, FI2, FL2, FR2, hh, -, e⟩ := h
  have k1 : (c - (80 : Int32)).toInt = c.toInt - 80 := i_sub rfl (by decide) (by omega) (by omega)
  have k2 : (c - (80 : Int32)).toInt64 = Int64.ofInt (c.toInt - 80) := Int64.toInt_inj.mp (by rw [i_2l k1, Int64.toInt_ofInt, l_bm (by omega) (by omega)])
  have k3 : (Int64.ofInt (c.toInt - 80)).toInt = c.toInt - 80 := by rw [Int64.toInt_ofInt, l_bm (by omega) (by omega)]
  rw [k2] at hh
  obtain ⟨e2, q1, q2, q3⟩ := ra_hold (o := o) (H := (2, Int64.ofInt (c.toInt - 80), [])) hl hv (fun F2 L2 _ f1 f2 _ => rt_2 (by omega) (by omega) f1 f2) hh
  rw [e2] at e
  exact ⟨_, _, e, q1, q2, q3⟩
theorem ra_144 (hl : l4.toInt = l) (h1 : l ≤ 1) (hc : c.toInt = 144) (ha : ¬ (a.toInt < 0 ∨ 31 < a.toInt)) (hv : rv FI FL SH l s) (h : RX12_acts l4 c a b n sl SH FI FL FR u st) : ra_c n sl SH FI FL FR l o st (s.1, (2, a, []), s.2.2) := by
  obtain ⟨i, t9, y9, h, hi, et, ey⟩ := r_a57 hl h1 hv h
  have h := P_p (P_n (P_n (P_n (P_n (P_n (P_n (P_n (P_n (P_n (P_n (P_n (P_n (h) (by rw [show ((19 : Int32)).toInt = 19 by decide]; omega)) (by rw [show ((40 : Int32)).toInt = 40 by decide]; omega)) (by rw [show ((22 : Int32)).toInt = 22 by decide]; omega)) (by rw [show ((23 : Int32)).toInt = 23 by decide]; omega)) (by rw [show ((6 : Int32)).toInt = 6 by decide]; omega)) (by rw [show ((148 : Int32)).toInt = 148 by decide]; omega)) (by rw [show ((25 : Int32)).toInt = 25 by decide]; omega)) (by rw [show ((31 : Int32)).toInt = 31 by decide]; omega)) (by rw [show ((32 : Int32)).toInt = 32 by decide]; omega)) (by rw [show ((35 : Int32)).toInt = 35 by decide]; omega)) (by rw [show ((155 : Int32)).toInt = 155 by decide]; omega)) (by rw [show ((26 : Int32)).toInt = 26 by decide]; omega)) (by rw [show ((46 : Int32)).toInt = 46 by decide]; omega)
  have h := P_p (P_n h (by rw [show ((80 : Int32)).toInt = 80 by decide]; omega)) (by rw [show ((111 : Int32)).toInt = 111 by decide]; omega)
  have h := P_p h (by rw [show ((144 : Int32)).toInt = 144 by decide]; omega)
  obtain ⟨v2, n2, sl2, SH2, FI2, FL2, FR2, hh, -, e⟩ := h
  obtain ⟨e2, q1, q2, q3⟩ := ra_hold (o := o) (H := (2, a, [])) hl hv (fun F2 L2 _ f1 f2 _ => rt_2 (by omega) (by omega) f1 f2) hh
  rw [e2] at e
  exact ⟨_, _, e, q1, q2, q3⟩
theorem ra_159 (hl : l4.toInt = l) (h1 : l ≤ 1) (hc : c.toInt = 159) (hv : rv FI FL SH l (t :: R, H, P)) (h : RX12_acts l4 c a b n sl SH FI FL FR u st) : ra_c n sl SH FI FL FR l o st (R, (3, t, []), P) := by
  obtain ⟨i, t9, y9, h, hi, et, ey⟩ := r_a57 hl h1 hv h
  rw [et _ _ rfl] at h
  have h := P_p (P_n (P_n (P_n (P_n (P_n (P_n (P_n (P_n (P_n (P_n (P_n (P_n (h) (by rw [show ((19 : Int32)).toInt = 19 by decide]; omega)) (by rw [show ((40 : Int32)).toInt = 40 by decide]; omega)) (by rw [show ((22 : Int32)).toInt = 22 by decide]; omega)) (by rw [show ((23 : Int32)).toInt = 23 by decide]; omega)) (by rw [show ((6 : Int32)).toInt = 6 by decide]; omega)) (by rw [show ((148 : Int32)).toInt = 148 by decide]; omega)) (by rw [show ((25 : Int32)).toInt = 25 by decide]; omega)) (by rw [show ((31 : Int32)).toInt = 31 by decide]; omega)) (by rw [show ((32 : Int32)).toInt = 32 by decide]; omega)) (by rw [show ((35 : Int32)).toInt = 35 by decide]; omega)) (by rw [show ((155 : Int32)).toInt = 155 by decide]; omega)) (by rw [show ((26 : Int32)).toInt = 26 by decide]; omega)) (by rw [show ((46 : Int32)).toInt = 46 by decide]; omega)
  have h := P_p (P_n h (by rw [show ((80 : Int32)).toInt = 80 by decide]; omega)) (by rw [show ((111 : Int32)).toInt = 111 by decide]; omega)
  have h := P_p (P_n h (by rw [show ((144 : Int32)).toInt = 144 by decide]; omega)) (by rw [show ((159 : Int32)).toInt = 159 by decide]; omega)
  obtain ⟨-, v2, n2, sl2, SH2, FI2, FL2, FR2, hh, -, e⟩ := h
  obtain ⟨F2, e2, p1, p2, p3⟩ := ra_pop (o := o) hv
  rw [show l4.toInt.toNat = l by omega, ← e2] at hh
  obtain ⟨e3, q1, q2, q3⟩ := ra_hold (o := o) (H := (3, t, [])) hl p1 (fun F2 L2 _ f1 f2 _ => rt_3 f1 f2) hh
  rw [e3] at e
  exact ⟨_, _, e, q1, gz_tr p2 q2, q3.trans p3⟩
theorem ra_158 (hl : l4.toInt = l) (h1 : l ≤ 1) (hc : c.toInt = 158) {B : List Int32} {D : Nat} (hb : b.toInt = D) (hB : bk FI SH 124 D B) (ha : a.toInt = B.length) (hB2 : B.length ≤ 100000) (hv : rv FI FL SH l s) (h : RX12_acts l4 c a b n sl SH FI FL FR u st) : ra_c n sl SH FI FL FR l o st (s.1, (4, a, B), s.2.2) := by
  obtain ⟨i, t9, y9, h, hi, et, ey⟩ := r_a57 hl h1 hv h
  have h := P_p (P_n (P_n (P_n (P_n (P_n (P_n (P_n (P_n (P_n (P_n (P_n (P_n (h) (by rw [show ((19 : Int32)).toInt = 19 by decide]; omega)) (by rw [show ((40 : Int32)).toInt = 40 by decide]; omega)) (by rw [show ((22 : Int32)).toInt = 22 by decide]; omega)) (by rw [show ((23 : Int32)).toInt = 23 by decide]; omega)) (by rw [show ((6 : Int32)).toInt = 6 by decide]; omega)) (by rw [show ((148 : Int32)).toInt = 148 by decide]; omega)) (by rw [show ((25 : Int32)).toInt = 25 by decide]; omega)) (by rw [show ((31 : Int32)).toInt = 31 by decide]; omega)) (by rw [show ((32 : Int32)).toInt = 32 by decide]; omega)) (by rw [show ((35 : Int32)).toInt = 35 by decide]; omega)) (by rw [show ((155 : Int32)).toInt = 155 by decide]; omega)) (by rw [show ((26 : Int32)).toInt = 26 by decide]; omega)) (by rw [show ((46 : Int32)).toInt = 46 by decide]; omega)
  have h := P_p (P_n h (by rw [show ((80 : Int32)).toInt = 80 by decide]; omega)) (by rw [show ((111 : Int32)).toInt = 111 by decide]; omega)
  have h := P_p (P_n (P_n h (by rw [show ((144 : Int32)).toInt = 144 by decide]; omega)) (by rw [show ((159 : Int32)).toInt = 159 by decide]; omega)) (by rw [show ((158 : Int32)).toInt = 158 by decide]; omega)
  obtain ⟨v2, n2, sl2, SH2, FI2, FL2, FR2, hh, -, e⟩ := h
  obtain ⟨e2, q1, q2, q3⟩ := ra_hold (o := o) (H := (4, a, B)) hl hv (fun F2 L2 f0 f1 f2 f3 => ⟨by rw [f1]; show ((4 : Int32)).toInt = 4; decide, Or.inr (Or.inr (Or.inr (Or.inr ⟨rfl, ha⟩))), fun e => absurd e (by simp), fun _ => ⟨D, by rw [f2]; exact hb, by rw [f3]; exact l_2i (A := (B.length : Int)) ha (by omega) (by omega), bk_fr hB f0⟩⟩) hh
  rw [e2] at e
  exact ⟨_, _, e, q1, q2, q3⟩
theorem ra_150 (hl : l4.toInt = l) (h1 : l ≤ 1) (hc : c.toInt = 150) (hv : rv FI FL SH l s) (h : RX12_acts l4 c a b n sl SH FI FL FR u st) : ra_c n sl SH FI FL FR l o st s := by
  obtain ⟨i, t9, y9, h, hi, et, ey⟩ := r_a57 hl h1 hv h
  have h := P_p (P_n (P_n (P_n (P_n (P_n (P_n (P_n (P_n (P_n (P_n (P_n (P_n (h) (by rw [show ((19 : Int32)).toInt = 19 by decide]; omega)) (by rw [show ((40 : Int32)).toInt = 40 by decide]; omega)) (by rw [show ((22 : Int32)).toInt = 22 by decide]; omega)) (by rw [show ((23 : Int32)).toInt = 23 by decide]; omega)) (by rw [show ((6 : Int32)).toInt = 6 by decide]; omega)) (by rw [show ((148 : Int32)).toInt = 148 by decide]; omega)) (by rw [show ((25 : Int32)).toInt = 25 by decide]; omega)) (by rw [show ((31 : Int32)).toInt = 31 by decide]; omega)) (by rw [show ((32 : Int32)).toInt = 32 by decide]; omega)) (by rw [show ((35 : Int32)).toInt = 35 by decide]; omega)) (by rw [show ((155 : Int32)).toInt = 155 by decide]; omega)) (by rw [show ((26 : Int32)).toInt = 26 by decide]; omega)) (by rw [show ((46 : Int32)).toInt = 46 by decide]; omega)
  have h := P_p (P_n h (by rw [show ((80 : Int32)).toInt = 80 by decide]; omega)) (by rw [show ((111 : Int32)).toInt = 111 by decide]; omega)
  have h := P_n (P_n (P_n h (by rw [show ((144 : Int32)).toInt = 144 by decide]; omega)) (by rw [show ((159 : Int32)).toInt = 159 by decide]; omega)) (by rw [show ((158 : Int32)).toInt = 158 by decide]; omega)
  exact ⟨_, _, h.2, hv, gz_rf, rfl⟩
theorem ra_47 (hl : l4.toInt = l) (h1 : l ≤ 1) (hc : c.toInt = 47) (hv : rv FI FL SH l s) (h : RX12_acts l4 c a b n sl SH FI FL FR u st) : ra_c n sl SH FI FL FR l o st s := by
  obtain ⟨i, t9, y9, h, hi, et, ey⟩ := r_a57 hl h1 hv h
  have h := P_p (P_n (P_n (P_n (P_n (P_n (P_n (P_n (P_n (P_n (P_n (P_n (P_n (h) (by rw [show ((19 : Int32)).toInt = 19 by decide]; omega)) (by rw [show ((40 : Int32)).toInt = 40 by decide]; omega)) (by rw [show ((22 : Int32)).toInt = 22 by decide]; omega)) (by rw [show ((23 : Int32)).toInt = 23 by decide]; omega)) (by rw [show ((6 : Int32)).toInt = 6 by decide]; omega)) (by rw [show ((148 : Int32)).toInt = 148 by decide]; omega)) (by rw [show ((25 : Int32)).toInt = 25 by decide]; omega)) (by rw [show ((31 : Int32)).toInt = 31 by decide]; omega)) (by rw [show ((32 : Int32)).toInt = 32 by decide]; omega)) (by rw [show ((35 : Int32)).toInt = 35 by decide]; omega)) (by rw [show ((155 : Int32)).toInt = 155 by decide]; omega)) (by rw [show ((26 : Int32)).toInt = 26 by decide]; omega)) (by rw [show ((46 : Int32)).toInt = 46 by decide]; omega)
  have h := P_p h (by rw [show ((80 : Int32)).toInt = 80 by decide]; omega)
  have h := P_n (P_n (P_n h (by rw [show ((144 : Int32)).toInt = 144 by decide]; omega)) (by rw [show ((159 : Int32)).toInt = 159 by decide]; omega)) (by rw [show ((158 : Int32)).toInt = 158 by decide]; omega)
  exact ⟨_, _, h.2, hv, gz_rf, rfl⟩
theorem rt_cp {F2 : Nat → Nat → Int32} {L2 : Nat → Nat → Int64} {K V Z i K2 V2 Z2 j : Nat} (h : rt FI FL SH K V Z i H) (e0 : F2 124 = FI 124) (e1 : F2 K2 j = FI K i) (e2 : L2 V2 j = FL V i) (e3 : F2 Z2 j = FI Z i) : rt F2 L2 SH K2 V2 Z2 j H := by
  unfold rt
  rw [e1, e2, e3]
  refine ⟨h.1, h.2.1, h.2.2.1, fun h4 => ?_⟩
  obtain ⟨A, a1, a2, a3⟩ := h.2.2.2 h4
  exact ⟨A, a1, a2, bk_fr a3 e0⟩
theorem x_ab {x z : Int64} : ((fX12_isAbove x z SH FI FL FR).toInt = 0) ↔ ¬ (x.toInt < 0 ∨ z.toInt < x.toInt) := by
  unfold fX12_isAbove
  rw [show ((0 : Int64)).toInt = 0 by decide]
  by_cases h1 : x.toInt < 0
  · rw [if_pos h1]; exact ⟨fun e => absurd e (by decide), fun e => absurd (Or.inl h1) e⟩
  · rw [if_neg h1]
    by_cases h2 : z.toInt < x.toInt
    · rw [if_pos h2]; exact ⟨fun e => absurd e (by decide), fun e => absurd (Or.inr h2) e⟩
    · rw [if_neg h2]; exact ⟨fun _ w => w.elim h1 h2, fun _ => by decide⟩
/-- a piece more -/
theorem rv_pc {F2 : Nat → Nat → Int32} {L2 : Nat → Nat → Int64} {T : ms_H} {w f : Int} (hv : rv FI FL SH l s) (hn : s.2.2.length < 16) (hw : 0 ≤ w ∧ w ≤ 4096) (hf : 0 ≤ f ∧ f ≤ 4096) (hb : ms_tb s.2.2 + w ≤ 4096) (e124 : F2 124 = FI 124) (e128 : (F2 128 l).toInt = 0) (e136 : (F2 136 l).toInt = 0) (e129 : (F2 129 l).toInt = ((s.2.2.length + 1 : Nat) : Int)) (e135 : (F2 135 l).toInt = ms_tb s.2.2 + w) (o1 : ∀ r i, (r = 130 ∨ r = 132 ∨ r = 133 ∨ r = 134) → i ≠ 16 * l + s.2.2.length → F2 r i = FI r i) (o2 : ∀ i, i ≠ 16 * l + s.2.2.length → L2 131 i = FL 131 i) (n1 : rt F2 L2 SH 130 131 134 (16 * l + s.2.2.length) T) (n2 : (F2 132 (16 * l + s.2.2.length)).toInt = w) (n3 : (F2 133 (16 * l + s.2.2.length)).toInt = f) : rv F2 L2 SH l ([], ms_0, (T, w, f) :: s.2.2) := by
  obtain ⟨h1, h2, h3, h4, h5, h6, h7, h8, h9, h10⟩ := hv
  refine ⟨e128, Nat.zero_le _, trivial, ⟨e136, Or.inl ⟨rfl, rfl⟩, fun e => absurd (show (0 : Int) = 1 ∨ (0 : Int) = 2 ∨ (0 : Int) = 3 from e) (by decide), fun e => absurd (show (0 : Int) = 4 from e) (by decide)⟩, e129, hn, ?_, ?_, ?_, ⟨n1, n2, n3, hw.1, hw.2, hf.1, hf.2⟩, lv_mono (fun i x hi _ hx => rq_fr hx e124 (fun r hr => o1 r _ hr (by omega)) (o2 _ (by omega))) h10⟩
  · show _ = w + ms_tb s.2.2
    omega
  · show 0 ≤ w + ms_tb s.2.2
    omega
  · show w + ms_tb s.2.2 ≤ 4096
    omega
theorem r_202 {w : Int32} {v : Int32} {a3 a4 : Int64} {a2 : Int32} (hl : l4.toInt = l) (h : RX12_isPiece_202 l4 a2 a3 a4 w n sl SH FI FL FR v st) : v = 1 ∧ st = (n, sl, SH, h_up (h_up (h_up (h_up FI 135 l (FI 135 l + w)) 129 l (FI 129 l + (1 : Int32))) 136 l (0 : Int32)) 128 l (0 : Int32), FL, FR) := by
  obtain ⟨-, -, -, -, -, -, e1, e⟩ := h
  rw [show l4.toInt.toNat = l by omega] at e
  exact ⟨e1, e⟩
theorem r_60 {w v a2 : Int32} {W : Int} {f : Int64} (hl : l4.toInt = l) (h1 : l ≤ 1) (hv : rv FI FL SH l s) (hn : s.2.2.length < 16) (hw : w.toInt = W) (hW : 0 ≤ W ∧ W ≤ 4096) (hf : 0 ≤ f.toInt ∧ f.toInt ≤ 4096) (h : RX12_isPiece_60 l4 a2 a f w n sl SH FI FL FR v st) : (4096 < ms_tb s.2.2 + W ∧ v = 0) ∨ (ms_tb s.2.2 + W ≤ 4096 ∧ v = 1 ∧ ra_c n sl SH FI FL FR l o st ([], ms_0, (ms_tg s, W, f.toInt) :: s.2.2)) := by
  obtain ⟨-, h⟩ := h
  have el : l4.toInt.toNat = l := by omega
  obtain ⟨v1, v2, v3, v4, v5, v6, v7, v8, v9, v10⟩ := id hv
  rw [el, show ((4096 : Int32)).toInt = 4096 by decide, i_add v7 hw (by omega) (by omega)] at h
  rcases h with ⟨h0, e, -⟩ | ⟨h0, h⟩
  · exact Or.inl ⟨h0, e⟩
  · refine Or.inr ⟨by omega, ?_⟩
    obtain ⟨-, -, -, -, -, -, -, -, -, -, h⟩ := h
    have ej : (((16 : Int32)) * l4 + FI 129 l).toInt.toNat = 16 * l + s.2.2.length := by
      rw [i_add (i_mul (by decide : ((16 : Int32)).toInt = 16) hl (by omega) (by omega)) v5 (by omega) (by omega)]
      omega
    rw [ej] at h
    have ef : (f.toInt32).toInt = f.toInt := l_2i rfl (by omega) (by omega)
    have j1 : 16 * l ≤ 16 * l + s.2.2.length ∧ 16 * l + s.2.2.length < 16 * l + 16 := by omega
    have g1 : ∀ r, (r = 130 ∨ r = 132 ∨ r = 133 ∨ r = 134) → wi l r (16 * l + s.2.2.length) := fun r hr => Or.inr (Or.inr ⟨hr, j1⟩)
    have g2 : ∀ r, (r = 128 ∨ r = 129 ∨ r = 135 ∨ r = 136 ∨ r = 138) → wi l r l := fun r hr => Or.inr (Or.inl ⟨hr, rfl⟩)
    have g3 : wlz l 131 (16 * l + s.2.2.length) := Or.inr (Or.inr (Or.inr ⟨rfl, j1⟩))
    obtain ⟨j, hj⟩ : ∃ j, j = 16 * l + s.2.2.length := ⟨_, rfl⟩
    rw [← hj] at h g1 g3
    have fin : ∀ (F : Nat → Nat → Int32) (L : Nat → Nat → Int64) (T : ms_H), j = 16 * l + s.2.2.length → (∀ r, ¬ (r = 130 ∨ r = 132 ∨ r = 133 ∨ r = 134) → F r = FI r) → (∀ r i, (r = 130 ∨ r = 132 ∨ r = 133 ∨ r = 134) → i ≠ j → F r i = FI r i) → (∀ i, i ≠ j → L 131 i = FL 131 i) → F 132 j = w → F 133 j = f.toInt32 → rt F L SH 130 131 134 j T → gz l o FI FL F L → RX12_isPiece_202 l4 a2 a f w n sl SH F L FR v st → v = 1 ∧ ra_c n sl SH FI FL FR l o st ([], ms_0, (T, W, f.toInt) :: s.2.2) := by
      intro F L T hj q1 q2 q3 q4 q5 q6 q7 hh
      obtain ⟨e1, e⟩ := r_202 hl hh
      refine ⟨e1, _, _, e, ?_, gz_i (gz_i (gz_i (gz_i q7 (g2 135 (by omega))) (g2 129 (by omega))) (g2 136 (by omega))) (g2 128 (by omega)), by rw [h_up_nc (by decide), h_up_nc (by decide), h_up_nc (by decide), h_up_nc (by decide), q1 121 (by omega)]⟩
      subst hj
      refine rv_pc hv hn hW hf (by omega) (by rw [h_up_nc (by decide), h_up_nc (by decide), h_up_nc (by decide), h_up_nc (by decide), q1 124 (by omega)]) (by rw [h_up_eq]; decide) (by rw [h_up_nc (by decide), h_up_eq]; decide) (by rw [h_up_nc (by decide), h_up_nc (by decide), h_up_eq, q1 129 (by omega), i_add v5 (by decide : ((1 : Int32)).toInt = 1) (by omega) (by omega)]; omega) (by rw [h_up_nc (by decide), h_up_nc (by decide), h_up_nc (by decide), h_up_eq, q1 135 (by omega)]; exact i_add v7 hw (by omega) (by omega)) (fun r i hr hi => by rw [h_up_nc (by omega), h_up_nc (by omega), h_up_nc (by omega), h_up_nc (by omega)]; exact q2 r i hr hi) q3 (rt_fr q6 (by rw [h_up_nc (by decide), h_up_nc (by decide), h_up_nc (by decide), h_up_nc (by decide)]) (by rw [h_up_nc (by decide), h_up_nc (by decide), h_up_nc (by decide), h_up_nc (by decide)]) rfl (by rw [h_up_nc (by decide), h_up_nc (by decide), h_up_nc (by decide), h_up_nc (by decide)])) (by rw [h_up_nc (by decide), h_up_nc (by decide), h_up_nc (by decide), h_up_nc (by decide), q4]; exact hw) (by rw [h_up_nc (by decide), h_up_nc (by decide), h_up_nc (by decide), h_up_nc (by decide), q5]; exact ef)
    have qa : ∀ r, ¬ (r = 130 ∨ r = 132 ∨ r = 133 ∨ r = 134) → (h_up (h_up (h_up (h_up FI 132 j w) 133 j f.toInt32) 130 j (FI 136 l)) 134 j (FI 138 l)) r = FI r := fun r hr => by rw [h_up_nc (by omega), h_up_nc (by omega), h_up_nc (by omega), h_up_nc (by omega)]
    have qb : ∀ r i, (r = 130 ∨ r = 132 ∨ r = 133 ∨ r = 134) → i ≠ j → (h_up (h_up (h_up (h_up FI 132 j w) 133 j f.toInt32) 130 j (FI 136 l)) 134 j (FI 138 l)) r i = FI r i := fun r i _ hi => by rw [h_up_x (by omega), h_up_x (by omega), h_up_x (by omega), h_up_x (by omega)]
    have qc : gz l o FI FL (h_up (h_up (h_up (h_up FI 132 j w) 133 j f.toInt32) 130 j (FI 136 l)) 134 j (FI 138 l)) (h_up FL 131 j (FL 137 l)) := gz_i (gz_i (gz_i (gz_i (gz_l gz_rf g3) (g1 132 (by omega))) (g1 133 (by omega))) (g1 130 (by omega))) (g1 134 (by omega))
    have qd : (h_up (h_up (h_up (h_up FI 132 j w) 133 j f.toInt32) 130 j (FI 136 l)) 134 j (FI 138 l)) 132 j = w := by rw [h_up_nc (by decide), h_up_nc (by decide), h_up_nc (by decide), h_up_eq]
    have qe : (h_up (h_up (h_up (h_up FI 132 j w) 133 j f.toInt32) 130 j (FI 136 l)) 134 j (FI 138 l)) 133 j = f.toInt32 := by rw [h_up_nc (by decide), h_up_nc (by decide), h_up_eq]
    have qf : (h_up (h_up (h_up (h_up FI 132 j w) 133 j f.toInt32) 130 j (FI 136 l)) 134 j (FI 138 l)) 130 j = FI 136 l := by rw [h_up_nc (by decide), h_up_eq]
    unfold ms_tg
    rw [← v4.1]
    rcases h with ⟨h2, -, h⟩ | ⟨h2, h⟩
    · rw [if_pos h2]
      have hs0 : s.2.1.1 = 0 := by rw [← v4.1]; exact h2
      obtain ⟨S, sr⟩ := s
      dsimp only at v1 v2 v3 h ⊢
      rcases h with ⟨h3, -, -, -, -, h⟩ | ⟨h3, h⟩
      · cases S with
        | nil => exfalso; rw [v1] at h3; exact absurd h3 (by decide)
        | cons t R =>
          have ei : ((((128 : Int32)) * l4 + FI 128 l) - (1 : Int32)).toInt.toNat = 128 * l + R.length := by
            rw [i_sub (rr_ix hl h1 v1 (by omega)) (by decide : ((1 : Int32)).toInt = 1) (by omega) (by omega)]
            simp only [List.length_cons]
            omega
          rw [ei, show FL 127 (128 * l + R.length) = t from v3.1] at h
          refine fin _ _ (1, t, []) hj (fun r hr => by rw [h_up_nc (by omega)]; exact qa r hr) (fun r i hr hi => by rw [h_up_x (by omega)]; exact qb r i hr hi) (fun i hi => by rw [h_up_ne hi, h_up_ne hi]) (by rw [h_up_nc (by decide)]; exact qd) (by rw [h_up_nc (by decide)]; exact qe) ⟨by rw [h_up_eq]; show ((1 : Int32)).toInt = 1; decide, Or.inr (Or.inl ⟨rfl, rfl⟩), fun _ => h_up_eq, fun e => absurd (show (1 : Int) = 4 from e) (by decide)⟩ (gz_i (gz_l qc g3) (g1 130 (by omega))) h
      · cases S with
        | cons t R => exfalso; rw [v1] at h3; simp only [List.length_cons] at h3; omega
        | nil =>
          exact fin _ _ ms_0 hj qa qb (fun i hi => by rw [h_up_ne hi]) qd qe ⟨by rw [qf]; exact h2, Or.inl ⟨rfl, rfl⟩, fun e => absurd e (by decide), fun e => absurd e (by decide)⟩ qc h
    · rw [if_neg h2]
      exact fin _ _ s.2.1 hj qa qb (fun i hi => by rw [h_up_ne hi]) qd qe (rt_cp v4 (qa 124 (by omega)) qf h_up_eq h_up_eq) qc h
/-- the reference's isPiece -/
theorem r_piece {c : Int} {bw v : Int32} {f : Int64} (hl : l4.toInt = l) (h1 : l ≤ 1) (hv : rv FI FL SH l s) (hc : (c = 147 ∧ bw = 0 ∧ f = 0) ∨ (c = 157 ∧ bw = 1)) (h : RX12_isPiece l4 bw a f n sl SH FI FL FR v st) : match ms_pc c a f s with
    | none => v = 0
    | some s2 => v = 1 ∧ ra_c n sl SH FI FL FR l o st s2 := by
  obtain ⟨-, h⟩ := h
  have el : l4.toInt.toNat = l := by omega
  obtain ⟨v1, v2, v3, v4, v5, v6, v7, v8, v9, v10⟩ := id hv
  rw [el, show ((16 : Int32)).toInt = 16 by decide, v5] at h
  unfold ms_pc
  rcases h with ⟨h0, e, -⟩ | ⟨h0, h⟩
  · rw [if_pos (Or.inl (by omega))]; exact e
  · rcases hc with ⟨hc, hb, hf⟩ | ⟨hc, hb⟩
    · subst hc; subst hb; subst hf
      have h := P_p h (by decide)
      unfold RX12_isPiece_26 at h
      rw [x_ab, x_ab, show ((512 : Int64)).toInt = 512 by decide, show ((0 : Int64)).toInt = 0 by decide, show ((4096 : Int64)).toInt = 4096 by decide] at h
      rw [if_neg (show ¬ ((147 : Int) = 157) by decide), if_neg (show ¬ ((147 : Int) = 157) by decide), if_neg (show ¬ ((147 : Int) = 157) by decide)]
      rcases h with ⟨h2, h⟩ | ⟨h2, e, -⟩
      · have h := P_p (P_p h (by decide)) (by decide)
        have e8 : ((8 : Int32) * a.toInt32).toInt = 8 * a.toInt := i_mul (by decide) (l_2i rfl (by omega) (by omega)) (by omega) (by omega)
        rcases r_60 (o := o) hl h1 hv (by omega) e8 (by omega) (by decide) h with ⟨q, e⟩ | ⟨q, e, r⟩
        · rw [if_pos (by omega)]; exact e
        · rw [if_neg (by omega)]
          exact ⟨e, r⟩
      · rw [if_pos (by omega)]; exact e
    · subst hc; subst hb
      have h := P_n h (by decide)
      unfold RX12_isPiece_26 at h
      rw [x_ab, x_ab, show ((4096 : Int64)).toInt = 4096 by decide] at h
      rw [if_pos rfl, if_pos rfl, if_pos rfl]
      rcases h with ⟨h2, h⟩ | ⟨h2, e, -⟩
      · rcases h with ⟨h3, h⟩ | ⟨h3, e, -⟩
        · have h := P_n h (by decide)
          rcases r_60 (o := o) hl h1 hv (by omega) (l_2i (A := a.toInt) rfl (by omega) (by omega)) (by omega) (by omega) h with ⟨q, e⟩ | ⟨q, e, r⟩
          · rw [if_pos (by omega)]; exact e
          · rw [if_neg (by omega)]
            exact ⟨e, r⟩
        · rw [if_pos (by omega)]; exact e
      · rw [if_pos (by omega)]; exact e
end RB
