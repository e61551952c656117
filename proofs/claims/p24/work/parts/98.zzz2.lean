/-! WHAT CODE MEANS: the operations. -/
section CE2
variable {E : ms_E} {fb : xX} {c : List Int} {x : xX}
theorem ce_c {v : Int} (h0 : 0 ≤ v) (h1 : v ≤ 999999999999999999) : ce E fb (lc_c v) (.inr (Int64.ofInt v)) := by
  unfold lc_c
  by_cases a1 : v ≤ 31
  · rw [if_pos a1]
    refine ce_1 (o := []) (fun r S => ?_)
    show cx1 E fb (48 + v) r S = _
    unfold cx1
    rw [if_pos (by omega), show 48 + v - 48 = v by omega]
    rfl
  rw [if_neg a1]
  by_cases a2 : v ≤ 255
  · rw [if_pos a2]
    refine ce_1 (fun r S => ?_)
    unfold cx1
    rw [if_neg (by first | decide | (simp; done) | (simp [ms_0]; done)), if_pos rfl, xb_by r 1 v h0 (by rw [show (256 : Int) ^ 1 = 256 by first | decide | (simp; done) | (simp [ms_0]; done)]; omega)]
    rfl
  rw [if_neg a2]
  by_cases a3 : v ≤ 65535
  · rw [if_pos a3]
    refine ce_1 (fun r S => ?_)
    unfold cx1
    rw [if_neg (by first | decide | (simp; done) | (simp [ms_0]; done)), if_neg (by first | decide | (simp; done) | (simp [ms_0]; done)), if_pos rfl, xb_by r 2 v h0 (by rw [show (256 : Int) ^ 2 = 65536 by first | decide | (simp; done) | (simp [ms_0]; done)]; omega)]
    rfl
  rw [if_neg a3]
  by_cases a4 : v ≤ 4294967295
  · rw [if_pos a4]
    refine ce_1 (fun r S => ?_)
    unfold cx1
    rw [if_neg (by first | decide | (simp; done) | (simp [ms_0]; done)), if_neg (by first | decide | (simp; done) | (simp [ms_0]; done)), if_neg (by first | decide | (simp; done) | (simp [ms_0]; done)), if_pos rfl, xb_by r 4 v h0 (by rw [show (256 : Int) ^ 4 = 4294967296 by first | decide | (simp; done) | (simp [ms_0]; done)]; omega)]
    rfl
  · rw [if_neg a4]
    refine ce_1 (fun r S => ?_)
    unfold cx1
    rw [if_neg (by first | decide | (simp; done) | (simp [ms_0]; done)), if_neg (by first | decide | (simp; done) | (simp [ms_0]; done)), if_neg (by first | decide | (simp; done) | (simp [ms_0]; done)), if_neg (by first | decide | (simp; done) | (simp [ms_0]; done)), if_pos rfl, xb_by r 8 v h0 (by rw [show (256 : Int) ^ 8 = 18446744073709551616 by first | decide | (simp; done) | (simp [ms_0]; done)]; omega)]
    rfl
theorem xv_9 {p : Int} (h : -999999999999999999 ≤ p ∧ p ≤ 999999999999999999) (r : List Int) : xv (lc_s 9 p ++ r) 1 0 = (p, r) := by
  have e : (128 : Int) ^ 9 = 9223372036854775808 := by first | decide | (simp; done) | (simp [ms_0]; done)
  rw [xv_s r 9 p 1 0 (by rw [e]; omega) (by rw [e]; omega), show (0 : Int) + 1 * p = p by omega]
theorem xu_9 {p : Int} (h : 0 ≤ p ∧ p ≤ 999999999999999999) (r : List Int) : xu (lc_u 9 p ++ r) 1 0 = (p, r) := by
  have e : (128 : Int) ^ (9 + 1) = 1180591620717411303424 := by first | decide | (simp; done) | (simp [ms_0]; done)
  rw [xu_u r 9 p 1 0 h.1 (by rw [e]; omega), show (0 : Int) + 1 * p = p by omega]
theorem ce_rg {k p : Int} (hk : 0 ≤ k ∧ k ≤ 31) (h : -999999999999999999 ≤ p ∧ p ≤ 999999999999999999) : ce E fb ((112 + k) :: lc_s 9 p) (x_ad (.inr (ms_rg E k.toNat)) p) := by
  refine ce_1 (fun r S => ?_)
  unfold cx1
  rw [if_neg (by omega), if_neg (by omega), if_neg (by omega), if_neg (by omega), if_neg (by omega), if_pos (by omega), xv_9 h, show 112 + k - 112 = k by omega]
  rfl
theorem ce_fb {p : Int} (h : -999999999999999999 ≤ p ∧ p ≤ 999999999999999999) : ce E fb (145 :: lc_s 9 p) (x_ad fb p) := by
  refine ce_1 (fun r S => ?_)
  unfold cx1
  rw [if_neg (by first | decide | (simp; done) | (simp [ms_0]; done)), if_neg (by first | decide | (simp; done) | (simp [ms_0]; done)), if_neg (by first | decide | (simp; done) | (simp [ms_0]; done)), if_neg (by first | decide | (simp; done) | (simp [ms_0]; done)), if_neg (by first | decide | (simp; done) | (simp [ms_0]; done)), if_neg (by first | decide | (simp; done) | (simp [ms_0]; done)), if_pos rfl, xv_9 h]
theorem ce_cf : ce E fb [156] (x_cfa E) := by
  refine ce_1 (o := []) (fun r S => ?_)
  show cx1 E fb 156 r S = _
  unfold cx1
  rw [if_neg (by first | decide | (simp; done) | (simp [ms_0]; done)), if_neg (by first | decide | (simp; done) | (simp [ms_0]; done)), if_neg (by first | decide | (simp; done) | (simp [ms_0]; done)), if_neg (by first | decide | (simp; done) | (simp [ms_0]; done)), if_neg (by first | decide | (simp; done) | (simp [ms_0]; done)), if_neg (by first | decide | (simp; done) | (simp [ms_0]; done)), if_neg (by first | decide | (simp; done) | (simp [ms_0]; done)), if_pos rfl]
theorem ce_ob : ce E fb [151] (x_obj E) := by
  refine ce_1 (o := []) (fun r S => ?_)
  show cx1 E fb 151 r S = _
  unfold cx1
  rw [if_neg (by first | decide | (simp; done) | (simp [ms_0]; done)), if_neg (by first | decide | (simp; done) | (simp [ms_0]; done)), if_neg (by first | decide | (simp; done) | (simp [ms_0]; done)), if_neg (by first | decide | (simp; done) | (simp [ms_0]; done)), if_neg (by first | decide | (simp; done) | (simp [ms_0]; done)), if_neg (by first | decide | (simp; done) | (simp [ms_0]; done)), if_neg (by first | decide | (simp; done) | (simp [ms_0]; done)), if_neg (by first | decide | (simp; done) | (simp [ms_0]; done)), if_pos rfl]
theorem ce_un {b : Int} (hb : b = 6 ∨ b = 155 ∨ b = 31 ∨ b = 32) (h : ce E fb c x) : ce E fb (c ++ [b]) (xe1 E b 0 x) := by
  refine ce_o (o := []) (xe1 E b 0) (fun e => rfl) h (fun t r S => ?_)
  show cx1 E fb b r (t :: S) = _
  unfold cx1
  rw [if_neg (by omega), if_neg (by omega), if_neg (by omega), if_neg (by omega), if_neg (by omega), if_neg (by omega), if_neg (by omega), if_neg (by omega), if_neg (by omega), if_neg (by omega)]
  (try dsimp only)
  rw [if_neg (by omega), if_pos hb]
theorem ce_rd {w : Int} (h : ce E fb c x) : ce E fb (c ++ [148, w]) (xe1 E 148 w x) := by
  refine ce_o (o := [w]) (xe1 E 148 w) (fun e => rfl) h (fun t r S => ?_)
  show cx1 E fb 148 (w :: r) (t :: S) = _
  unfold cx1
  rw [if_neg (by first | decide | (simp; done) | (simp [ms_0]; done)), if_neg (by first | decide | (simp; done) | (simp [ms_0]; done)), if_neg (by first | decide | (simp; done) | (simp [ms_0]; done)), if_neg (by first | decide | (simp; done) | (simp [ms_0]; done)), if_neg (by first | decide | (simp; done) | (simp [ms_0]; done)), if_neg (by first | decide | (simp; done) | (simp [ms_0]; done)), if_neg (by first | decide | (simp; done) | (simp [ms_0]; done)), if_neg (by first | decide | (simp; done) | (simp [ms_0]; done)), if_neg (by first | decide | (simp; done) | (simp [ms_0]; done)), if_neg (by first | decide | (simp; done) | (simp [ms_0]; done))]
  (try dsimp only)
  rw [if_pos rfl]
theorem ce_35 {w : Int} (hw : 0 ≤ w ∧ w ≤ 999999999999999999) (h : ce E fb c x) : ce E fb (c ++ 35 :: lc_u 9 w) (x_ad x w) := by
  refine ce_o (fun q => x_ad q w) (fun e => rfl) h (fun t r S => ?_)
  unfold cx1
  rw [if_neg (by first | decide | (simp; done) | (simp [ms_0]; done)), if_neg (by first | decide | (simp; done) | (simp [ms_0]; done)), if_neg (by first | decide | (simp; done) | (simp [ms_0]; done)), if_neg (by first | decide | (simp; done) | (simp [ms_0]; done)), if_neg (by first | decide | (simp; done) | (simp [ms_0]; done)), if_neg (by first | decide | (simp; done) | (simp [ms_0]; done)), if_neg (by first | decide | (simp; done) | (simp [ms_0]; done)), if_neg (by first | decide | (simp; done) | (simp [ms_0]; done)), if_neg (by first | decide | (simp; done) | (simp [ms_0]; done)), if_neg (by first | decide | (simp; done) | (simp [ms_0]; done))]
  (try dsimp only)
  rw [if_neg (by first | decide | (simp; done) | (simp [ms_0]; done)), if_neg (by first | decide | (simp; done) | (simp [ms_0]; done)), if_pos rfl, xu_9 hw]
  rfl
end CE2
