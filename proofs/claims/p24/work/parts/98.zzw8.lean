/-! THE REFERENCE'S OPERATIONS on a level. -/
section RA
variable {n sl : Nat} {SH : Nat → Nat × Nat} {FI : Nat → Nat → Int32} {FL : Nat → Nat → Int64} {FR : Nat → Nat → Option Nat} {l o : Nat} {l4 : Int32} {s : ms_S} {u : Unit} {st : hS} {E : ms_E}
theorem rr_ix {x : Int32} {k : Nat} (hl : l4.toInt = l) (h1 : l ≤ 1) (hx : x.toInt = k) (hk : k ≤ 1000) : (((128 : Int32)) * l4 + x).toInt = ((128 * l + k : Nat) : Int) := by
  rw [i_add (i_mul (by decide : ((128 : Int32)).toInt = 128) hl (by omega) (by omega)) hx (by omega) (by omega)]
  omega
theorem rr_push {x : Int64} (hl : l4.toInt = l) (h1 : l ≤ 1) (hv : rv FI FL SH l s) (hs : s.1.length < 128) (h : RX12_pushed l4 x n sl SH FI FL FR u st) : ∃ F2 L2, st = (n, sl, SH, F2, L2, FR) ∧ rv F2 L2 SH l (x :: s.1, s.2) ∧ gz l o FI FL F2 L2 ∧ F2 121 30 = FI 121 30 := by
  obtain ⟨-, -, -, -, -, h⟩ := h
  have el : l4.toInt.toNat = l := by omega
  rw [el] at h
  have ht := hv.1
  have ei := rr_ix hl h1 ht (by omega)
  have ein : (((128 : Int32)) * l4 + FI 128 l).toInt.toNat = 128 * l + s.1.length := by omega
  rw [ein] at h
  have e1 : (FI 128 l + (1 : Int32)).toInt = ((s.1.length + 1 : Nat) : Int) := by rw [i_add ht (by decide : ((1 : Int32)).toInt = 1) (by omega) (by omega)]; omega
  have key : ∀ F2 : Nat → Nat → Int32, (∀ r, r ≠ 128 → r ≠ 121 → F2 r = FI r) → F2 128 l = FI 128 l + (1 : Int32) → rv F2 (h_up FL 127 (128 * l + s.1.length) x) SH l (x :: s.1, s.2) := fun F2 f1 f2 => rv_st hv f1 (fun r hr _ => h_up_nc hr) (by rw [f2]; exact e1) (by simp only [List.length_cons]; omega) ⟨h_up_eq, lv_up hv.2.2.1 (Nat.le_refl _)⟩
  have w1 : wlz l 127 (128 * l + s.1.length) := Or.inr (Or.inl ⟨rfl, by omega, by omega⟩)
  have w2 : wi l 128 l := Or.inr (Or.inl ⟨Or.inl rfl, rfl⟩)
  rcases h with ⟨-, -, -, e⟩ | ⟨-, -, e⟩
  · exact ⟨_, _, e, key _ (fun r h1 h2 => by rw [h_up_nc h2, h_up_nc h1]) (by rw [h_up_nc (by decide), h_up_eq]), gz_i (gz_i (gz_l gz_rf w1) w2) (Or.inl ⟨rfl, by decide, by decide⟩), by rw [h_up_ne (by decide), h_up_nc (by decide)]⟩
  · exact ⟨_, _, e, key _ (fun r h1 _ => h_up_nc h1) h_up_eq, gz_i (gz_l gz_rf w1) w2, by rw [h_up_nc (by decide)]⟩
/-- where acts begins its choice -/
theorem r_a57 {c : Int32} {a b : Int64} (hl : l4.toInt = l) (h1 : l ≤ 1) (hv : rv FI FL SH l s) (h : RX12_acts l4 c a b n sl SH FI FL FR u st) : ∃ (i : Int32) (t s0 : Int64), RX12_acts_57 l4 c a b (FI 128 l) i t s0 n sl SH FI FL FR u st ∧ i.toInt = (128 * l : Int) + s.1.length - 1 ∧ (∀ t' R, s.1 = t' :: R → t = t') ∧ (∀ t' s' Q, s.1 = t' :: s' :: Q → s0 = s') := by
  obtain ⟨-, h⟩ := h
  have el : l4.toInt.toNat = l := by omega
  rw [el] at h
  have ht := hv.1
  have hlen := hv.2.1
  have ei : ((((128 : Int32)) * l4 + FI 128 l) - (1 : Int32)).toInt = (128 * l : Int) + s.1.length - 1 := by
    rw [i_sub (rr_ix hl h1 ht (by omega)) (by decide : ((1 : Int32)).toInt = 1) (by omega) (by omega)]
    omega
  generalize (((128 : Int32)) * l4 + FI 128 l) - (1 : Int32) = i at h ei
  have hS := hv.2.2.1
  obtain ⟨S, sr⟩ := s
  dsimp only at ht hlen ei hS ⊢
  have st1 : ∀ {t : Int64}, (∀ t' R, S = t' :: R → t = t') → RX12_acts_36 l4 c a b (FI 128 l) i t n sl SH FI FL FR u st → ∃ (i2 : Int32) (t s0 : Int64), RX12_acts_57 l4 c a b (FI 128 l) i2 t s0 n sl SH FI FL FR u st ∧ i2.toInt = (128 * l : Int) + S.length - 1 ∧ (∀ t' R, S = t' :: R → t = t') ∧ (∀ t' s' Q, S = t' :: s' :: Q → s0 = s') := by
    intro t ht1 h
    rcases h with ⟨h2, -, h⟩ | ⟨h2, h⟩
    · refine ⟨i, t, _, h, ei, ht1, fun t' s' Q e => ?_⟩
      subst e
      have k2 : (i - (1 : Int32)).toInt = (128 * l : Int) + Q.length := by
        simp only [List.length_cons] at ei hlen
        rw [i_sub ei (by decide : ((1 : Int32)).toInt = 1) (by omega) (by omega)]
        omega
      rw [show (i - (1 : Int32)).toInt.toNat = 128 * l + Q.length by omega]
      exact hS.2.1
    · refine ⟨i, t, _, h, ei, ht1, fun t' s' Q e => ?_⟩
      subst e
      exfalso
      rw [show ((1 : Int32)).toInt = 1 by decide, ht] at h2
      simp only [List.length_cons] at h2
      omega
  rcases h with ⟨h2, -, h⟩ | ⟨h2, h⟩
  · refine st1 (fun t' R e => ?_) h
    subst e
    simp only [List.length_cons] at ei
    rw [show i.toInt.toNat = 128 * l + R.length by omega]
    exact hS.1
  · refine st1 (fun t' R e => ?_) h
    subst e
    exfalso
    rw [ht] at h2
    simp only [List.length_cons] at h2
    omega
/-- the answer of an operation that acts -/
def ra_c (n sl : Nat) (SH : Nat → Nat × Nat) (FI : Nat → Nat → Int32) (FL : Nat → Nat → Int64) (FR : Nat → Nat → Option Nat) (l o : Nat) (st : hS) (s2 : ms_S) : Prop := ∃ F2 L2, st = (n, sl, SH, F2, L2, FR) ∧ rv F2 L2 SH l s2 ∧ gz l o FI FL F2 L2 ∧ F2 121 30 = FI 121 30
variable {c : Int32} {a b : Int64} {S R Q : List Int64} {H : ms_H} {P : List ms_P} {t y r : Int64}
theorem w_top {k : Nat} (hl : l ≤ 1) (hk : k < 128) : wlz l 127 (128 * l + k) := Or.inr (Or.inl ⟨rfl, by omega, by omega⟩)
theorem w_128 : wi l 128 l := Or.inr (Or.inl ⟨Or.inl rfl, rfl⟩)
/-- the top is taken away -/
theorem ra_pop (hv : rv FI FL SH l (t :: R, H, P)) : ∃ F2, F2 = h_up FI 128 l (FI 128 l - (1 : Int32)) ∧ rv F2 FL SH l (R, H, P) ∧ gz l o FI FL F2 FL ∧ F2 121 30 = FI 121 30 := by
  have ht := hv.1
  have hlen := hv.2.1
  simp only [List.length_cons] at ht hlen
  refine ⟨_, rfl, rv_st hv (fun r h1 _ => h_up_nc h1) (fun _ _ _ => rfl) ?_ (by omega) hv.2.2.1.2, gz_i gz_rf w_128, by rw [h_up_nc (by decide)]⟩
  rw [h_up_eq, i_sub ht (by decide : ((1 : Int32)).toInt = 1) (by omega) (by omega)]
  show ((R.length + 1 : Nat) : Int) - 1 = (R.length : Int)
  omega
/-- the top is changed -/
theorem ra_top (h1 : l ≤ 1) (hv : rv FI FL SH l (t :: R, H, P)) : rv FI (h_up FL 127 (128 * l + R.length) y) SH l (y :: R, H, P) ∧ gz l o FI FL FI (h_up FL 127 (128 * l + R.length) y) := by
  have ht := hv.1
  have hlen := hv.2.1
  simp only [List.length_cons] at ht hlen
  exact ⟨rv_st hv (fun _ _ _ => rfl) (fun r h1 _ => h_up_nc h1) ht hlen ⟨h_up_eq, lv_up hv.2.2.1.2 (Nat.le_refl _)⟩, gz_l gz_rf (w_top h1 (by omega))⟩
theorem ra_un (h1 : l ≤ 1) (hv : rv FI FL SH l (t :: R, H, P)) {i : Int32} (hi : i.toInt = (128 * l : Int) + ((t :: R).length : Int) - 1) (e : st = (n, sl, SH, FI, h_up FL 127 i.toInt.toNat y, FR)) : ra_c n sl SH FI FL FR l o st (y :: R, H, P) := by
  simp only [List.length_cons] at hi
  rw [show i.toInt.toNat = 128 * l + R.length by omega] at e
  exact ⟨_, _, e, (ra_top (o := o) h1 hv).1, (ra_top h1 hv).2, rfl⟩
theorem ra_read {x : Int64} {a2 : Int32} {k : Nat} {v : Int64} {st2 : hS} (hE : rE FI FL SH E) (h2 : a2.toInt = k) (hk : k ≤ 8) (hx0 : 0 ≤ x.toInt) (hx1 : x.toInt ≤ 4096 - k) (h : RX12_read x a2 n sl SH FI FL FR v st2) : v = ms_rd E x.toInt.toNat k ∧ st2 = (n, sl, SH, FI, FL, FR) := by
  obtain ⟨g, h⟩ := h
  have ex : x.toInt32.toInt = x.toInt := l_2i rfl (by omega) (by omega)
  have key : ∀ (g i : Nat) (l4l : Int64) (l6i : Int32), l6i.toInt = (i : Int) - 1 → i ≤ k → l4l = ms_le (((List.range k).map (fun i => ms_mm E (x.toInt.toNat + i))).drop i) → GX12_read_8 x a2 g l4l l6i n sl SH FI FL FR v st2 → v = ms_rd E x.toInt.toNat k ∧ st2 = (n, sl, SH, FI, FL, FR) := by
    intro g
    induction g with
    | zero => intro i l4l l6i _ _ _ h; exact h.elim
    | succ g ih =>
      intro i l4l l6i hi hik hl h
      rcases h with ⟨h0, e1, e2⟩ | ⟨h0, -, h⟩
      · have e : i = 0 := by omega
        subst e
        exact ⟨e1.trans hl, e2⟩
      · cases i with
        | zero => exfalso; omega
        | succ i =>
          have hx : (x.toInt32 + l6i).toInt = x.toInt + i := by rw [i_add ex hi (by omega) (by omega)]; omega
          rw [show (x.toInt32 + l6i).toInt.toNat = x.toInt.toNat + i by omega, hE.2.1 (x.toInt.toNat + i) (by omega)] at h
          refine ih i _ _ (by rw [i_add hi (by decide : ((-1 : Int32)).toInt = -1) (by omega) (by omega)]; omega) (by omega) ?_ h
          have h5 : ((List.range k).map (fun i => ms_mm E (x.toInt.toNat + i)))[i]? = some (ms_mm E (x.toInt.toNat + i)) := by
            rw [List.getElem?_map, List.getElem?_range (by omega)]
            rfl
          obtain ⟨hl5, e5⟩ := List.getElem?_eq_some_iff.mp h5
          rw [hl, List.drop_eq_getElem_cons hl5, e5]
          rfl
  refine key g k _ _ ?_ (Nat.le_refl _) ?_ h
  · rw [i_sub h2 (by decide : ((1 : Int32)).toInt = 1) (by omega) (by omega)]
  · rw [List.drop_of_length_le (by simp)]
    rfl
/-- a hold -/
theorem ra_hold {k z : Int32} {x : Int64} (hl : l4.toInt = l) (hv : rv FI FL SH l s) (hH : ∀ F2 L2, F2 124 = FI 124 → F2 136 l = k → L2 137 l = x → F2 138 l = z → rt F2 L2 SH 136 137 138 l H) {n2 sl2 : Nat} {S2 : Nat → Nat × Nat} {F2 : Nat → Nat → Int32} {L2 : Nat → Nat → Int64} {R2 : Nat → Nat → Option Nat} (h : RX12_hold l4 k x z n sl SH FI FL FR u (n2, sl2, S2, F2, L2, R2)) : (n2, sl2, S2, F2, L2, R2) = (n, sl, SH, F2, L2, FR) ∧ rv F2 L2 SH l (s.1, H, s.2.2) ∧ gz l o FI FL F2 L2 ∧ F2 121 30 = FI 121 30 := by
  obtain ⟨-, -, -, -, e⟩ := h
  rw [show l4.toInt.toNat = l by omega] at e
  cases e
  refine ⟨rfl, rv_hd hv (fun r h1 h2 => by rw [h_up_nc h2, h_up_nc h1]) (fun r h1 => h_up_nc h1) (hH _ _ (by rw [h_up_nc (by decide), h_up_nc (by decide)]) (by rw [h_up_nc (by decide), h_up_eq]) h_up_eq h_up_eq), gz_i (gz_i (gz_l gz_rf (Or.inr (Or.inr (Or.inl ⟨rfl, rfl⟩)))) (Or.inr (Or.inl ⟨Or.inr (Or.inr (Or.inr (Or.inl rfl))), rfl⟩))) (Or.inr (Or.inl ⟨Or.inr (Or.inr (Or.inr (Or.inr rfl))), rfl⟩)), by rw [h_up_nc (by decide), h_up_nc (by decide)]⟩
theorem rt_2 {x : Int64} (h0 : 0 ≤ x.toInt) (h1 : x.toInt ≤ 31) {F2 : Nat → Nat → Int32} {L2 : Nat → Nat → Int64} (e1 : F2 136 l = 2) (e2 : L2 137 l = x) : rt F2 L2 SH 136 137 138 l (2, x, []) := ⟨by rw [e1]; show ((2 : Int32)).toInt = 2; decide, Or.inr (Or.inr (Or.inl ⟨rfl, rfl, h0, h1⟩)), fun _ => e2, fun e => absurd (show (2 : Int) = 4 from e) (by decide)⟩
theorem rt_3 {x : Int64} {F2 : Nat → Nat → Int32} {L2 : Nat → Nat → Int64} (e1 : F2 136 l = 3) (e2 : L2 137 l = x) : rt F2 L2 SH 136 137 138 l (3, x, []) := ⟨by rw [e1]; show ((3 : Int32)).toInt = 3; decide, Or.inr (Or.inr (Or.inr (Or.inl ⟨rfl, rfl⟩))), fun _ => e2, fun e => absurd (show (3 : Int) = 4 from e) (by decide)⟩
end RA
