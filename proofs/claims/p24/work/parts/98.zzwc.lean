/-! THE REFERENCE'S STEP, all codes. -/
section RU
variable {K : Int32 → Int32 → Int32 → Int32 → Nat → Nat → (Nat → Nat × Nat) → (Nat → Nat → Int32) → (Nat → Nat → Int64) → (Nat → Nat → Option Nat) → Int32 → hS → Prop} {a1 a2 a3 l4 l5 l6 l7 l9 l10 l11 : Int32} {l12 l14 t y : Int64} {n sl : Nat} {SH : Nat → Nat × Nat} {FI : Nat → Nat → Int32} {FL : Nat → Nat → Int64} {FR : Nat → Nat → Option Nat} {v : Int32} {st : hS} {E : ms_E} {A l o : Nat} {bs : List Int32} {s : ms_S} {x : ms_O}
theorem sh_1 {S : List Int64} (h : ¬ ((S.length : Int) < 1)) : ∃ t R, S = t :: R := by
  cases S with
  | nil => exact absurd h (by first | decide | simp)
  | cons t R => exact ⟨t, R, rfl⟩
theorem sh_2 {S : List Int64} (h : ¬ ((S.length : Int) < 2)) : ∃ t y Q, S = t :: y :: Q := by
  match S, h with
  | [], h => exact absurd h (by first | decide | simp)
  | [t], h => exact absurd h (by first | decide | simp)
  | t :: y :: Q, _ => exact ⟨t, y, Q, rfl⟩
theorem sh_3 {S : List Int64} (h : ¬ ((S.length : Int) < 3)) : ∃ t y r Q, S = t :: y :: r :: Q := by
  match S, h with
  | [], h => exact absurd h (by first | decide | simp)
  | [t], h => exact absurd h (by first | decide | simp)
  | [t, y], h => exact absurd h (by first | decide | simp)
  | t :: y :: r :: Q, _ => exact ⟨t, y, r, Q, rfl⟩
theorem wt_1 {c : Int} {a : Int64} (h : c = 6 ∨ c = 18 ∨ c = 19 ∨ c = 25 ∨ c = 31 ∨ c = 32 ∨ c = 35 ∨ c = 40 ∨ c = 148 ∨ c = 155 ∨ c = 159) : ms_wt c a = 1 := by
  unfold ms_wt
  rw [if_pos h]
theorem wt_2 {c : Int} {a : Int64} (h : c = 20 ∨ c = 22 ∨ (26 ≤ c ∧ c ≤ 46 ∧ c ≠ 31 ∧ c ≠ 32 ∧ c ≠ 35 ∧ c ≠ 40)) : ms_wt c a = 2 := by
  unfold ms_wt
  rw [if_neg (by omega)]
  by_cases h1 : c = 20 ∨ c = 22
  · rw [if_pos h1]
  · rw [if_neg h1, if_neg (by omega), if_neg (by omega), if_pos (by omega)]
theorem wt_3 {c : Int} {a : Int64} (h : c = 23) : ms_wt c a = 3 := by
  unfold ms_wt
  rw [if_neg (by omega), if_neg (by omega), if_neg (by omega), if_pos h]
def rs_cb (k : Int) : Bool := decide (k = 47) || (decide (k = 40) || (decide (k = 152) || (decide (k = 153) || (decide (k = 145) || (decide (k = 147) || (decide (k = 157) || (decide (k = 6) || (decide (k = 148) || (decide (k = 19) || (decide (k = 25) || (decide (k = 31) || (decide (k = 32) || (decide (k = 35) || (decide (k = 155) || (decide (k = 159) || (decide (k = 22) || (decide (k = 23) || ((decide (26 ≤ k) && decide (k ≤ 46)) || ((decide (80 ≤ k) && decide (k ≤ 111)) || (decide (k = 144) || (decide (k = 150) || (decide (k = 158)))))))))))))))))))))))
theorem rs_cp {k : Int} (h : rs_cb k = true) : k = 47 ∨ k = 40 ∨ k = 152 ∨ k = 153 ∨ k = 145 ∨ k = 147 ∨ k = 157 ∨ k = 6 ∨ k = 148 ∨ k = 19 ∨ k = 25 ∨ k = 31 ∨ k = 32 ∨ k = 35 ∨ k = 155 ∨ k = 159 ∨ k = 22 ∨ k = 23 ∨ (26 ≤ k ∧ k ≤ 46) ∨ (80 ≤ k ∧ k ≤ 111) ∨ k = 144 ∨ k = 150 ∨ k = 158 := by
  unfold rs_cb at h
  simp only [Bool.or_eq_true, Bool.and_eq_true, decide_eq_true_eq] at h
  exact h
theorem rs_cod (k : Nat) (hk : k < 256) (h1 : ms_kn (k : Int) = true) (h2 : ms_pu (k : Int) = false) : (k : Int) = 47 ∨ (k : Int) = 40 ∨ (k : Int) = 152 ∨ (k : Int) = 153 ∨ (k : Int) = 145 ∨ (k : Int) = 147 ∨ (k : Int) = 157 ∨ (k : Int) = 6 ∨ (k : Int) = 148 ∨ (k : Int) = 19 ∨ (k : Int) = 25 ∨ (k : Int) = 31 ∨ (k : Int) = 32 ∨ (k : Int) = 35 ∨ (k : Int) = 155 ∨ (k : Int) = 159 ∨ (k : Int) = 22 ∨ (k : Int) = 23 ∨ (26 ≤ (k : Int) ∧ (k : Int) ≤ 46) ∨ (80 ≤ (k : Int) ∧ (k : Int) ≤ 111) ∨ (k : Int) = 144 ∨ (k : Int) = 150 ∨ (k : Int) = 158 := by
  have key : ∀ k : Nat, k < 256 → ms_kn (k : Int) = true → ms_pu (k : Int) = false → rs_cb (k : Int) = true := by decide +kernel
  exact rs_cp (key k hk h1 h2)
theorem rs_x (hd : rd_c E A bs l o s x l4 l6 l7 l10 l11 l12 l14 SH FI FL) (et : ∀ t' R, s.1 = t' :: R → t = t') (ey : ∀ t' s' Q, s.1 = t' :: s' :: Q → y = s') (hw : ¬ ((s.1.length : Int) < ms_wt l10.toInt x.1)) (h14 : ¬ ((l10.toInt = 144 ∨ l10.toInt = 146) ∧ (x.1.toInt < 0 ∨ 31 < x.1.toInt))) (h10 : ¬ (l10.toInt = 148 ∧ (x.1.toInt < 1 ∨ 8 < x.1.toInt))) (hn : ¬ (l10.toInt = 47 ∨ l10.toInt = 40 ∨ l10.toInt = 152 ∨ l10.toInt = 153 ∨ l10.toInt = 145 ∨ l10.toInt = 147 ∨ l10.toInt = 157)) (h : RX12_exec_691 K a1 a2 a3 l4 l6 l7 (((128 : Int32)) * l4) l9 l10 l11 l12 l14 (FI 128 l) t y n sl SH FI FL FR v st) : rs_c K E A bs l o l4 l6 l7 n sl SH FI FL FR v st (ms_d4 x.2.2.1 s (ms_x E l10.toInt x.1 x.2.1 x.2.2.2 s.1 s.2.1)) := by
  obtain ⟨hl, h1, ho, ho8, hb, h6, h7, h11, hx, hE, hv, ⟨c0, c1⟩, hk, e12, e35, e14, e158, e147, e21, e152, ejp⟩ := id hd
  have n47 : l10.toInt ≠ 47 := fun e => hn (Or.inl e)
  have n40 : l10.toInt ≠ 40 := fun e => hn (Or.inr (Or.inl e))
  have n152 : l10.toInt ≠ 152 := fun e => hn (Or.inr (Or.inr (Or.inl e)))
  have n153 : l10.toInt ≠ 153 := fun e => hn (Or.inr (Or.inr (Or.inr (Or.inl e))))
  have n145 : l10.toInt ≠ 145 := fun e => hn (Or.inr (Or.inr (Or.inr (Or.inr (Or.inl e)))))
  have h8 : l10.toInt = 148 → 1 ≤ x.1.toInt ∧ x.1.toInt ≤ 8 := fun e => (fun q : ¬ (x.1.toInt < 1 ∨ 8 < x.1.toInt) => by omega) (fun q => h10 ⟨e, q⟩)
  obtain ⟨k9, hk9, ek9⟩ : ∃ k : Nat, k < 256 ∧ l10.toInt = (k : Int) := ⟨l10.toInt.toNat, by omega, by omega⟩
  replace hn := hid_i hn
  replace h14 := hid_i h14
  replace h10 := hid_i h10
  replace e21 := hid_i e21
  replace e152 := hid_i e152
  replace ejp := hid_i ejp
  replace e14 := hid_i e14
  replace e147 := hid_i e147
  replace h8 := hid_i h8
  have hE2 := hE
  obtain ⟨p1, p2, p3, p4, p5, p6, p7, p8⟩ := hE2
  replace p7 := hid_i p7
  replace p8 := hid_i p8
  have h := x691 h n152 n153
  rcases x736 h with ⟨⟨q, q2⟩, e⟩ | ⟨k1, h⟩
  · rw [mx_151 q]
    rcases hid_e p7 with ⟨-, r⟩ | ⟨r, -⟩
    · rw [r]
      show v.toInt = 11
      rw [e]; decide
    · exact absurd q2 r
  replace k1 := hid_i k1
  rcases x751 h with ⟨⟨q, q2⟩, e⟩ | ⟨k2, h⟩
  · rw [wt_1 (c := l10.toInt) (by rw [q]; decide)] at hw
    obtain ⟨t', R, hS⟩ := sh_1 hw
    rw [hS, mx_155 q]
    rcases hid_e p8 with ⟨-, r⟩ | ⟨r, -⟩
    · rw [r]
      show v.toInt = 11
      rw [e]; decide
    · exact absurd q2 r
  replace k2 := hid_i k2
  rcases x766 h with ⟨⟨q, q2⟩, e⟩ | ⟨k3, h⟩
  · rw [mx_156 q, if_pos (by rw [← p5.1]; exact q2)]
    show v.toInt = 11
    rw [e]; decide
  replace k3 := hid_i k3
  have h := x782 h n145
  rcases x813 h n145 with ⟨⟨q, q2⟩, e⟩ | ⟨k5, h⟩
  · rw [wt_1 (c := l10.toInt) (by rw [q]; decide)] at hw
    obtain ⟨t', R, hS⟩ := sh_1 hw
    rw [et t' R hS] at q2
    rw [hS, mx_6 q, if_pos q2]
    show v.toInt = 5
    rw [e]; decide
  replace k5 := hid_i k5
  rcases x917 h with ⟨⟨q, q2⟩, e⟩ | ⟨k6, h⟩
  · rw [wt_1 (c := l10.toInt) (by rw [q]; decide)] at hw
    obtain ⟨t', R, hS⟩ := sh_1 hw
    have h8 := hid_e h8 q
    rw [et t' R hS, e12, l_sub (by decide : ((4096 : Int64)).toInt = 4096) (rfl : x.1.toInt = x.1.toInt) (by omega) (by omega)] at q2
    rw [hS, mx_148 q, if_pos q2]
    show v.toInt = 5
    rw [e]; decide
  replace k6 := hid_i k6
  rcases x944 h with ⟨⟨q, q2⟩, e⟩ | ⟨k7, h⟩
  · rw [wt_2 (c := l10.toInt) (by rcases q with q | q <;> (rw [q]; decide))] at hw
    obtain ⟨t', y', Q, hS⟩ := sh_2 hw
    rw [et t' (y' :: Q) hS] at q2
    rw [hS, mx_bin (by rcases q with q | q <;> (rw [q]; decide)), if_pos ⟨q, q2⟩]
    show v.toInt = 6
    rw [e]; decide
  replace k7 := hid_i k7
  have h := x974 h (fun e => e.elim n47 (fun e => n40 e.1))
  have hlen := hv.2.1
  have ht := hv.1
  rcases x1039 h with ⟨⟨q, q2⟩, e⟩ | ⟨k8, h⟩
  · have hpu : ms_pu l10.toInt = true := by
      cases hq : ms_pu l10.toInt with
      | true => rfl
      | false => exact absurd ((w_pushes c0 c1).mpr hq) q
    rw [rs_pv (FR := FR) hl h1 hE hv c0 c1 hpu e12 (hid_e e14) (fun e hh => hid_e h14 ⟨Or.inr e, hh⟩) (hid_e e21) hw (hid_e k1) (hid_e k3) ht et ey]
    unfold ms_ps
    rw [if_pos (by omega)]
    show v.toInt = 4
    rw [e]; decide
  cases hpu : ms_pu l10.toInt with
  | true =>
    have q : (fX12_pushes l10 SH FI FL FR).toInt ≠ 0 := fun e => by
      have := (w_pushes c0 c1).mp e
      rw [hpu] at this
      cases this
    rw [rs_pv (FR := FR) hl h1 hE hv c0 c1 hpu e12 (hid_e e14) (fun e hh => hid_e h14 ⟨Or.inr e, hh⟩) (hid_e e21) hw (hid_e k1) (hid_e k3) ht et ey]
    obtain ⟨u, n4, sl4, SH4, FI4, FL4, FR4, hh, k⟩ := x1064p h n152 n153 q
    unfold ms_ps
    rw [if_neg (fun e => k8 ⟨q, by omega⟩)]
    have := rr_push (o := o) hl h1 hv (by have : ¬ s.1.length = 128 := fun e => k8 ⟨q, by omega⟩; omega) hh
    exact rs_ra h11 hx this rfl k
  | false =>
    obtain ⟨u, n4, sl4, SH4, FI4, FL4, FR4, hh, k⟩ := x1064a h n152 n153 ((w_pushes c0 c1).mpr hpu)
    by_cases g6 : l10.toInt = 6
    · rw [wt_1 (c := l10.toInt) (by rw [g6]; decide)] at hw
      obtain ⟨t', R, hS⟩ := sh_1 hw
      have hv2 : rv FI FL SH l (t' :: R, s.2.1, s.2.2) := by rw [← hS]; exact hv
      have k5' : ¬ (t.toInt < 0 ∨ 4088 < t.toInt) := fun hh => hid_e k5 ⟨g6, hh⟩
      have ett := et t' R hS
      subst ett
      rw [hS, mx_6 g6, if_neg k5']
      exact rs_ra h11 hx (ra_6 hl h1 g6 hv2 hh hE (by omega)) rfl k
    by_cases g148 : l10.toInt = 148
    · rw [wt_1 (c := l10.toInt) (by rw [g148]; decide)] at hw
      obtain ⟨t', R, hS⟩ := sh_1 hw
      have hv2 : rv FI FL SH l (t' :: R, s.2.1, s.2.2) := by rw [← hS]; exact hv
      have ett := et t' R hS
      subst ett
      have h8 := hid_e h8 g148
      have k6 := hid_e k6
      rw [e12, l_sub (by decide : ((4096 : Int64)).toInt = 4096) (rfl : x.1.toInt = x.1.toInt) (by omega) (by omega)] at k6
      have k6' := fun hh => k6 ⟨g148, hh⟩
      rw [e12] at hh
      rw [hS, mx_148 g148, if_neg k6']
      exact rs_ra h11 hx (ra_148 hl h1 g148 hv2 hh hE (by omega) (by omega)) rfl k
    by_cases g19 : l10.toInt = 19
    · rw [wt_1 (c := l10.toInt) (by rw [g19]; decide)] at hw
      obtain ⟨t', R, hS⟩ := sh_1 hw
      have hv2 : rv FI FL SH l (t' :: R, s.2.1, s.2.2) := by rw [← hS]; exact hv
      have ett := et t' R hS
      subst ett
      rw [hS, mx_19 g19]
      exact rs_ra h11 hx (ra_19 hl h1 g19 hv2 hh) rfl k
    by_cases g25 : l10.toInt = 25
    · rw [wt_1 (c := l10.toInt) (by rw [g25]; decide)] at hw
      obtain ⟨t', R, hS⟩ := sh_1 hw
      have hv2 : rv FI FL SH l (t' :: R, s.2.1, s.2.2) := by rw [← hS]; exact hv
      have ett := et t' R hS
      subst ett
      rw [hS, mx_25 g25]
      exact rs_ra h11 hx (ra_25 hl h1 g25 hv2 hh) rfl k
    by_cases g31 : l10.toInt = 31
    · rw [wt_1 (c := l10.toInt) (by rw [g31]; decide)] at hw
      obtain ⟨t', R, hS⟩ := sh_1 hw
      have hv2 : rv FI FL SH l (t' :: R, s.2.1, s.2.2) := by rw [← hS]; exact hv
      have ett := et t' R hS
      subst ett
      rw [hS, mx_31 g31]
      exact rs_ra h11 hx (ra_31 hl h1 g31 hv2 hh) rfl k
    by_cases g32 : l10.toInt = 32
    · rw [wt_1 (c := l10.toInt) (by rw [g32]; decide)] at hw
      obtain ⟨t', R, hS⟩ := sh_1 hw
      have hv2 : rv FI FL SH l (t' :: R, s.2.1, s.2.2) := by rw [← hS]; exact hv
      have ett := et t' R hS
      subst ett
      rw [hS, mx_32 g32]
      exact rs_ra h11 hx (ra_32 hl h1 g32 hv2 hh) rfl k
    by_cases g35 : l10.toInt = 35
    · rw [wt_1 (c := l10.toInt) (by rw [g35]; decide)] at hw
      obtain ⟨t', R, hS⟩ := sh_1 hw
      have hv2 : rv FI FL SH l (t' :: R, s.2.1, s.2.2) := by rw [← hS]; exact hv
      rw [e12] at hh
      rw [hS, mx_35 g35]
      exact rs_ra h11 hx (ra_35 hl h1 g35 hv2 hh) rfl k
    by_cases g155 : l10.toInt = 155
    · rw [wt_1 (c := l10.toInt) (by rw [g155]; decide)] at hw
      obtain ⟨t', R, hS⟩ := sh_1 hw
      have hv2 : rv FI FL SH l (t' :: R, s.2.1, s.2.2) := by rw [← hS]; exact hv
      rw [hS, mx_155 g155]
      rcases hid_e p8 with ⟨r, -⟩ | ⟨-, r⟩
      · exact absurd ⟨g155, r⟩ (hid_e k2)
      · rw [r]
        exact rs_ra h11 hx (ra_155 hl h1 g155 hv2 hh) rfl k
    by_cases g159 : l10.toInt = 159
    · rw [wt_1 (c := l10.toInt) (by rw [g159]; decide)] at hw
      obtain ⟨t', R, hS⟩ := sh_1 hw
      have hv2 : rv FI FL SH l (t' :: R, s.2.1, s.2.2) := by rw [← hS]; exact hv
      rw [hS, mx_159 g159]
      exact rs_ra h11 hx (ra_159 hl h1 g159 hv2 hh) rfl k
    by_cases g22 : l10.toInt = 22
    · rw [wt_2 (c := l10.toInt) (by rw [g22]; decide)] at hw
      obtain ⟨t', y', Q, hS⟩ := sh_2 hw
      have hv2 : rv FI FL SH l (t' :: y' :: Q, s.2.1, s.2.2) := by rw [← hS]; exact hv
      rw [hS, mx_22 g22]
      exact rs_ra h11 hx (ra_22 hl h1 g22 hv2 hh) rfl k
    by_cases g23 : l10.toInt = 23
    · rw [wt_3 g23] at hw
      obtain ⟨t', y', r', Q, hS⟩ := sh_3 hw
      have hv2 : rv FI FL SH l (t' :: y' :: r' :: Q, s.2.1, s.2.2) := by rw [← hS]; exact hv
      rw [hS, mx_23 g23]
      exact rs_ra h11 hx (ra_23 hl h1 g23 hv2 hh) rfl k
    by_cases gb : 26 ≤ l10.toInt ∧ l10.toInt ≤ 46
    · rw [wt_2 (c := l10.toInt) (Or.inr (Or.inr ⟨gb.1, gb.2, g31, g32, g35, n40⟩))] at hw
      obtain ⟨t', y', Q, hS⟩ := sh_2 hw
      have hv2 : rv FI FL SH l (t' :: y' :: Q, s.2.1, s.2.2) := by rw [← hS]; exact hv
      have ett := et t' (y' :: Q) hS
      subst ett
      rw [hS, mx_bin ⟨gb.1, gb.2, g31, g32, g35, n40⟩, if_neg (hid_e k7)]
      exact rs_ra h11 hx (ra_bin hl h1 ⟨gb.1, gb.2, g31, g32, g35, n40⟩ hv2 hh) rfl k
    by_cases g80 : 80 ≤ l10.toInt ∧ l10.toInt ≤ 111
    · rw [mx_80 g80]
      exact rs_ra h11 hx (ra_80 hl h1 g80 hv hh) rfl k
    by_cases g144 : l10.toInt = 144
    · rw [mx_144 g144]
      rw [e12] at hh
      exact rs_ra h11 hx (ra_144 hl h1 g144 (by have q9 : ¬ (x.1.toInt < 0 ∨ 31 < x.1.toInt) := fun hh => hid_e h14 ⟨Or.inl g144, hh⟩; omega) hv hh) rfl k
    by_cases g150 : l10.toInt = 150
    · rw [mx_150 g150]
      exact rs_ra h11 hx (ra_150 hl h1 g150 hv hh) rfl k
    by_cases g158 : l10.toInt = 158
    · rw [mx_158 g158]
      rw [e12] at hh
      obtain ⟨D9, d1, d2, d3, d4⟩ := e158 g158
      exact rs_ra h11 hx (ra_158 hl h1 g158 d1 d2 d3 d4 hv hh) rfl k
    have fin := rs_cod k9 hk9 (by rw [← ek9]; exact hk) (by rw [← ek9]; exact hpu)
    rw [← ek9] at fin
    rcases fin with e | e | e | e | e | e | e | e | e | e | e | e | e | e | e | e | e | e | e | e | e | e | e
    · exact absurd e n47
    · exact absurd e n40
    · exact absurd e n152
    · exact absurd e n153
    · exact absurd e n145
    · exact absurd (Or.inr (Or.inr (Or.inr (Or.inr (Or.inr (Or.inl e)))))) (hid_e hn)
    · exact absurd (Or.inr (Or.inr (Or.inr (Or.inr (Or.inr (Or.inr e)))))) (hid_e hn)
    · exact absurd e g6
    · exact absurd e g148
    · exact absurd e g19
    · exact absurd e g25
    · exact absurd e g31
    · exact absurd e g32
    · exact absurd e g35
    · exact absurd e g155
    · exact absurd e g159
    · exact absurd e g22
    · exact absurd e g23
    · exact absurd e gb
    · exact absurd e g80
    · exact absurd e g144
    · exact absurd e g150
    · exact absurd e g158
theorem rs_691 (hd : rd_c E A bs l o s x l4 l6 l7 l10 l11 l12 l14 SH FI FL) (et : ∀ t' R, s.1 = t' :: R → t = t') (ey : ∀ t' s' Q, s.1 = t' :: s' :: Q → y = s') (hw : ¬ ((s.1.length : Int) < ms_wt l10.toInt x.1)) (h14 : ¬ ((l10.toInt = 144 ∨ l10.toInt = 146) ∧ (x.1.toInt < 0 ∨ 31 < x.1.toInt))) (h10 : ¬ (l10.toInt = 148 ∧ (x.1.toInt < 1 ∨ 8 < x.1.toInt))) (hn : ¬ (l10.toInt = 147 ∨ l10.toInt = 157)) (h : RX12_exec_691 K a1 a2 a3 l4 l6 l7 (((128 : Int32)) * l4) l9 l10 l11 l12 l14 (FI 128 l) t y n sl SH FI FL FR v st) : rs_c K E A bs l o l4 l6 l7 n sl SH FI FL FR v st (ms_d3 E l o bs l10.toInt x s) := by
  unfold ms_d3
  by_cases g1 : l10.toInt = 47
  · rw [if_pos g1]; exact rs_47 hd et ey g1 h
  rw [if_neg g1]
  by_cases g2 : l10.toInt = 40
  · rw [if_pos g2]
    rw [wt_1 (by omega)] at hw
    obtain ⟨t', R, hS⟩ := sh_1 hw
    have ett := et t' R hS
    subst ett
    rw [hS]
    exact rs_40 hd et ey hS g2 h
  rw [if_neg g2]
  by_cases g3 : l10.toInt = 152 ∨ l10.toInt = 153
  · rw [if_pos g3]; exact rs_call hd et ey g3 h
  rw [if_neg g3]
  by_cases g4 : l10.toInt = 145
  · rw [if_pos g4]; exact rs_145 hd et ey g4 h
  rw [if_neg g4]
  exact rs_x hd et ey hw h14 h10 (by omega) h
theorem rs_592 {bw : Int32} (hd : rd_c E A bs l o s x l4 l6 l7 l10 l11 l12 l14 SH FI FL) (hc : (l10.toInt = 147 ∧ bw = 0) ∨ (l10.toInt = 157 ∧ bw = 1)) (h : RX12_exec_592 K a1 a2 a3 l4 l6 l7 l9 l11 l12 l14 bw l4 n sl SH FI FL FR v st) : rs_c K E A bs l o l4 l6 l7 n sl SH FI FL FR v st (match ms_pc l10.toInt x.1 x.2.1 s with | none => .inl 13 | some s2 => .inr (.inl (x.2.2.1, s2))) := by
  obtain ⟨hl, h1, ho, ho8, hb, h6, h7, h11, hx, hE, hv, ⟨c0, c1⟩, hk, e12, e35, e14, e158, e147, e21, e152, ejp⟩ := id hd
  obtain ⟨v0, n0, sl0, SH0, FI0, FL0, FR0, hp, h⟩ := h
  rw [e12, e14 (by omega)] at hp
  have hp := r_piece (o := o) (c := l10.toInt) hl h1 hv (by rcases hc with hc | hc; { exact Or.inl ⟨hc.1, hc.2, e147 hc.1⟩ }; { exact Or.inr hc }) hp
  cases hq : ms_pc l10.toInt x.1 x.2.1 s with
  | none =>
    rw [hq] at hp
    have hp : v0 = 0 := hp
    have h := P_p h (by rw [hp]; decide)
    show v.toInt = 13
    rw [fl h]; decide
  | some s2 =>
    rw [hq] at hp
    obtain ⟨hp, hr⟩ := hp
    have h := P_n h (by rw [hp]; decide)
    exact rs_ra h11 hx hr rfl h
theorem rs_560 (hd : rd_c E A bs l o s x l4 l6 l7 l10 l11 l12 l14 SH FI FL) (h14 : ¬ ((l10.toInt = 144 ∨ l10.toInt = 146) ∧ (x.1.toInt < 0 ∨ 31 < x.1.toInt))) (h10 : ¬ (l10.toInt = 148 ∧ (x.1.toInt < 1 ∨ 8 < x.1.toInt))) (h : RX12_exec_560 K a1 a2 a3 l4 l6 l7 (((128 : Int32)) * l4) l9 l10 l11 l12 l14 n sl SH FI FL FR v st) : rs_c K E A bs l o l4 l6 l7 n sl SH FI FL FR v st (ms_d2 E l o bs l10.toInt x s) := by
  obtain ⟨hl, h1, ho, ho8, hb, h6, h7, h11, hx, hE, hv, ⟨c0, c1⟩, hk, e12, e35, e14, e158, e147, e21, e152, ejp⟩ := id hd
  unfold ms_d2
  have hlen := hv.2.1
  have ht := hv.1
  rcases h with ⟨g1, h⟩ | ⟨g1, h⟩
  · rw [show ((147 : Int32)).toInt = 147 by decide] at g1
    rw [if_pos (Or.inl g1)]
    have h := P_n h (by rw [show ((157 : Int32)).toInt = 157 by decide]; omega)
    exact rs_592 hd (Or.inl ⟨g1, rfl⟩) h
  · rw [show ((147 : Int32)).toInt = 147 by decide] at g1
    rcases h with ⟨g2, h⟩ | ⟨g2, h⟩
    · rw [show ((157 : Int32)).toInt = 157 by decide] at g2
      rw [if_pos (Or.inr g2)]
      have h := P_p h (by rw [show ((157 : Int32)).toInt = 157 by decide]; omega)
      exact rs_592 hd (Or.inr ⟨g2, rfl⟩) h
    · rw [show ((157 : Int32)).toInt = 157 by decide] at g2
      rw [if_neg (fun e => e.elim g1 g2)]
      obtain ⟨-, h⟩ := h
      rw [show l4.toInt.toNat = l by omega, w_wants e35 e21, ht] at h
      rcases h with ⟨q, h⟩ | ⟨q, h⟩
      · rw [if_pos q]
        show v.toInt = 3
        rw [fl h]; decide
      · rw [if_neg q]
        have hS := hv.2.2.1
        have step : ∀ {t : Int64}, (∀ t' R, s.1 = t' :: R → t = t') → RX12_exec_667 K a1 a2 a3 l4 l6 l7 (((128 : Int32)) * l4) l9 l10 l11 l12 l14 (FI 128 l) t n sl SH FI FL FR v st → rs_c K E A bs l o l4 l6 l7 n sl SH FI FL FR v st (ms_d3 E l o bs l10.toInt x s) := by
          intro t et h
          unfold RX12_exec_667 at h
          rw [ht, show ((1 : Int32)).toInt = 1 by decide] at h
          rcases h with ⟨w, -, h⟩ | ⟨w, h⟩
          · refine rs_691 hd et (fun t' s' Q e => ?_) q h14 h10 (fun e => e.elim g1 g2) h
            rw [e] at hS ht
            simp only [List.length_cons] at ht
            have k2 : ((((128 : Int32)) * l4 + FI 128 l) - (2 : Int32)).toInt = ((128 * l + Q.length : Nat) : Int) := by rw [i_sub (rr_ix hl h1 ht (by rw [e] at hlen; simp only [List.length_cons] at hlen; omega)) (by decide : ((2 : Int32)).toInt = 2) (by omega) (by rw [e] at hlen; simp only [List.length_cons] at hlen; omega)]; omega
            rw [show ((((128 : Int32)) * l4 + FI 128 l) - (2 : Int32)).toInt.toNat = 128 * l + Q.length by omega]
            exact hS.2.1
          · refine rs_691 hd et (fun t' s' Q e => ?_) q h14 h10 (fun e => e.elim g1 g2) h
            exfalso
            rw [e] at w
            simp only [List.length_cons] at w
            omega
        rcases h with ⟨w, -, h⟩ | ⟨w, h⟩
        · refine step (fun t' R e => ?_) h
          rw [e] at hS ht hlen
          simp only [List.length_cons] at ht hlen
          have k2 : ((((128 : Int32)) * l4 + FI 128 l) - (1 : Int32)).toInt = ((128 * l + R.length : Nat) : Int) := by rw [i_sub (rr_ix hl h1 ht (by omega)) (by decide : ((1 : Int32)).toInt = 1) (by omega) (by omega)]; omega
          rw [show ((((128 : Int32)) * l4 + FI 128 l) - (1 : Int32)).toInt.toNat = 128 * l + R.length by omega]
          exact hS.1
        · refine step (fun t' R e => ?_) h
          exfalso
          rw [e] at w
          simp only [List.length_cons] at w
          omega
theorem rs_490 (hd : rd_c E A bs l o s x l4 l6 l7 l10 l11 l12 l14 SH FI FL) (h9 : ¬ (s.2.1.1 ≠ 0 ∧ ¬ (l10.toInt = 147 ∨ l10.toInt = 157 ∨ l10.toInt = 150 ∨ l10.toInt = 47 ∨ l10.toInt = 152 ∨ l10.toInt = 153))) (h : RX12_exec_490 K a1 a2 a3 l4 l6 l7 (((128 : Int32)) * l4) l9 l10 l11 l12 l14 n sl SH FI FL FR v st) : rs_c K E A bs l o l4 l6 l7 n sl SH FI FL FR v st (ms_do E l o bs l10.toInt x s) := by
  obtain ⟨hl, h1, ho, ho8, hb, h6, h7, h11, hx, hE, hv, ⟨c0, c1⟩, hk, e12, e35, e14, e158, e147, e21, e152, ejp⟩ := id hd
  unfold ms_do
  rw [if_neg h9]
  have h := x490 h
  rw [e12] at h
  rcases h with ⟨q, e⟩ | ⟨q, h⟩
  · rw [if_pos q]
    show v.toInt = 14
    rw [e]; decide
  · rw [if_neg q]
    rw [← e12] at h
    have h := x527 h
    rw [e12] at h
    rcases h with ⟨q2, e⟩ | ⟨q2, h⟩
    · rw [if_pos q2]
      show v.toInt = 10
      rw [e]; decide
    · rw [if_neg q2]
      rw [← e12] at h
      exact rs_560 hd q q2 h
end RU
