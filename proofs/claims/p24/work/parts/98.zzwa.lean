/-! THE REFERENCE'S STEP. -/
/-- a call has opened -/
def cf (l o : Nat) (FI F2 : Nat → Nat → Int32) : Prop := (∀ c, c ≠ 121 → c ≠ 139 → c ≠ 140 → c ≠ 141 → c ≠ 142 → F2 c = FI c) ∧ (∀ k, k ≠ 29 → k ≠ 33 → F2 121 k = FI 121 k) ∧ F2 121 29 = FI 121 29 + (1 : Int32) ∧ (∀ i, i ≠ o → F2 139 i = FI 139 i ∧ F2 140 i = FI 140 i ∧ F2 141 i = FI 141 i) ∧ (∀ i, i ≠ l → F2 142 i = FI 142 i) ∧ F2 142 l = FI 142 l + (1 : Int32)
/-- FRAME's run has begun -/
def bf (FI : Nat → Nat → Int32) (FL : Nat → Nat → Int64) (F2 : Nat → Nat → Int32) (L2 : Nat → Nat → Int64) : Prop := (∀ c, c ≠ 121 → c ≠ 128 → c ≠ 129 → c ≠ 135 → c ≠ 136 → c ≠ 142 → F2 c = FI c) ∧ (∀ c, c ≠ 121 → L2 c = FL c) ∧ (∀ k, (k < 40 ∨ 43 < k) → k ≠ 33 → F2 121 k = FI 121 k) ∧ (∀ k, k ≠ 44 → L2 121 k = FL 121 k) ∧ (∀ r i, (r = 128 ∨ r = 129 ∨ r = 135 ∨ r = 136 ∨ r = 142) → i ≠ 1 → F2 r i = FI r i) ∧ (∀ r, (r = 128 ∨ r = 129 ∨ r = 135 ∨ r = 136 ∨ r = 142) → F2 r 1 = 0)
def rs_c (K : Int32 → Int32 → Int32 → Int32 → Nat → Nat → (Nat → Nat × Nat) → (Nat → Nat → Int32) → (Nat → Nat → Int64) → (Nat → Nat → Option Nat) → Int32 → hS → Prop) (E : ms_E) (A : Nat) (bs : List Int32) (l o : Nat) (l4 l6 l7 : Int32) (n sl : Nat) (SH : Nat → Nat × Nat) (FI : Nat → Nat → Int32) (FL : Nat → Nat → Int64) (FR : Nat → Nat → Option Nat) (v : Int32) (st : hS) : Int ⊕ ms_A → Prop
  | .inl e => v.toInt = e
  | .inr (.inl x) => ∃ pc F2 L2, K l4 pc l6 l7 n sl SH F2 L2 FR v st ∧ pc.toInt = ((A + x.1 : Nat) : Int) ∧ x.1 ≤ bs.length ∧ rv F2 L2 SH l x.2 ∧ gz l o FI FL F2 L2 ∧ F2 121 30 = FI 121 30
  | .inr (.inr (.inl x)) => ∃ k6 k7 F2, K l4 k6 k6 k7 n sl SH F2 FL FR v st ∧ k6.toInt = ((600 * x.1 : Nat) : Int) ∧ k7.toInt = ((600 * x.1 + (ms_ex E x.1).length : Nat) : Int) ∧ x.1 < 16 ∧ x.2 ≤ bs.length ∧ o < 8 ∧ (F2 139 o).toInt = ((A + x.2 : Nat) : Int) ∧ F2 140 o = l6 ∧ F2 141 o = l7 ∧ cf l o FI F2
  | .inr (.inr (.inr x)) => l = 0 ∧ 0 ≤ ms_fr E ∧ ∃ k6 k7 F2 L2, K 1 k6 k6 k7 n sl SH F2 L2 FR v st ∧ k6.toInt = ((600 * (ms_fr E).toNat : Nat) : Int) ∧ k7.toInt = ((600 * (ms_fr E).toNat + (ms_ex E (ms_fr E).toNat).length : Nat) : Int) ∧ x.2 ≤ bs.length ∧ (F2 121 40).toInt = ((A + x.2 : Nat) : Int) ∧ F2 121 41 = l6 ∧ F2 121 42 = l7 ∧ L2 121 44 = x.1 ∧ bf FI FL F2 L2
section RS
variable {K : Int32 → Int32 → Int32 → Int32 → Nat → Nat → (Nat → Nat × Nat) → (Nat → Nat → Int32) → (Nat → Nat → Int64) → (Nat → Nat → Option Nat) → Int32 → hS → Prop} {a1 a2 a3 l4 l5 l6 l7 l8 l9 l10 l11 : Int32} {l12 l14 : Int64} {n sl : Nat} {SH : Nat → Nat × Nat} {FI : Nat → Nat → Int32} {FL : Nat → Nat → Int64} {FR : Nat → Nat → Option Nat} {v : Int32} {st : hS} {E : ms_E} {A l o : Nat} {bs : List Int32} {s : ms_S}
theorem rs_18 (hne : l5.toInt ≠ l7.toInt) (h : BX12_exec_18 K a1 a2 a3 l4 l5 l6 l7 n sl SH FI FL FR v st) : ∃ pl, RX12_exec_308 K a1 a2 a3 l4 l5 l6 l7 (((128 : Int32)) * l4) pl n sl SH FI FL FR v st := by
  have h : RX12_exec_116 K a1 a2 a3 l4 l5 l6 l7 n sl SH FI FL FR v st := P_n h hne
  have h := P_n h hne
  rcases h with ⟨-, -, h⟩ | ⟨-, h⟩
  · rcases h with ⟨-, h⟩ | ⟨-, h⟩
    · exact ⟨_, h⟩
    · exact ⟨_, h⟩
  · exact ⟨_, h⟩
theorem rs_ra {s2 : ms_S} {p : Nat} (hp : l11.toInt = ((A + p : Nat) : Int)) (hpb : p ≤ bs.length) {st2 : hS} (h : ra_c n sl SH FI FL FR l o st2 s2) {n4 sl4 : Nat} {SH4 : Nat → Nat × Nat} {FI4 : Nat → Nat → Int32} {FL4 : Nat → Nat → Int64} {FR4 : Nat → Nat → Option Nat} (e : st2 = (n4, sl4, SH4, FI4, FL4, FR4)) (k : K l4 l11 l6 l7 n4 sl4 SH4 FI4 FL4 FR4 v st) : rs_c K E A bs l o l4 l6 l7 n sl SH FI FL FR v st (.inr (.inl (p, s2))) := by
  obtain ⟨F2, L2, e2, q1, q2, q3⟩ := h
  rw [e] at e2
  cases e2
  exact ⟨l11, _, _, k, hp, hpb, q1, q2, q3⟩
/-- the pushed value -/
theorem rs_pv {x : ms_O} {t y : Int64} {l16 : Int32} (hl : l4.toInt = l) (h1 : l ≤ 1) (hE : rE FI FL SH E) (hv : rv FI FL SH l s) (c0 : 0 ≤ l10.toInt) (c1 : l10.toInt ≤ 255) (hp : ms_pu l10.toInt = true) (h12 : l12 = x.1) (h14 : l10.toInt ≠ 158 → l14 = x.2.1) (h146 : l10.toInt = 146 → ¬ (x.1.toInt < 0 ∨ 31 < x.1.toInt)) (h21 : l10.toInt = 21 → 0 ≤ x.1.toInt ∧ x.1.toInt ≤ 255) (hw : ¬ ((s.1.length : Int) < ms_wt l10.toInt x.1)) (h151 : ¬ (l10.toInt = 151 ∧ (FI 121 10).toInt = 0)) (h156 : ¬ (l10.toInt = 156 ∧ (FI 121 6).toInt = -1)) (e16 : l16.toInt = s.1.length) (et : ∀ t' R, s.1 = t' :: R → t = t') (ey : ∀ t' s' Q, s.1 = t' :: s' :: Q → y = s') : ms_x E l10.toInt x.1 x.2.1 x.2.2.2 s.1 s.2.1 = ms_ps (fX12_pushes_ l10 l12 l14 t y (((128 : Int32)) * l4 + l16) SH FI FL FR) s.1 s.2.1 := by
  subst h12
  obtain ⟨e1, e2, e3, e4, e5, e6, e7, e8⟩ := hE
  have hlen := hv.2.1
  rcases ms_pu_i hp with hc | hc | hc | hc | hc | hc | hc | hc | hc
  · rw [mx_3 (Or.inl hc), pv_3 (Or.inl hc)]
  · by_cases h18 : l10.toInt = 18
    · rw [pv_18 h18]
      unfold ms_wt at hw
      rw [if_pos (by omega)] at hw
      obtain ⟨S, sr⟩ := s
      cases S with
      | nil => exact absurd hw (by simp)
      | cons t' R => (try dsimp only); rw [mx_18 h18, et t' R rfl]
    · rw [mx_3 (Or.inr (by omega)), pv_3 (Or.inr (by omega))]
  · rw [pv_20 hc]
    unfold ms_wt at hw
    rw [if_neg (by omega), if_pos (by omega)] at hw
    obtain ⟨S, sr⟩ := s
    match S, hw, ey with
    | [], hw, _ => exact absurd hw (by simp)
    | [t'], hw, _ => exact absurd hw (by simp)
    | t' :: s' :: Q, _, ey => (try dsimp only); rw [mx_20 hc, ey t' s' Q rfl]
  · obtain ⟨g1, g2⟩ := h21 hc
    rw [pv_21 hc]
    unfold ms_wt at hw
    rw [if_neg (by omega), if_neg (by omega), if_pos hc] at hw
    have hS := hv.2.2.1
    have k1 : (((((128 : Int32)) * l4 + l16) - ((1 : Int32))) - (x.1.toInt32)).toInt = ((128 * l + (s.1.length - 1 - x.1.toInt.toNat) : Nat) : Int) := by
      rw [i_sub (i_sub (rr_ix hl h1 e16 (by omega)) (by decide : ((1 : Int32)).toInt = 1) (by omega) (by omega)) (l_2i rfl (by omega) (by omega)) (by omega) (by omega)]
      omega
    rw [show (((((128 : Int32)) * l4 + l16) - ((1 : Int32))) - (x.1.toInt32)).toInt.toNat = 128 * l + (s.1.length - 1 - x.1.toInt.toNat) by omega]
    obtain ⟨z, hz⟩ : ∃ z, s.1[x.1.toInt.toNat]? = some z := ⟨_, List.getElem?_eq_getElem (by omega)⟩
    have hq := lv_get hS hz
    (try dsimp only at hq)
    rw [hq]
    obtain ⟨S, sr⟩ := s
    cases S with
    | nil => cases hz
    | cons t' R =>
      (try dsimp only at hz ⊢)
      rw [mx_21 hc, List.getD_eq_getElem?_getD, hz]
      rfl
  · rw [mx_48 hc, pv_48 hc]
    have k1 : (l10 - (48 : Int32)).toInt = l10.toInt - 48 := i_sub rfl (by decide) (by omega) (by omega)
    rw [show (l10 - (48 : Int32)).toInt64 = Int64.ofInt (l10.toInt - 48) from Int64.toInt_inj.mp (by rw [i_2l k1, Int64.toInt_ofInt, l_bm (by omega) (by omega)])]
  · rw [mx_112 hc, pv_112 hc]
    have k1 : (l10 - (112 : Int32)).toInt = l10.toInt - 112 := i_sub rfl (by decide) (by omega) (by omega)
    rw [k1, e1 _ (by omega)]
  · have := h146 hc
    rw [mx_146 hc, pv_146 hc, l_2i (A := x.1.toInt) rfl (by omega) (by omega), e1 _ (by omega), h14 (by omega)]
  · rw [mx_151 hc, pv_151 hc]
    rcases e7 with ⟨q, -⟩ | ⟨-, q⟩
    · exact absurd ⟨hc, q⟩ h151
    · rw [q]
  · rw [mx_156 hc, pv_156 hc, e5.1, e6]
    rw [if_neg (fun e => h156 ⟨hc, by rw [e5.1]; exact e⟩), e1 _ (by have : ms_cr E ≠ -1 := fun e => h156 ⟨hc, by rw [e5.1]; exact e⟩; omega)]
end RS
