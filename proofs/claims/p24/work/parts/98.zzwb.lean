/-! THE REFERENCE'S STEP, behind decoding. -/
section RT
variable {K : Int32 → Int32 → Int32 → Int32 → Nat → Nat → (Nat → Nat × Nat) → (Nat → Nat → Int32) → (Nat → Nat → Int64) → (Nat → Nat → Option Nat) → Int32 → hS → Prop} {a1 a2 a3 l4 l5 l6 l7 l9 l10 l11 : Int32} {l12 l14 t y : Int64} {n sl : Nat} {SH : Nat → Nat × Nat} {FI : Nat → Nat → Int32} {FL : Nat → Nat → Int64} {FR : Nat → Nat → Option Nat} {v : Int32} {st : hS} {E : ms_E} {A l o : Nat} {bs : List Int32} {s : ms_S} {x : ms_O}
/-- a block's bytes lie where the second number says -/
def rd_e8 (SH : Nat → Nat × Nat) (FI : Nat → Nat → Int32) (x : ms_O) (l10 : Int32) (l14 : Int64) : Prop := l10.toInt = 158 → ∃ D : Nat, l14.toInt = D ∧ bk FI SH 124 D x.2.2.2 ∧ x.1.toInt = x.2.2.2.length ∧ x.2.2.2.length ≤ 100000
/-- what is known behind decoding -/
def rd_c (E : ms_E) (A : Nat) (bs : List Int32) (l o : Nat) (s : ms_S) (x : ms_O) (l4 l6 l7 l10 l11 : Int32) (l12 l14 : Int64) (SH : Nat → Nat × Nat) (FI : Nat → Nat → Int32) (FL : Nat → Nat → Int64) : Prop :=
  l4.toInt = l ∧ l ≤ 1 ∧ (FI 121 29).toInt = o ∧ o ≤ 8 ∧ bk FI SH 124 A bs ∧ l6.toInt = A ∧ l7.toInt = ((A + bs.length : Nat) : Int) ∧ l11.toInt = ((A + x.2.2.1 : Nat) : Int) ∧ x.2.2.1 ≤ bs.length ∧ rE FI FL SH E ∧ rv FI FL SH l s ∧ (0 ≤ l10.toInt ∧ l10.toInt ≤ 255) ∧ ms_kn l10.toInt = true ∧ l12 = x.1 ∧ FL 121 35 = x.1 ∧ (l10.toInt ≠ 158 → l14 = x.2.1) ∧
  rd_e8 SH FI x l10 l14 ∧ (l10.toInt = 147 → x.2.1 = 0) ∧ (l10.toInt = 21 → 0 ≤ x.1.toInt ∧ x.1.toInt ≤ 255) ∧ (l10.toInt = 152 ∨ l10.toInt = 153 → 0 ≤ x.1.toInt) ∧ (l10.toInt = 47 ∨ l10.toInt = 40 → -32768 ≤ x.1.toInt ∧ x.1.toInt ≤ 32767)
theorem rs_974 (h : RX12_exec_736 K a1 a2 a3 l4 l6 l7 (((128 : Int32)) * l4) l9 l10 l11 l12 l14 (FI 128 l) t y n sl SH FI FL FR v st) (k1 : ¬ (l10.toInt = 151 ∧ (FI 121 10).toInt = 0)) (k2 : ¬ (l10.toInt = 155 ∧ (FI 121 11).toInt = 0)) (k3 : ¬ (l10.toInt = 156 ∧ (FI 121 6).toInt = -1)) (k4 : l10.toInt ≠ 145) (k5 : ¬ (l10.toInt = 6 ∧ (t.toInt < 0 ∨ 4088 < t.toInt))) (k6 : ¬ (l10.toInt = 148 ∧ (t.toInt < 0 ∨ ((4096 : Int64) - l12).toInt < t.toInt))) (k7 : ¬ ((l10.toInt = 27 ∨ l10.toInt = 29) ∧ t.toInt = 0)) : RX12_exec_974 K a1 a2 a3 l4 l6 l7 (((128 : Int32)) * l4) l9 l10 l11 l12 l14 (FI 128 l) t y n sl SH FI FL FR v st := by
  have h := ((x736 h).resolve_left (fun e => k1 e.1)).2
  have h := ((x751 h).resolve_left (fun e => k2 e.1)).2
  have h := ((x766 h).resolve_left (fun e => k3 e.1)).2
  have h := x782 h k4
  have h := ((x813 h k4).resolve_left (fun e => k5 e.1)).2
  have h := ((x917 h).resolve_left (fun e => k6 e.1)).2
  exact ((x944 h).resolve_left (fun e => k7 e.1)).2
theorem rs_jp {s2 : ms_S} (hd : rd_c E A bs l o s x l4 l6 l7 l10 l11 l12 l14 SH FI FL) (hj : l10.toInt = 47 ∨ l10.toInt = 40) (hpu : ms_pu l10.toInt = false) (ha : ∀ {u : Unit} {st2 : hS}, RX12_acts l4 l10 l12 l14 n sl SH FI FL FR u st2 → ra_c n sl SH FI FL FR l o st2 s2) (h : RX12_exec_999 K a1 a2 a3 l4 l6 l7 (((128 : Int32)) * l4) l9 l10 l11 l12 l14 (FI 128 l) t y n sl SH FI FL FR v st) : rs_c K E A bs l o l4 l6 l7 n sl SH FI FL FR v st (ms_jp bs x.2.2.1 x.1 s2) := by
  obtain ⟨hl, h1, ho, ho8, hb, h6, h7, h11, hx, hE, hv, ⟨c0, c1⟩, hk, e12, e35, e14, -, e147, e21, e152, ejp⟩ := id hd
  have b2 := hb.2.1
  have b3 := hb.2.2.1
  obtain ⟨j1, j2⟩ := ejp hj
  have g1 : (l11.toInt64 + l12).toInt = ((A + x.2.2.1 : Nat) : Int) + x.1.toInt := l_add (i_2l h11) (by rw [e12]) (by omega) (by omega)
  unfold ms_jp
  have h := x999 h
  rw [g1, i_2l h6, i_2l h7] at h
  rcases h with ⟨q, e⟩ | ⟨q, h⟩
  · rw [if_pos (by omega)]
    show v.toInt = 7
    rw [e]; decide
  · rw [if_neg (by omega)]
    have h := ((x1039 h).resolve_left (fun e => e.1.1 ((w_pushes c0 c1).mpr hpu))).2
    obtain ⟨u, n4, sl4, SH4, FI4, FL4, FR4, hh, k⟩ := x1064a h (by omega) (by omega) ((w_pushes c0 c1).mpr hpu)
    exact rs_ra (p := (((x.2.2.1 : Nat) : Int) + x.1.toInt).toNat) (l_2i (A := ((A + (((x.2.2.1 : Nat) : Int) + x.1.toInt).toNat : Nat) : Int)) (by rw [g1]; omega) (by omega) (by omega)) (by omega) (ha hh) rfl k
theorem rs_47 (hd : rd_c E A bs l o s x l4 l6 l7 l10 l11 l12 l14 SH FI FL) (et : ∀ t' R, s.1 = t' :: R → t = t') (ey : ∀ t' s' Q, s.1 = t' :: s' :: Q → y = s') (hc : l10.toInt = 47) (h : RX12_exec_691 K a1 a2 a3 l4 l6 l7 (((128 : Int32)) * l4) l9 l10 l11 l12 l14 (FI 128 l) t y n sl SH FI FL FR v st) : rs_c K E A bs l o l4 l6 l7 n sl SH FI FL FR v st (ms_jp bs x.2.2.1 x.1 s) := by
  obtain ⟨hl, h1, ho, ho8, hb, h6, h7, h11, hx, hE, hv, ⟨c0, c1⟩, hk, e12, e35, e14, -, e147, e21, e152, ejp⟩ := id hd
  have h := rs_974 (x691 h (by omega) (by omega)) (by omega) (by omega) (by omega) (by omega) (by omega) (by omega) (by omega)
  exact rs_jp hd (Or.inl hc) (by rw [hc]; decide) (fun hh => ra_47 hl h1 hc hv hh) (x974j h (Or.inl hc))
theorem rs_40 {R : List Int64} (hd : rd_c E A bs l o s x l4 l6 l7 l10 l11 l12 l14 SH FI FL) (et : ∀ t' R, s.1 = t' :: R → t = t') (ey : ∀ t' s' Q, s.1 = t' :: s' :: Q → y = s') (hs : s.1 = t :: R) (hc : l10.toInt = 40) (h : RX12_exec_691 K a1 a2 a3 l4 l6 l7 (((128 : Int32)) * l4) l9 l10 l11 l12 l14 (FI 128 l) t y n sl SH FI FL FR v st) : rs_c K E A bs l o l4 l6 l7 n sl SH FI FL FR v st (if t.toInt = 0 then .inr (.inl (x.2.2.1, (R, s.2))) else ms_jp bs x.2.2.1 x.1 (R, s.2)) := by
  obtain ⟨hl, h1, ho, ho8, hb, h6, h7, h11, hx, hE, hv, ⟨c0, c1⟩, hk, e12, e35, e14, -, e147, e21, e152, ejp⟩ := id hd
  have hv2 : rv FI FL SH l (t :: R, s.2.1, s.2.2) := by rw [← hs]; exact hv
  have h := rs_974 (x691 h (by omega) (by omega)) (by omega) (by omega) (by omega) (by omega) (by omega) (by omega) (by omega)
  by_cases h0 : t.toInt = 0
  · rw [if_pos h0]
    have h := x974 h (by omega)
    have hpu : ms_pu l10.toInt = false := by rw [hc]; decide
    have h := ((x1039 h).resolve_left (fun e => e.1.1 ((w_pushes c0 c1).mpr hpu))).2
    obtain ⟨u, n4, sl4, SH4, FI4, FL4, FR4, hh, k⟩ := x1064a h (by omega) (by omega) ((w_pushes c0 c1).mpr hpu)
    exact rs_ra h11 hx (ra_40 hl h1 hc hv2 hh) rfl k
  · rw [if_neg h0]
    exact rs_jp hd (Or.inr hc) (by rw [hc]; decide) (fun hh => ra_40 hl h1 hc hv2 hh) (x974j h (Or.inr ⟨hc, h0⟩))
theorem rs_call (hd : rd_c E A bs l o s x l4 l6 l7 l10 l11 l12 l14 SH FI FL) (et : ∀ t' R, s.1 = t' :: R → t = t') (ey : ∀ t' s' Q, s.1 = t' :: s' :: Q → y = s') (hc : l10.toInt = 152 ∨ l10.toInt = 153) (h : RX12_exec_691 K a1 a2 a3 l4 l6 l7 (((128 : Int32)) * l4) l9 l10 l11 l12 l14 (FI 128 l) t y n sl SH FI FL FR v st) : rs_c K E A bs l o l4 l6 l7 n sl SH FI FL FR v st (if 15 < x.1.toInt ∨ o = 8 then .inl 8 else .inr (.inr (.inl (x.1.toInt.toNat, x.2.2.1)))) := by
  obtain ⟨hl, h1, ho, ho8, hb, h6, h7, h11, hx, hE, hv, ⟨c0, c1⟩, hk, e12, e35, e14, -, e147, e21, e152, ejp⟩ := id hd
  have b2 := hb.2.1
  have b3 := hb.2.2.1
  have g0 := e152 hc
  rcases x691c h hc with ⟨q, e⟩ | ⟨q, h⟩
  · rw [e12] at q
    rw [if_pos (by omega)]
    show v.toInt = 8
    rw [e]; decide
  · rw [e12] at q
    rw [if_neg (by omega)]
    have hpu : ms_pu l10.toInt = false := by rcases hc with hc | hc <;> (rw [hc]; decide)
    have h := rs_974 h (by omega) (by omega) (by omega) (by omega) (by omega) (by omega) (by omega)
    have h := x974 h (by omega)
    have h := ((x1039 h).resolve_left (fun e => e.1.1 ((w_pushes c0 c1).mpr hpu))).2
    have h := x1064c h hc
    have el : l4.toInt.toNat = l := by omega
    have eo : (FI 121 29).toInt.toNat = o := by omega
    have ek : l12.toInt32.toInt = x.1.toInt := l_2i (by rw [e12]) (by omega) (by omega)
    have e6 : ((600 : Int32) * l12.toInt32).toInt = ((600 * x.1.toInt.toNat : Nat) : Int) := by rw [i_mul (by decide : ((600 : Int32)).toInt = 600) ek (by omega) (by omega)]; omega
    obtain ⟨x1, x2, x3⟩ := hE.2.2.1 x.1.toInt.toNat (by omega)
    have fin : ∀ F1 : Nat → Nat → Int32, (∀ c, c ≠ 121 → F1 c = FI c) → (∀ k, k ≠ 33 → F1 121 k = FI 121 k) → RX12_exec_1100 K a1 a2 a3 l4 l6 l7 l11 l12 n sl SH F1 FL FR v st → rs_c K E A bs l o l4 l6 l7 n sl SH FI FL FR v st (.inr (.inr (.inl (x.1.toInt.toNat, x.2.2.1)))) := by
      intro F1 f1 f2 hh
      obtain ⟨-, -, -, -, -, -, hh⟩ := hh
      rw [el, f2 29 (by decide), eo, ek, f1 125 (by decide)] at hh
      refine ⟨_, _, _, hh, e6, ?_, by show x.1.toInt.toNat < 16; omega, hx, by omega, ?_, ?_, ?_, ?_⟩
      · rw [i_add e6 x1 (by omega) (by omega)]
        show _ = ((600 * x.1.toInt.toNat + (ms_ex E x.1.toInt.toNat).length : Nat) : Int)
        omega
      · rw [h_up_nc (by decide), h_up_nc (by decide), h_up_nc (by decide), h_up_nc (by decide), h_up_eq]; exact h11
      · rw [h_up_nc (by decide), h_up_nc (by decide), h_up_nc (by decide), h_up_eq]
      · rw [h_up_nc (by decide), h_up_nc (by decide), h_up_eq]
      · refine ⟨fun c g1 g2 g3 g4 g5 => by rw [h_up_nc g5, h_up_nc g1, h_up_nc g4, h_up_nc g3, h_up_nc g2]; exact f1 c g1, fun k g1 g2 => by rw [h_up_nc (by decide), h_up_ne g1, h_up_nc (by decide), h_up_nc (by decide), h_up_nc (by decide)]; exact f2 k g2, ?_, fun i hi => ⟨?_, ?_, ?_⟩, fun i hi => ?_, ?_⟩
        · rw [h_up_nc (by decide), h_up_eq]
        · rw [h_up_nc (by decide), h_up_nc (by decide), h_up_nc (by decide), h_up_nc (by decide), h_up_ne hi, f1 139 (by decide)]
        · rw [h_up_nc (by decide), h_up_nc (by decide), h_up_nc (by decide), h_up_ne hi, h_up_nc (by decide), f1 140 (by decide)]
        · rw [h_up_nc (by decide), h_up_nc (by decide), h_up_ne hi, h_up_nc (by decide), h_up_nc (by decide), f1 141 (by decide)]
        · rw [h_up_ne hi, h_up_nc (by decide), h_up_nc (by decide), h_up_nc (by decide), h_up_nc (by decide), f1 142 (by decide)]
        · rw [h_up_eq, f1 142 (by decide)]
    rcases h with ⟨-, -, h⟩ | ⟨-, h⟩
    · rcases h with ⟨-, h⟩ | ⟨-, h⟩
      · exact fin _ (fun c hc => h_up_nc hc) (fun k hk => h_up_ne hk) h
      · exact fin _ (fun c hc => rfl) (fun k hk => rfl) h
    · exact fin _ (fun c hc => rfl) (fun k hk => rfl) h
theorem rs_145 (hd : rd_c E A bs l o s x l4 l6 l7 l10 l11 l12 l14 SH FI FL) (et : ∀ t' R, s.1 = t' :: R → t = t') (ey : ∀ t' s' Q, s.1 = t' :: s' :: Q → y = s') (hc : l10.toInt = 145) (h : RX12_exec_691 K a1 a2 a3 l4 l6 l7 (((128 : Int32)) * l4) l9 l10 l11 l12 l14 (FI 128 l) t y n sl SH FI FL FR v st) : rs_c K E A bs l o l4 l6 l7 n sl SH FI FL FR v st (if l = 1 ∨ ms_fr E = -1 then .inl 11 else .inr (.inr (.inr (x.1, x.2.2.1)))) := by
  obtain ⟨hl, h1, ho, ho8, hb, h6, h7, h11, hx, hE, hv, ⟨c0, c1⟩, hk, e12, e35, e14, -, e147, e21, e152, ejp⟩ := id hd
  have h := x691 h (by omega) (by omega)
  have h := ((x736 h).resolve_left (fun e => absurd e.1.1 (by omega))).2
  have h := ((x751 h).resolve_left (fun e => absurd e.1.1 (by omega))).2
  have h := ((x766 h).resolve_left (fun e => absurd e.1.1 (by omega))).2
  obtain ⟨f1, f2, f3⟩ := hE.2.2.2.1
  rcases x782b h hc with ⟨q, e⟩ | ⟨q, h⟩
  · rw [if_pos (by omega)]
    show v.toInt = 11
    rw [e]; decide
  · rw [if_neg (by omega)]
    have h := P_p h (by rw [show ((145 : Int32)).toInt = 145 by decide]; exact hc)
    obtain ⟨v7, n7, sl7, SH7, FI7, FL7, FR7, hcl, -, h⟩ := h
    obtain ⟨-, -, -, -, -, -, ec⟩ := hcl
    rw [show ((1 : Int32)).toInt.toNat = 1 by decide] at ec
    cases ec
    have z5 : (h_up (h_up (h_up (h_up (h_up (h_up (h_up (h_up (h_up (h_up FI 121 40 l11) 121 41 l6) 121 42 l7) 121 43 (FI 121 33)) 121 33 l9) 128 1 (0 : Int32)) 129 1 (0 : Int32)) 135 1 (0 : Int32)) 136 1 (0 : Int32)) 142 1 (0 : Int32)) 121 5 = FI 121 5 := by
      rw [h_up_nc (by decide), h_up_nc (by decide), h_up_nc (by decide), h_up_nc (by decide), h_up_nc (by decide), h_up_ne (by decide), h_up_ne (by decide), h_up_ne (by decide), h_up_ne (by decide), h_up_ne (by decide)]
    rw [z5] at h
    obtain ⟨x1, x2, x3⟩ := hE.2.2.1 (ms_fr E).toNat (by omega)
    have e6 : ((600 : Int32) * FI 121 5).toInt = ((600 * (ms_fr E).toNat : Nat) : Int) := by rw [i_mul (by decide : ((600 : Int32)).toInt = 600) f1 (by omega) (by omega)]; omega
    refine ⟨by omega, by omega, _, _, _, _, h, e6, ?_, hx, ?_, ?_, ?_, ?_, ?_⟩
    · rw [h_up_nc (by decide), h_up_nc (by decide), h_up_nc (by decide), h_up_nc (by decide), h_up_nc (by decide), h_up_nc (by decide), h_up_nc (by decide), h_up_nc (by decide), h_up_nc (by decide), h_up_nc (by decide), show (FI 121 5).toInt.toNat = (ms_fr E).toNat by omega, i_add e6 x1 (by omega) (by omega)]
      omega
    · rw [h_up_nc (by decide), h_up_nc (by decide), h_up_nc (by decide), h_up_nc (by decide), h_up_nc (by decide), h_up_ne (by decide), h_up_ne (by decide), h_up_ne (by decide), h_up_ne (by decide), h_up_eq]; exact h11
    · rw [h_up_nc (by decide), h_up_nc (by decide), h_up_nc (by decide), h_up_nc (by decide), h_up_nc (by decide), h_up_ne (by decide), h_up_ne (by decide), h_up_ne (by decide), h_up_eq]
    · rw [h_up_nc (by decide), h_up_nc (by decide), h_up_nc (by decide), h_up_nc (by decide), h_up_nc (by decide), h_up_ne (by decide), h_up_ne (by decide), h_up_eq]
    · rw [h_up_eq]; exact e12
    · refine ⟨fun c g1 g2 g3 g4 g5 g6 => by rw [h_up_nc g6, h_up_nc g5, h_up_nc g4, h_up_nc g3, h_up_nc g2, h_up_nc g1, h_up_nc g1, h_up_nc g1, h_up_nc g1, h_up_nc g1], fun c g1 => h_up_nc g1, fun k g1 g2 => by rw [h_up_nc (by decide), h_up_nc (by decide), h_up_nc (by decide), h_up_nc (by decide), h_up_nc (by decide), h_up_ne g2, h_up_ne (by omega), h_up_ne (by omega), h_up_ne (by omega), h_up_ne (by omega)], fun k g1 => h_up_ne g1, fun r i hr hi => by rw [h_up_x (by omega), h_up_x (by omega), h_up_x (by omega), h_up_x (by omega), h_up_x (by omega), h_up_nc (by omega), h_up_nc (by omega), h_up_nc (by omega), h_up_nc (by omega), h_up_nc (by omega)], fun r hr => ?_⟩
      rcases hr with rfl | rfl | rfl | rfl | rfl
      · rw [h_up_nc (by decide), h_up_nc (by decide), h_up_nc (by decide), h_up_nc (by decide), h_up_eq]
      · rw [h_up_nc (by decide), h_up_nc (by decide), h_up_nc (by decide), h_up_eq]
      · rw [h_up_nc (by decide), h_up_nc (by decide), h_up_eq]
      · rw [h_up_nc (by decide), h_up_eq]
      · rw [h_up_eq]
end RT
