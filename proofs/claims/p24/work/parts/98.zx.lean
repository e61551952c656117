/-! THE CLASS'S PARSER: names. -/
/-- the name in cell c has the number w -/
def nm_ok (F : Nat → Nat → Int32) (SH : Nat → Nat × Nat) (c : Nat) (w : Int) : Prop := ∃ D : List Int, (SH c).2 = D.length ∧ D.length ≤ 8 ∧ (∀ d, d ∈ D → 1 ≤ d ∧ d ≤ 36) ∧ w = t_tv D ∧ ∀ j, j < D.length → t_al (F c j).toInt = true ∧ D[D.length - 1 - j]? = some (t_cd (F c j).toInt)
theorem nm_fr {F F2 : Nat → Nat → Int32} {SH S2 : Nat → Nat × Nat} {c : Nat} {w : Int} (h : nm_ok F SH c w) (h1 : F2 c = F c) (h2 : S2 c = SH c) : nm_ok F2 S2 c w := by
  unfold nm_ok
  rw [h1, h2]
  exact h
theorem nm_same {F : Nat → Nat → Int32} {SH : Nat → Nat × Nat} {c1 c2 : Nat} {w1 w2 : Int} (h1 : nm_ok F SH c1 w1) (h2 : nm_ok F SH c2 w2) : ((SH c1).2 = (SH c2).2 ∧ ∀ j, j < (SH c1).2 → F c1 j = F c2 j) ↔ w1 = w2 := by
  obtain ⟨D1, a1, -, a3, a4, a5⟩ := h1
  obtain ⟨D2, b1, -, b3, b4, b5⟩ := h2
  constructor
  · rintro ⟨e, he⟩
    rw [a4, b4]
    have hl : D1.length = D2.length := by omega
    have hD : D1 = D2 := by
      apply List.ext_getElem?
      intro q
      by_cases hq : q < D1.length
      · have x1 := (a5 (D1.length - 1 - q) (by omega)).2
        have x2 := (b5 (D1.length - 1 - q) (by omega)).2
        rw [show D1.length - 1 - (D1.length - 1 - q) = q by omega] at x1
        rw [show D2.length - 1 - (D1.length - 1 - q) = q by omega] at x2
        rw [x1, x2, he _ (by omega)]
      · rw [List.getElem?_eq_none (by omega), List.getElem?_eq_none (by omega)]
    rw [hD]
  · intro e
    have hD : D1 = D2 := t_tv_inj D1 D2 a3 b3 (by rw [← a4, ← b4, e])
    subst hD
    refine ⟨by omega, fun j hj => ?_⟩
    have x1 := a5 j (by omega)
    have x2 := b5 j (by omega)
    have e2 : t_cd (F c1 j).toInt = t_cd (F c2 j).toInt := Option.some.inj (x1.2.symm.trans x2.2)
    exact i_eqv (t_cd_inj x1.1 x2.1 e2)
/-- the text, and where its names lie -/
def q_nm (K W : Nat → Int) (M : Nat) (X : Nat → Int) (N : Nat) (FI : Nat → Nat → Int32) (FR : Nat → Nat → Option Nat) : Prop := FR 111 5 = some 19 ∧ N ≤ 1000 ∧ (∀ i, i < N → (FI 19 i).toInt = X i) ∧ ∀ i, i < M → K i = 1 → ∃ p m : Nat, (FI 114 i).toInt = p ∧ (FI 115 i).toInt = ((p + m : Nat) : Int) ∧ 1 ≤ m ∧ m ≤ 8 ∧ p + m ≤ N ∧ (∀ j, j < m → t_al (t_sg X N (p + j)) = true) ∧ W i = t_wv X N p m
section YN
variable {K W : Nat → Int} {M : Nat} {X : Nat → Int} {N : Nat} {n sl : Nat} {SH : Nat → Nat × Nat} {FI : Nat → Nat → Int32} {FL : Nat → Nat → Int64} {FR : Nat → Nat → Option Nat} {s : hS}
theorem nm_fr2 {F2 : Nat → Nat → Int32} {R2 : Nat → Nat → Option Nat} (h : q_nm K W M X N FI FR) (h1 : F2 19 = FI 19) (h2 : F2 114 = FI 114) (h3 : F2 115 = FI 115) (h4 : R2 111 5 = FR 111 5) : q_nm K W M X N F2 R2 := by
  unfold q_nm
  rw [h1, h2, h3, h4]
  exact h
theorem nm_b {n2 : Nat} {SH2 : Nat → Nat × Nat} {F2 : Nat → Nat → Int32} {L2 : Nat → Nat → Int64} {R2 : Nat → Nat → Option Nat} {lo : Nat} (h : q_nm K W M X N FI FR) (hb : b_ct lo SH FI FL FR n2 SH2 F2 L2 R2) (h0 : 176 ≤ lo) : q_nm K W M X N F2 R2 :=
  nm_fr2 h (by funext k; exact hb.2.2.1 19 k (by omega) (by omega)) (by funext k; exact hb.2.2.1 114 k (by omega) (by omega)) (by funext k; exact hb.2.2.1 115 k (by omega) (by omega)) (hb.2.2.2.2.1 111 5 (by omega))
/-- new cells, nothing else -/
def y_nw (n : Nat) (SH : Nat → Nat × Nat) (FI : Nat → Nat → Int32) (FL : Nat → Nat → Int64) (FR : Nat → Nat → Option Nat) (SH2 : Nat → Nat × Nat) (F2 : Nat → Nat → Int32) (L2 : Nat → Nat → Int64) (R2 : Nat → Nat → Option Nat) : Prop := (∀ q, q ≠ n → SH2 q = SH q) ∧ (∀ q, q ≠ n → F2 q = FI q) ∧ (∀ q, q ≠ n → L2 q = FL q) ∧ (∀ q, q ≠ n → R2 q = FR q)
theorem y_na {k z : Nat} {u : Unit} {n1 sl1 : Nat} {SH1 : Nat → Nat × Nat} {FI1 : Nat → Nat → Int32} {FL1 : Nat → Nat → Int64} {FR1 : Nat → Nat → Option Nat} (h : P_na k z n sl SH FI FL FR u (n1, sl1, SH1, FI1, FL1, FR1)) : n1 = n + 1 ∧ y_nw n SH FI FL FR SH1 FI1 FL1 FR1 ∧ SH1 n = (100 + k, z) ∧ (∀ i, FI1 n i = 0) ∧ (∀ i, FR1 n i = none) := by
  have h : (n1, sl1, SH1, FI1, FL1, FR1) = (n + 1, sl + z, va_up SH n (100 + k, z), va_up FI n (fun _ => 0), va_up FL n (fun _ => 0), va_up FR n (fun _ => none)) := h
  cases h
  exact ⟨rfl, ⟨fun q hq => va_o hq, fun q hq => va_o hq, fun q hq => va_o hq, fun q hq => va_o hq⟩, va_s, fun i => by rw [va_s], fun i => by rw [va_s]⟩
theorem y_rgi {c : Nat} {a2 a3 : Int32} {v : Option Nat} (h : RJ7_copyOfRangeInt_feecc (some c) a2 a3 n sl SH FI FL FR v s) : ∃ sl2 SH2 F2 L2 R2, v = some n ∧ s = (n + 1, sl2, SH2, F2, L2, R2) ∧ y_nw n SH FI FL FR SH2 F2 L2 R2 ∧ ∀ p m : Nat, a2.toInt = p → a3.toInt = ((p + m : Nat) : Int) → p + m ≤ (SH c).2 → (SH c).2 ≤ 100000 → c < n → (SH2 n).2 = m ∧ ∀ i, i < m → F2 n i = FI c (p + i) := by
  obtain ⟨v0, n0, sl0, SH0, FI0, FL0, FR0, h0, v1, n1, sl1, SH1, FI1, FL1, FR1, h1, c3, e3, c6, e6, c7, e7, v4, n4, sl4, SH4, FI4, FL4, FR4, h4, rfl, rfl⟩ := h
  rcases h0 with ⟨-, h0⟩ | ⟨-, -, h0⟩
  · exact h0.elim
  · cases h0
    cases e3
    cases e6
    cases e7
    obtain ⟨rfl, w, es, -, -⟩ := y_na h1
    obtain ⟨-, -, -, -, -, e⟩ := h4
    cases e
    refine ⟨_, _, _, _, _, rfl, rfl, ⟨w.1, fun q hq => by rw [va_o hq]; exact w.2.1 q hq, w.2.2.1, w.2.2.2⟩, fun p m hp hm hle hz hc => ?_⟩
    have e1 : (a3 - a2).toInt = (m : Int) := by rw [i_sub hm hp (by omega) (by omega)]; omega
    have e2 : SH1 c = SH c := w.1 c (by omega)
    have e3 : ((Int32.ofNat (SH1 c).2) - a2).toInt = ((SH c).2 : Int) - p := by rw [e2, i_sub (i_lit (by omega)) hp (by omega) (by omega)]
    have em : (fJ9_min_7cf53 ((Int32.ofNat (SH1 c).2) - a2) (a3 - a2) SH1 FI1 FL1 FR1).toInt = (m : Int) := by
      unfold fJ9_min_7cf53
      by_cases hlt : (a3 - a2).toInt < ((Int32.ofNat (SH1 c).2) - a2).toInt
      · rw [if_pos hlt]; exact e1
      · rw [if_neg hlt, e3]
        rw [e1, e3] at hlt
        omega
    refine ⟨by rw [es]; show (a3 - a2).toInt.toNat = m; omega, fun i hi => ?_⟩
    rw [va_s]
    unfold va_cpy
    have z0 : ((0 : Int32)).toInt.toNat = 0 := by decide
    rw [em, z0, if_pos (by omega), w.2.1 c (by omega)]
    congr 1
    omega
theorem y_rg {c : Nat} {a2 a3 : Int32} {v : Option Nat} (h : RJ7_copyOfRange_feecc (some c) a2 a3 n sl SH FI FL FR v s) : ∃ sl2 SH2 F2 L2 R2, v = some n ∧ s = (n + 1, sl2, SH2, F2, L2, R2) ∧ y_nw n SH FI FL FR SH2 F2 L2 R2 ∧ ∀ p m : Nat, a2.toInt = p → a3.toInt = ((p + m : Nat) : Int) → p + m ≤ (SH c).2 → (SH c).2 ≤ 100000 → c < n → (SH2 n).2 = m ∧ ∀ i, i < m → F2 n i = FI c (p + i) := by
  rcases h with ⟨h0, h⟩ | ⟨h0, h⟩
  · obtain ⟨c2, e2, h⟩ := h
    cases e2
    rcases h with ⟨h1, h⟩ | ⟨h1, h⟩
    · obtain ⟨c5, e5, v3, n3, sl3, SH3, FI3, FL3, FR3, hk, rfl, rfl⟩ := h
      cases e5
      obtain ⟨-, e⟩ := hk
      cases e
      refine ⟨_, _, _, _, _, rfl, rfl, ⟨fun q hq => va_o hq, fun q hq => va_o hq, fun q hq => va_o hq, fun q hq => va_o hq⟩, fun p m hp hm hle hz hc => ?_⟩
      have ez : (Int32.ofNat (SH c).2).toInt = ((SH c).2 : Int) := i_lit (by omega)
      rw [ez] at h1
      refine ⟨by rw [va_s]; omega, fun i hi => ?_⟩
      rw [va_s]
      congr 1
      omega
    · obtain ⟨v5, n5, sl5, SH5, FI5, FL5, FR5, hk, rfl, rfl⟩ := h
      exact y_rgi hk
  · obtain ⟨v5, n5, sl5, SH5, FI5, FL5, FR5, hk, rfl, rfl⟩ := h
    exact y_rgi hk
theorem y_letters {a : Int32} {t : Nat} {v : Option Nat} (hQ : h_S n SH) (hm : q_nm K W M X N FI FR) (ha : a.toInt = t) (h : RX7_letters a n sl SH FI FL FR v s) : ∃ sl2 SH2 F2 L2 R2, v = some n ∧ s = (n + 1, sl2, SH2, F2, L2, R2) ∧ y_nw n SH FI FL FR SH2 F2 L2 R2 ∧ (t < M → K t = 1 → (t : Int) < (FI 111 4).toInt → nm_ok F2 SH2 n (W t)) := by
  have h176 := hQ.1
  have es : SH 19 = (100, 1000) := hQ.2 19 (by decide)
  have et : a.toInt.toNat = t := by omega
  obtain ⟨n1, n2, n3, n4⟩ := hm
  rcases h with ⟨h0, h⟩ | ⟨h0, h⟩
  · exfalso; omega
  · rcases h with ⟨h1, h⟩ | ⟨h1, h⟩
    · obtain ⟨-, c4, e4, h⟩ := h
      rw [n1] at e4
      cases e4
      rw [et] at h
      have ez : (Int32.ofNat (SH 19).2).toInt = 1000 := by rw [es]; decide
      rw [ez] at h
      rcases h with ⟨h2, h⟩ | ⟨h2, h⟩
      · obtain ⟨v5, n5, sl5, SH5, FI5, FL5, FR5, hk, rfl, rfl⟩ := h
        obtain ⟨rfl, w, -⟩ := y_na hk
        refine ⟨_, _, _, _, _, rfl, rfl, w, fun ht hK _ => ?_⟩
        obtain ⟨p, m, p1, p2, p3, p4, p5, -⟩ := n4 t ht hK
        exfalso; omega
      · obtain ⟨-, -, h⟩ := h
        rcases h with ⟨h3, h⟩ | ⟨h3, h⟩
        · obtain ⟨v5, n5, sl5, SH5, FI5, FL5, FR5, hk, rfl, rfl⟩ := h
          obtain ⟨rfl, w, -⟩ := y_na hk
          refine ⟨_, _, _, _, _, rfl, rfl, w, fun ht hK _ => ?_⟩
          obtain ⟨p, m, p1, p2, p3, p4, p5, -⟩ := n4 t ht hK
          exfalso; omega
        · obtain ⟨-, -, v8, n8, sl8, SH8, FI8, FL8, FR8, hk, rfl, rfl⟩ := h
          rw [n1] at hk
          obtain ⟨sl2, SH2, F2, L2, R2, rfl, e, w, key⟩ := y_rg hk
          cases e
          refine ⟨_, _, _, _, _, rfl, rfl, w, fun ht hK _ => ?_⟩
          obtain ⟨p, m, p1, p2, p3, p4, p5, p6, p7⟩ := n4 t ht hK
          obtain ⟨k1, k2⟩ := key p m p1 p2 (by rw [es]; show p + m ≤ 1000; omega) (by rw [es]; decide) (by omega)
          have hl : ∀ j, j < m → (FI8 n j).toInt = t_sg X N (p + j) := fun j hj => by
            rw [k2 j hj, n3 (p + j) (by omega)]
            unfold t_sg
            rw [if_pos (by omega)]
          refine ⟨t_dl X N p m, by rw [t_dl_len]; exact k1, by rw [t_dl_len]; exact p4, fun d hd => ?_, by rw [p7]; exact t_wv_tv m, fun j hj => ?_⟩
          · obtain ⟨q, hq, he⟩ := List.mem_iff_getElem.mp hd
            rw [t_dl_len] at hq
            have e := t_dl_get (X := X) (N := N) (i := p) m q hq
            rw [List.getElem?_eq_getElem (by rw [t_dl_len]; exact hq), he] at e
            rw [Option.some.inj e]
            exact t_cd_rg (p6 _ (by omega))
          · rw [t_dl_len] at hj ⊢
            rw [hl j hj]
            refine ⟨p6 j hj, ?_⟩
            rw [t_dl_get m (m - 1 - j) (by omega), show m - 1 - (m - 1 - j) = j by omega]
    · obtain ⟨v9, n9, sl9, SH9, FI9, FL9, FR9, hk, rfl, rfl⟩ := h
      obtain ⟨rfl, w, -⟩ := y_na hk
      refine ⟨_, _, _, _, _, rfl, rfl, w, fun ht hK hc => ?_⟩
      exfalso; omega
theorem y_same_G {c1 c2 z : Nat} (h1 : (SH c1).2 = z) (hz : z ≤ 100000) : ∀ (g : Nat) (l : Int32) (v : Int32) (s : hS) (j : Nat), GX4_areSame_11 (some c1) (some c2) g l n sl SH FI FL FR v s → l.toInt = j → j ≤ z → s = (n, sl, SH, FI, FL, FR) ∧ (v.toInt = 0 ↔ ¬ ∀ i, j ≤ i → i < z → FI c1 i = FI c2 i) := by
  have ez : (Int32.ofNat (SH c1).2).toInt = (z : Int) := by rw [h1]; exact i_lit (by omega)
  intro g
  induction g with
  | zero => intro l v s j h; exact h.elim
  | succ g ih =>
    intro l v s j h hj hle
    obtain ⟨c, e, h⟩ := h
    cases e
    rcases h with ⟨hlt, h⟩ | ⟨hlt, rfl, rfl⟩
    · rw [ez] at hlt
      obtain ⟨c3, e3, -, c4, e4, -, h⟩ := h
      cases e3
      cases e4
      have em : l.toInt.toNat = j := by omega
      rw [em] at h
      rcases h with ⟨he, h⟩ | ⟨he, rfl, rfl⟩
      · obtain ⟨r1, r2⟩ := ih _ v s (j + 1) h (by rw [i_add hj (by decide : ((1 : Int32)).toInt = 1) (by omega) (by omega)]; omega) (by omega)
        refine ⟨r1, r2.trans (not_congr ⟨fun hh i g1 g2 => ?_, fun hh i g1 g2 => hh i (by omega) g2⟩)⟩
        by_cases e : i = j
        · subst e; exact i_eqv he
        · exact hh i (by omega) g2
      · exact ⟨rfl, fun _ hh => he (by rw [hh j (Nat.le_refl _) (by omega)]), fun _ => by decide⟩
    · rw [ez] at hlt
      refine ⟨rfl, fun h0 => absurd h0 (by decide), fun hh => ?_⟩
      exact absurd (fun i g1 g2 => by omega) hh
theorem y_same {c1 c2 : Nat} {v : Int32} (h : RX4_areSame (some c1) (some c2) n sl SH FI FL FR v s) (h1 : (SH c1).2 ≤ 100000) (h2 : (SH c2).2 ≤ 100000) : s = (n, sl, SH, FI, FL, FR) ∧ (v.toInt = 0 ↔ ¬ ((SH c1).2 = (SH c2).2 ∧ ∀ j, j < (SH c1).2 → FI c1 j = FI c2 j)) := by
  obtain ⟨c, e, c', e', h⟩ := h
  cases e
  cases e'
  have ez1 : (Int32.ofNat (SH c1).2).toInt = ((SH c1).2 : Int) := i_lit (by omega)
  have ez2 : (Int32.ofNat (SH c2).2).toInt = ((SH c2).2 : Int) := i_lit (by omega)
  rw [ez1, ez2] at h
  rcases h with ⟨he, g, h⟩ | ⟨he, rfl, rfl⟩
  · obtain ⟨r1, r2⟩ := y_same_G rfl h1 g _ v s 0 h (by decide) (Nat.zero_le _)
    exact ⟨r1, r2.trans (not_congr ⟨fun hh => ⟨by omega, fun j hj => hh j (Nat.zero_le _) hj⟩, fun hh i _ g2 => hh.2 i g2⟩)⟩
  · exact ⟨rfl, fun _ hh => he (by rw [hh.1]), fun _ => by decide⟩
/-- the names that stand -/
def d_ns (FI : Nat → Nat → Int32) (FR : Nat → Nat → Option Nat) (SH : Nat → Nat × Nat) (vc : Nat) (V : List lp_V) : Prop := ∀ (i : Nat) (v : lp_V), V[i]? = some v → ∃ x c, FR vc i = some x ∧ FR x 0 = some c ∧ nm_ok FI SH c v.1
theorem nm_sz {c : Nat} {w : Int} (h : nm_ok FI SH c w) : (SH c).2 ≤ 100000 := by
  obtain ⟨D, h1, h2, -⟩ := h
  omega
theorem y_known_G {vc nm : Nat} {w : Int} {V : List lp_V} (hv : FR 110 2 = some vc) (hs : (SH vc).2 = 12) (hc : (FI 110 3).toInt = V.length) (h12 : V.length ≤ 12) (hn : nm_ok FI SH nm w) (hN : d_ns FI FR SH vc V) : ∀ (g : Nat) (l : Int32) (v : Int32) (s : hS) (j : Nat), GX4_isKnown_2 (some nm) g l n sl SH FI FL FR v s → l.toInt = j → j ≤ V.length → s = (n, sl, SH, FI, FL, FR) ∧ (v.toInt = 0 ↔ ∀ (i : Nat) (x : lp_V), j ≤ i → V[i]? = some x → x.1 ≠ w) := by
  have ez : (Int32.ofNat (SH vc).2).toInt = 12 := by rw [hs]; decide
  intro g
  induction g with
  | zero => intro l v s j h; exact h.elim
  | succ g ih =>
    intro l v s j h hj hle
    rcases h with ⟨hlt, h⟩ | ⟨hlt, rfl, rfl⟩
    · have hjl : j < V.length := by omega
      obtain ⟨c2, e2, h⟩ := h
      rw [hv] at e2
      cases e2
      rw [ez] at h
      rcases h with ⟨-, h⟩ | ⟨h12', -⟩
      · obtain ⟨c4, e4, -, c5, e5, v5, n5, sl5, SH5, FI5, FL5, FR5, hk, h⟩ := h
        rw [hv] at e4
        cases e4
        have em : l.toInt.toNat = j := by omega
        rw [em] at e5
        obtain ⟨x, c, y1, y2, y3⟩ := hN j V[j] (List.getElem?_eq_getElem hjl)
        rw [y1] at e5
        cases e5
        rw [y2] at hk
        obtain ⟨e, r⟩ := y_same hk (nm_sz y3) (nm_sz hn)
        cases e
        rw [nm_same y3 hn] at r
        rcases h with ⟨h0, h⟩ | ⟨h0, rfl, rfl⟩
        · obtain ⟨r1, r2⟩ := ih _ v s (j + 1) h (by rw [i_add hj (by decide : ((1 : Int32)).toInt = 1) (by omega) (by omega)]; omega) (by omega)
          refine ⟨r1, r2.trans ⟨fun hh i x g1 g2 => ?_, fun hh i x g1 g2 => hh i x (by omega) g2⟩⟩
          by_cases e : i = j
          · subst e
            rw [List.getElem?_eq_getElem hjl] at g2
            cases g2
            exact r.mp h0
          · exact hh i x (by omega) g2
        · refine ⟨rfl, fun h1 => absurd h1 (by decide), fun hh => ?_⟩
          exact absurd (r.mpr (hh j V[j] (Nat.le_refl _) (List.getElem?_eq_getElem hjl))) h0
      · exfalso; omega
    · refine ⟨rfl, fun _ i x g1 g2 => ?_, fun _ => by decide⟩
      have := (List.getElem?_eq_some_iff.mp g2).1
      exfalso; omega
theorem y_known {vc nm : Nat} {w : Int} {V : List lp_V} {v : Int32} (hv : FR 110 2 = some vc) (hs : (SH vc).2 = 12) (hc : (FI 110 3).toInt = V.length) (h12 : V.length ≤ 12) (hn : nm_ok FI SH nm w) (hN : d_ns FI FR SH vc V) (h : RX4_isKnown (some nm) n sl SH FI FL FR v s) : s = (n, sl, SH, FI, FL, FR) ∧ (v.toInt = 0 ↔ ∀ x, x ∈ V → x.1 ≠ w) := by
  obtain ⟨g, h⟩ := h
  obtain ⟨r1, r2⟩ := y_known_G hv hs hc h12 hn hN g _ v s 0 h (by decide) (Nat.zero_le _)
  refine ⟨r1, r2.trans ⟨fun hh x hx => ?_, fun hh i x _ g2 => hh x (List.mem_of_getElem? g2)⟩⟩
  obtain ⟨i, hi⟩ := List.mem_iff_getElem?.mp hx
  exact hh i x (Nat.zero_le _) hi
end YN
