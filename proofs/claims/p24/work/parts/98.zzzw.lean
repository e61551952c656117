/-! PART, FETCH, STORE, EXPRESSION, LIST, MEANS as the desk calls them. -/
def pa_is (Q : ms_Q) (a1 a2 : Int32) (w : Int64) : Prop := (¬ (0 ≤ a1.toInt ∧ a1.toInt < (Q.2.length : Int)) → w.toInt = -1) ∧ ∀ p, 0 ≤ a1.toInt → a1.toInt < (Q.2.length : Int) → Q.2[Q.2.length - 1 - a1.toInt.toNat]? = some p → (a2.toInt = 0 → w.toInt = p.1.1) ∧ (a2.toInt = 1 → w.toInt = p.1.2.1.toInt) ∧ (a2.toInt = 2 → w.toInt = p.2.1) ∧ (a2.toInt = 3 → w.toInt = p.2.2) ∧ ((a2.toInt < 0 ∨ (3 < a2.toInt ∧ a2.toInt < 100)) → w.toInt = -1) ∧ (100 ≤ a2.toInt → p.1.1 = 4 → a2.toInt - 100 < (p.1.2.2.length : Int) → w.toInt = (p.1.2.2.getD (a2.toInt - 100).toNat 0).toInt) ∧ (100 ≤ a2.toInt → ¬ (p.1.1 = 4 ∧ a2.toInt - 100 < (p.1.2.2.length : Int)) → w.toInt = -1)
def fet_is (A : ab_A) (a1 : Int32) (v : Int32) (A2 : ab_A) : Prop := (¬ (1 ≤ a1.toInt ∧ a1.toInt ≤ 512) ∧ v = -1 ∧ A2 = A) ∨ ((1 ≤ a1.toInt ∧ a1.toInt ≤ 512) ∧ v.toInt = ((fe A.1 a1.toInt.toNat (pl_Q a1.toInt.toNat A.2.2.1) 0 (fun _ => 0, 0)).2 : Int) ∧ A2 = (A.1, A.2.1, A.2.2.1, ((a1.toInt.toNat + 7) / 8, (fe A.1 a1.toInt.toNat (pl_Q a1.toInt.toNat A.2.2.1) 0 (fun _ => 0, 0)).1)))
def sto_is (A : ab_A) (tp : Nat → Int32) (T : Nat) (a1 : Int32) (v : Int32) (A2 : ab_A) : Prop := (¬ (1 ≤ a1.toInt ∧ a1.toInt ≤ 512 ∧ a1.toInt ≤ 8 * (T : Int)) ∧ v = -1 ∧ A2 = A) ∨ ((1 ≤ a1.toInt ∧ a1.toInt ≤ 512 ∧ a1.toInt ≤ 8 * (T : Int)) ∧ v.toInt = ((so tp a1.toInt.toNat (pl_Q a1.toInt.toNat A.2.2.1) 0 (A.1, 0)).2 : Int) ∧ A2 = ((so tp a1.toInt.toNat (pl_Q a1.toInt.toNat A.2.2.1) 0 (A.1, 0)).1, A.2))
def ms_ue (E : ms_E) (k : Nat) (L : List Int32) : ms_E := (E.1, E.2.1, va_up E.2.2.1 k L, E.2.2.2)
def ab_ex (a1 : Int32) (T : Nat) (tp : Nat → Int32) (A : ab_A) : ab_A := if 0 ≤ a1.toInt ∧ a1.toInt ≤ 15 ∧ T ≤ 600 then (ms_ue A.1 a1.toInt.toNat ((List.range T).map tp), A.2) else A
def ab_li (a1 : Int32) (T : Nat) (tp : Nat → Int32) (A : ab_A) : ab_A := if 0 ≤ a1.toInt ∧ a1.toInt ≤ 3 ∧ T ≤ 600 then (A.1, va_up A.2.1 a1.toInt.toNat ((List.range T).map tp), A.2.2) else A
theorem pa_u {Q : ms_Q} {a1 a2 : Int32} {w w2 : Int64} (h : pa_is Q a1 a2 w) (h2 : pa_is Q a1 a2 w2) : w = w2 := by
  apply Int64.toInt_inj.mp
  by_cases hr : 0 ≤ a1.toInt ∧ a1.toInt < (Q.2.length : Int)
  · obtain ⟨p, hp⟩ := lx_i (L := Q.2) (i := Q.2.length - 1 - a1.toInt.toNat) (by omega)
    obtain ⟨x0, x1, x2, x3, x4, x5, x6⟩ := h.2 p hr.1 hr.2 hp
    obtain ⟨y0, y1, y2, y3, y4, y5, y6⟩ := h2.2 p hr.1 hr.2 hp
    by_cases c0 : a2.toInt = 0
    · rw [x0 c0, y0 c0]
    by_cases c1 : a2.toInt = 1
    · rw [x1 c1, y1 c1]
    by_cases c2 : a2.toInt = 2
    · rw [x2 c2, y2 c2]
    by_cases c3 : a2.toInt = 3
    · rw [x3 c3, y3 c3]
    by_cases c4 : 100 ≤ a2.toInt
    · by_cases c5 : p.1.1 = 4 ∧ a2.toInt - 100 < (p.1.2.2.length : Int)
      · rw [x5 c4 c5.1 c5.2, y5 c4 c5.1 c5.2]
      · rw [x6 c4 c5, y6 c4 c5]
    · rw [x4 (by omega), y4 (by omega)]
  · rw [h.1 hr, h2.1 hr]
theorem va_up_at {α : Type} {F : Nat → α} {k : Nat} {x : α} : va_up F k x k = x := by simp [va_up]
theorem va_up_no {α : Type} {F : Nat → α} {k j : Nat} {x : α} (h : j ≠ k) : va_up F k x j = F j := by simp [va_up, h]
section HD
variable {n sl : Nat} {SH : Nat → Nat × Nat} {FI F2 : Nat → Nat → Int32} {FL L2 : Nat → Nat → Int64} {FR R2 : Nat → Nat → Option Nat} {A A2 : ab_A} {s : hS} {v v2 a1 a2 a3 a4 : Int32} {b2 b3 w : Int64} {V : List lp_V}
theorem ce_bb {q : Nat} {p : ms_P} {l : Int64} {B : Int} (hc : cq FI FL FR SH q p) (hl : l.toInt = B) (h : RX5_blockByte q l n sl SH FI FL FR v s) : s = (n, sl, SH, FI, FL, FR) ∧ (B < 0 → v.toInt = -1) ∧ (0 ≤ B → p.1.1 = 4 → B < (p.1.2.2.length : Int) → v.toInt = (p.1.2.2.getD B.toNat 0).toInt) ∧ (¬ (p.1.1 = 4 ∧ B < (p.1.2.2.length : Int)) → v.toInt = -1) := by
  have zm : ((-1 : Int32)).toInt = -1 := by first | decide | (simp; done) | (simp [ms_0]; done)
  have z4 : ((4 : Int32)).toInt = 4 := by first | decide | (simp; done) | (simp [ms_0]; done)
  have z0 : ((0 : Int64)).toInt = 0 := by first | decide | (simp; done) | (simp [ms_0]; done)
  obtain ⟨⟨c1, c2, c3, c4⟩, -⟩ := hc
  rcases h with ⟨h0, h⟩ | ⟨h0, e1, e⟩
  · rw [c1, z4] at h0
    obtain ⟨r, D, r1, r2, r3⟩ := c4 h0
    have len : p.1.2.1.toInt = (p.1.2.2.length : Int) := by
      rcases c3 with ⟨y, -⟩ | ⟨y, -⟩ | ⟨y, -⟩ | ⟨y, -⟩ | ⟨-, y⟩
      · exfalso; omega
      · exfalso; omega
      · exfalso; omega
      · exfalso; omega
      · exact y
    have h := P_n h (by rw [r1]; intro e; cases e)
    rw [hl, z0, c2, len] at h
    rcases h with ⟨h1, e1, e⟩ | ⟨h1, h⟩
    · exact ⟨e, fun _ => by rw [e1]; exact zm, fun h => by omega, fun _ => by rw [e1]; exact zm⟩
    · rcases h with ⟨h2, v4, n4, sl4, SH4, FI4, FL4, FR4, hb, e1, e⟩ | ⟨h2, e1, e⟩
      · obtain ⟨g1, g2, g3, g4⟩ := r3
        have ea : ((FI q 5).toInt64 + l).toInt = ((D + B.toNat : Nat) : Int) := by
          rw [l_add (i_2l r2) hl (by omega) (by omega)]
          omega
        rw [r1] at hb
        obtain ⟨b, hbb⟩ := lx_i (L := p.1.2.2) (i := B.toNat) (by omega)
        have hb := P_n hb (by rw [ea, z0]; omega)
        obtain ⟨c9, e9, hb⟩ := hb
        cases e9
        have hb := P_p hb (by rw [ea, i_2l (i_lit (n := (SH r).2) (by omega))]; omega)
        obtain ⟨c8, e8, -, e7, e6⟩ := hb
        cases e8
        cases e6
        rw [l_2i ea (by omega) (by omega)] at e7
        have g5 := (g4 B.toNat b hbb).1
        have eg : p.1.2.2.getD B.toNat 0 = b := by rw [List.getD_eq_getElem?_getD, hbb]; rfl
        refine ⟨e, fun h => by omega, fun _ _ _ => ?_, fun hn => absurd ⟨h0, h2⟩ hn⟩
        rw [e1, e7, eg, show ((D + B.toNat : Nat) : Int).toNat = D + B.toNat by omega, g5]
      · exact ⟨e, fun h => by omega, fun _ _ h => absurd h h2, fun _ => by rw [e1]; exact zm⟩
  · rw [c1, z4] at h0
    exact ⟨e, fun _ => by rw [e1]; exact zm, fun _ h => absurd h h0, fun _ => by rw [e1]; exact zm⟩
theorem ce_part (hS : h_S n SH) (hF : h_FR FR) (hB : cB SH FI FL FR A) (h : RX11_part a1 a2 n sl SH FI FL FR w s) : pa_is A.2.2.1 a1 a2 w ∧ s = (n, sl, SH, FI, FL, FR) := by
  have zm : ((-1 : Int64)).toInt = -1 := by first | decide | (simp; done) | (simp [ms_0]; done)
  have hQ := hB.2.2.1
  have hn := crx_n hQ
  obtain ⟨-, -, hl, -, hlv⟩ := hQ
  rcases h with ⟨h0, e1, e⟩ | ⟨h0, h⟩
  · exact ⟨⟨fun _ => by rw [e1]; exact zm, fun p h1 h2 => by omega⟩, e⟩
  rw [hn] at h
  rcases h with ⟨h1, -, h⟩ | ⟨h1, e1, e⟩
  · have hj : a1.toInt.toNat < A.2.2.1.2.length := by omega
    obtain ⟨p, hp, hc⟩ := lv_an hlv hj
    have e2 : FR 2 a1.toInt.toNat = some (3 + a1.toInt.toNat) := (tx_1 hF).2 _ (by omega)
    have hc2 := hc
    obtain ⟨⟨c1, c2, c3, c4⟩, c5, c6, -⟩ := hc2
    rw [e2] at h
    have fin : ∀ {w' : Int64}, w = w' → s = (n, sl, SH, FI, FL, FR) → ((a2.toInt = 0 → w'.toInt = p.1.1) ∧ (a2.toInt = 1 → w'.toInt = p.1.2.1.toInt) ∧ (a2.toInt = 2 → w'.toInt = p.2.1) ∧ (a2.toInt = 3 → w'.toInt = p.2.2) ∧ ((a2.toInt < 0 ∨ (3 < a2.toInt ∧ a2.toInt < 100)) → w'.toInt = -1) ∧ (100 ≤ a2.toInt → p.1.1 = 4 → a2.toInt - 100 < (p.1.2.2.length : Int) → w'.toInt = (p.1.2.2.getD (a2.toInt - 100).toNat 0).toInt) ∧ (100 ≤ a2.toInt → ¬ (p.1.1 = 4 ∧ a2.toInt - 100 < (p.1.2.2.length : Int)) → w'.toInt = -1)) → pa_is A.2.2.1 a1 a2 w ∧ s = (n, sl, SH, FI, FL, FR) := by
      intro w' ew es hh
      subst ew
      refine ⟨⟨fun hn => absurd ⟨by omega, h1⟩ hn, fun p2 _ _ hp2 => ?_⟩, es⟩
      rw [hp] at hp2
      cases hp2
      exact hh
    rcases h with ⟨d0, c, ec, ew, es⟩ | ⟨d0, h⟩
    · cases ec
      exact fin ew es ⟨fun _ => (i_2l c1), fun h => by omega, fun h => by omega, fun h => by omega, fun h => by omega, fun h => by omega, fun h => by omega⟩
    rcases h with ⟨d1, c, ec, ew, es⟩ | ⟨d1, h⟩
    · cases ec
      exact fin ew es ⟨fun h => by omega, fun _ => by rw [c2], fun h => by omega, fun h => by omega, fun h => by omega, fun h => by omega, fun h => by omega⟩
    rcases h with ⟨d2, c, ec, ew, es⟩ | ⟨d2, h⟩
    · cases ec
      exact fin ew es ⟨fun h => by omega, fun h => by omega, fun _ => i_2l c5, fun h => by omega, fun h => by omega, fun h => by omega, fun h => by omega⟩
    rcases h with ⟨d3, c, ec, ew, es⟩ | ⟨d3, h⟩
    · cases ec
      exact fin ew es ⟨fun h => by omega, fun h => by omega, fun h => by omega, fun _ => i_2l c6, fun h => by omega, fun h => by omega, fun h => by omega⟩
    · obtain ⟨c, ec, v12, n12, sl12, SH12, FI12, FL12, FR12, hb, ew, es⟩ := h
      cases ec
      have el : (a2.toInt64 - (100 : Int64)).toInt = a2.toInt - 100 := l_sub (i_2l rfl) (by first | decide | (simp; done) | (simp [ms_0]; done)) (by have := Int32.le_toInt a2; omega) (by have := Int32.toInt_lt a2; omega)
      obtain ⟨e9, b1, b2', b3'⟩ := ce_bb hc el hb
      cases e9
      exact fin ew es ⟨fun h => by omega, fun h => by omega, fun h => by omega, fun h => by omega, fun h => i_2l (b1 (by omega)), fun h h2 h3 => i_2l (b2' (by omega) h2 h3), fun h h2 => i_2l (b3' h2)⟩
  · exact ⟨⟨fun _ => by rw [e1]; exact zm, fun p h2 h3 => absurd h3 h1⟩, e⟩
theorem re_part (hB : rB SH FI FL A) (h : RX12_part_ a1 a2 n sl SH FI FL FR w s) : pa_is A.2.2.1 a1 a2 w ∧ ∃ F2 L2, s = (n, sl, SH, F2, L2, FR) ∧ rB SH F2 L2 A := by
  have zm : ((-1 : Int64)).toInt = -1 := by first | decide | (simp; done) | (simp [ms_0]; done)
  have z1 : ((1 : Int32)).toInt = 1 := by first | decide | (simp; done) | (simp [ms_0]; done)
  have z2 : ((2 : Int32)).toInt = 2 := by first | decide | (simp; done) | (simp [ms_0]; done)
  have z3 : ((3 : Int32)).toInt = 3 := by first | decide | (simp; done) | (simp [ms_0]; done)
  have z4 : ((4 : Int32)).toInt = 4 := by first | decide | (simp; done) | (simp [ms_0]; done)
  have z100 : ((100 : Int32)).toInt = 100 := by first | decide | (simp; done) | (simp [ms_0]; done)
  have hB2 := rB_0 (x := (0 : Int32)) hB
  obtain ⟨hn, -, hl, -, hlv⟩ := hB.2.2.1
  have st : s = (n, sl, SH, h_up FI 121 0 ((0 : Int32)), FL, FR) → ∃ F2 L2, s = (n, sl, SH, F2, L2, FR) ∧ rB SH F2 L2 A := fun e => ⟨_, _, e, hB2⟩
  rcases h with ⟨h0, e1, e⟩ | ⟨h0, h⟩
  · exact ⟨⟨fun _ => by rw [e1]; exact zm, fun p h1 h2 => by omega⟩, st e⟩
  rw [hn] at h
  rcases h with ⟨h1, h⟩ | ⟨h1, e1, e⟩
  · have hj : a1.toInt.toNat < A.2.2.1.2.length := by omega
    obtain ⟨p, hp, c1, c2, c5, c6, cok, -, c7, c8⟩ := lv_an hlv hj
    have fin : ∀ {w' : Int64}, w = w' → s = (n, sl, SH, h_up FI 121 0 ((0 : Int32)), FL, FR) → ((a2.toInt = 0 → w'.toInt = p.1.1) ∧ (a2.toInt = 1 → w'.toInt = p.1.2.1.toInt) ∧ (a2.toInt = 2 → w'.toInt = p.2.1) ∧ (a2.toInt = 3 → w'.toInt = p.2.2) ∧ ((a2.toInt < 0 ∨ (3 < a2.toInt ∧ a2.toInt < 100)) → w'.toInt = -1) ∧ (100 ≤ a2.toInt → p.1.1 = 4 → a2.toInt - 100 < (p.1.2.2.length : Int) → w'.toInt = (p.1.2.2.getD (a2.toInt - 100).toNat 0).toInt) ∧ (100 ≤ a2.toInt → ¬ (p.1.1 = 4 ∧ a2.toInt - 100 < (p.1.2.2.length : Int)) → w'.toInt = -1)) → pa_is A.2.2.1 a1 a2 w ∧ ∃ F2 L2, s = (n, sl, SH, F2, L2, FR) ∧ rB SH F2 L2 A := by
      intro w' ew es hh
      subst ew
      refine ⟨⟨fun hn => absurd ⟨by omega, h1⟩ hn, fun p2 _ _ hp2 => ?_⟩, st es⟩
      rw [hp] at hp2
      cases hp2
      exact hh
    rw [z1, z2, z3, z100] at h
    rcases h with ⟨d0, -, ew, es⟩ | ⟨d0, h⟩
    · exact fin ew es ⟨fun _ => i_2l c1, fun h => by omega, fun h => by omega, fun h => by omega, fun h => by omega, fun h => by omega, fun h => by omega⟩
    rcases h with ⟨d1, -, ew, es⟩ | ⟨d1, h⟩
    · exact fin ew es ⟨fun h => by omega, fun _ => by rw [c2], fun h => by omega, fun h => by omega, fun h => by omega, fun h => by omega, fun h => by omega⟩
    rcases h with ⟨d2, -, ew, es⟩ | ⟨d2, h⟩
    · exact fin ew es ⟨fun h => by omega, fun h => by omega, fun _ => i_2l c5, fun h => by omega, fun h => by omega, fun h => by omega, fun h => by omega⟩
    rcases h with ⟨d3, -, ew, es⟩ | ⟨d3, h⟩
    · exact fin ew es ⟨fun h => by omega, fun h => by omega, fun h => by omega, fun _ => i_2l c6, fun h => by omega, fun h => by omega, fun h => by omega⟩
    rcases h with ⟨d4, ew, es⟩ | ⟨d4, -, h⟩
    · exact fin ew es ⟨fun h => by omega, fun h => by omega, fun h => by omega, fun h => by omega, fun _ => zm, fun h => by omega, fun h => by omega⟩
    rw [c1, z4] at h
    rcases h with ⟨d5, -, h⟩ | ⟨d5, ew, es⟩
    · have len : p.1.2.1.toInt = (p.1.2.2.length : Int) := by
        rcases cok with ⟨y, -⟩ | ⟨y, -⟩ | ⟨y, -⟩ | ⟨y, -⟩ | ⟨-, y⟩
        · exfalso; omega
        · exfalso; omega
        · exfalso; omega
        · exfalso; omega
        · exact y
      have e100 : (a2 - (100 : Int32)).toInt = a2.toInt - 100 := i_sub rfl z100 (by omega) (by have := Int32.toInt_lt a2; omega)
      rw [i_2l e100, c2, len] at h
      rcases h with ⟨d6, -, ew, es⟩ | ⟨d6, ew, es⟩
      · have m : (((600 : Int32)) * a1).toInt = 600 * a1.toInt := i_mul (by first | decide | (simp; done) | (simp [ms_0]; done) : ((600 : Int32)).toInt = 600) rfl (by omega) (by omega)
        have m2 : ((((600 : Int32)) * a1) + a2).toInt = 600 * a1.toInt + a2.toInt := i_add m rfl (by omega) (by omega)
        have m3 : (((((600 : Int32)) * a1) + a2) - ((100 : Int32))).toInt = ((600 * a1.toInt.toNat + (a2.toInt - 100).toNat : Nat) : Int) := by
          rw [i_sub m2 z100 (by omega) (by omega)]
          omega
        obtain ⟨b, hb⟩ := lx_i (L := p.1.2.2) (i := (a2.toInt - 100).toNat) (by omega)
        have eg : p.1.2.2.getD (a2.toInt - 100).toNat 0 = b := by rw [List.getD_eq_getElem?_getD, hb]; rfl
        rw [m3, show ((600 * a1.toInt.toNat + (a2.toInt - 100).toNat : Nat) : Int).toNat = 600 * a1.toInt.toNat + (a2.toInt - 100).toNat by omega, (c8 _ b hb).1] at ew
        exact fin ew es ⟨fun h => by omega, fun h => by omega, fun h => by omega, fun h => by omega, fun h => by omega, fun _ _ _ => by rw [eg]; exact i_2l rfl, fun _ h => absurd ⟨d5, d6⟩ h⟩
      · exact fin ew es ⟨fun h => by omega, fun h => by omega, fun h => by omega, fun h => by omega, fun h => by omega, fun _ _ h => absurd h d6, fun _ _ => zm⟩
    · exact fin ew es ⟨fun h => by omega, fun h => by omega, fun h => by omega, fun h => by omega, fun h => by omega, fun _ h => absurd h d5, fun _ _ => zm⟩
  · exact ⟨⟨fun _ => by rw [e1]; exact zm, fun p h2 h3 => absurd h3 h1⟩, st e⟩
/-- changes of the desk's own numbers and OUT -/
theorem cB_0 {E : ms_E} {O : Nat × (Nat → Int32)} {F1 : Nat → Nat → Int32} (hE : cE F1 L2 FR SH E) (hL : cL F1 FR SH A.2.1) (hQ : crx F1 L2 FR SH 1 3 A.2.2.1) (f : ∀ c, c ≠ 0 → c ≠ 20 → F2 c = F1 c) (ho : oV (F2 0 10) (F2 20) O) : cB SH F2 L2 FR (E, A.2.1, A.2.2.1, O) := by
  have fr : ∀ r, rw0 SH r → F2 r = F1 r := fun r hr => f r (by have := hr.2; omega) (by have := hr.2; omega)
  obtain ⟨e1, e2, e3, e4, e5, e6, e7, e8⟩ := hE
  refine ⟨⟨e1, by rw [f 25 (by first | decide | (simp; done) | (simp [ms_0]; done)) (by first | decide | (simp; done) | (simp [ms_0]; done))]; exact e2, fun k hk => ?_, by rw [f 23 (by first | decide | (simp; done) | (simp [ms_0]; done)) (by first | decide | (simp; done) | (simp [ms_0]; done))]; exact e4, by rw [f 23 (by first | decide | (simp; done) | (simp [ms_0]; done)) (by first | decide | (simp; done) | (simp [ms_0]; done))]; exact e5, e6, by rw [f 23 (by first | decide | (simp; done) | (simp [ms_0]; done)) (by first | decide | (simp; done) | (simp [ms_0]; done))]; exact e7, by rw [f 23 (by first | decide | (simp; done) | (simp [ms_0]; done)) (by first | decide | (simp; done) | (simp [ms_0]; done))]; exact e8⟩, fun k hk => ?_, crx_fr hQ fr (f 1 (by first | decide | (simp; done) | (simp [ms_0]; done)) (by first | decide | (simp; done) | (simp [ms_0]; done))) (fun i hi => ⟨f (3 + i) (by omega) (by omega), rfl, rfl⟩), ho⟩
  · obtain ⟨r, r1, r2, r3, r4⟩ := e3 k hk
    exact ⟨r, r1, r2, r3, bk_fr r4 (fr r r4.1)⟩
  · obtain ⟨r, r1, r2, r3, r4⟩ := hL k hk
    exact ⟨r, r1, r2, r3, bk_fr r4 (fr r r4.1)⟩
theorem ce_fetch (hS : h_S n SH) (hF : h_FR FR) (hB : cB SH FI FL FR A) (h : RX11_fetch a1 n sl SH FI FL FR v s) : ∃ F2 L2 R2 A2, s = (n, sl, SH, F2, L2, R2) ∧ fet_is A a1 v A2 ∧ cB SH F2 L2 R2 A2 := by
  have z1 : ((1 : Int32)).toInt = 1 := by first | decide | (simp; done) | (simp [ms_0]; done)
  have z2 : ((512 : Int32)).toInt = 512 := by first | decide | (simp; done) | (simp [ms_0]; done)
  by_cases hok : 1 ≤ a1.toInt ∧ a1.toInt ≤ 512
  · obtain ⟨q1, F2, q2, q3, q4, q5, q6⟩ := c_fetch (N := a1.toInt.toNat) hS (tx_1 hF) (by omega) (by omega) (by omega) hB.1 hB.2.2.1 h
    exact ⟨F2, FL, FR, _, q2, Or.inr ⟨hok, q1, rfl⟩, cB_0 hB.1 hB.2.1 hB.2.2.1 q3 ⟨q5, by show (a1.toInt.toNat + 7) / 8 ≤ 64; omega, q6⟩⟩
  · rcases h with ⟨h0, e1, e⟩ | ⟨h0, h⟩
    · exact ⟨FI, FL, FR, A, e, Or.inl ⟨hok, e1, rfl⟩, hB⟩
    · rcases h with ⟨h1, e1, e⟩ | ⟨h1, -⟩
      · exact ⟨FI, FL, FR, A, e, Or.inl ⟨hok, e1, rfl⟩, hB⟩
      · exfalso
        rw [z1] at h0
        rw [z2] at h1
        omega
theorem re_fetch (hm : rE_mem A.1) (hB : rB SH FI FL A) (hr : fet_is A a1 v A2) (h : RX12_fetch a1 n sl SH FI FL FR v2 s) : v2 = v ∧ ∃ F2 L2, s = (n, sl, SH, F2, L2, FR) ∧ rB SH F2 L2 A2 := by
  have z1 : ((1 : Int32)).toInt = 1 := by first | decide | (simp; done) | (simp [ms_0]; done)
  have z2 : ((512 : Int32)).toInt = 512 := by first | decide | (simp; done) | (simp [ms_0]; done)
  by_cases hok : 1 ≤ a1.toInt ∧ a1.toInt ≤ 512
  · rcases hr with ⟨r1, -⟩ | ⟨-, r1, r2⟩
    · exact absurd hok r1
    · obtain ⟨q1, F2, q2, q3, q4, q5, q6⟩ := r_fetch (N := a1.toInt.toNat) (by omega) (by omega) (by omega) hB.2.2.1 hB.1 hm h
      refine ⟨i_eqv (q1.trans r1.symm), F2, FL, q2, ?_⟩
      rw [r2]
      refine ⟨rE_f2 hB.1 (q3 123 (by first | decide | (simp; done) | (simp [ms_0]; done)) (by first | decide | (simp; done) | (simp [ms_0]; done))) (q3 124 (by first | decide | (simp; done) | (simp [ms_0]; done)) (by first | decide | (simp; done) | (simp [ms_0]; done))) (q3 125 (by first | decide | (simp; done) | (simp [ms_0]; done)) (by first | decide | (simp; done) | (simp [ms_0]; done))) (fun k h1 h2 => q4 k (by omega) (by omega) (by omega) (by omega)) (fun _ _ _ => rfl) rfl, fun k hk => ?_, rr_fr hB.2.2.1 (fun c hc => q3 c (by omega) (by omega)) rfl (q4 46 (by first | decide | (simp; done) | (simp [ms_0]; done)) (by first | decide | (simp; done) | (simp [ms_0]; done)) (by first | decide | (simp; done) | (simp [ms_0]; done)) (by first | decide | (simp; done) | (simp [ms_0]; done))) (q4 47 (by first | decide | (simp; done) | (simp [ms_0]; done)) (by first | decide | (simp; done) | (simp [ms_0]; done)) (by first | decide | (simp; done) | (simp [ms_0]; done)) (by first | decide | (simp; done) | (simp [ms_0]; done))), ⟨q5, by show (a1.toInt.toNat + 7) / 8 ≤ 64; omega, q6⟩⟩
      rw [q3 125 (by first | decide | (simp; done) | (simp [ms_0]; done)) (by first | decide | (simp; done) | (simp [ms_0]; done))]
      obtain ⟨y1, y2, y3⟩ := hB.2.1 k hk
      exact ⟨y1, y2, bk_fr y3 (q3 124 (by first | decide | (simp; done) | (simp [ms_0]; done)) (by first | decide | (simp; done) | (simp [ms_0]; done)))⟩
  · rcases hr with ⟨-, r1, r2⟩ | ⟨r1, -⟩
    · rcases h with ⟨h0, e1, e⟩ | ⟨h0, h⟩
      · exact ⟨by rw [e1, r1], _, _, e, by rw [r2]; exact rB_0 hB⟩
      · rcases h with ⟨h1, e1, e⟩ | ⟨h1, -⟩
        · exact ⟨by rw [e1, r1], _, _, e, by rw [r2]; exact rB_0 hB⟩
        · exfalso
          rw [z1] at h0
          rw [z2] at h1
          omega
    · exact absurd r1 hok
theorem ce_store {T : Nat} (hS : h_S n SH) (hF : h_FR FR) (hT : (FI 0 9).toInt = T) (hT2 : T ≤ 1000) (htp : ∀ x, x < T → 0 ≤ (FI 19 x).toInt ∧ (FI 19 x).toInt ≤ 255) (hB : cB SH FI FL FR A) (h : RX11_store a1 n sl SH FI FL FR v s) : ∃ F2 L2 R2 A2, s = (n, sl, SH, F2, L2, R2) ∧ sto_is A (FI 19) T a1 v A2 ∧ cB SH F2 L2 R2 A2 := by
  have z1 : ((1 : Int32)).toInt = 1 := by first | decide | (simp; done) | (simp [ms_0]; done)
  have z2 : ((512 : Int32)).toInt = 512 := by first | decide | (simp; done) | (simp [ms_0]; done)
  by_cases hok : 1 ≤ a1.toInt ∧ a1.toInt ≤ 512
  · rcases c_store (N := a1.toInt.toNat) (tp := FI 19) hS (tx_1 hF) (by omega) (by omega) (by omega) hT hT2 (fun _ _ => rfl) htp hB.1 hB.2.2.1 h with ⟨q0, q1, q2⟩ | ⟨q0, q1, F1, F2, L2, q2, q3, q4, q5, q6⟩
    · exact ⟨FI, FL, FR, A, q2, Or.inl ⟨fun h => by omega, q1, rfl⟩, hB⟩
    · have f0 : ∀ c, c ≠ 0 → c ≠ 20 → F2 c = F1 c := fun c h1 _ => by rw [q3, h_up_nc h1]
      have hL : cL F1 FR SH A.2.1 := fun k hk => by
        obtain ⟨r, r1, r2, r3, r4⟩ := hB.2.1 k hk
        exact ⟨r, r1, r2, r3, bk_fr r4 (q4 r (by have := r4.1.2; omega))⟩
      refine ⟨F2, L2, FR, _, q2, Or.inr ⟨⟨hok.1, hok.2, by omega⟩, q1, rfl⟩, cB_0 (A := A) q6 hL (crx_24 hB.2.2.1 q4 q5) f0 ?_⟩
      rw [q3, h_up_ne (by first | decide | (simp; done) | (simp [ms_0]; done)), h_up_nc (by first | decide | (simp; done) | (simp [ms_0]; done)), q4 0 (by first | decide | (simp; done) | (simp [ms_0]; done)), q4 20 (by first | decide | (simp; done) | (simp [ms_0]; done))]
      exact hB.2.2.2
  · rcases h with ⟨h0, e1, e⟩ | ⟨h0, h⟩
    · exact ⟨FI, FL, FR, A, e, Or.inl ⟨fun h => hok ⟨h.1, h.2.1⟩, e1, rfl⟩, hB⟩
    · rcases h with ⟨h1, e1, e⟩ | ⟨h1, -⟩
      · exact ⟨FI, FL, FR, A, e, Or.inl ⟨fun h => hok ⟨h.1, h.2.1⟩, e1, rfl⟩, hB⟩
      · exfalso
        rw [z1] at h0
        rw [z2] at h1
        omega
theorem re_store {T : Nat} {tp : Nat → Int32} (hm : rE_mem A.1) (hT : (FI 121 13).toInt = T) (hT2 : T ≤ 1000) (ht : ∀ x, x < T → FI 126 x = tp x) (htp : ∀ x, x < T → 0 ≤ (tp x).toInt ∧ (tp x).toInt ≤ 255) (hB : rB SH FI FL A) (hr : sto_is A tp T a1 v A2) (h : RX12_store a1 n sl SH FI FL FR v2 s) : v2 = v ∧ ∃ F2 L2, s = (n, sl, SH, F2, L2, FR) ∧ rB SH F2 L2 A2 := by
  have z1 : ((1 : Int32)).toInt = 1 := by first | decide | (simp; done) | (simp [ms_0]; done)
  have z2 : ((512 : Int32)).toInt = 512 := by first | decide | (simp; done) | (simp [ms_0]; done)
  have no : ¬ (1 ≤ a1.toInt ∧ a1.toInt ≤ 512 ∧ a1.toInt ≤ 8 * (T : Int)) → v2 = -1 → s = (n, sl, SH, h_up FI 121 0 ((0 : Int32)), FL, FR) → v2 = v ∧ ∃ F2 L2, s = (n, sl, SH, F2, L2, FR) ∧ rB SH F2 L2 A2 := by
    intro hn e1 e
    rcases hr with ⟨-, r1, r2⟩ | ⟨r1, -⟩
    · exact ⟨by rw [e1, r1], _, _, e, by rw [r2]; exact rB_0 hB⟩
    · exact absurd r1 hn
  by_cases hok : 1 ≤ a1.toInt ∧ a1.toInt ≤ 512
  · rcases r_store (N := a1.toInt.toNat) (by omega) (by omega) (by omega) hT hT2 hB.2.2.1 hB.1 hm ht htp h with ⟨q0, q1, q2⟩ | ⟨q0, q1, F2, L2, q2, q3, q4, q5, q6, q7, -⟩
    · exact no (fun h => by omega) q1 q2
    · rcases hr with ⟨r1, -⟩ | ⟨-, r1, r2⟩
      · exact absurd ⟨hok.1, hok.2, by omega⟩ r1
      · refine ⟨i_eqv (q1.trans r1.symm), F2, L2, q2, ?_⟩
        rw [r2]
        refine ⟨q7, fun k hk => ?_, rr_fr hB.2.2.1 (fun c hc => q3 c (by omega) (by omega)) (q4 144 (by first | decide | (simp; done) | (simp [ms_0]; done))) (q5 46 (by first | decide | (simp; done) | (simp [ms_0]; done)) (by first | decide | (simp; done) | (simp [ms_0]; done)) (by first | decide | (simp; done) | (simp [ms_0]; done)) (by first | decide | (simp; done) | (simp [ms_0]; done))) (q5 47 (by first | decide | (simp; done) | (simp [ms_0]; done)) (by first | decide | (simp; done) | (simp [ms_0]; done)) (by first | decide | (simp; done) | (simp [ms_0]; done)) (by first | decide | (simp; done) | (simp [ms_0]; done))), ?_⟩
        · rw [q3 125 (by first | decide | (simp; done) | (simp [ms_0]; done)) (by first | decide | (simp; done) | (simp [ms_0]; done))]
          obtain ⟨y1, y2, y3⟩ := hB.2.1 k hk
          exact ⟨y1, y2, bk_fr y3 (q3 124 (by first | decide | (simp; done) | (simp [ms_0]; done)) (by first | decide | (simp; done) | (simp [ms_0]; done)))⟩
        · rw [q5 61 (by first | decide | (simp; done) | (simp [ms_0]; done)) (by first | decide | (simp; done) | (simp [ms_0]; done)) (by first | decide | (simp; done) | (simp [ms_0]; done)) (by first | decide | (simp; done) | (simp [ms_0]; done)), q3 148 (by first | decide | (simp; done) | (simp [ms_0]; done)) (by first | decide | (simp; done) | (simp [ms_0]; done))]
          exact hB.2.2.2
  · rcases h with ⟨h0, e1, e⟩ | ⟨h0, h⟩
    · exact no (fun h => hok ⟨h.1, h.2.1⟩) e1 e
    · rcases h with ⟨h1, e1, e⟩ | ⟨h1, -⟩
      · exact no (fun h => hok ⟨h.1, h.2.1⟩) e1 e
      · exfalso
        rw [z1] at h0
        rw [z2] at h1
        omega
/-- the tape's bytes as a row -/
theorem tp_row {r B T : Nat} {tp : Nat → Int32} (hr : rw0 SH r) (h1 : B + T ≤ (SH r).2) (h2 : (SH r).2 ≤ 2000000000) (h3 : ∀ i, i < T → FI r (B + i) = tp i) (htp : ∀ x, x < T → 0 ≤ (tp x).toInt ∧ (tp x).toInt ≤ 255) : bk FI SH r B ((List.range T).map tp) := by
  refine ⟨hr, by rw [List.length_map, List.length_range]; exact h1, h2, fun i b hi => ?_⟩
  rw [List.getElem?_map] at hi
  by_cases hl : i < T
  · rw [List.getElem?_range hl] at hi
    have hi : tp i = b := Option.some.inj hi
    rw [← hi]
    exact ⟨h3 i hl, htp i hl⟩
  · rw [List.getElem?_eq_none (by rw [List.length_range]; omega)] at hi
    cases hi
/-- the tape into a row of the class -/
theorem ce_tape {t T : Nat} {z : Nat} (hS : h_S n SH) (hR : g_R n SH FR) (ht : t = 26 ∨ t = 43) (hz : (Int32.ofNat (SH t).2).toInt = z) (hz2 : z ≤ 16) (hT : (FI 0 9).toInt = T) (hT2 : T ≤ 1000) (htp : ∀ x, x < T → 0 ≤ (FI 19 x).toInt ∧ (FI 19 x).toInt ≤ 255) (hB : cB SH FI FL FR A) (h : RX11_tapeInto (some t) a1 n sl SH FI FL FR v s) : (¬ (0 ≤ a1.toInt ∧ a1.toInt < (z : Int) ∧ T ≤ 600) ∧ s = (n, sl, SH, FI, FL, FR)) ∨ ((0 ≤ a1.toInt ∧ a1.toInt < (z : Int) ∧ T ≤ 600) ∧ ∃ n2 sl2 S2 F2 L2 R2, s = (n2, sl2, S2, F2, L2, R2) ∧ (∀ r, r < n → r ≠ 0 → F2 r = FI r ∧ S2 r = SH r) ∧ F2 0 10 = FI 0 10 ∧ (∀ r, r < n → L2 r = FL r) ∧ (∀ r, r < n → r ≠ t → R2 r = FR r) ∧ (∀ k, k ≠ a1.toInt.toNat → R2 t k = FR t k) ∧ ∃ q, R2 t a1.toInt.toNat = some q ∧ (S2 q).2 = ((List.range T).map (FI 19)).length ∧ ((List.range T).map (FI 19)).length ≤ 600 ∧ bk F2 S2 q 0 ((List.range T).map (FI 19))) := by
  have h176 := hS.1
  have z6 : ((600 : Int32)).toInt = 600 := by first | decide | (simp; done) | (simp [ms_0]; done)
  rcases h with ⟨h0, -, e⟩ | ⟨h0, c2, e2, h⟩
  · exact Or.inl ⟨fun h => by omega, e⟩
  cases e2
  rw [hz] at h
  rcases h with ⟨h1, h⟩ | ⟨h1, -, e⟩
  · rw [z6, hT] at h
    rcases h with ⟨h2, -, e⟩ | ⟨h2, v4, n4, sl4, SH4, FI4, FL4, FR4, hc, c6, e6, -, -, e⟩
    · exact Or.inl ⟨fun h => by omega, e⟩
    · cases e6
      have s19' : (SH 19).2 = 1000 := by rw [s19 hS]
      obtain ⟨sl2, S2, F2, L2, R2, ev, es, y1, y2, y3, y4, y5, y6⟩ := y_copy hc hT (by omega) (by omega) (c19 hS)
      cases es
      refine Or.inr ⟨⟨by omega, h1, by omega⟩, _, _, _, _, _, _, e, fun r h3 h4 => ⟨by rw [h_up_nc h4]; exact y4 r (by omega), y3 r (by omega)⟩, by rw [h_up_ne (by first | decide | (simp; done) | (simp [ms_0]; done)), y4 0 (by omega)], fun r h3 => y5 r (by omega), fun r h3 h4 => by rw [h_up_nc h4]; exact y6 r (by omega), fun k hk => by rw [h_up_ne hk]; exact congrFun (y6 t (by omega)) k, n, by rw [h_up_eq]; exact ev, by rw [y1, List.length_map, List.length_range], by rw [List.length_map, List.length_range]; omega, tp_row ⟨Nat.zero_le _, Or.inr (Or.inr h176)⟩ (by omega) (by omega) (fun i hi => ?_) htp⟩
      rw [h_up_nc (by omega), Nat.zero_add]
      exact y2 i hi
  · exact Or.inl ⟨fun h => h1 h.2.1, e⟩
/-- the parts of the view that a new row leaves alone -/
theorem cb_new {t n2 : Nat} {S2 : Nat → Nat × Nat} (hS : h_S n SH) (hR : g_R n SH FR) (ht : t = 26 ∨ t = 43) (hB : cB SH FI FL FR A) (e1 : ∀ r, r < n → r ≠ 0 → F2 r = FI r ∧ S2 r = SH r) (e2 : F2 0 10 = FI 0 10) (e3 : ∀ r, r < n → L2 r = FL r) (e4 : ∀ r, r < n → r ≠ t → R2 r = FR r) : ((∀ i, i < 32 → L2 24 i = ms_rg A.1 i) ∧ (∀ i, i < 4096 → F2 25 i = ms_mm A.1 i ∧ 0 ≤ (ms_mm A.1 i).toInt ∧ (ms_mm A.1 i).toInt ≤ 255) ∧ ((F2 23 4).toInt = ms_fr A.1 ∧ -1 ≤ ms_fr A.1 ∧ ms_fr A.1 ≤ 15) ∧ ((F2 23 5).toInt = ms_cr A.1 ∧ -1 ≤ ms_cr A.1 ∧ ms_cr A.1 ≤ 31) ∧ L2 23 6 = ms_co A.1 ∧ (((F2 23 7).toInt = 0 ∧ ms_ob A.1 = none) ∨ ((F2 23 7).toInt ≠ 0 ∧ ms_ob A.1 = some (L2 23 8))) ∧ (((F2 23 9).toInt = 0 ∧ ms_tl A.1 = none) ∨ ((F2 23 9).toInt ≠ 0 ∧ ms_tl A.1 = some (L2 23 10)))) ∧ (∀ k, k < 16 → ∃ r, FR 26 k = some r ∧ (S2 r).2 = (ms_ex A.1 k).length ∧ (ms_ex A.1 k).length ≤ 600 ∧ bk F2 S2 r 0 (ms_ex A.1 k)) ∧ (∀ k, k < 4 → ∃ r, FR 43 k = some r ∧ (S2 r).2 = (A.2.1 k).length ∧ (A.2.1 k).length ≤ 600 ∧ bk F2 S2 r 0 (A.2.1 k)) ∧ crx F2 L2 R2 S2 1 3 A.2.2.1 ∧ oV (F2 0 10) (F2 20) A.2.2.2 := by
  have h176 := hS.1
  have rows : ∀ r, ((∃ k, FR 26 k = some r) ∨ (∃ k, FR 43 k = some r) ∨ (∃ q, 3 ≤ q ∧ q < 19 ∧ FR q 4 = some r)) → r ≠ 0 → F2 r = FI r ∧ S2 r = SH r := fun r hr h0 => e1 r (cb_rows hS hR r hr).1 h0
  have bk2 : ∀ {r B : Nat} {L : List Int32}, ((∃ k, FR 26 k = some r) ∨ (∃ k, FR 43 k = some r) ∨ (∃ q, 3 ≤ q ∧ q < 19 ∧ FR q 4 = some r)) → bk FI SH r B L → bk F2 S2 r B L := fun hr hb => by
    have g := rows _ hr (by have := hb.1.2; omega)
    exact bk_ag g.1 g.2 hb
  have sz : ∀ {r B : Nat} {L : List Int32}, ((∃ k, FR 26 k = some r) ∨ (∃ k, FR 43 k = some r) ∨ (∃ q, 3 ≤ q ∧ q < 19 ∧ FR q 4 = some r)) → bk FI SH r B L → (S2 r).2 = (SH r).2 := fun hr hb => by rw [(rows _ hr (by have := hb.1.2; omega)).2]
  obtain ⟨⟨x1, x2, x3, x4, x5, x6, x7, x8⟩, hl, ⟨q1, q2, q3, q4, q5⟩, o⟩ := hB
  have f23 := (e1 23 (by omega) (by first | decide | (simp; done) | (simp [ms_0]; done))).1
  have l23 := e3 23 (by omega)
  refine ⟨⟨by rw [e3 24 (by omega)]; exact x1, by rw [(e1 25 (by omega) (by first | decide | (simp; done) | (simp [ms_0]; done))).1]; exact x2, by rw [f23]; exact x4, by rw [f23]; exact x5, by rw [l23]; exact x6, by rw [f23, l23]; exact x7, by rw [f23, l23]; exact x8⟩, fun k hk => ?_, fun k hk => ?_, ⟨by rw [(e1 1 (by omega) (by first | decide | (simp; done) | (simp [ms_0]; done))).1]; exact q1, by rw [(e1 1 (by omega) (by first | decide | (simp; done) | (simp [ms_0]; done))).1]; exact q2, q3, q4, ?_⟩, by rw [e2, (e1 20 (by omega) (by first | decide | (simp; done) | (simp [ms_0]; done))).1]; exact o⟩
  · obtain ⟨r, r1, r2, r3, r4⟩ := x3 k hk
    exact ⟨r, r1, by rw [sz (Or.inl ⟨k, r1⟩) r4]; exact r2, r3, bk2 (Or.inl ⟨k, r1⟩) r4⟩
  · obtain ⟨r, r1, r2, r3, r4⟩ := hl k hk
    exact ⟨r, r1, by rw [sz (Or.inr (Or.inl ⟨k, r1⟩)) r4]; exact r2, r3, bk2 (Or.inr (Or.inl ⟨k, r1⟩)) r4⟩
  · refine lv_mono (fun i p hi _ hp => ?_) q5
    have g1 := (e1 (3 + i) (by omega) (by omega)).1
    have g2 := e3 (3 + i) (by omega)
    have g3 := e4 (3 + i) (by omega) (by omega)
    obtain ⟨⟨p1, p2, p3, p4⟩, p5⟩ := hp
    refine ⟨⟨by rw [g1]; exact p1, by rw [g2]; exact p2, p3, fun h4 => ?_⟩, by rw [g1]; exact p5⟩
    obtain ⟨r, B, y1, y2, y3⟩ := p4 h4
    exact ⟨r, B, by rw [g3]; exact y1, by rw [g1]; exact y2, bk2 (Or.inr (Or.inr ⟨3 + i, by omega, by omega, y1⟩)) y3⟩
theorem ce_exp {T : Nat} (hS : h_S n SH) (hR : g_R n SH FR) (hT : (FI 0 9).toInt = T) (hT2 : T ≤ 1000) (htp : ∀ x, x < T → 0 ≤ (FI 19 x).toInt ∧ (FI 19 x).toInt ≤ 255) (hB : cB SH FI FL FR A) (h : RX11_expression a1 n sl SH FI FL FR v s) : ∃ n2 sl2 S2 F2 L2 R2, s = (n2, sl2, S2, F2, L2, R2) ∧ cB S2 F2 L2 R2 (ab_ex a1 T (FI 19) A) := by
  have h176 := hS.1
  obtain ⟨v0, n0, sl0, SH0, FI0, FL0, FR0, h, -, e9⟩ := h
  unfold ab_ex
  rcases ce_tape (t := 26) (z := 16) hS hR (Or.inl rfl) (n_26 hS) (by omega) hT hT2 htp hB h with ⟨hn, e⟩ | ⟨hk, n2, sl2, S2, F2, L2, R2, e, e1, e2, e3, e4, e5, q, y1, y2, y3, y4⟩
  · cases e
    exact ⟨_, _, _, _, _, _, e9, by rw [if_neg (fun h => hn ⟨h.1, by omega, h.2.2⟩)]; exact hB⟩
  · cases e
    obtain ⟨⟨x1, x2, x4, x5, x6, x7, x8⟩, r6, r3, xq, xo⟩ := cb_new (n2 := 0) hS hR (Or.inl rfl) hB e1 e2 e3 e4
    refine ⟨_, _, _, _, _, _, e9, ?_⟩
    rw [if_pos ⟨hk.1, by omega, hk.2.2⟩]
    refine ⟨⟨x1, x2, fun k hk2 => ?_, x4, x5, x6, x7, x8⟩, fun k hk2 => ?_, xq, xo⟩
    · by_cases ek : k = a1.toInt.toNat
      · have em : ms_ex (ms_ue A.1 a1.toInt.toNat ((List.range T).map (FI 19))) k = (List.range T).map (FI 19) := by
          show va_up A.1.2.2.1 a1.toInt.toNat ((List.range T).map (FI 19)) k = _
          rw [ek, va_up_at]
        rw [em]
        exact ⟨q, by rw [ek]; exact y1, y2, y3, y4⟩
      · have em : ms_ex (ms_ue A.1 a1.toInt.toNat ((List.range T).map (FI 19))) k = ms_ex A.1 k := by
          show va_up A.1.2.2.1 a1.toInt.toNat ((List.range T).map (FI 19)) k = _
          rw [va_up_no ek]
          rfl
        rw [em, e5 k ek]
        exact r6 k hk2
    · rw [e4 43 (by omega) (by first | decide | (simp; done) | (simp [ms_0]; done))]
      exact r3 k hk2
theorem ce_lis {T : Nat} (hS : h_S n SH) (hR : g_R n SH FR) (hT : (FI 0 9).toInt = T) (hT2 : T ≤ 1000) (htp : ∀ x, x < T → 0 ≤ (FI 19 x).toInt ∧ (FI 19 x).toInt ≤ 255) (hB : cB SH FI FL FR A) (h : RX11_list a1 n sl SH FI FL FR v s) : ∃ n2 sl2 S2 F2 L2 R2, s = (n2, sl2, S2, F2, L2, R2) ∧ cB S2 F2 L2 R2 (ab_li a1 T (FI 19) A) := by
  have h176 := hS.1
  obtain ⟨v0, n0, sl0, SH0, FI0, FL0, FR0, h, -, e9⟩ := h
  unfold ab_li
  rcases ce_tape (t := 43) (z := 4) hS hR (Or.inr rfl) (n_43 hS) (by omega) hT hT2 htp hB h with ⟨hn, e⟩ | ⟨hk, n2, sl2, S2, F2, L2, R2, e, e1, e2, e3, e4, e5, q, y1, y2, y3, y4⟩
  · cases e
    exact ⟨_, _, _, _, _, _, e9, by rw [if_neg (fun h => hn ⟨h.1, by omega, h.2.2⟩)]; exact hB⟩
  · (obtain ⟨zz1, zz2, zz3, zz4, zz5, zz6⟩ := st_c e; (try subst zz1); (try subst zz2); (try subst zz3); (try subst zz4); (try subst zz5); (try subst zz6))
    obtain ⟨⟨x1, x2, x4, x5, x6, x7, x8⟩, r6, r3, xq, xo⟩ := cb_new (n2 := 0) hS hR (Or.inr rfl) hB e1 e2 e3 e4
    refine ⟨_, _, _, _, _, _, e9, ?_⟩
    rw [if_pos ⟨hk.1, by omega, hk.2.2⟩]
    refine ⟨⟨x1, x2, fun k hk2 => ?_, x4, x5, x6, x7, x8⟩, fun k hk2 => ?_, xq, xo⟩
    · rw [e4 26 (by omega) (by first | decide | (simp; done) | (simp [ms_0]; done))]
      exact r6 k hk2
    · show ∃ r, R2 43 k = some r ∧ (S2 r).2 = (va_up A.2.1 a1.toInt.toNat ((List.range T).map (FI 19)) k).length ∧ (va_up A.2.1 a1.toInt.toNat ((List.range T).map (FI 19)) k).length ≤ 600 ∧ bk F2 S2 r 0 (va_up A.2.1 a1.toInt.toNat ((List.range T).map (FI 19)) k)
      by_cases ek : k = a1.toInt.toNat
      · rw [ek, va_up_at]
        exact ⟨q, y1, y2, y3, y4⟩
      · rw [va_up_no ek, e5 k ek]
        exact r3 k hk2
/-- the reference keeps the tape -/
theorem re_14 {T B k0 : Nat} (hT : (FI 121 13).toInt = T) (h1 : a1.toInt = k0) (h2 : a2.toInt = B) (hT6 : T ≤ 600) (hB : B + T ≤ 19200) : ∀ (g i : Nat) (l : Int32) (FI : Nat → Nat → Int32), (FI 121 13).toInt = T → l.toInt = i → i ≤ T → GX12_keep_14 a1 a2 g l n sl SH FI FL FR v s → ∃ F2, s = (n, sl, SH, F2, FL, FR) ∧ (∀ c, c ≠ 121 → c ≠ 124 → c ≠ 125 → F2 c = FI c) ∧ (∀ k, k ≠ 13 → F2 121 k = FI 121 k) ∧ (∀ j, (j < B + i ∨ B + T ≤ j) → F2 124 j = FI 124 j) ∧ (∀ j, i ≤ j → j < T → F2 124 (B + j) = FI 126 j) ∧ (∀ j, j ≠ k0 → F2 125 j = FI 125 j) ∧ (F2 125 k0).toInt = T := by
  intro g
  induction g with
  | zero => intro i l FI _ _ _ h; exact h.elim
  | succ g ih =>
    intro i l FI hT hl hi h
    have h : BX12_keep_14 (GX12_keep_14 a1 a2 g) a1 a2 l n sl SH FI FL FR v s := h
    unfold BX12_keep_14 at h
    rw [hl, hT] at h
    rcases h with ⟨h0, -, -, h⟩ | ⟨h0, -, -, -, e⟩
    · have e1 : (a2 + l).toInt.toNat = B + i := by
        rw [i_add h2 hl (by omega) (by omega)]
        omega
      have e2 : ((i : Int)).toNat = i := by omega
      rw [e1, e2] at h
      obtain ⟨F2, y0, y1, y2, y3, y4, y5, y6⟩ := ih (i + 1) _ _ (by rw [h_up_nc (by first | decide | (simp; done) | (simp [ms_0]; done))]; exact hT) (by rw [i_add hl (by first | decide | (simp; done) | (simp [ms_0]; done) : ((1 : Int32)).toInt = 1) (by omega) (by omega)]; omega) (by omega) h
      refine ⟨F2, y0, fun c c1 c2 c3 => by rw [y1 c c1 c2 c3, h_up_nc c2], fun k hk => by rw [y2 k hk, h_up_nc (by first | decide | (simp; done) | (simp [ms_0]; done))], fun j hj => by rw [y3 j (by omega), h_up_ne (by omega)], fun j j1 j2 => ?_, fun j hj => by rw [y5 j hj, h_up_nc (by first | decide | (simp; done) | (simp [ms_0]; done))], y6⟩
      by_cases ej : j = i
      · rw [ej, y3 (B + i) (Or.inl (by omega)), h_up_eq]
      · rw [y4 j (by omega) j2, h_up_nc (by first | decide | (simp; done) | (simp [ms_0]; done))]
    · have ei : i = T := by omega
      have e3 : a1.toInt.toNat = k0 := by omega
      rw [e3] at e
      refine ⟨_, e, fun c c1 c2 c3 => by rw [h_up_nc c1, h_up_nc c3], fun k hk => by rw [h_up_ne hk, h_up_nc (by first | decide | (simp; done) | (simp [ms_0]; done))], fun j hj => by rw [h_up_nc (c2 := 124) (by first | decide | (simp; done) | (simp [ms_0]; done)), h_up_nc (c2 := 124) (by first | decide | (simp; done) | (simp [ms_0]; done))], fun j j1 j2 => by omega, fun j hj => by rw [h_up_nc (c2 := 125) (by first | decide | (simp; done) | (simp [ms_0]; done)), h_up_ne hj], ?_⟩
      rw [h_up_nc (c2 := 125) (by first | decide | (simp; done) | (simp [ms_0]; done)), h_up_eq]
      exact hT
theorem re_keep {T k0 : Nat} (hT : (FI 121 13).toInt = T) (h1 : a1.toInt = k0) (hk0 : k0 ≤ 31) (h2 : a2.toInt = ((600 * k0 : Nat) : Int)) (h : RX12_keep a1 a2 n sl SH FI FL FR v s) : (600 < T ∧ s = (n, sl, SH, FI, FL, FR)) ∨ (T ≤ 600 ∧ ∃ F2, s = (n, sl, SH, F2, FL, FR) ∧ (∀ c, c ≠ 121 → c ≠ 124 → c ≠ 125 → F2 c = FI c) ∧ (∀ k, k ≠ 13 → F2 121 k = FI 121 k) ∧ (∀ j, (j < 600 * k0 ∨ 600 * k0 + T ≤ j) → F2 124 j = FI 124 j) ∧ (∀ j, j < T → F2 124 (600 * k0 + j) = FI 126 j) ∧ (∀ j, j ≠ k0 → F2 125 j = FI 125 j) ∧ (F2 125 k0).toInt = T) := by
  have z6 : ((600 : Int32)).toInt = 600 := by first | decide | (simp; done) | (simp [ms_0]; done)
  have h : P_if (((600 : Int32)).toInt < (FI 121 13).toInt) (P_ret ((-1 : Int32)) (n, sl, SH, FI, FL, FR)) (RX12_keep_14 a1 a2 ((0 : Int32)) n sl SH FI FL FR) v s := h
  rw [z6, hT] at h
  rcases h with ⟨h0, -, e⟩ | ⟨h0, g, h⟩
  · exact Or.inl ⟨by omega, e⟩
  · obtain ⟨F2, y0, y1, y2, y3, y4, y5, y6⟩ := re_14 (T := T) (B := 600 * k0) (k0 := k0) hT h1 h2 (by omega) (by omega) g 0 _ FI hT (by first | decide | (simp; done) | (simp [ms_0]; done)) (Nat.zero_le _) h
    exact Or.inr ⟨by omega, F2, y0, y1, y2, fun j hj => y3 j (by omega), fun j hj => y4 j (Nat.zero_le _) hj, y5, y6⟩
theorem re_exp {T : Nat} {tp : Nat → Int32} (hS : h_S n SH) (hT : (FI 121 13).toInt = T) (ht : ∀ x, x < T → FI 126 x = tp x) (htp : ∀ x, x < T → 0 ≤ (tp x).toInt ∧ (tp x).toInt ≤ 255) (hB0 : rB SH FI FL A) (h : RX12_expression a1 n sl SH FI FL FR v s) : ∃ F2 L2, s = (n, sl, SH, F2, L2, FR) ∧ rB SH F2 L2 (ab_ex a1 T tp A) := by
  have hB := rB_0 (x := (0 : Int32)) hB0
  have z : ((15 : Int32)).toInt = 15 := by first | decide | (simp; done) | (simp [ms_0]; done)
  have s124' : (SH 124).2 = 19200 := by rw [s124 hS]
  unfold ab_ex
  rcases h with ⟨h0, -, e⟩ | ⟨h0, h⟩
  · exact ⟨_, _, e, by rw [if_neg (by omega)]; exact hB⟩
  rw [z] at h
  rcases h with ⟨h1, -, e⟩ | ⟨h1, v3, n3, sl3, SH3, FI3, FL3, FR3, h, -, e9⟩
  · exact ⟨_, _, e, by rw [if_neg (by omega)]; exact hB⟩
  rcases re_keep (T := T) (k0 := a1.toInt.toNat) (by rw [h_up_ne (by first | decide | (simp; done) | (simp [ms_0]; done))]; exact hT) (by omega) (by omega) (by rw [i_mul (by first | decide | (simp; done) | (simp [ms_0]; done) : ((600 : Int32)).toInt = 600) rfl (by omega) (by omega)]; omega) h with ⟨hn, e⟩ | ⟨hk, F2, e, y1, y2, y3, y4, y5, y6⟩
  · cases e
    exact ⟨_, _, e9, by rw [if_neg (by omega)]; exact hB⟩
  · cases e
    refine ⟨_, _, e9, ?_⟩
    rw [if_pos ⟨by omega, by omega, hk⟩]
    have other : ∀ {j : Nat} {L : List Int32}, j ≠ a1.toInt.toNat → L.length ≤ 600 → bk (h_up FI 121 0 ((0 : Int32))) SH 124 (600 * j) L → bk FI3 SH 124 (600 * j) L := by
      intro j L hj hl hb
      refine ⟨hb.1, hb.2.1, hb.2.2.1, fun i b hi => ?_⟩
      have hil := (List.getElem?_eq_some_iff.mp hi).1
      rw [y3 (600 * j + i) (by omega)]
      exact hb.2.2.2 i b hi
    obtain ⟨e1, e2, e3, e4, e5, e6, e7, e8⟩ := hB.1
    refine ⟨⟨e1, by rw [y1 123 (by first | decide | (simp; done) | (simp [ms_0]; done)) (by first | decide | (simp; done) | (simp [ms_0]; done)) (by first | decide | (simp; done) | (simp [ms_0]; done))]; exact e2, fun k hk2 => ?_, by rw [y2 5 (by first | decide | (simp; done) | (simp [ms_0]; done))]; exact e4, by rw [y2 6 (by first | decide | (simp; done) | (simp [ms_0]; done))]; exact e5, e6, by rw [y2 10 (by first | decide | (simp; done) | (simp [ms_0]; done))]; exact e7, by rw [y2 11 (by first | decide | (simp; done) | (simp [ms_0]; done))]; exact e8⟩, fun k hk2 => ?_, rr_fr hB.2.2.1 (fun c hc => y1 c (by omega) (by omega) (by omega)) rfl (y2 46 (by first | decide | (simp; done) | (simp [ms_0]; done))) (y2 47 (by first | decide | (simp; done) | (simp [ms_0]; done))), ?_⟩
    · by_cases ek : k = a1.toInt.toNat
      · have em : ms_ex (ms_ue A.1 a1.toInt.toNat ((List.range T).map tp)) k = (List.range T).map tp := by
          show va_up A.1.2.2.1 a1.toInt.toNat ((List.range T).map tp) k = _
          rw [ek, va_up_at]
        rw [em, ek]
        refine ⟨by rw [y6, List.length_map, List.length_range], by rw [List.length_map, List.length_range]; exact hk, tp_row ⟨Nat.zero_le _, Or.inl rfl⟩ (by omega) (by omega) (fun i hi => ?_) htp⟩
        rw [y4 i hi, h_up_nc (by first | decide | (simp; done) | (simp [ms_0]; done))]
        exact ht i hi
      · have em : ms_ex (ms_ue A.1 a1.toInt.toNat ((List.range T).map tp)) k = ms_ex A.1 k := by
          show va_up A.1.2.2.1 a1.toInt.toNat ((List.range T).map tp) k = _
          rw [va_up_no ek]
          rfl
        obtain ⟨w1, w2, w3⟩ := e3 k hk2
        rw [em, y5 k ek]
        exact ⟨w1, w2, other ek w2 w3⟩
    · obtain ⟨w1, w2, w3⟩ := hB.2.1 k hk2
      rw [y5 (16 + k) (by omega)]
      exact ⟨w1, w2, other (by omega) w2 w3⟩
    · rw [y2 61 (by first | decide | (simp; done) | (simp [ms_0]; done)), y1 148 (by first | decide | (simp; done) | (simp [ms_0]; done)) (by first | decide | (simp; done) | (simp [ms_0]; done)) (by first | decide | (simp; done) | (simp [ms_0]; done))]
      exact hB.2.2.2
theorem re_lis {T : Nat} {tp : Nat → Int32} (hS : h_S n SH) (hT : (FI 121 13).toInt = T) (ht : ∀ x, x < T → FI 126 x = tp x) (htp : ∀ x, x < T → 0 ≤ (tp x).toInt ∧ (tp x).toInt ≤ 255) (hB0 : rB SH FI FL A) (h : RX12_list a1 n sl SH FI FL FR v s) : ∃ F2 L2, s = (n, sl, SH, F2, L2, FR) ∧ rB SH F2 L2 (ab_li a1 T tp A) := by
  have hB := rB_0 (x := (0 : Int32)) hB0
  have z : ((3 : Int32)).toInt = 3 := by first | decide | (simp; done) | (simp [ms_0]; done)
  have s124' : (SH 124).2 = 19200 := by rw [s124 hS]
  unfold ab_li
  rcases h with ⟨h0, -, e⟩ | ⟨h0, h⟩
  · exact ⟨_, _, e, by rw [if_neg (by omega)]; exact hB⟩
  rw [z] at h
  rcases h with ⟨h1, -, e⟩ | ⟨h1, v3, n3, sl3, SH3, FI3, FL3, FR3, h, -, e9⟩
  · exact ⟨_, _, e, by rw [if_neg (by omega)]; exact hB⟩
  have m : (((600 : Int32)) * a1).toInt = 600 * a1.toInt := i_mul (by first | decide | (simp; done) | (simp [ms_0]; done) : ((600 : Int32)).toInt = 600) rfl (by omega) (by omega)
  rcases re_keep (T := T) (k0 := 16 + a1.toInt.toNat) (by rw [h_up_ne (by first | decide | (simp; done) | (simp [ms_0]; done))]; exact hT) (by rw [i_add (by first | decide | (simp; done) | (simp [ms_0]; done) : ((16 : Int32)).toInt = 16) rfl (by omega) (by omega)]; omega) (by omega) (by rw [i_add (by first | decide | (simp; done) | (simp [ms_0]; done) : ((9600 : Int32)).toInt = 9600) m (by omega) (by omega)]; omega) h with ⟨hn, e⟩ | ⟨hk, F2, e, y1, y2, y3, y4, y5, y6⟩
  · cases e
    exact ⟨_, _, e9, by rw [if_neg (by omega)]; exact hB⟩
  · cases e
    refine ⟨_, _, e9, ?_⟩
    rw [if_pos ⟨by omega, by omega, hk⟩]
    have other : ∀ {j : Nat} {L : List Int32}, j ≠ 16 + a1.toInt.toNat → L.length ≤ 600 → bk (h_up FI 121 0 ((0 : Int32))) SH 124 (600 * j) L → bk FI3 SH 124 (600 * j) L := by
      intro j L hj hl hb
      refine ⟨hb.1, hb.2.1, hb.2.2.1, fun i b hi => ?_⟩
      have hil := (List.getElem?_eq_some_iff.mp hi).1
      rw [y3 (600 * j + i) (by omega)]
      exact hb.2.2.2 i b hi
    obtain ⟨e1, e2, e3, e4, e5, e6, e7, e8⟩ := hB.1
    refine ⟨⟨e1, by rw [y1 123 (by first | decide | (simp; done) | (simp [ms_0]; done)) (by first | decide | (simp; done) | (simp [ms_0]; done)) (by first | decide | (simp; done) | (simp [ms_0]; done))]; exact e2, fun k hk2 => ?_, by rw [y2 5 (by first | decide | (simp; done) | (simp [ms_0]; done))]; exact e4, by rw [y2 6 (by first | decide | (simp; done) | (simp [ms_0]; done))]; exact e5, e6, by rw [y2 10 (by first | decide | (simp; done) | (simp [ms_0]; done))]; exact e7, by rw [y2 11 (by first | decide | (simp; done) | (simp [ms_0]; done))]; exact e8⟩, fun k hk2 => ?_, rr_fr hB.2.2.1 (fun c hc => y1 c (by omega) (by omega) (by omega)) rfl (y2 46 (by first | decide | (simp; done) | (simp [ms_0]; done))) (y2 47 (by first | decide | (simp; done) | (simp [ms_0]; done))), ?_⟩
    · obtain ⟨w1, w2, w3⟩ := e3 k hk2
      rw [y5 k (by omega)]
      exact ⟨w1, w2, other (by omega) w2 w3⟩
    · show (FI3 125 (16 + k)).toInt = ((va_up A.2.1 a1.toInt.toNat ((List.range T).map tp) k).length : Int) ∧ (va_up A.2.1 a1.toInt.toNat ((List.range T).map tp) k).length ≤ 600 ∧ bk FI3 SH 124 (600 * (16 + k)) (va_up A.2.1 a1.toInt.toNat ((List.range T).map tp) k)
      by_cases ek : k = a1.toInt.toNat
      · rw [ek, va_up_at]
        refine ⟨by rw [y6, List.length_map, List.length_range], by rw [List.length_map, List.length_range]; exact hk, tp_row ⟨Nat.zero_le _, Or.inl rfl⟩ (by omega) (by omega) (fun i hi => ?_) htp⟩
        rw [y4 i hi, h_up_nc (by first | decide | (simp; done) | (simp [ms_0]; done))]
        exact ht i hi
      · obtain ⟨w1, w2, w3⟩ := hB.2.1 k hk2
        rw [va_up_no ek, y5 (16 + k) (by omega)]
        exact ⟨w1, w2, other (by omega) w2 w3⟩
    · rw [y2 61 (by first | decide | (simp; done) | (simp [ms_0]; done)), y1 148 (by first | decide | (simp; done) | (simp [ms_0]; done)) (by first | decide | (simp; done) | (simp [ms_0]; done)) (by first | decide | (simp; done) | (simp [ms_0]; done))]
      exact hB.2.2.2
/-- the class's means: what it answers where the reference says what is meant -/
theorem ce_means {fb : xX} (hS : h_S n SH) (hF : h_FR FR) (hf : xfq A.1 fb) (hv : v_any FI FR SH n V) (hm : V = [] ∨ v_cm FI FL FR SH n V) (hB : cB SH FI FL FR A) (h : RX11_means a1 b2 n sl SH FI FL FR v s) : (¬ (0 ≤ a1.toInt ∧ a1.toInt < (V.length : Int)) ∧ v = -1 ∧ s = (n, sl, SH, FI, FL, FR)) ∨ ((0 ≤ a1.toInt ∧ a1.toInt < (V.length : Int)) ∧ ∀ x, V[a1.toInt.toNat]? = some x → ∀ a, mvar A.1 fb b2 x.2.2.1 x.2.2.2.1 a → ∃ F2 L2 R2 A2, s = (n, sl, SH, F2, L2, R2) ∧ go_is A v a A2 ∧ cB SH F2 L2 R2 A2) := by
  have h9 := h
  obtain ⟨v0, n0, sl0, SH0, FI0, FL0, FR0, hi, h⟩ := h
  have z0 : ((0 : Int32)).toInt = 0 := by first | decide | (simp; done) | (simp [ms_0]; done)
  have z1 : ((1 : Int32)).toInt = 1 := by first | decide | (simp; done) | (simp [ms_0]; done)
  by_cases hr : 0 ≤ a1.toInt ∧ a1.toInt < (V.length : Int)
  · refine Or.inr ⟨hr, fun x hx a ha => ?_⟩
    rcases hv with ⟨vc, y1, y2, y3, y4, y5, y6⟩ | ⟨w1, w2⟩
    · rcases hm with hm | ⟨vc2, m1, m2, m3, m4, m5⟩
      · rw [hm] at hx; simp at hx
      · rw [y1] at m1
        cases m1
        obtain ⟨q, q1, q2⟩ := m5 _ x hx
        obtain ⟨q', q3, q4, d1, -, cc, d6, d7, d8, d9, d10, d11⟩ := y6 _ x hx
        obtain ⟨F2, L2, R2, e, k, z⟩ := c_means (N := V.length) (i := a1.toInt.toNat) hS hf.1 (by omega) y4 (by omega) y1 (by omega) (by omega) q1 q2 ha (by omega) hB.1 (th_F hF) (tx_91 hF) (tx_1 hF) hB.2.2.1 h9
        obtain ⟨A2, w1, w2⟩ := cz_go hB k z
        exact ⟨F2, L2, R2, A2, e, w1, w2⟩
    · rw [w1] at hx; simp at hx
  · refine Or.inl ⟨hr, ?_⟩
    have hI : (n0, sl0, SH0, FI0, FL0, FR0) = (n, sl, SH, FI, FL, FR) ∧ v0.toInt = 0 := by
      rcases hv with ⟨vc, y1, y2, y3, y4, y5, y6⟩ | ⟨w1, w2⟩
      · rcases hi with ⟨h0, e1, e⟩ | ⟨h0, hi⟩
        · exact ⟨e, by rw [e1, z0]⟩
        · rw [y4] at hi
          rcases hi with ⟨h1, -⟩ | ⟨h1, e1, e⟩
          · exfalso
            exact hr ⟨by omega, h1⟩
          · exact ⟨e, by rw [e1, z0]⟩
      · rcases hi with ⟨h0, e1, e⟩ | ⟨h0, hi⟩
        · exact ⟨e, by rw [e1, z0]⟩
        · rw [w2] at hi
          rcases hi with ⟨h1, -⟩ | ⟨h1, e1, e⟩
          · exact absurd h1 h0
          · exact ⟨e, by rw [e1, z0]⟩
    obtain ⟨e0, hz⟩ := hI
    cases e0
    exact P_p h hz
/-- the reference's means -/
theorem re_means {fb : xX} {K W : Nat → Int} {P : Nat → Nat} {T f : Nat} (hS : h_S n SH) (hf : xfq A.1 fb) (hu : u_vw FI FL K W T V) (hk : V = [] ∨ (tk_ok K W P T ∧ lp_in K W f T V)) (hB : rB SH FI FL A) (h : RX12_means a1 b2 n sl SH FI FL FR v2 s) : (¬ (0 ≤ a1.toInt ∧ a1.toInt < (V.length : Int)) ∧ v2 = -1 ∧ ∃ F2 L2, s = (n, sl, SH, F2, L2, FR) ∧ rB SH F2 L2 A) ∨ ((0 ≤ a1.toInt ∧ a1.toInt < (V.length : Int)) ∧ ∃ x, V[a1.toInt.toNat]? = some x ∧ ∃ a, mvar A.1 fb b2 x.2.2.1 x.2.2.2.1 a ∧ ∀ v A2, go_is A v a A2 → v2 = v ∧ ∃ F2 L2, s = (n, sl, SH, F2, L2, FR) ∧ rB SH F2 L2 A2) := by
  obtain ⟨u1, u2, u3, u4⟩ := id hu
  by_cases hr : 0 ≤ a1.toInt ∧ a1.toInt < (V.length : Int)
  · obtain ⟨x, hx⟩ := lx_i (L := V) (i := a1.toInt.toNat) (by omega)
    rcases hk with hk | ⟨hk, hin⟩
    · rw [hk] at hx; simp at hx
    · obtain ⟨p1, p2, p3, p4, p5, p6⟩ := u3 _ x hx
      obtain ⟨i1, t1, i2, i3⟩ := hin x (List.mem_of_getElem? hx)
      obtain ⟨a, a1', F2, L2, e, m8', z⟩ := r_means (N := V.length) (i := a1.toInt.toNat) (f := f) (t1 := t1) hS hk.2.2.1 hk.2.2.2.1 hk.1 hf (fun j hj => u4 j hj) hB.1 (by omega) u1 (by omega) p2 p3 i2 i3 p5 i1 h
      refine Or.inr ⟨hr, x, hx, a, a1', fun v A2 g => ?_⟩
      have key : ∀ {Q : ms_Q}, rr F2 L2 Q → rB SH F2 L2 (A.1, A.2.1, Q, A.2.2.2) := fun hq => by
        refine ⟨rE_f2 hB.1 (m8'.1 123 (by omega)).1 (m8'.1 124 (by omega)).1 (m8'.1 125 (by omega)).1 (fun k h1 h2 => (m8'.2 k (by omega)).1) (fun k h1 h2 => (m8'.2 k (by omega)).2) (m8'.1 122 (by omega)).2, fun k hk => ?_, hq, ?_⟩
        · rw [(m8'.1 125 (by omega)).1]
          obtain ⟨r1, r2, r3⟩ := hB.2.1 k hk
          exact ⟨r1, r2, bk_fr r3 (m8'.1 124 (by omega)).1⟩
        · rw [(m8'.2 61 (by omega)).1, (m8'.1 148 (by omega)).1]
          exact hB.2.2.2
      match a, z, g with
      | .inl e', z, g =>
        obtain ⟨z1, z2, z3, z4, z5, z6, z7, z8, z9⟩ := z
        refine ⟨i_eqv (z1.trans g.1.symm), F2, L2, e, ?_⟩
        rw [g.2]
        exact key (rr_fr hB.2.2.1 (fun c hc => by rcases hc with rfl | rfl | rfl | rfl <;> assumption) z7 z8 z9)
      | .inr Q, z, g =>
        refine ⟨i_eqv (z.1.trans g.1.symm), F2, L2, e, ?_⟩
        rw [g.2]
        exact key z.2
  · refine Or.inl ⟨hr, ?_⟩
    rcases h with ⟨h0, e1, e⟩ | ⟨h0, h⟩
    · exact ⟨e1, _, _, e, rB_0 hB⟩
    · rw [u1] at h
      rcases h with ⟨h1, -⟩ | ⟨h1, e1, e⟩
      · exfalso
        exact hr ⟨by omega, h1⟩
      · exact ⟨e1, _, _, e, rB_0 hB⟩
end HD
