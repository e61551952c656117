/-! VARIABLE: one answer on both sides. -/
def v_lt (d : Int) : Int := if d ≤ 26 then d + 96 else d + 21
def v_dg (D : List Int) : Prop := D.length ≤ 8 ∧ ∀ d, d ∈ D → 1 ≤ d ∧ d ≤ 36
/-- what variable(i, w) answers -/
def va_is (V : List lp_V) (i w r : Int) : Prop := ((i < 0 ∨ (V.length : Int) ≤ i) → r = -1) ∧ ∀ v, 0 ≤ i → V[i.toNat]? = some v → (w = 0 → r = v.2.2.1) ∧ (w = 1 → r = v.2.2.2.1.length) ∧ (100 ≤ w → w < 1000 → r = if w - 100 < v.2.2.2.1.length then v.2.2.2.1.getD (w - 100).toNat 0 else -1) ∧ ((w < 0 ∨ (2 < w ∧ w < 100)) → r = -1) ∧ ∀ D, v_dg D → v.1 = t_tv D → (w = 2 → r = D.length) ∧ (1000 ≤ w → r = if w - 1000 < D.length then v_lt (D.getD (D.length - 1 - (w - 1000).toNat) 0) else -1)
theorem va_eq {V : List lp_V} {i w r1 r2 : Int} (hD : ∀ (j : Nat) (v : lp_V), V[j]? = some v → ∃ D, v_dg D ∧ v.1 = t_tv D) (h1 : va_is V i w r1) (h2 : va_is V i w r2) : r1 = r2 := by
  by_cases hi : i < 0 ∨ (V.length : Int) ≤ i
  · rw [h1.1 hi, h2.1 hi]
  · have hlt : i.toNat < V.length := by omega
    have hv : V[i.toNat]? = some V[i.toNat] := List.getElem?_eq_getElem hlt
    obtain ⟨D, d1, d2⟩ := hD _ _ hv
    obtain ⟨a1, a2, a3, a4, a5⟩ := h1.2 _ (by omega) hv
    obtain ⟨b1, b2, b3, b4, b5⟩ := h2.2 _ (by omega) hv
    have a5 := a5 D d1 d2
    have b5 := b5 D d1 d2
    by_cases w0 : w = 0
    · rw [a1 w0, b1 w0]
    · by_cases w1 : w = 1
      · rw [a2 w1, b2 w1]
      · by_cases w2 : w = 2
        · rw [a5.1 w2, b5.1 w2]
        · by_cases w3 : 1000 ≤ w
          · rw [a5.2 w3, b5.2 w3]
          · by_cases w4 : 100 ≤ w
            · rw [a3 w4 (by omega), b3 w4 (by omega)]
            · rw [a4 (by omega), b4 (by omega)]
theorem t_al_lt {c : Int} (h : t_al c = true) : c = v_lt (t_cd c) := by
  unfold t_al t_sm t_dg at h
  rw [Bool.or_eq_true, decide_eq_true_eq, decide_eq_true_eq] at h
  unfold v_lt t_cd t_sm
  by_cases h1 : 97 ≤ c ∧ c ≤ 122
  · rw [if_pos (decide_eq_true h1), if_pos (by omega)]; omega
  · rw [if_neg (fun e => h1 (of_decide_eq_true e)), if_neg (by omega)]; omega
section CV
variable {n sl : Nat} {SH : Nat → Nat × Nat} {FI : Nat → Nat → Int32} {FL : Nat → Nat → Int64} {FR : Nat → Nat → Option Nat} {s : hS}
/-- byteAt -/
theorem c_byteAt {c : Nat} {l : Int64} {A : Int} {v : Int32} (h : RX11_byteAt (some c) l n sl SH FI FL FR v s) (hl : l.toInt = A) (hz : (SH c).2 ≤ 100000) : s = (n, sl, SH, FI, FL, FR) ∧ (A < 0 → v.toInt = -1) ∧ (0 ≤ A → A < ((SH c).2 : Int) → v = FI c A.toNat) ∧ (((SH c).2 : Int) ≤ A → v.toInt = -1) := by
  have z0 : ((0 : Int64)).toInt = 0 := by decide
  have zm : ((-1 : Int32)).toInt = -1 := by decide
  have ez : ((Int32.ofNat (SH c).2).toInt64).toInt = ((SH c).2 : Int) := i_2l (i_lit (by omega))
  rcases h with ⟨h0, rfl, rfl⟩ | ⟨h0, h⟩
  · rw [z0, hl] at h0
    exact ⟨rfl, fun _ => zm, fun h => by omega, fun h => by omega⟩
  · rw [z0, hl] at h0
    obtain ⟨c2, e2, h⟩ := h
    cases e2
    rw [ez, hl] at h
    rcases h with ⟨h1, h⟩ | ⟨h1, rfl, rfl⟩
    · obtain ⟨c4, e4, -, rfl, rfl⟩ := h
      cases e4
      have e : (l.toInt32).toInt = A := l_2i hl (by omega) (by omega)
      exact ⟨rfl, fun h => by omega, fun _ _ => by rw [e], fun h => by omega⟩
    · exact ⟨rfl, fun h => by omega, fun _ h => by omega, fun _ => zm⟩
theorem c_var {V : List lp_V} {a1 a2 v : Int32} (hv : v_cl FI FR SH n V) (h : RX11_variable a1 a2 n sl SH FI FL FR v s) : s = (n, sl, SH, FI, FL, FR) ∧ va_is V a1.toInt a2.toInt v.toInt := by
  obtain ⟨vc, y1, y2, y3, y4, y5, y6⟩ := hv
  have zm : ((-1 : Int32)).toInt = -1 := by decide
  have z0 : ((0 : Int32)).toInt = 0 := by decide
  have z1 : ((1 : Int32)).toInt = 1 := by decide
  have z2 : ((2 : Int32)).toInt = 2 := by decide
  have zk : ((1000 : Int32)).toInt = 1000 := by decide
  have ez : (Int32.ofNat (SH vc).2).toInt = 12 := by rw [y3]; decide
  obtain ⟨v0, n0, sl0, SH0, FI0, FL0, FR0, hi, h⟩ := h
  -- whether there is such a variable
  have hI : (n0, sl0, SH0, FI0, FL0, FR0) = (n, sl, SH, FI, FL, FR) ∧ (v0.toInt = 0 ↔ (a1.toInt < 0 ∨ (V.length : Int) ≤ a1.toInt)) := by
    rcases hi with ⟨h0, rfl, e⟩ | ⟨h0, hi⟩
    · exact ⟨e, fun _ => Or.inl h0, fun _ => z0⟩
    · rcases hi with ⟨h1, hi⟩ | ⟨h1, rfl, e⟩
      · obtain ⟨c3, e3, hi⟩ := hi
        rw [y1] at e3
        cases e3
        rw [ez] at hi
        rcases hi with ⟨h2, rfl, e⟩ | ⟨h2, rfl, e⟩
        · exact ⟨e, fun h => by rw [z1] at h; omega, fun h => by omega⟩
        · exfalso; omega
      · exact ⟨e, fun _ => Or.inr (by omega), fun _ => z0⟩
  obtain ⟨e, hj⟩ := hI
  cases e
  rcases h with ⟨h0, rfl, rfl⟩ | ⟨h0, h⟩
  · refine ⟨rfl, fun _ => zm, fun v' p1 p2 => ?_⟩
    exfalso
    have := hj.mp h0
    have := (List.getElem?_eq_some_iff.mp p2).1
    omega
  · have hn : ¬ (a1.toInt < 0 ∨ (V.length : Int) ≤ a1.toInt) := fun hh => h0 (hj.mpr hh)
    have hlt : a1.toInt.toNat < V.length := by omega
    have hV : V[a1.toInt.toNat]? = some V[a1.toInt.toNat] := List.getElem?_eq_getElem hlt
    obtain ⟨x, x1, x2, x3, ⟨nm, w1, w0, w2, D0, d1, d2, d3, d4, d5⟩, cc, k1, k2, k3, k4, k5, k6⟩ := y6 _ _ hV
    generalize V[a1.toInt.toNat] = vv at hV x3 d4 k4 k5 k6
    obtain ⟨c3, e3, -, h⟩ := h
    rw [y1] at e3
    cases e3
    have hDu : ∀ D, v_dg D → vv.1 = t_tv D → D = D0 := fun D p1 p2 => t_tv_inj D D0 p1.2 d3 (by rw [← p2, d4])
    have fin : ∀ r : Int, s = (n, sl, SH, FI, FL, FR) → ((a2.toInt = 0 → r = vv.2.2.1) ∧ (a2.toInt = 1 → r = vv.2.2.2.1.length) ∧ (100 ≤ a2.toInt → a2.toInt < 1000 → r = if a2.toInt - 100 < vv.2.2.2.1.length then vv.2.2.2.1.getD (a2.toInt - 100).toNat 0 else -1) ∧ ((a2.toInt < 0 ∨ (2 < a2.toInt ∧ a2.toInt < 100)) → r = -1) ∧ (a2.toInt = 2 → r = D0.length) ∧ (1000 ≤ a2.toInt → r = if a2.toInt - 1000 < D0.length then v_lt (D0.getD (D0.length - 1 - (a2.toInt - 1000).toNat) 0) else -1)) → s = (n, sl, SH, FI, FL, FR) ∧ va_is V a1.toInt a2.toInt r := by
      rintro r e ⟨q1, q2, q3, q4, q5, q6⟩
      refine ⟨e, fun hh => absurd hh hn, fun v' p1 p2 => ?_⟩
      rw [hV] at p2
      cases p2
      refine ⟨q1, q2, q3, q4, fun D p1 p2 => ?_⟩
      rw [hDu D p1 p2]
      exact ⟨q5, q6⟩
    rcases h with ⟨g0, h⟩ | ⟨g0, h⟩
    · obtain ⟨c5, e5, rfl, rfl⟩ := h
      rw [x1] at e5
      cases e5
      exact fin _ rfl ⟨fun _ => x3, fun h => by omega, fun h => by omega, fun h => by omega, fun h => by omega, fun h => by omega⟩
    · rcases h with ⟨g1, h⟩ | ⟨g1, h⟩
      · rw [z1] at g1
        obtain ⟨c7, e7, c8, e8, rfl, rfl⟩ := h
        rw [x1] at e7
        cases e7
        rw [k1] at e8
        cases e8
        refine fin _ rfl ⟨fun h => by omega, fun _ => ?_, fun h => by omega, fun h => by omega, fun h => by omega, fun h => by omega⟩
        rw [k4]
        exact i_lit (by omega)
      · rw [z1] at g1
        rcases h with ⟨g2, h⟩ | ⟨g2, h⟩
        · rw [z2] at g2
          obtain ⟨c7, e7, c8, e8, rfl, rfl⟩ := h
          rw [x1] at e7
          cases e7
          rw [w1] at e8
          cases e8
          refine fin _ rfl ⟨fun h => by omega, fun h => by omega, fun h => by omega, fun h => by omega, fun _ => ?_, fun h => by omega⟩
          rw [d1]
          exact i_lit (by omega)
        · rw [z2] at g2
          rw [zk] at h
          rcases h with ⟨g3, h⟩ | ⟨g3, h⟩
          · obtain ⟨c13, e13, v13, n13, sl13, SH13, FI13, FL13, FR13, hb, rfl, rfl⟩ := h
            rw [x1] at e13
            cases e13
            rw [k1] at hb
            have el : ((a2.toInt64) - (100 : Int64)).toInt = a2.toInt - 100 := l_sub (i_2l rfl) (by decide) (by have := Int32.le_toInt a2; omega) (by omega)
            obtain ⟨e, b1, b2, b3⟩ := c_byteAt hb el (by omega)
            refine fin _ e ⟨fun h => by omega, fun h => by omega, fun h _ => ?_, fun h => b1 (by omega), fun h => by omega, fun h => by omega⟩
            by_cases hlt2 : a2.toInt - 100 < vv.2.2.2.1.length
            · rw [if_pos hlt2, b2 (by omega) (by omega)]
              exact k6 _ (by omega)
            · rw [if_neg hlt2]
              exact b3 (by omega)
          · obtain ⟨c13, e13, v13, n13, sl13, SH13, FI13, FL13, FR13, hb, rfl, rfl⟩ := h
            rw [x1] at e13
            cases e13
            rw [w1] at hb
            have el : ((a2.toInt64) - (1000 : Int64)).toInt = a2.toInt - 1000 := l_sub (i_2l rfl) (by decide) (by omega) (by have := Int32.toInt_lt a2; omega)
            obtain ⟨e, b1, b2, b3⟩ := c_byteAt hb el (by omega)
            refine fin _ e ⟨fun h => by omega, fun h => by omega, fun h => by omega, fun h => by omega, fun h => by omega, fun h => ?_⟩
            by_cases hlt2 : a2.toInt - 1000 < D0.length
            · rw [if_pos hlt2, b2 (by omega) (by omega)]
              obtain ⟨o1, o2⟩ := d5 (a2.toInt - 1000).toNat (by omega)
              rw [t_al_lt o1, List.getD_eq_getElem?_getD, o2]
              rfl
            · rw [if_neg hlt2]
              exact b3 (by omega)
end CV
theorem tv_step {D : List Int} (h : v_dg D) {j : Nat} (hj : j < D.length) : t_tv (D.drop j) = 37 * t_tv (D.drop (j + 1)) + D.getD j 0 ∧ 1 ≤ D.getD j 0 ∧ D.getD j 0 ≤ 36 ∧ 0 ≤ t_tv (D.drop (j + 1)) := by
  have e : D.getD j 0 = D[j] := by rw [List.getD_eq_getElem?_getD, List.getElem?_eq_getElem hj]; rfl
  have hm := h.2 D[j] (List.getElem_mem hj)
  refine ⟨?_, by rw [e]; exact hm.1, by rw [e]; exact hm.2, t_tv_nn _ (fun d hd => h.2 d (List.mem_of_mem_drop hd))⟩
  rw [List.drop_eq_getElem_cons hj, t_tv, e]
section RV
variable {n sl : Nat} {SH : Nat → Nat × Nat} {FI : Nat → Nat → Int32} {FL : Nat → Nat → Int64} {FR : Nat → Nat → Option Nat} {a1 a2 : Int32}
/-- the letter -/
theorem r_115 {D : List Int} (hD : v_dg D) {l3 : Int32} (h3 : l3.toInt = D.length) {k0 : Nat} (hk : k0 < D.length) : ∀ (g : Nat) (l4 : Int64) (l6 : Int32) (v : Int32) (s : hS) (m : Nat), GX12_variable_115 a1 a2 g l3 l4 l6 n sl SH FI FL FR v s → l4.toInt = t_tv (D.drop m) → l6.toInt = ((k0 + m : Nat) : Int) → k0 + m < D.length → v.toInt = v_lt (D.getD (D.length - 1 - k0) 0) := by
  have h8 := hD.1
  have z37 : ((37 : Int64)).toInt = 37 := by decide
  have z26 : ((26 : Int32)).toInt = 26 := by decide
  intro g
  induction g with
  | zero => intro l4 l6 v s m h; exact h.elim
  | succ g ih =>
    intro l4 l6 v s m h h4 h6 hm
    obtain ⟨p1, p2, p3, p4⟩ := tv_step hD (j := m) (by omega)
    have e1 : (l3 - (1 : Int32)).toInt = (D.length : Int) - 1 := i_sub h3 (by decide) (by omega) (by omega)
    rw [GX12_variable_115, BX12_variable_115, e1, h6] at h
    rcases h with ⟨hlt, -, h⟩ | ⟨hlt, -, h⟩
    · refine ih _ _ v s (m + 1) h ?_ (by rw [i_add h6 (by decide : ((1 : Int32)).toInt = 1) (by omega) (by omega)]; omega) (by omega)
      rw [l_div h4 z37 (by omega) (by decide), p1]
      omega
    · have em : m = D.length - 1 - k0 := by omega
      have er : ((l4 - l4 / (37 : Int64) * (37 : Int64)).toInt32).toInt = D.getD m 0 := l_2i (by rw [l_rem h4 z37 (by omega) (by decide), p1]; omega) (by omega) (by omega)
      rw [er, z26] at h
      rw [← em]
      unfold v_lt
      rcases h with ⟨hc, rfl, -⟩ | ⟨hc, rfl, -⟩
      · rw [if_neg (by omega), i_add er (by decide : ((21 : Int32)).toInt = 21) (by omega) (by omega)]
      · rw [if_pos (by omega), i_add er (by decide : ((96 : Int32)).toInt = 96) (by omega) (by omega)]
theorem r_29 {D C : List Int} {rows i : Nat} {s : hS} (hD : v_dg D) (hi : a1.toInt = i) (hi12 : i < 12) (h155 : (FL 155 i).toInt = t_tv D) (h156 : (FI 156 i).toInt = rows) (h125 : (FI 125 (20 + i)).toInt = C.length) (hC : C.length ≤ 600) (h124 : ∀ k, k < C.length → (FI 124 (12000 + 600 * i + k)).toInt = C.getD k 0) : ∀ (g : Nat) (l3 : Int32) (l4 : Int64) (v : Int32) (j : Nat), GX12_variable_29 a1 a2 g l3 l4 n sl SH FI FL FR v s → l3.toInt = j → j ≤ D.length → l4.toInt = t_tv (D.drop j) → (a2.toInt = 0 → v.toInt = rows) ∧ (a2.toInt = 1 → v.toInt = C.length) ∧ (100 ≤ a2.toInt → a2.toInt < 1000 → v.toInt = if a2.toInt - 100 < C.length then C.getD (a2.toInt - 100).toNat 0 else -1) ∧ ((a2.toInt < 0 ∨ (2 < a2.toInt ∧ a2.toInt < 100)) → v.toInt = -1) ∧ (a2.toInt = 2 → v.toInt = D.length) ∧ (1000 ≤ a2.toInt → v.toInt = if a2.toInt - 1000 < D.length then v_lt (D.getD (D.length - 1 - (a2.toInt - 1000).toNat) 0) else -1) := by
  have h8 := hD.1
  have zm : ((-1 : Int32)).toInt = -1 := by decide
  have z0 : ((0 : Int64)).toInt = 0 := by decide
  have z37 : ((37 : Int64)).toInt = 37 := by decide
  have z1 : ((1 : Int32)).toInt = 1 := by decide
  have z2 : ((2 : Int32)).toInt = 2 := by decide
  have zk : ((1000 : Int32)).toInt = 1000 := by decide
  have zh : ((100 : Int32)).toInt = 100 := by decide
  have ei : a1.toInt.toNat = i := by omega
  have e20 : ((20 : Int32) + a1).toInt.toNat = 20 + i := by rw [i_add (by decide : ((20 : Int32)).toInt = 20) hi (by omega) (by omega)]; omega
  intro g
  induction g with
  | zero => intro l3 l4 v j h; exact h.elim
  | succ g ih =>
    intro l3 l4 v j h h3 hj h4
    rw [GX12_variable_29, BX12_variable_29, z0, h4] at h
    rcases h with ⟨hp, -, h⟩ | ⟨hp, h⟩
    · have hjl : j < D.length := by
        rcases Nat.lt_or_ge j D.length with q | q
        · exact q
        · exfalso
          rw [List.drop_eq_nil_of_le q] at hp
          exact absurd hp (by decide)
      obtain ⟨p1, p2, p3, p4⟩ := tv_step hD hjl
      refine ih _ _ v (j + 1) h (by rw [i_add h3 (by decide : ((1 : Int32)).toInt = 1) (by omega) (by omega)]; omega) (by omega) ?_
      rw [l_div h4 z37 (by omega) (by decide), p1]
      omega
    · have hjl : j = D.length := by
        rcases Nat.lt_or_ge j D.length with q | q
        · exfalso
          obtain ⟨p1, p2, p3, p4⟩ := tv_step hD q
          omega
        · omega
      -- beyond the name
      have r167 : RX12_variable_167 a1 a2 n sl SH FI FL FR v s → (a2.toInt < 100 → v.toInt = -1) ∧ (100 ≤ a2.toInt → a2.toInt < 1000 → v.toInt = if a2.toInt - 100 < C.length then C.getD (a2.toInt - 100).toNat 0 else -1) ∧ (1000 ≤ a2.toInt → v.toInt = -1) := by
        intro h
        rw [show RX12_variable_167 a1 a2 n sl SH FI FL FR v s = RX12_variable_167 a1 a2 n sl SH FI FL FR v s from rfl] at h
        rcases h with ⟨g1, rfl, -⟩ | ⟨g1, h⟩
        · rw [zh] at g1
          exact ⟨fun _ => zm, fun h => by omega, fun h => by omega⟩
        · rw [zh] at g1
          rcases h with ⟨g2, -, h⟩ | ⟨g2, rfl, -⟩
          · rw [zk] at g2
            have e100 : (a2 - (100 : Int32)).toInt = a2.toInt - 100 := i_sub rfl zh (by omega) (by omega)
            rw [e20, h125, e100] at h
            rcases h with ⟨g3, -, rfl, -⟩ | ⟨g3, rfl, -⟩
            · refine ⟨fun h => by omega, fun _ _ => ?_, fun h => by omega⟩
              have em : ((600 : Int32) * a1).toInt = 600 * (i : Int) := i_mul (by decide : ((600 : Int32)).toInt = 600) hi (by omega) (by omega)
              have es : ((12000 : Int32) + (600 : Int32) * a1).toInt = 12000 + 600 * (i : Int) := i_add (by decide : ((12000 : Int32)).toInt = 12000) em (by omega) (by omega)
              have et : ((12000 : Int32) + (600 : Int32) * a1 + a2).toInt = 12000 + 600 * (i : Int) + a2.toInt := i_add es rfl (by omega) (by omega)
              have eu : ((12000 : Int32) + (600 : Int32) * a1 + a2 - (100 : Int32)).toInt = 12000 + 600 * (i : Int) + a2.toInt - 100 := i_sub et zh (by omega) (by omega)
              have en : ((12000 : Int32) + (600 : Int32) * a1 + a2 - (100 : Int32)).toInt.toNat = 12000 + 600 * i + (a2.toInt - 100).toNat := by omega
              rw [en, if_pos g3]
              exact h124 _ (by omega)
            · exact ⟨fun h => by omega, fun _ _ => by rw [if_neg g3]; exact zm, fun h => by omega⟩
          · rw [zk] at g2
            exact ⟨fun h => by omega, fun _ h => by omega, fun _ => zm⟩
      rcases h with ⟨g0, -, rfl, -⟩ | ⟨g0, h⟩
      · rw [ei]
        exact ⟨fun _ => h156, fun h => by omega, fun h => by omega, fun h => by omega, fun h => by omega, fun h => by omega⟩
      · rcases h with ⟨g1, -, rfl, -⟩ | ⟨g1, h⟩
        · rw [z1] at g1
          rw [e20]
          exact ⟨fun h => by omega, fun _ => h125, fun h => by omega, fun h => by omega, fun h => by omega, fun h => by omega⟩
        · rw [z1] at g1
          rcases h with ⟨g2, rfl, -⟩ | ⟨g2, h⟩
          · rw [z2] at g2
            exact ⟨fun h => by omega, fun h => by omega, fun h => by omega, fun h => by omega, fun _ => by rw [h3, hjl], fun h => by omega⟩
          · rw [z2] at g2
            rcases h with ⟨g3, h⟩ | ⟨g3, h⟩
            · rw [zk] at g3
              obtain ⟨o1, o2, -⟩ := r167 h
              exact ⟨fun h => by omega, fun h => by omega, o2, fun h => o1 (by omega), fun h => by omega, fun h => by omega⟩
            · rw [zk] at g3
              have ek : (a2 - (1000 : Int32)).toInt = a2.toInt - 1000 := i_sub rfl zk (by omega) (by have := Int32.toInt_lt a2; omega)
              rw [ek, h3, hjl] at h
              rcases h with ⟨g4, -, g', h⟩ | ⟨g4, h⟩
              · rw [ei] at h
                refine ⟨fun h => by omega, fun h => by omega, fun h => by omega, fun h => by omega, fun h => by omega, fun _ => ?_⟩
                rw [if_pos g4]
                exact r_115 hD (by rw [h3, hjl]) (k0 := (a2.toInt - 1000).toNat) (by omega) g' _ _ v s 0 h (by rw [List.drop_zero]; exact h155) (by rw [ek]; omega) (by omega)
              · obtain ⟨-, -, o3⟩ := r167 h
                exact ⟨fun h => by omega, fun h => by omega, fun h => by omega, fun h => by omega, fun h => by omega, fun _ => by rw [if_neg g4]; exact o3 (by omega)⟩
theorem r_var {V : List lp_V} {K W : Nat → Int} {T : Nat} {v : Int32} {s : hS} (hu : u_vw FI FL K W T V) (hD : ∀ (j : Nat) (v : lp_V), V[j]? = some v → ∃ D, v_dg D ∧ v.1 = t_tv D) (h : RX12_variable a1 a2 n sl SH FI FL FR v s) : va_is V a1.toInt a2.toInt v.toInt := by
  have zm : ((-1 : Int32)).toInt = -1 := by decide
  obtain ⟨y1, y2, y3, -⟩ := hu
  have none' : (a1.toInt < 0 ∨ (V.length : Int) ≤ a1.toInt) → v.toInt = -1 → va_is V a1.toInt a2.toInt v.toInt := fun q e => ⟨fun _ => e, fun v' p1 p2 => by
    exfalso
    have := (List.getElem?_eq_some_iff.mp p2).1
    omega⟩
  rcases h with ⟨h0, rfl, -⟩ | ⟨h0, h⟩
  · exact none' (Or.inl h0) zm
  · rcases h with ⟨h1, -, g, h⟩ | ⟨h1, rfl, -⟩
    · rw [y1] at h1
      have hlt : a1.toInt.toNat < V.length := by omega
      have hV : V[a1.toInt.toNat]? = some V[a1.toInt.toNat] := List.getElem?_eq_getElem hlt
      refine ⟨fun q => by omega, fun v' p1 p2 => ?_⟩
      rw [hV] at p2
      cases p2
      obtain ⟨q1, -, q3, q4, q5, q6⟩ := y3 _ _ hV
      obtain ⟨D, d1, d2⟩ := hD _ _ hV
      have r := r_29 (FI := h_up FI 121 0 (0 : Int32)) (FL := FL) (D := D) (C := (V[a1.toInt.toNat]).2.2.2.1) (rows := (V[a1.toInt.toNat]).2.2.1) (i := a1.toInt.toNat) d1 (by omega) (by omega) (by rw [q1]; exact d2) (by rw [h_up_nc (by decide)]; exact q3) (by rw [h_up_nc (by decide)]; exact q4) q5 (by rw [h_up_nc (by decide)]; exact q6) g _ _ v 0 h (by decide) (Nat.zero_le _) (by rw [List.drop_zero, q1]; exact d2)
      obtain ⟨r1, r2, r3, r4, r5, r6⟩ := r
      refine ⟨r1, r2, r3, r4, fun D2 e1 e2 => ?_⟩
      have eD : D2 = D := t_tv_inj D2 D e1.2 d1.2 (by rw [← e2, d2])
      rw [eD]
      exact ⟨r5, r6⟩
    · rw [y1] at h1
      exact none' (Or.inr (by omega)) zm
end RV
