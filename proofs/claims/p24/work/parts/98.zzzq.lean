/-! THE CLASS'S fetch, store: bits. -/
theorem fe_cg {E : ms_E} {N M : Nat} (hM : N ≤ 8 * M) : ∀ (L : List (ms_P × Nat)) (k : Nat) (s s2 : (Nat → Int32) × Nat), (∀ x, x < M → s.1 x = s2.1 x) → s.2 = s2.2 → (∀ x, x < M → (fe E N L k s).1 x = (fe E N L k s2).1 x) ∧ (fe E N L k s).2 = (fe E N L k s2).2
  | [], _, _, _, h1, h2 => ⟨h1, h2⟩
  | x :: r, k, s, s2, h1, h2 => by
    rw [fe, fe]
    by_cases h : k < N
    · rw [if_pos h, if_pos h]
      refine fe_cg hM r (k + 1) _ _ (fun y hy => ?_) ?_
      · unfold fe_st
        cases ms_bq E x.1.1 (x.1.2.2.toNat + x.2) with
        | none => exact h1 y hy
        | some b =>
          show va_up s.1 (k / 8) (s.1 (k / 8) ||| (b <<< Int32.ofNat (k % 8))) y = va_up s2.1 (k / 8) (s2.1 (k / 8) ||| (b <<< Int32.ofNat (k % 8))) y
          by_cases e : y = k / 8
          · subst e
            rw [va_s, va_s, h1 _ hy]
          · rw [va_o e, va_o e]
            exact h1 y hy
      · unfold fe_st
        cases ms_bq E x.1.1 (x.1.2.2.toNat + x.2) with
        | none => exact h2
        | some b => show s.2 + 1 = s2.2 + 1; rw [h2]
    · rw [if_neg h, if_neg h]
      exact ⟨h1, h2⟩
section RFW
variable {n sl : Nat} {SH : Nat → Nat × Nat} {FR : Nat → Nat → Option Nat} {st : hS} {v : Int32}
theorem r_fetch {a1 : Int32} {Q : ms_Q} {N : Nat} {E : ms_E} {FI : Nat → Nat → Int32} {FL : Nat → Nat → Int64} (hN : a1.toInt = N) (h1 : 1 ≤ N) (hN2 : N ≤ 512) (hr : rr FI FL Q) (hE : rE FI FL SH E) (hm : rE_mem E) (h : RX12_fetch a1 n sl SH FI FL FR v st) : v.toInt = (fe E N (pl_Q N Q) 0 (fun _ => 0, 0)).2 ∧ ∃ F2, st = (n, sl, SH, F2, FL, FR) ∧ (∀ c, c ≠ 121 → c ≠ 148 → F2 c = FI c) ∧ (∀ x, x ≠ 0 → x ≠ 58 → x ≠ 59 → x ≠ 61 → F2 121 x = FI 121 x) ∧ (F2 121 61).toInt = (((N + 7) / 8 : Nat) : Int) ∧ (∀ x, x < (N + 7) / 8 → F2 148 x = (fe E N (pl_Q N Q) 0 (fun _ => 0, 0)).1 x) := by
  have h := P_n h (by rw [hN, show ((1 : Int32)).toInt = 1 by first | decide | (simp; done) | (simp [ms_0]; done)]; omega)
  have h := P_n h (by rw [hN, show ((512 : Int32)).toInt = 512 by first | decide | (simp; done) | (simp [ms_0]; done)]; omega)
  obtain ⟨-, g, h⟩ := h
  have e7 : ((a1 + (7 : Int32)) / (8 : Int32)).toInt = (((N + 7) / 8 : Nat) : Int) := by
    rw [i_div (i_add hN (by first | decide | (simp; done) | (simp [ms_0]; done) : ((7 : Int32)).toInt = 7) (by omega) (by omega)) (by first | decide | (simp; done) | (simp [ms_0]; done) : ((8 : Int32)).toInt = 8) (by omega) (by first | decide | (simp; done) | (simp [ms_0]; done))]
    omega
  obtain ⟨F2, ⟨g2, h⟩, z1, z2⟩ := r_fe32 (M := (N + 7) / 8) g 0 0 _ FL (by first | decide | (simp; done) | (simp [ms_0]; done)) (by omega) (by omega) (by rw [h_up_eq]; exact e7) (fun x hx => by omega) h
  have F0 : ∀ c, c ≠ 121 → c ≠ 148 → (h_up (h_up F2 121 58 ((0 : Int32))) 121 59 ((0 : Int32))) c = FI c := fun c c1 c2 => by rw [h_up_nc c1, h_up_nc c1, z1 c c2, h_up_nc c1, h_up_nc c1]
  have F1 : ∀ k, k ≠ 0 → k ≠ 58 → k ≠ 59 → k ≠ 61 → (h_up (h_up F2 121 58 ((0 : Int32))) 121 59 ((0 : Int32))) 121 k = FI 121 k := fun k k0 k1 k2 k3 => by rw [h_up_ne k2, h_up_ne k1, z1 121 (by first | decide | (simp; done) | (simp [ms_0]; done)), h_up_ne k3, h_up_ne k0]
  have eq : pl_Q N Q = pl_r (pl_B Q.1 N) Q.2.reverse 0 0 := by
    unfold pl_Q
    rw [← pl_f_r]
    rfl
  rw [eq]
  obtain ⟨y1, F4, y2, y3, y4, y5⟩ := r_fe67 hN hN2 hm g2 0 0 0 (F2 148, 0) 0 0 _ (by first | decide | (simp; done) | (simp [ms_0]; done)) (by first | decide | (simp; done) | (simp [ms_0]; done)) (by first | decide | (simp; done) | (simp [ms_0]; done)) (by omega) (rr_fr hr (fun c hc => F0 c (by omega) (by omega)) rfl (F1 46 (by first | decide | (simp; done) | (simp [ms_0]; done)) (by first | decide | (simp; done) | (simp [ms_0]; done)) (by first | decide | (simp; done) | (simp [ms_0]; done)) (by first | decide | (simp; done) | (simp [ms_0]; done))) (F1 47 (by first | decide | (simp; done) | (simp [ms_0]; done)) (by first | decide | (simp; done) | (simp [ms_0]; done)) (by first | decide | (simp; done) | (simp [ms_0]; done)) (by first | decide | (simp; done) | (simp [ms_0]; done)))) (rE_f2 hE (F0 123 (by first | decide | (simp; done) | (simp [ms_0]; done)) (by first | decide | (simp; done) | (simp [ms_0]; done))) (F0 124 (by first | decide | (simp; done) | (simp [ms_0]; done)) (by first | decide | (simp; done) | (simp [ms_0]; done))) (F0 125 (by first | decide | (simp; done) | (simp [ms_0]; done)) (by first | decide | (simp; done) | (simp [ms_0]; done))) (fun k _ _ => F1 k (by omega) (by omega) (by omega) (by omega)) (fun _ _ _ => rfl) rfl) (fun x _ => by rw [h_up_nc (by first | decide | (simp; done) | (simp [ms_0]; done)), h_up_nc (by first | decide | (simp; done) | (simp [ms_0]; done))]) (by rw [h_up_x (by first | decide | (simp; done) | (simp [ms_0]; done)), h_up_eq]; (first | decide | (simp; done) | (simp [ms_0]; done))) (by rw [h_up_eq]; (first | decide | (simp; done) | (simp [ms_0]; done))) (by first | decide | (simp; done) | (simp [ms_0]; done)) (fun _ => ⟨rfl, rfl⟩) h
  obtain ⟨w1, w2⟩ := fe_cg (E := E) (N := N) (M := (N + 7) / 8) (by omega) (pl_r (pl_B Q.1 N) Q.2.reverse 0 0) 0 (F2 148, 0) (fun _ => 0, 0) (fun x hx => z2 x hx) rfl
  refine ⟨by rw [y1, w2], F4, y2, fun c c1 c2 => by rw [y3 c c1 c2, F0 c c1 c2], fun x x0 x1 x2 x3 => by rw [y4 x x1 x2, F1 x x0 x1 x2 x3], ?_, fun x hx => by rw [y5 x (by omega), w1 x hx]⟩
  rw [y4 61 (by first | decide | (simp; done) | (simp [ms_0]; done)) (by first | decide | (simp; done) | (simp [ms_0]; done)), h_up_ne (by first | decide | (simp; done) | (simp [ms_0]; done)), h_up_ne (by first | decide | (simp; done) | (simp [ms_0]; done)), z1 121 (by first | decide | (simp; done) | (simp [ms_0]; done)), h_up_eq]
  exact e7
end RFW
section CBI
variable {n sl : Nat} {SH : Nat → Nat × Nat} {FI F2 : Nat → Nat → Int32} {FL L2 : Nat → Nat → Int64} {FR : Nat → Nat → Option Nat} {st : hS} {E : ms_E} {v : Int32}
theorem c_hasB {x : Int64} (hS : h_S n SH) : (fX1_hasBytes x ((1 : Int32)) SH FI FL FR).toInt = 0 ↔ (x.toInt < 0 ∨ 4095 < x.toInt) := by
  have e : (((Int32.ofNat (SH 25).2) - ((1 : Int32))).toInt64).toInt = 4095 := by
    rw [hS.2 25 (by first | decide | (simp; done) | (simp [ms_0]; done))]
    decide +kernel
  unfold fX1_hasBytes
  rw [e, show ((0 : Int64)).toInt = 0 by first | decide | (simp; done) | (simp [ms_0]; done)]
  by_cases g1 : x.toInt < 0
  · rw [if_pos g1]
    exact ⟨fun _ => Or.inl g1, fun _ => by first | decide | (simp; done) | (simp [ms_0]; done)⟩
  rw [if_neg g1]
  by_cases g2 : 4095 < x.toInt
  · rw [if_pos g2]
    exact ⟨fun _ => Or.inr g2, fun _ => by first | decide | (simp; done) | (simp [ms_0]; done)⟩
  · rw [if_neg g2]
    exact ⟨fun e => absurd e (by first | decide | (simp; done) | (simp [ms_0]; done)), fun e => absurd e (fun e => e.elim g1 g2)⟩
/-- a block's byte -/
theorem c_block {q : Nat} {H : ms_H} {x : Int64} {A : Int} (hc : ct FI FL FR SH q H) (hx : x.toInt = A) (hA : A ≤ 2000000000) (h : RX5_blockByte q x n sl SH FI FL FR v st) : st = (n, sl, SH, FI, FL, FR) ∧ v = bt_v (if H.1 = 4 ∧ 0 ≤ A then H.2.2[A.toNat]? else none) := by
  obtain ⟨c1, c2, c3, c4⟩ := hc
  unfold RX5_blockByte at h
  rw [c1, show ((4 : Int32)).toInt = 4 by first | decide | (simp; done) | (simp [ms_0]; done)] at h
  rcases h with ⟨k4, h⟩ | ⟨k4, e1, e⟩
  · obtain ⟨r, D, r1, r2, r3⟩ := c4 k4
    have hl : H.2.1.toInt = H.2.2.length := by
      rcases c3 with q | q | q | q | q
      · exfalso; have := q.1; omega
      · exfalso; have := q.1; omega
      · exfalso; have := q.1; omega
      · exfalso; have := q.1; omega
      · exact q.2
    have h := P_n h (by rw [r1]; intro e; cases e)
    rw [hx, show ((0 : Int64)).toInt = 0 by first | decide | (simp; done) | (simp [ms_0]; done)] at h
    rcases h with ⟨g1, e1, e⟩ | ⟨g1, h⟩
    · exact ⟨e, by rw [e1, if_neg (by omega)]; rfl⟩
    rw [c2, hl] at h
    rcases h with ⟨g2, h⟩ | ⟨g2, e1, e⟩
    · obtain ⟨v4, n4, sl4, SH4, FI4, FL4, FR4, hb, e1, e⟩ := h
      have hz := r3.2.1
      have hz2 := r3.2.2.1
      have es : ((FI q 5).toInt64 + x).toInt = ((D + A.toNat : Nat) : Int) := by
        rw [l_add (i_2l r2) hx (by omega) (by omega)]
        omega
      rw [r1] at hb
      have hb := P_n hb (by rw [es, show ((0 : Int64)).toInt = 0 by first | decide | (simp; done) | (simp [ms_0]; done)]; omega)
      obtain ⟨c5, e5, hb⟩ := hb
      cases e5
      have hb := P_p hb (by rw [es, i_2l (i_lit (by omega))]; omega)
      obtain ⟨c6, e6, -, f1, f2⟩ := hb
      cases e6
      cases f2
      obtain ⟨b, hb0⟩ := lx_i (L := H.2.2) (i := A.toNat) (by omega)
      rw [l_2i es (by omega) (by omega), show ((D + A.toNat : Nat) : Int).toNat = D + A.toNat by omega, (r3.2.2.2 _ _ hb0).1] at f1
      refine ⟨e, ?_⟩
      rw [if_pos ⟨k4, by omega⟩, hb0, e1, f1]
      rfl
    · refine ⟨e, ?_⟩
      rw [e1, if_pos ⟨k4, by omega⟩, List.getElem?_eq_none (by omega)]
      rfl
  · exact ⟨e, by rw [e1, if_neg (fun e => k4 e.1)]; rfl⟩
theorem ct_by {q : Nat} {H : ms_H} (hc : ct FI FL FR SH q H) (k4 : H.1 = 4) : ∀ (k : Nat) (x : Int32), H.2.2[k]? = some x → 0 ≤ x.toInt ∧ x.toInt ≤ 255 := by
  obtain ⟨r, D, r1, r2, r3⟩ := hc.2.2.2 k4
  exact fun k x hk => (r3.2.2.2 k x hk).2
theorem c_bitOf {q i : Nat} {H : ms_H} {a2 : Int32} (hS : h_S n SH) (hE : cE FI FL FR SH E) (hc : ct FI FL FR SH q H) (h2 : a2.toInt = i) (hi : i ≤ 10000) (h : RX1_bitOf (some q) a2 n sl SH FI FL FR v st) : st = (n, sl, SH, FI, FL, FR) ∧ v = bt_v (ms_bq E H i) := by
  obtain ⟨c1, c2, c3, c4⟩ := id hc
  obtain ⟨d1, d2, d3⟩ := q_i8 h2 (by omega)
  have d4 : (a2 / (8 : Int32)).toInt64 = Int64.ofNat (i / 8) := l_ofn (i_2l d1) (by omega)
  have d5 : a2.toInt64 = Int64.ofNat i := l_ofn (i_2l h2) (by omega)
  have h8 : i % 8 < 8 := Nat.mod_lt _ (by first | decide | (simp; done) | (simp [ms_0]; done))
  obtain ⟨q1, e1, h⟩ := h
  cases e1
  rw [c1] at h
  unfold ms_bq
  rcases h with ⟨k1, h⟩ | ⟨k1, h⟩
  · rw [if_pos k1]
    obtain ⟨q3, e3, -, h⟩ := h
    cases e3
    rw [c2, d4] at h
    rcases h with ⟨g, e1, e⟩ | ⟨g, h⟩
    · rw [c_hasB hS] at g
      rw [if_pos g]
      exact ⟨e, e1⟩
    · rw [c_hasB hS] at g
      rw [if_neg g]
      obtain ⟨-, -, e1, e⟩ := h
      have hm := hE.2.1 (H.2.1 + Int64.ofNat (i / 8)).toInt.toNat (by omega)
      rw [l_2i (A := (H.2.1 + Int64.ofNat (i / 8)).toInt) rfl (by omega) (by omega), d3, hm.1, bt8_u hm.2.1 hm.2.2 h8] at e1
      exact ⟨e, e1⟩
  rw [if_neg k1]
  rcases h with ⟨k2, h⟩ | ⟨k2, h⟩
  · rw [if_pos k2]
    rw [h2, show ((64 : Int32)).toInt = 64 by first | decide | (simp; done) | (simp [ms_0]; done)] at h
    rcases h with ⟨g, h⟩ | ⟨g, e1, e⟩
    · have hr : 0 ≤ H.2.1.toInt ∧ H.2.1.toInt ≤ 31 := by
        rcases c3 with q | q | q | q | q
        · exfalso; have := q.1; omega
        · exfalso; have := q.1; omega
        · exact q.2.2
        · exfalso; have := q.1; omega
        · exfalso; have := q.1; omega
      obtain ⟨q8, e8, e1, e⟩ := h
      cases e8
      rw [c2, c_reg hS hE hr.1 hr.2, d5, bt64_u (by omega)] at e1
      rw [if_neg (by omega)]
      exact ⟨e, e1⟩
    · rw [if_pos (by omega)]
      exact ⟨e, e1⟩
  rw [if_neg k2]
  rcases h with ⟨k3, h⟩ | ⟨k3, h⟩
  · rw [if_pos k3]
    rw [h2, show ((64 : Int32)).toInt = 64 by first | decide | (simp; done) | (simp [ms_0]; done)] at h
    rcases h with ⟨g, h⟩ | ⟨g, e1, e⟩
    · obtain ⟨q8, e8, e1, e⟩ := h
      cases e8
      rw [c2, d5, bt64_u (by omega)] at e1
      rw [if_neg (by omega)]
      exact ⟨e, e1⟩
    · rw [if_pos (by omega)]
      exact ⟨e, e1⟩
  rw [if_neg k3]
  rcases h with ⟨k4, h⟩ | ⟨k4, e1, e⟩
  · rw [if_pos k4]
    obtain ⟨-, q14, e14, v14, n14, sl14, SH14, FI14, FL14, FR14, hb, h⟩ := h
    cases e14
    obtain ⟨b1, b2⟩ := c_block hc (i_2l d1) (by omega) hb
    cases b1
    rw [if_pos ⟨k4, by omega⟩, show ((i / 8 : Nat) : Int).toNat = i / 8 by omega] at b2
    cases hx : H.2.2[i / 8]? with
    | none =>
      rw [hx] at b2
      obtain ⟨e1, e⟩ := P_p h (by rw [b2]; rfl)
      exact ⟨e, e1⟩
    | some b =>
      rw [hx] at b2
      have b2 : v14 = b := b2
      have hbb := ct_by hc k4 _ _ hx
      obtain ⟨-, e1, e⟩ := P_n h (by rw [b2, show ((-1 : Int32)).toInt = -1 by first | decide | (simp; done) | (simp [ms_0]; done)]; omega)
      rw [b2, d3, bt8_u hbb.1 hbb.2 h8] at e1
      exact ⟨e, e1⟩
  · rw [if_neg k4]
    exact ⟨e, e1⟩
end CBI
