/-! THE CLASS'S store. -/
section CSO
variable {n sl : Nat} {SH : Nat → Nat × Nat} {FR : Nat → Nat → Option Nat} {st : hS} {E : ms_E} {v : Int32} {Q : ms_Q}
theorem cE_um {FI : Nat → Nat → Int32} {FL : Nat → Nat → Int64} {a : Nat} {x : Int32} (h : cE FI FL FR SH E) (hx : 0 ≤ x.toInt ∧ x.toInt ≤ 255) : cE (h_up FI 25 a x) FL FR SH (ms_um E a x) := by
  obtain ⟨h1, h2, h3, h4, h5, h6, h7, h8⟩ := h
  refine ⟨h1, fun i hi => ?_, fun k hk => ?_, by rw [h_up_nc (by first | decide | (simp; done) | (simp [ms_0]; done))]; exact h4, by rw [h_up_nc (by first | decide | (simp; done) | (simp [ms_0]; done))]; exact h5, h6, by rw [h_up_nc (by first | decide | (simp; done) | (simp [ms_0]; done))]; exact h7, by rw [h_up_nc (by first | decide | (simp; done) | (simp [ms_0]; done))]; exact h8⟩
  · show h_up FI 25 a x 25 i = va_up (ms_mm E) a x i ∧ 0 ≤ (va_up (ms_mm E) a x i).toInt ∧ (va_up (ms_mm E) a x i).toInt ≤ 255
    by_cases e : i = a
    · subst e
      rw [h_up_eq, va_s]
      exact ⟨rfl, hx⟩
    · rw [h_up_ne e, va_o e]
      exact h2 i hi
  · obtain ⟨r, r1, r2, r3, r4⟩ := h3 k hk
    exact ⟨r, r1, r2, r3, bk_fr r4 (h_up_nc (by have := r4.1.2; omega))⟩
theorem cE_ur {FI : Nat → Nat → Int32} {FL : Nat → Nat → Int64} {r : Nat} {x : Int64} (h : cE FI FL FR SH E) : cE FI (h_up FL 24 r x) FR SH (ms_ur E r x) := by
  obtain ⟨h1, h2, h3, h4, h5, h6, h7, h8⟩ := h
  refine ⟨fun i hi => ?_, h2, h3, h4, h5, by rw [h_up_nc (by first | decide | (simp; done) | (simp [ms_0]; done))]; exact h6, by rw [h_up_nc (by first | decide | (simp; done) | (simp [ms_0]; done))]; exact h7, by rw [h_up_nc (by first | decide | (simp; done) | (simp [ms_0]; done))]; exact h8⟩
  show h_up FL 24 r x 24 i = va_up (ms_rg E) r x i
  by_cases e : i = r
  · subst e
    rw [h_up_eq, va_s]
  · rw [h_up_ne e, va_o e]
    exact h1 i hi
theorem c_putBit {FI : Nat → Nat → Int32} {FL : Nat → Nat → Int64} {q i : Nat} {H : ms_H} {a2 b : Int32} (hS : h_S n SH) (hE : cE FI FL FR SH E) (hc : ct FI FL FR SH q H) (h2 : a2.toInt = i) (hi : i ≤ 10000) (hb : b = 0 ∨ b = 1) (h : RX1_putBit (some q) a2 b n sl SH FI FL FR v st) : ∃ F2 L2, st = (n, sl, SH, F2, L2, FR) ∧ (∀ c, c ≠ 25 → F2 c = FI c) ∧ (∀ c, c ≠ 24 → L2 c = FL c) ∧ ((so_1 E H i b = none ∧ v.toInt = 0 ∧ F2 = FI ∧ L2 = FL) ∨ (∃ E2, so_1 E H i b = some E2 ∧ ¬ v.toInt = 0 ∧ cE F2 L2 FR SH E2)) := by
  obtain ⟨c1, c2, c3, c4⟩ := id hc
  obtain ⟨d1, d2, d3⟩ := q_i8 h2 (by omega)
  have d4 : (a2 / (8 : Int32)).toInt64 = Int64.ofNat (i / 8) := l_ofn (i_2l d1) (by omega)
  have d5 : i < 64 → (a2.toInt64 &&& (63 : Int64)) = Int64.ofNat i := fun hl => by
    rw [show a2.toInt64 = Int64.ofNat i from l_ofn (i_2l h2) (by omega)]
    exact sh_63 i hl
  have h8 : i % 8 < 8 := Nat.mod_lt _ (by first | decide | (simp; done) | (simp [ms_0]; done))
  have no : so_1 E H i b = none → v = 0 → st = (n, sl, SH, FI, FL, FR) → ∃ F2 L2, st = (n, sl, SH, F2, L2, FR) ∧ (∀ c, c ≠ 25 → F2 c = FI c) ∧ (∀ c, c ≠ 24 → L2 c = FL c) ∧ ((so_1 E H i b = none ∧ v.toInt = 0 ∧ F2 = FI ∧ L2 = FL) ∨ (∃ E2, so_1 E H i b = some E2 ∧ ¬ v.toInt = 0 ∧ cE F2 L2 FR SH E2)) := fun q1 q2 q3 => ⟨FI, FL, q3, fun _ _ => rfl, fun _ _ => rfl, Or.inl ⟨q1, by rw [q2]; (first | decide | (simp; done) | (simp [ms_0]; done)), rfl, rfl⟩⟩
  obtain ⟨q1, e1, h⟩ := h
  cases e1
  rw [c1, show ((1 : Int32)).toInt = 1 by first | decide | (simp; done) | (simp [ms_0]; done)] at h
  rcases h with ⟨k1, h⟩ | ⟨k1, h⟩
  · obtain ⟨q3, e3, -, h⟩ := h
    cases e3
    rw [c2, d4] at h
    rcases h with ⟨g, e1, e⟩ | ⟨g, h⟩
    · rw [c_hasB hS] at g
      exact no (by unfold so_1; rw [if_pos k1, if_pos g]) e1 e
    · rw [c_hasB hS] at g
      obtain ⟨-, -, -, -, e1, e⟩ := h
      have hm := hE.2.1 (H.2.1 + Int64.ofNat (i / 8)).toInt.toNat (by omega)
      rw [l_2i (A := (H.2.1 + Int64.ofNat (i / 8)).toInt) rfl (by omega) (by omega), d2, hm.1] at e
      refine ⟨_, _, e, fun c hc => h_up_nc hc, fun _ _ => rfl, Or.inr ⟨_, ?_, by rw [e1]; (first | decide | (simp; done) | (simp [ms_0]; done)), cE_um hE (sb8_rg hm.2.1 hm.2.2 h8 hb)⟩⟩
      unfold so_1
      rw [if_pos k1, if_neg g]
      rfl
  · obtain ⟨q6, e6, q7, e7, h⟩ := h
    cases e6; cases e7
    rw [c1, show ((2 : Int32)).toInt = 2 by first | decide | (simp; done) | (simp [ms_0]; done)] at h
    rcases h with ⟨k2, h⟩ | ⟨k2, e1, e⟩
    · have hr : 0 ≤ H.2.1.toInt ∧ H.2.1.toInt ≤ 31 := by
        rcases c3 with q | q | q | q | q
        · exfalso; have := q.1; omega
        · exfalso; have := q.1; omega
        · exact q.2.2
        · exfalso; have := q.1; omega
        · exfalso; have := q.1; omega
      rw [h2, show ((64 : Int32)).toInt = 64 by first | decide | (simp; done) | (simp [ms_0]; done)] at h
      rcases h with ⟨g, h⟩ | ⟨g, e1, e⟩
      · rw [c2, show ((0 : Int64)).toInt = 0 by first | decide | (simp; done) | (simp [ms_0]; done)] at h
        have h := P_n h (by omega)
        have e32 : ((Int32.ofNat (SH 24).2).toInt64).toInt = 32 := by
          rw [hS.2 24 (by first | decide | (simp; done) | (simp [ms_0]; done))]
          decide +kernel
        rw [e32] at h
        have h := P_p h (by omega)
        obtain ⟨-, -, e1, e⟩ := h
        rw [l_2i (A := H.2.1.toInt) rfl (by omega) (by omega), d5 (by omega), hE.1 _ (by omega)] at e
        refine ⟨_, _, e, fun _ _ => rfl, fun c hc => h_up_nc hc, Or.inr ⟨_, ?_, by rw [e1]; (first | decide | (simp; done) | (simp [ms_0]; done)), cE_ur hE⟩⟩
        unfold so_1
        rw [if_neg k1, if_pos k2, if_neg (by omega)]
        rfl
      · exact no (by unfold so_1; rw [if_neg k1, if_pos k2, if_pos (by omega)]) e1 e
    · exact no (by unfold so_1; rw [if_neg k1, if_neg k2]) e1 e
/-- memory and registers do not matter to parts -/
theorem cq_24 {FI F2 : Nat → Nat → Int32} {FL L2 : Nat → Nat → Int64} {q : Nat} {p : ms_P} (hc : cq FI FL FR SH q p) (hq : q ≠ 24 ∧ q ≠ 25) (f : ∀ c, c ≠ 25 → F2 c = FI c) (g : ∀ c, c ≠ 24 → L2 c = FL c) : cq F2 L2 FR SH q p := cq_fr hc (fun r hr => f r (by have := hr.2; omega)) (f q hq.2) (g q hq.1) rfl
theorem c_so80 {Kn : Int32 → Int32 → Int32 → Nat → Nat → (Nat → Nat × Nat) → (Nat → Nat → Int32) → (Nat → Nat → Int64) → (Nat → Nat → Option Nat) → Int32 → hS → Prop} {a1 l4 l6 : Int32} {N B q : Nat} {p : ms_P} {tp : Nat → Int32} (hS : h_S n SH) (hN : a1.toInt = N) (hN2 : N ≤ 512) (h6 : l6.toInt = B) (hB : B ≤ 4096) (hq : 3 ≤ q ∧ q ≤ 18) (htp : ∀ x, 8 * x < N → 0 ≤ (tp x).toInt ∧ (tp x).toInt ≤ 255) : ∀ (g i k : Nat) (s : ms_E × Nat) (l2 l3 l7 : Int32) (FI : Nat → Nat → Int32) (FL : Nat → Nat → Int64), l7.toInt = i → i ≤ B → l3.toInt = k → k ≤ N → l2.toInt = s.2 → s.2 ≤ k → cE FI FL FR SH s.1 → cq FI FL FR SH q p → (∀ x, 8 * x < N → FI 19 x = tp x) → GX11_store_80 Kn a1 g l2 l3 l4 (some q) l6 l7 n sl SH FI FL FR v st → ∃ k2 s2 l2' l3' F2 L2, k2 ≤ N ∧ (∀ rest, so tp N (pl_1 p (B - i) i ++ rest) k s = so tp N rest k2 s2) ∧ l3'.toInt = ((k2 : Nat) : Int) ∧ l2'.toInt = ((s2.2 : Nat) : Int) ∧ s2.2 ≤ k2 ∧ (∀ c, c ≠ 25 → F2 c = FI c) ∧ (∀ c, c ≠ 24 → L2 c = FL c) ∧ cE F2 L2 FR SH s2.1 ∧ Kn l2' l3' (l4 + (1 : Int32)) n sl SH F2 L2 FR v st := by
  intro g
  induction g with
  | zero => intro i k s l2 l3 l7 FI FL _ _ _ _ _ _ _ _ _ h; exact h.elim
  | succ g ih =>
    intro i k s l2 l3 l7 FI FL h7 hi h3 hk h2 hsk hE hc ho h
    rcases h with ⟨b1, h⟩ | ⟨b1, h⟩
    · rw [h7, h6] at b1
      rw [show (l3.toInt < a1.toInt) = ((k : Int) < (N : Int)) by rw [h3, hN]] at h
      rcases h with ⟨b2, h⟩ | ⟨b2, h⟩
      · obtain ⟨-, -, -, c3, e3, v3, n3, sl3, SH3, FI3, FL3, FR3, hb, h⟩ := h
        cases e3
        obtain ⟨c1, c2, c3, c4, c5, c6, c7⟩ := id hc
        have ei : (FI q 3 + l7).toInt = ((p.2.2.toNat + i : Nat) : Int) := by
          rw [i_add c3 h7 (by omega) (by omega)]
          omega
        obtain ⟨d1, d2, d3⟩ := q_i8 h3 (by omega)
        have ht := htp (k / 8) (by omega)
        rw [show (l3 / (8 : Int32)).toInt.toNat = k / 8 by omega, d3, ho (k / 8) (by omega), bt8_u ht.1 ht.2 (Nat.mod_lt _ (by first | decide | (simp; done) | (simp [ms_0]; done)))] at hb
        have hb01 := bt8_01 (k := k % 8) ht.1 ht.2 (Nat.mod_lt _ (by first | decide | (simp; done) | (simp [ms_0]; done)))
        obtain ⟨F3, L3, y1, y2, y3, y4⟩ := c_putBit hS hE c1 ei (by omega) hb01 hb
        first | (obtain ⟨zz1, zz2, zz3, zz4, zz5, zz6⟩ := st_c y1; (try subst zz1); (try subst zz2); (try subst zz3); (try subst zz4); (try subst zz5); (try subst zz6)) | cases y1
        have n7 : (l7 + (1 : Int32)).toInt = ((i + 1 : Nat) : Int) := by
          rw [i_add h7 (by first | decide | (simp; done) | (simp [ms_0]; done) : ((1 : Int32)).toInt = 1) (by omega) (by omega)]
          omega
        have n3 : (l3 + (1 : Int32)).toInt = ((k + 1 : Nat) : Int) := by
          rw [i_add h3 (by first | decide | (simp; done) | (simp [ms_0]; done) : ((1 : Int32)).toInt = 1) (by omega) (by omega)]
          omega
        have el : ∀ rest, so tp N (pl_1 p (B - i) i ++ rest) k s = so tp N (pl_1 p (B - (i + 1)) (i + 1) ++ rest) (k + 1) (so_st tp k (p, i) s) := fun rest => by
          rw [show B - i = (B - (i + 1)) + 1 by omega, pl_1]
          show so tp N ((p, i) :: (pl_1 p (B - (i + 1)) (i + 1) ++ rest)) k s = _
          rw [so, if_pos (by omega)]
        have step : ∀ (l2' : Int32) (s' : ms_E × Nat), so_st tp k (p, i) s = s' → l2'.toInt = s'.2 → s'.2 ≤ k + 1 → cE F3 L3 FR SH s'.1 → GX11_store_80 Kn a1 g l2' (l3 + (1 : Int32)) l4 (some q) l6 (l7 + (1 : Int32)) n sl SH F3 L3 FR v st → ∃ k2 s2 l2' l3' F2 L2, k2 ≤ N ∧ (∀ rest, so tp N (pl_1 p (B - i) i ++ rest) k s = so tp N rest k2 s2) ∧ l3'.toInt = ((k2 : Nat) : Int) ∧ l2'.toInt = ((s2.2 : Nat) : Int) ∧ s2.2 ≤ k2 ∧ (∀ c, c ≠ 25 → F2 c = FI c) ∧ (∀ c, c ≠ 24 → L2 c = FL c) ∧ cE F2 L2 FR SH s2.1 ∧ Kn l2' l3' (l4 + (1 : Int32)) n sl SH F2 L2 FR v st := by
          intro l2' s' es hl2 hs2 hE3 h
          obtain ⟨k2, s2, l2'', l3'', F2, L2, z1, z2, z3, z4, z5, z6, z7, z8, z9⟩ := ih (i + 1) (k + 1) s' l2' (l3 + (1 : Int32)) (l7 + (1 : Int32)) F3 L3 n7 (by omega) n3 (by omega) hl2 hs2 hE3 (cq_24 hc (by omega) y2 y3) (fun x hx => by rw [y2 19 (by first | decide | (simp; done) | (simp [ms_0]; done))]; exact ho x hx) h
          exact ⟨k2, s2, l2'', l3'', F2, L2, z1, fun rest => by rw [el rest, es]; exact z2 rest, z3, z4, z5, fun c hc => by rw [z6 c hc, y2 c hc], fun c hc => by rw [z7 c hc, y3 c hc], z8, z9⟩
        rcases y4 with ⟨u1, u2, u3, u4⟩ | ⟨E2, u1, u2, u3⟩
        · have h := P_p h u2
          refine step l2 s ?_ h2 (by omega) (by rw [u3, u4]; exact hE) h
          unfold so_st
          (try dsimp only)
          rw [u1]
        · have h := P_n h u2
          refine step (l2 + (1 : Int32)) (E2, s.2 + 1) ?_ ?_ (by show s.2 + 1 ≤ k + 1; omega) u3 h
          · unfold so_st
            (try dsimp only)
            rw [u1]
          · rw [i_add h2 (by first | decide | (simp; done) | (simp [ms_0]; done) : ((1 : Int32)).toInt = 1) (by omega) (by omega)]
            show (s.2 : Int) + 1 = ((s.2 + 1 : Nat) : Int)
            omega
      · exact ⟨k, s, l2, l3, FI, FL, hk, fun rest => by rw [so_n (by omega), so_n (by omega)], h3, h2, hsk, fun _ _ => rfl, fun _ _ => rfl, hE, h⟩
    · rw [h7, h6] at b1
      refine ⟨k, s, l2, l3, FI, FL, hk, fun rest => ?_, h3, h2, hsk, fun _ _ => rfl, fun _ _ => rfl, hE, h⟩
      rw [show B - i = 0 by omega]
      rfl
theorem crx_24 {FI F2 : Nat → Nat → Int32} {FL L2 : Nat → Nat → Int64} (h : crx FI FL FR SH 1 3 Q) (f : ∀ c, c ≠ 25 → F2 c = FI c) (g : ∀ c, c ≠ 24 → L2 c = FL c) : crx F2 L2 FR SH 1 3 Q := crx_fr h (fun r hr => f r (by have := hr.2; omega)) (f 1 (by first | decide | (simp; done) | (simp [ms_0]; done))) (fun i hi => ⟨f (3 + i) (by omega), g (3 + i) (by omega), rfl⟩)
theorem c_so32 {a1 : Int32} {N : Nat} {tp : Nat → Int32} (hS : h_S n SH) (t1 : tx FR 1 2 3) (hN : a1.toInt = N) (hN2 : N ≤ 512) (htp : ∀ x, 8 * x < N → 0 ≤ (tp x).toInt ∧ (tp x).toInt ≤ 255) : ∀ (g j k : Nat) (s : ms_E × Nat) (l2 l3 l4 : Int32) (FI : Nat → Nat → Int32) (FL : Nat → Nat → Int64), l4.toInt = j → j ≤ Q.2.length → l3.toInt = k → k ≤ N → l2.toInt = s.2 → s.2 ≤ k → cE FI FL FR SH s.1 → crx FI FL FR SH 1 3 Q → (∀ x, 8 * x < N → FI 19 x = tp x) → GX11_store_32 a1 g l2 l3 l4 n sl SH FI FL FR v st → v.toInt = (so tp N (pl_f (pl_B Q.1 N) (Q.2.reverse.drop j)) k s).2 ∧ ∃ F1 F2 L2, st = (n, sl, SH, F2, L2, FR) ∧ F2 = h_up F1 0 9 ((0 : Int32)) ∧ (∀ c, c ≠ 25 → F1 c = FI c) ∧ (∀ c, c ≠ 24 → L2 c = FL c) ∧ cE F1 L2 FR SH (so tp N (pl_f (pl_B Q.1 N) (Q.2.reverse.drop j)) k s).1 := by
  intro g
  induction g with
  | zero => intro j k s l2 l3 l4 FI FL _ _ _ _ _ _ _ _ _ h; exact h.elim
  | succ g ih =>
    intro j k s l2 l3 l4 FI FL h4 hj h3 hk h2 hsk hE hQ ho h
    have hn := crx_n hQ
    have h16 := hQ.2.2.1
    rcases h with ⟨b1, -, h⟩ | ⟨b1, e1, e⟩
    · rw [h4, hn] at b1
      obtain ⟨p, hp⟩ := lx_i (L := Q.2.reverse) (i := j) (by rw [List.length_reverse]; omega)
      obtain ⟨hc, hjl⟩ := cq_at hQ hp
      have er : FR 2 l4.toInt.toNat = some (3 + j) := by
        rw [show l4.toInt.toNat = j by omega]
        exact t1.2 j (by omega)
      have el : pl_f (pl_B Q.1 N) (Q.2.reverse.drop j) = pl_1 p (pl_B Q.1 N p - 0) 0 ++ pl_f (pl_B Q.1 N) (Q.2.reverse.drop (j + 1)) := by
        rw [pl_f_r]
        unfold pl_r
        rw [hp]
      have nj : (l4 + (1 : Int32)).toInt = ((j + 1 : Nat) : Int) := by
        rw [i_add h4 (by first | decide | (simp; done) | (simp [ms_0]; done) : ((1 : Int32)).toInt = 1) (by omega) (by omega)]
        omega
      have go : ∀ l6 : Int32, l6.toInt = ((pl_B Q.1 N p : Nat) : Int) → pl_B Q.1 N p ≤ 4096 → RX11_store_80 (GX11_store_32 a1 g) a1 l2 l3 l4 (FR 2 l4.toInt.toNat) l6 ((0 : Int32)) n sl SH FI FL FR v st → v.toInt = (so tp N (pl_f (pl_B Q.1 N) (Q.2.reverse.drop j)) k s).2 ∧ ∃ F1 F2 L2, st = (n, sl, SH, F2, L2, FR) ∧ F2 = h_up F1 0 9 ((0 : Int32)) ∧ (∀ c, c ≠ 25 → F1 c = FI c) ∧ (∀ c, c ≠ 24 → L2 c = FL c) ∧ cE F1 L2 FR SH (so tp N (pl_f (pl_B Q.1 N) (Q.2.reverse.drop j)) k s).1 := by
        intro l6 h6 hB h
        obtain ⟨g2, h⟩ := h
        rw [er] at h
        obtain ⟨k2, s2, l2', l3', F2, L2, z1, z2, z3, z4, z5, z6, z7, z8, z9⟩ := c_so80 hS hN hN2 h6 hB (by omega) htp g2 0 k s l2 l3 0 FI FL (by first | decide | (simp; done) | (simp [ms_0]; done)) (by omega) h3 hk h2 hsk hE hc ho h
        rw [el, z2]
        obtain ⟨y1, F3, F4, L3, y2, y3, y4, y5, y6⟩ := ih (j + 1) k2 s2 l2' l3' (l4 + (1 : Int32)) F2 L2 nj (by omega) z3 z1 z4 z5 z8 (crx_24 hQ z6 z7) (fun x hx => by rw [z6 19 (by first | decide | (simp; done) | (simp [ms_0]; done))]; exact ho x hx) z9
        exact ⟨y1, F3, F4, L3, y2, y3, fun c hc => by rw [y4 c hc, z6 c hc], fun c hc => by rw [y5 c hc, z7 c hc], y6⟩
      rcases h with ⟨b2, h⟩ | ⟨b2, c4, e4, h⟩
      · have hf : Q.1 = false := by
          cases e : Q.1 with
          | false => rfl
          | true => have := hQ.2.1 e; exfalso; omega
        have eB : pl_B Q.1 N p = N := by unfold pl_B; rw [hf, if_neg (by first | decide | (simp; done) | (simp [ms_0]; done))]
        exact go a1 (by rw [eB]; exact hN) (by rw [eB]; omega) h
      · have ht : Q.1 = true := by
          cases e : Q.1 with
          | true => rfl
          | false => exact absurd (hQ.1 e) b2
        have eB : pl_B Q.1 N p = p.2.1.toNat := by unfold pl_B; rw [ht, if_pos rfl]
        rw [er] at e4
        cases e4
        obtain ⟨c1, c2, c3, c5, c6, c7, c8⟩ := hc
        exact go (FI (3 + j) 2) (by rw [eB, c2]; omega) (by rw [eB]; omega) h
    · rw [h4, hn] at b1
      have ej : j = Q.2.length := by omega
      rw [List.drop_eq_nil_of_le (by rw [List.length_reverse]; omega)]
      exact ⟨by rw [e1]; exact h2, FI, _, FL, e, rfl, fun _ _ => rfl, fun _ _ => rfl, hE⟩
theorem c_store {a1 : Int32} {N T : Nat} {tp : Nat → Int32} {FI : Nat → Nat → Int32} {FL : Nat → Nat → Int64} (hS : h_S n SH) (t1 : tx FR 1 2 3) (hN : a1.toInt = N) (h1 : 1 ≤ N) (hN2 : N ≤ 512) (hT : (FI 0 9).toInt = T) (hT2 : T ≤ 1000) (ht : ∀ x, x < T → FI 19 x = tp x) (htp : ∀ x, x < T → 0 ≤ (tp x).toInt ∧ (tp x).toInt ≤ 255) (hE : cE FI FL FR SH E) (hQ : crx FI FL FR SH 1 3 Q) (h : RX11_store a1 n sl SH FI FL FR v st) : (8 * T < N ∧ v = -1 ∧ st = (n, sl, SH, FI, FL, FR)) ∨ (N ≤ 8 * T ∧ v.toInt = (so tp N (pl_Q N Q) 0 (E, 0)).2 ∧ ∃ F1 F2 L2, st = (n, sl, SH, F2, L2, FR) ∧ F2 = h_up F1 0 9 ((0 : Int32)) ∧ (∀ c, c ≠ 25 → F1 c = FI c) ∧ (∀ c, c ≠ 24 → L2 c = FL c) ∧ cE F1 L2 FR SH (so tp N (pl_Q N Q) 0 (E, 0)).1) := by
  have h := P_n h (by rw [hN, show ((1 : Int32)).toInt = 1 by first | decide | (simp; done) | (simp [ms_0]; done)]; omega)
  have h := P_n h (by rw [hN, show ((512 : Int32)).toInt = 512 by first | decide | (simp; done) | (simp [ms_0]; done)]; omega)
  rw [hN, i_mul hT (by first | decide | (simp; done) | (simp [ms_0]; done) : ((8 : Int32)).toInt = 8) (by omega) (by omega)] at h
  rcases h with ⟨h0, e1, e⟩ | ⟨h0, g, h⟩
  · exact Or.inl ⟨by omega, e1, e⟩
  · obtain ⟨y1, F1, F2, L2, y2, y3, y4, y5, y6⟩ := c_so32 (Q := Q) hS t1 hN hN2 (fun x hx => htp x (by omega)) g 0 0 (E, 0) 0 0 0 FI FL (by first | decide | (simp; done) | (simp [ms_0]; done)) (by omega) (by first | decide | (simp; done) | (simp [ms_0]; done)) (by omega) (by first | decide | (simp; done) | (simp [ms_0]; done)) (by first | decide | (simp; done) | (simp [ms_0]; done)) hE hQ (fun x hx => ht x (by omega)) h
    exact Or.inr ⟨by omega, y1, F1, F2, L2, y2, y3, y4, y5, y6⟩
end CSO
