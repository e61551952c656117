/-! THE REFERENCE'S store, fetch: whole. -/
section RSO
variable {n sl : Nat} {SH : Nat → Nat × Nat} {FI : Nat → Nat → Int32} {FL : Nat → Nat → Int64} {FR : Nat → Nat → Option Nat} {st : hS} {E : ms_E} {v : Int32}
theorem rE_f2 {F2 : Nat → Nat → Int32} {L2 : Nat → Nat → Int64} (h : rE FI FL SH E) (e1 : F2 123 = FI 123) (e2 : F2 124 = FI 124) (e3 : F2 125 = FI 125) (e4 : ∀ k, 5 ≤ k → k ≤ 11 → F2 121 k = FI 121 k) (e5 : ∀ k, 5 ≤ k → k ≤ 11 → L2 121 k = FL 121 k) (e6 : L2 122 = FL 122) : rE F2 L2 SH E := by
  obtain ⟨h1, h2, h3, h4, h5, h6, h7, h8⟩ := h
  refine ⟨by rw [e6]; exact h1, by rw [e1]; exact h2, fun k hk => ?_, by rw [e4 5 (by first | decide | (simp; done) | (simp [ms_0]; done)) (by first | decide | (simp; done) | (simp [ms_0]; done))]; exact h4, by rw [e4 6 (by first | decide | (simp; done) | (simp [ms_0]; done)) (by first | decide | (simp; done) | (simp [ms_0]; done))]; exact h5, by rw [e5 7 (by first | decide | (simp; done) | (simp [ms_0]; done)) (by first | decide | (simp; done) | (simp [ms_0]; done))]; exact h6, by rw [e4 10 (by first | decide | (simp; done) | (simp [ms_0]; done)) (by first | decide | (simp; done) | (simp [ms_0]; done)), e5 8 (by first | decide | (simp; done) | (simp [ms_0]; done)) (by first | decide | (simp; done) | (simp [ms_0]; done))]; exact h7, by rw [e4 11 (by first | decide | (simp; done) | (simp [ms_0]; done)) (by first | decide | (simp; done) | (simp [ms_0]; done)), e5 9 (by first | decide | (simp; done) | (simp [ms_0]; done)) (by first | decide | (simp; done) | (simp [ms_0]; done))]; exact h8⟩
  rw [e3]
  exact ⟨(h3 k hk).1, (h3 k hk).2.1, bk_fr (h3 k hk).2.2 e2⟩
theorem rE_um {a : Nat} {x : Int32} (h : rE FI FL SH E) : rE (h_up FI 123 a x) FL SH (ms_um E a x) := by
  obtain ⟨h1, h2, h3, h4, h5, h6, h7, h8⟩ := h
  refine ⟨h1, fun i hi => ?_, fun k hk => ?_, ?_, ?_, h6, ?_, ?_⟩
  · show h_up FI 123 a x 123 i = va_up (ms_mm E) a x i
    by_cases e : i = a
    · subst e
      rw [h_up_eq, va_s]
    · rw [h_up_ne e, va_o e]
      exact h2 i hi
  · rw [h_up_nc (by first | decide | (simp; done) | (simp [ms_0]; done))]
    exact ⟨(h3 k hk).1, (h3 k hk).2.1, bk_fr (h3 k hk).2.2 (h_up_nc (by first | decide | (simp; done) | (simp [ms_0]; done)))⟩
  · rw [h_up_nc (by first | decide | (simp; done) | (simp [ms_0]; done))]; exact h4
  · rw [h_up_nc (by first | decide | (simp; done) | (simp [ms_0]; done))]; exact h5
  · rw [h_up_nc (by first | decide | (simp; done) | (simp [ms_0]; done))]; exact h7
  · rw [h_up_nc (by first | decide | (simp; done) | (simp [ms_0]; done))]; exact h8
theorem rE_ur {r : Nat} {x : Int64} (h : rE FI FL SH E) : rE FI (h_up FL 122 r x) SH (ms_ur E r x) := by
  obtain ⟨h1, h2, h3, h4, h5, h6, h7, h8⟩ := h
  refine ⟨fun i hi => ?_, h2, h3, h4, h5, ?_, ?_, ?_⟩
  · show h_up FL 122 r x 122 i = va_up (ms_rg E) r x i
    by_cases e : i = r
    · subst e
      rw [h_up_eq, va_s]
    · rw [h_up_ne e, va_o e]
      exact h1 i hi
  · rw [h_up_nc (by first | decide | (simp; done) | (simp [ms_0]; done))]; exact h6
  · rw [h_up_nc (by first | decide | (simp; done) | (simp [ms_0]; done))]; exact h7
  · rw [h_up_nc (by first | decide | (simp; done) | (simp [ms_0]; done))]; exact h8
theorem so_mem {H : ms_H} {i : Nat} {b : Int32} {E2 : ms_E} (hm : rE_mem E) (hb : b = 0 ∨ b = 1) (h : so_1 E H i b = some E2) : rE_mem E2 := by
  unfold so_1 at h
  by_cases h1 : H.1 = 1
  · rw [if_pos h1] at h
    by_cases h2 : (H.2.1 + Int64.ofNat (i / 8)).toInt < 0 ∨ 4095 < (H.2.1 + Int64.ofNat (i / 8)).toInt
    · rw [if_pos h2] at h; cases h
    · rw [if_neg h2] at h
      rw [← Option.some.inj h]
      intro a ha
      show 0 ≤ (va_up (ms_mm E) _ _ a).toInt ∧ (va_up (ms_mm E) _ _ a).toInt ≤ 255
      by_cases e : a = (H.2.1 + Int64.ofNat (i / 8)).toInt.toNat
      · subst e
        rw [va_s]
        have := hm _ ha
        exact sb8_rg this.1 this.2 (Nat.mod_lt _ (by first | decide | (simp; done) | (simp [ms_0]; done))) hb
      · rw [va_o e]
        exact hm a ha
  · rw [if_neg h1] at h
    by_cases h2 : H.1 = 2
    · rw [if_pos h2] at h
      by_cases h3 : 63 < i
      · rw [if_pos h3] at h; cases h
      · rw [if_neg h3] at h
        rw [← Option.some.inj h]
        exact hm
    · rw [if_neg h2] at h; cases h
theorem r_puts {j i : Nat} {p : ms_P} {a1 b : Int32} {a2 : Int64} (hE : rE FI FL SH E) (h1 : a1.toInt = j) (hj : j < 16) (hp : rp FI FL j p) (h2 : a2.toInt = i) (hi : i ≤ 10000) (h : RX12_puts_ a1 a2 b n sl SH FI FL FR v st) : ∃ F2 L2, st = (n, sl, SH, F2, L2, FR) ∧ (∀ c, c ≠ 123 → F2 c = FI c) ∧ (∀ c, c ≠ 122 → L2 c = FL c) ∧ ((so_1 E p.1 i b = none ∧ v.toInt = 0 ∧ F2 = FI ∧ L2 = FL) ∨ (∃ E2, so_1 E p.1 i b = some E2 ∧ ¬ v.toInt = 0 ∧ rE F2 L2 SH E2)) := by
  obtain ⟨p1, p2, p3, p4, p5, p6, p7, p8⟩ := hp
  obtain ⟨d1, d2⟩ := q_d8 h2 (by omega)
  have no : so_1 E p.1 i b = none → v = 0 → st = (n, sl, SH, FI, FL, FR) → ∃ F2 L2, st = (n, sl, SH, F2, L2, FR) ∧ (∀ c, c ≠ 123 → F2 c = FI c) ∧ (∀ c, c ≠ 122 → L2 c = FL c) ∧ ((so_1 E p.1 i b = none ∧ v.toInt = 0 ∧ F2 = FI ∧ L2 = FL) ∨ (∃ E2, so_1 E p.1 i b = some E2 ∧ ¬ v.toInt = 0 ∧ rE F2 L2 SH E2)) := fun q1 q2 q3 => ⟨FI, FL, q3, fun _ _ => rfl, fun _ _ => rfl, Or.inl ⟨q1, by rw [q2]; (first | decide | (simp; done) | (simp [ms_0]; done)), rfl, rfl⟩⟩
  obtain ⟨-, h⟩ := h
  rw [show a1.toInt.toNat = j by omega, p1, show ((1 : Int32)).toInt = 1 by first | decide | (simp; done) | (simp [ms_0]; done)] at h
  rcases h with ⟨k1, h⟩ | ⟨k1, h⟩
  · obtain ⟨-, -, h⟩ := h
    rw [p2, d1, show ((0 : Int64)).toInt = 0 by first | decide | (simp; done) | (simp [ms_0]; done)] at h
    rcases h with ⟨g1, e1, e⟩ | ⟨g1, h⟩
    · exact no (by unfold so_1; rw [if_pos k1, if_pos (Or.inl g1)]) e1 e
    rw [show ((4095 : Int64)).toInt = 4095 by first | decide | (simp; done) | (simp [ms_0]; done)] at h
    rcases h with ⟨g2, e1, e⟩ | ⟨g2, h⟩
    · exact no (by unfold so_1; rw [if_pos k1, if_pos (Or.inr g2)]) e1 e
    · obtain ⟨-, -, -, e1, e⟩ := h
      have d2' : ((a2 - Int64.ofNat (i / 8) * (8 : Int64)).toInt32) &&& (31 : Int32) = Int32.ofNat (i % 8) := by rw [← d1]; exact d2
      rw [d2', l_2i (A := (p.1.2.1 + Int64.ofNat (i / 8)).toInt) rfl (by omega) (by omega), hE.2.1 _ (by omega)] at e
      refine ⟨_, _, e, fun c hc => h_up_nc hc, fun _ _ => rfl, Or.inr ⟨_, ?_, by rw [e1]; (first | decide | (simp; done) | (simp [ms_0]; done)), rE_um hE⟩⟩
      unfold so_1
      rw [if_pos k1, if_neg (fun e => e.elim g1 g2)]
      rfl
  · rw [show ((2 : Int32)).toInt = 2 by first | decide | (simp; done) | (simp [ms_0]; done)] at h
    rcases h with ⟨k2, h⟩ | ⟨k2, e1, e⟩
    · rw [h2, show ((63 : Int64)).toInt = 63 by first | decide | (simp; done) | (simp [ms_0]; done)] at h
      rcases h with ⟨g, e1, e⟩ | ⟨g, h⟩
      · exact no (by unfold so_1; rw [if_neg k1, if_pos k2, if_pos (by omega)]) e1 e
      · have hr : 0 ≤ p.1.2.1.toInt ∧ p.1.2.1.toInt ≤ 31 := by
          rcases p5 with q | q | q | q | q
          · exfalso; have := q.1; omega
          · exfalso; have := q.1; omega
          · exact q.2.2
          · exfalso; have := q.1; omega
          · exfalso; have := q.1; omega
        obtain ⟨-, -, -, e1, e⟩ := h
        rw [p2, q_63 h2 (by omega), l_2i (A := p.1.2.1.toInt) rfl (by omega) (by omega), hE.1 _ (by omega)] at e
        refine ⟨_, _, e, fun _ _ => rfl, fun c hc => h_up_nc hc, Or.inr ⟨_, ?_, by rw [e1]; (first | decide | (simp; done) | (simp [ms_0]; done)), rE_ur hE⟩⟩
        unfold so_1
        rw [if_neg k1, if_pos k2, if_neg (by omega)]
        rfl
    · exact no (by unfold so_1; rw [if_neg k1, if_neg k2]) e1 e
end RSO
section RSP
variable {n sl : Nat} {SH : Nat → Nat × Nat} {FR : Nat → Nat → Option Nat} {st : hS} {v : Int32}
theorem r_so47 {a1 : Int32} {Q : ms_Q} {N : Nat} {tp : Nat → Int32} (hN : a1.toInt = N) (hN2 : N ≤ 512) (htp : ∀ x, 8 * x < N → 0 ≤ (tp x).toInt ∧ (tp x).toInt ≤ 255) : ∀ (g k j i : Nat) (s : ms_E × Nat) (l2 l3 : Int32) (FI : Nat → Nat → Int32) (FL : Nat → Nat → Int64), l3.toInt = k → l2.toInt = s.2 → s.2 ≤ k → k ≤ N → rr FI FL Q → rE FI FL SH s.1 → rE_mem s.1 → (∀ x, 8 * x < N → FI 126 x = tp x) → (FI 121 58).toInt = j → (FI 121 59).toInt = i → i ≤ 10000 → (Q.1 = false → i = k ∧ j = 0) → GX12_store_47 a1 g l2 l3 n sl SH FI FL FR v st → v.toInt = (so tp N (pl_r (pl_B Q.1 N) Q.2.reverse j i) k s).2 ∧ ∃ F2 L2, st = (n, sl, SH, F2, L2, FR) ∧ (∀ c, c ≠ 121 → c ≠ 123 → F2 c = FI c) ∧ (∀ c, c ≠ 122 → L2 c = FL c) ∧ (∀ x, x ≠ 58 → x ≠ 59 → x ≠ 13 → F2 121 x = FI 121 x) ∧ F2 121 13 = 0 ∧ rE F2 L2 SH (so tp N (pl_r (pl_B Q.1 N) Q.2.reverse j i) k s).1 ∧ rE_mem (so tp N (pl_r (pl_B Q.1 N) Q.2.reverse j i) k s).1 := by
  intro g
  induction g with
  | zero => intro k j i s l2 l3 FI FL _ _ _ _ _ _ _ _ _ _ _ _ h; exact h.elim
  | succ g ih =>
    intro k j i s l2 l3 FI FL h3 h2 hsk hkN hr hE hm ho hj hi hik hns h
    rcases h with ⟨h0, h⟩ | ⟨h0, e1, e⟩
    · rw [h3, hN] at h0
      obtain ⟨v1, n1, sl1, SH1, FI1, FL1, FR1, hg, h⟩ := h
      obtain ⟨g2, hg⟩ := hg
      obtain ⟨j2, i2, F2, s1, s2, s3, s4, s5, s6, s7, s8, s9, s10⟩ := r_goes (N := N) g2 j i FI hr hj hi (by omega) (fun e => ⟨by have := (hns e).1; omega, (hns e).2⟩) hg
      first | (obtain ⟨zz1, zz2, zz3, zz4, zz5, zz6⟩ := st_c s1; (try subst zz1); (try subst zz2); (try subst zz3); (try subst zz4); (try subst zz5); (try subst zz6)) | cases s1
      have hr2 : rr F2 FL Q := rr_fr hr (fun c hc => s2 c (by omega)) rfl (s3 46 (by first | decide | (simp; done) | (simp [ms_0]; done)) (by first | decide | (simp; done) | (simp [ms_0]; done))) (s3 47 (by first | decide | (simp; done) | (simp [ms_0]; done)) (by first | decide | (simp; done) | (simp [ms_0]; done)))
      have hE2 : rE F2 FL SH s.1 := rE_f2 hE (s2 123 (by first | decide | (simp; done) | (simp [ms_0]; done))) (s2 124 (by first | decide | (simp; done) | (simp [ms_0]; done))) (s2 125 (by first | decide | (simp; done) | (simp [ms_0]; done))) (fun k _ _ => s3 k (by omega) (by omega)) (fun _ _ _ => rfl) rfl
      rw [s7]
      rcases h with ⟨h1, e1, e⟩ | ⟨h1, -, h⟩
      · rw [s8.mp h1]
        refine ⟨by rw [e1]; exact h2, _, _, e, fun c c1 _ => by rw [h_up_nc c1, s2 c c1], fun _ _ => rfl, fun x x1 x2 x3 => by rw [h_up_ne x3, s3 x x1 x2], h_up_eq, ?_, hm⟩
        exact rE_f2 hE2 (h_up_nc (by first | decide | (simp; done) | (simp [ms_0]; done))) (h_up_nc (by first | decide | (simp; done) | (simp [ms_0]; done))) (h_up_nc (by first | decide | (simp; done) | (simp [ms_0]; done))) (fun k _ _ => h_up_ne (by omega)) (fun _ _ _ => rfl) rfl
      · obtain ⟨hj2, p, hp, hi2⟩ := s9 h1
        obtain ⟨hpp, -⟩ := rp_at hr2 hp
        have hl16 := hr.2.2.1.2
        obtain ⟨p1, p2, p3, p4, p5, p6, p7, p8⟩ := id hpp
        have i2b : i2 ≤ 4096 + 512 := by
          unfold pl_B at hi2
          split at hi2
          · omega
          · omega
        have ea : ((F2 146 (F2 121 58).toInt.toNat).toInt64 + (F2 121 59).toInt64).toInt = ((p.2.2.toNat + i2 : Nat) : Int) := by
          rw [show (F2 121 58).toInt.toNat = j2 by omega, l_add (i_2l p4) (i_2l s5) (by omega) (by omega)]
          omega
        obtain ⟨d1, d2, d3⟩ := q_i8 h3 (by omega)
        obtain ⟨-, -, -, v4, n4, sl4, SH4, FI4, FL4, FR4, hpu, h⟩ := h
        rw [show (l3 / (8 : Int32)).toInt.toNat = k / 8 by omega, d2, s2 126 (by first | decide | (simp; done) | (simp [ms_0]; done)), ho (k / 8) (by omega)] at hpu
        have hbb := htp (k / 8) (by omega)
        have hb01 := bt8_01 (k := k % 8) hbb.1 hbb.2 (Nat.mod_lt _ (by first | decide | (simp; done) | (simp [ms_0]; done)))
        obtain ⟨F3, L3, t1, t2, t3, t4⟩ := r_puts (b := bt8 (tp (k / 8)) (k % 8)) hE2 s4 (by omega) hpp ea (by omega) hpu
        first | (obtain ⟨zz1, zz2, zz3, zz4, zz5, zz6⟩ := st_c t1; (try subst zz1); (try subst zz2); (try subst zz3); (try subst zz4); (try subst zz5); (try subst zz6)) | cases t1
        rw [pl_r_c hp hi2, so, if_pos (by omega)]
        have n59 : (F3 121 59 + (1 : Int32)).toInt = ((i2 + 1 : Nat) : Int) := by
          rw [t2 121 (by first | decide | (simp; done) | (simp [ms_0]; done)), i_add s5 (by first | decide | (simp; done) | (simp [ms_0]; done) : ((1 : Int32)).toInt = 1) (by omega) (by omega)]
          omega
        have nk : (l3 + (1 : Int32)).toInt = ((k + 1 : Nat) : Int) := by
          rw [i_add h3 (by first | decide | (simp; done) | (simp [ms_0]; done) : ((1 : Int32)).toInt = 1) (by omega) (by omega)]
          omega
        have e121 : F3 121 = F2 121 := t2 121 (by first | decide | (simp; done) | (simp [ms_0]; done))
        have hr3 : rr (h_up F3 121 59 (F3 121 59 + (1 : Int32))) L3 Q := rr_fr hr2 (fun c hc => by rw [h_up_nc (by omega), t2 c (by omega)]) (t3 144 (by first | decide | (simp; done) | (simp [ms_0]; done))) (by rw [h_up_ne (by first | decide | (simp; done) | (simp [ms_0]; done)), e121]) (by rw [h_up_ne (by first | decide | (simp; done) | (simp [ms_0]; done)), e121])
        have step : ∀ (l2' : Int32) (s' : ms_E × Nat), so_st tp k (p, i2) s = s' → l2'.toInt = s'.2 → s'.2 ≤ k + 1 → rE F3 L3 SH s'.1 → rE_mem s'.1 → GX12_store_47 a1 g l2' (l3 + (1 : Int32)) n sl SH (h_up F3 121 59 (F3 121 59 + (1 : Int32))) L3 FR v st → v.toInt = (so tp N (pl_r (pl_B Q.1 N) Q.2.reverse j2 (i2 + 1)) (k + 1) (so_st tp k (p, i2) s)).2 ∧ ∃ F4 L4, st = (n, sl, SH, F4, L4, FR) ∧ (∀ c, c ≠ 121 → c ≠ 123 → F4 c = FI c) ∧ (∀ c, c ≠ 122 → L4 c = FL c) ∧ (∀ x, x ≠ 58 → x ≠ 59 → x ≠ 13 → F4 121 x = FI 121 x) ∧ F4 121 13 = 0 ∧ rE F4 L4 SH (so tp N (pl_r (pl_B Q.1 N) Q.2.reverse j2 (i2 + 1)) (k + 1) (so_st tp k (p, i2) s)).1 ∧ rE_mem (so tp N (pl_r (pl_B Q.1 N) Q.2.reverse j2 (i2 + 1)) (k + 1) (so_st tp k (p, i2) s)).1 := by
          intro l2' s' es hl2 hs2 hE3 hm3 h
          rw [es]
          have hE4 : rE (h_up F3 121 59 (F3 121 59 + (1 : Int32))) L3 SH s'.1 := rE_f2 hE3 (h_up_nc (by first | decide | (simp; done) | (simp [ms_0]; done))) (h_up_nc (by first | decide | (simp; done) | (simp [ms_0]; done))) (h_up_nc (by first | decide | (simp; done) | (simp [ms_0]; done))) (fun k _ _ => h_up_ne (by omega)) (fun _ _ _ => rfl) rfl
          obtain ⟨y1, F4, L4, y2, y3, y4, y5, y6, y7, y8⟩ := ih (k + 1) j2 (i2 + 1) s' l2' (l3 + (1 : Int32)) _ L3 nk hl2 hs2 (by omega) hr3 hE4 hm3 (fun x hx => by rw [h_up_nc (by first | decide | (simp; done) | (simp [ms_0]; done)), t2 126 (by first | decide | (simp; done) | (simp [ms_0]; done)), s2 126 (by first | decide | (simp; done) | (simp [ms_0]; done))]; exact ho x hx) (by rw [h_up_ne (by first | decide | (simp; done) | (simp [ms_0]; done)), e121]; exact s4) (by rw [h_up_eq]; exact n59) (by omega) (fun e => ⟨by have := (s10 e).2; have := (hns e).1; omega, by have := (s10 e).1; have := (hns e).2; omega⟩) h
          exact ⟨y1, F4, L4, y2, fun c c1 c2 => by rw [y3 c c1 c2, h_up_nc c1, t2 c c2, s2 c c1], fun c c1 => by rw [y4 c c1, t3 c c1], fun x x1 x2 x3 => by rw [y5 x x1 x2 x3, h_up_ne x2, e121, s3 x x1 x2], y6, y7, y8⟩
        rcases t4 with ⟨u1, u2, u3, u4⟩ | ⟨E2, u1, u2, u3⟩
        · have h := P_p h u2
          refine step l2 s ?_ h2 (by omega) (by rw [u3, u4]; exact hE2) hm h
          unfold so_st
          (try dsimp only)
          rw [u1]
        · have h := P_n h u2
          refine step (l2 + (1 : Int32)) (E2, s.2 + 1) ?_ ?_ (by show s.2 + 1 ≤ k + 1; omega) u3 (so_mem hm hb01 u1) h
          · unfold so_st
            (try dsimp only)
            rw [u1]
          · rw [i_add h2 (by first | decide | (simp; done) | (simp [ms_0]; done) : ((1 : Int32)).toInt = 1) (by omega) (by omega)]
            show (s.2 : Int) + 1 = ((s.2 + 1 : Nat) : Int)
            omega
    · rw [h3, hN] at h0
      rw [so_n (by omega)]
      refine ⟨by rw [e1]; exact h2, _, _, e, fun c c1 _ => h_up_nc c1, fun _ _ => rfl, fun x _ _ x3 => h_up_ne x3, h_up_eq, ?_, hm⟩
      exact rE_f2 hE (h_up_nc (by first | decide | (simp; done) | (simp [ms_0]; done))) (h_up_nc (by first | decide | (simp; done) | (simp [ms_0]; done))) (h_up_nc (by first | decide | (simp; done) | (simp [ms_0]; done))) (fun k _ _ => h_up_ne (by omega)) (fun _ _ _ => rfl) rfl
/-- what the reference's store leaves -/
theorem r_store {a1 : Int32} {Q : ms_Q} {N T : Nat} {E : ms_E} {tp : Nat → Int32} {FI : Nat → Nat → Int32} {FL : Nat → Nat → Int64} (hN : a1.toInt = N) (h1 : 1 ≤ N) (hN2 : N ≤ 512) (hT : (FI 121 13).toInt = T) (hT2 : T ≤ 1000) (hr : rr FI FL Q) (hE : rE FI FL SH E) (hm : rE_mem E) (ht : ∀ x, x < T → FI 126 x = tp x) (htp : ∀ x, x < T → 0 ≤ (tp x).toInt ∧ (tp x).toInt ≤ 255) (h : RX12_store a1 n sl SH FI FL FR v st) : (8 * T < N ∧ v = -1 ∧ st = (n, sl, SH, h_up FI 121 0 ((0 : Int32)), FL, FR)) ∨ (N ≤ 8 * T ∧ v.toInt = (so tp N (pl_Q N Q) 0 (E, 0)).2 ∧ ∃ F2 L2, st = (n, sl, SH, F2, L2, FR) ∧ (∀ c, c ≠ 121 → c ≠ 123 → F2 c = FI c) ∧ (∀ c, c ≠ 122 → L2 c = FL c) ∧ (∀ x, x ≠ 0 → x ≠ 58 → x ≠ 59 → x ≠ 13 → F2 121 x = FI 121 x) ∧ F2 121 13 = 0 ∧ rE F2 L2 SH (so tp N (pl_Q N Q) 0 (E, 0)).1 ∧ rE_mem (so tp N (pl_Q N Q) 0 (E, 0)).1) := by
  have h := P_n h (by rw [hN, show ((1 : Int32)).toInt = 1 by first | decide | (simp; done) | (simp [ms_0]; done)]; omega)
  have h := P_n h (by rw [hN, show ((512 : Int32)).toInt = 512 by first | decide | (simp; done) | (simp [ms_0]; done)]; omega)
  obtain ⟨-, h⟩ := h
  have e7 : ((a1 + (7 : Int32)) / (8 : Int32)).toInt = (((N + 7) / 8 : Nat) : Int) := by
    rw [i_div (i_add hN (by first | decide | (simp; done) | (simp [ms_0]; done) : ((7 : Int32)).toInt = 7) (by omega) (by omega)) (by first | decide | (simp; done) | (simp [ms_0]; done) : ((8 : Int32)).toInt = 8) (by omega) (by first | decide | (simp; done) | (simp [ms_0]; done))]
    omega
  rw [hT, e7] at h
  rcases h with ⟨h0, e1, e⟩ | ⟨h0, g, h⟩
  · exact Or.inl ⟨by omega, e1, e⟩
  · have F0 : ∀ c, c ≠ 121 → (h_up (h_up (h_up FI 121 0 ((0 : Int32))) 121 58 ((0 : Int32))) 121 59 ((0 : Int32))) c = FI c := fun c hc => by rw [h_up_nc hc, h_up_nc hc, h_up_nc hc]
    have F1 : ∀ k, k ≠ 0 → k ≠ 58 → k ≠ 59 → (h_up (h_up (h_up FI 121 0 ((0 : Int32))) 121 58 ((0 : Int32))) 121 59 ((0 : Int32))) 121 k = FI 121 k := fun k k0 k1 k2 => by rw [h_up_ne k2, h_up_ne k1, h_up_ne k0]
    have eq : pl_Q N Q = pl_r (pl_B Q.1 N) Q.2.reverse 0 0 := by
      unfold pl_Q
      rw [← pl_f_r]
      rfl
    rw [eq]
    obtain ⟨y1, F4, L4, y2, y3, y4, y5, y6, y7, y8⟩ := r_so47 (tp := tp) hN hN2 (fun x hx => htp x (by omega)) g 0 0 0 (E, 0) 0 0 _ FL (by first | decide | (simp; done) | (simp [ms_0]; done)) (by first | decide | (simp; done) | (simp [ms_0]; done)) (by first | decide | (simp; done) | (simp [ms_0]; done)) (by omega) (rr_fr hr (fun c hc => F0 c (by omega)) rfl (F1 46 (by first | decide | (simp; done) | (simp [ms_0]; done)) (by first | decide | (simp; done) | (simp [ms_0]; done)) (by first | decide | (simp; done) | (simp [ms_0]; done))) (F1 47 (by first | decide | (simp; done) | (simp [ms_0]; done)) (by first | decide | (simp; done) | (simp [ms_0]; done)) (by first | decide | (simp; done) | (simp [ms_0]; done)))) (rE_f2 hE (F0 123 (by first | decide | (simp; done) | (simp [ms_0]; done))) (F0 124 (by first | decide | (simp; done) | (simp [ms_0]; done))) (F0 125 (by first | decide | (simp; done) | (simp [ms_0]; done))) (fun k _ _ => F1 k (by omega) (by omega) (by omega)) (fun _ _ _ => rfl) rfl) hm (fun x hx => by rw [F0 126 (by first | decide | (simp; done) | (simp [ms_0]; done))]; exact ht x (by omega)) (by rw [h_up_x (by first | decide | (simp; done) | (simp [ms_0]; done)), h_up_eq]; (first | decide | (simp; done) | (simp [ms_0]; done))) (by rw [h_up_eq]; (first | decide | (simp; done) | (simp [ms_0]; done))) (by first | decide | (simp; done) | (simp [ms_0]; done)) (fun _ => ⟨rfl, rfl⟩) h
    exact Or.inr ⟨by omega, y1, F4, L4, y2, fun c c1 c2 => by rw [y3 c c1 c2, F0 c c1], y4, fun x x0 x1 x2 x3 => by rw [y5 x x1 x2 x3, F1 x x0 x1 x2], y6, y7, y8⟩
/-- zeros ahead of a fetch -/
theorem r_fe32 {a1 : Int32} {M : Nat} : ∀ (g k : Nat) (l2 : Int32) (FI : Nat → Nat → Int32) (FL : Nat → Nat → Int64), l2.toInt = k → k ≤ M → M ≤ 64 → (FI 121 61).toInt = M → (∀ x, x < k → FI 148 x = 0) → GX12_fetch_32 a1 g l2 n sl SH FI FL FR v st → ∃ F2, RX12_fetch_67 a1 ((0 : Int32)) ((0 : Int32)) n sl SH (h_up (h_up F2 121 58 ((0 : Int32))) 121 59 ((0 : Int32))) FL FR v st ∧ (∀ c, c ≠ 148 → F2 c = FI c) ∧ (∀ x, x < M → F2 148 x = 0) := by
  intro g
  induction g with
  | zero => intro k l2 FI FL _ _ _ _ _ h; exact h.elim
  | succ g ih =>
    intro k l2 FI FL h2 hk hM h61 hz h
    rcases h with ⟨h0, -, h⟩ | ⟨h0, h⟩
    · rw [h2, h61] at h0
      rw [show l2.toInt.toNat = k by omega] at h
      obtain ⟨F2, y1, y2, y3⟩ := ih (k + 1) (l2 + (1 : Int32)) _ FL (by rw [i_add h2 (by first | decide | (simp; done) | (simp [ms_0]; done) : ((1 : Int32)).toInt = 1) (by omega) (by omega)]; omega) (by omega) hM (by rw [h_up_nc (by first | decide | (simp; done) | (simp [ms_0]; done))]; exact h61) (fun x hx => by
        by_cases e : x = k
        · subst e; exact h_up_eq
        · rw [h_up_ne e]; exact hz x (by omega)) h
      exact ⟨F2, y1, fun c hc => by rw [y2 c hc, h_up_nc hc], y3⟩
    · rw [h2, h61] at h0
      exact ⟨FI, h, fun _ _ => rfl, fun x hx => hz x (by omega)⟩
end RSP
