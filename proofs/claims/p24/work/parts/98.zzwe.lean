/-! THE REFERENCE'S RUN of one row of bytes. -/
def rn_c (a1 a2 a3 l4 l6 l7 : Int32) (n sl : Nat) (SH : Nat → Nat × Nat) (FI : Nat → Nat → Int32) (FL : Nat → Nat → Int64) (FR : Nat → Nat → Option Nat) (v : Int32) (st : hS) (l o g : Nat) : Int ⊕ (Nat × ms_S) → Prop
  | .inl e => v.toInt = e
  | .inr y => ∃ g2 F2 L2, g2 ≤ g ∧ GX12_exec_18 a1 a2 a3 g2 l4 l7 l6 l7 n sl SH F2 L2 FR v st ∧ rv F2 L2 SH l y.2 ∧ gz l o FI FL F2 L2 ∧ (F2 121 30).toInt = (y.1 : Int) ∧ y.1 ≤ 1000
section RR
variable {a1 a2 a3 l4 l5 l6 l7 : Int32} {n sl : Nat} {SH : Nat → Nat × Nat} {FI F1 F2 F3 F4 : Nat → Nat → Int32} {FL L1 L2 L3 L4 : Nat → Nat → Int64} {FR : Nat → Nat → Option Nat} {v : Int32} {st : hS} {E : ms_E} {A l o f p g : Nat} {bs : List Int32} {s : ms_S}
theorem rn_up {g2 : Nat} {r : Int ⊕ (Nat × ms_S)} (h : rn_c a1 a2 a3 l4 l6 l7 n sl SH F1 L1 FR v st l o g2 r) (hg : g2 ≤ g) (gg : gz l o FI FL F1 L1) : rn_c a1 a2 a3 l4 l6 l7 n sl SH FI FL FR v st l o g r := by
  match r, h with
  | .inl e, h => exact h
  | .inr y, ⟨g3, F2, L2, h1, h2, h3, h4, h5, h6⟩ => exact ⟨g3, F2, L2, by omega, h2, h3, gz_tr gg h4, h5, h6⟩
theorem cf_lf (h : cf l o F1 F2) : lf l F1 L1 F2 L1 := ⟨h.1 124 (by decide) (by decide) (by decide) (by decide) (by decide), fun r hr => by rw [h.1 r (by omega) (by omega) (by omega) (by omega) (by omega)], fun r i hr _ _ => by rw [h.1 r (by omega) (by omega) (by omega) (by omega) (by omega)], rfl, fun _ _ _ => rfl, fun _ _ _ => rfl⟩
theorem cf_lf0 (h : cf l o F1 F2) : lf 0 F1 L1 F2 L1 := ⟨h.1 124 (by decide) (by decide) (by decide) (by decide) (by decide), fun r hr => by rw [h.1 r (by omega) (by omega) (by omega) (by omega) (by omega)], fun r i hr _ _ => by rw [h.1 r (by omega) (by omega) (by omega) (by omega) (by omega)], rfl, fun _ _ _ => rfl, fun _ _ _ => rfl⟩
theorem i_as (x : Int32) : x + (1 : Int32) - (1 : Int32) = x := by
  apply Int32.toBitVec_inj.mp
  show (x.toBitVec + 1#32) - 1#32 = x.toBitVec
  exact BitVec.add_sub_cancel _ _
/-- a call has been gone through -/
theorem cf_gf (h : cf l o F1 F2) (hg : gz l (o + 1) F2 L1 F3 L3) (e1 : ∀ c, c ≠ 121 → c ≠ 142 → F4 c = F3 c) (e2 : ∀ k, k ≠ 29 → k ≠ 33 → F4 121 k = F3 121 k) (e3 : F4 121 29 = F3 121 29 - (1 : Int32)) (e4 : ∀ i, i ≠ l → F4 142 i = F3 142 i) (e5 : F4 142 l = F3 142 l - (1 : Int32)) : gz l o F1 L1 F4 L3 := by
  obtain ⟨a1, a2, a3, a4, a5, a6⟩ := h
  obtain ⟨b1, b2, b3, b4, b5, b6⟩ := hg
  refine ⟨fun c hc => ⟨?_, (b1 c hc).2⟩, fun k hk => ⟨?_, (b2 k hk).2⟩, ?_, fun i hi => ⟨?_, ?_, ?_⟩, fun i hi => ?_, fun h1 => ?_⟩
  · rw [e1 c (by omega) (by omega), (b1 c hc).1, a1 c (by omega) (by omega) (by omega) (by omega) (by omega)]
  · rw [e2 k (by omega) (by omega), (b2 k hk).1, a2 k (by omega) (by omega)]
  · rw [e3, b3, a3, i_as]
  · rw [e1 139 (by decide) (by decide), (b4 i (by omega)).1, (a4 i (by omega)).1]
  · rw [e1 140 (by decide) (by decide), (b4 i (by omega)).2.1, (a4 i (by omega)).2.1]
  · rw [e1 141 (by decide) (by decide), (b4 i (by omega)).2.2, (a4 i (by omega)).2.2]
  · by_cases hi2 : i = l
    · rw [hi2, e5, b5 l (Nat.le_refl _), a6, i_as]
    · rw [e4 i hi2, b5 i hi, a5 i hi2]
  · obtain ⟨c1, c2, c3, c4, c5⟩ := b6 h1
    refine ⟨lf_tr (cf_lf0 ⟨a1, a2, a3, a4, a5, a6⟩) (lf_tr c1 ⟨e1 124 (by decide) (by decide), fun r hr => by rw [e1 r (by omega) (by omega)], fun r i hr _ _ => by rw [e1 r (by omega) (by omega)], rfl, fun _ _ _ => rfl, fun _ _ _ => rfl⟩), ?_, ?_, ?_, c5⟩
    · rw [e2 40 (by decide) (by decide), c2, a2 40 (by decide) (by decide)]
    · rw [e2 41 (by decide) (by decide), c3, a2 41 (by decide) (by decide)]
    · rw [e2 42 (by decide) (by decide), c4, a2 42 (by decide) (by decide)]
theorem bf_lf (h : bf F1 L1 F2 L2) : lf 0 F1 L1 F2 L2 := ⟨h.1 124 (by decide) (by decide) (by decide) (by decide) (by decide) (by decide), fun r hr => by
  by_cases h138 : r = 138
  · rw [h138, h.1 138 (by decide) (by decide) (by decide) (by decide) (by decide) (by decide)]
  · exact h.2.2.2.2.1 r 0 (by omega) (by decide), fun r i hr _ _ => by rw [h.1 r (by omega) (by omega) (by omega) (by omega) (by omega) (by omega)], by rw [h.2.1 137 (by decide)], fun i _ _ => by rw [h.2.1 127 (by decide)], fun i _ _ => by rw [h.2.1 131 (by decide)]⟩
theorem bf_gf (h : bf F1 L1 F2 L2) (hg : gz 1 o F2 L2 F3 L3) : gz 0 o F1 L1 F3 L3 := by
  obtain ⟨a1, a2, a3, a4, a5, a6⟩ := h
  obtain ⟨b1, b2, b3, b4, b5, b6⟩ := hg
  refine ⟨fun c hc => ⟨?_, ?_⟩, fun k hk => ⟨?_, ?_⟩, ?_, fun i hi => ⟨?_, ?_, ?_⟩, fun i hi => ?_, fun h1 => absurd h1 (by first | decide | simp)⟩
  · rw [(b1 c hc).1, a1 c (by omega) (by omega) (by omega) (by omega) (by omega) (by omega)]
  · rw [(b1 c hc).2, a2 c (by omega)]
  · rw [(b2 k hk).1, a3 k (by omega) (by omega)]
  · rw [(b2 k hk).2, a4 k (by omega)]
  · rw [b3, a3 29 (by omega) (by omega)]
  · rw [(b4 i hi).1, a1 139 (by decide) (by decide) (by decide) (by decide) (by decide) (by decide)]
  · rw [(b4 i hi).2.1, a1 140 (by decide) (by decide) (by decide) (by decide) (by decide) (by decide)]
  · rw [(b4 i hi).2.2, a1 141 (by decide) (by decide) (by decide) (by decide) (by decide) (by decide)]
  · have : i = 0 := by omega
    rw [this, b5 0 (by decide), a5 142 0 (by omega) (by decide)]
theorem bf_rv (h : bf F1 L1 F2 L2) : rv F2 L2 SH 1 ([], ms_0, []) := by
  have z := h.2.2.2.2.2
  have z0 : ((0 : Int32)).toInt = 0 := by decide
  exact ⟨by rw [z 128 (by omega)]; exact z0, by decide, trivial, ⟨by rw [z 136 (by omega)]; exact z0, Or.inl ⟨rfl, rfl⟩, fun e => absurd e (by first | decide | simp), fun e => absurd e (by first | decide | simp)⟩, by rw [z 129 (by omega)]; exact z0, by decide, by rw [z 135 (by omega)]; exact z0, by decide, by decide, trivial⟩
/-- the end of FRAME's run -/
theorem r_base {b1 : Int32} {n2 sl2 : Nat} {S2 : Nat → Nat × Nat} {R2 : Nat → Nat → Option Nat} (hE : rE FI FL SH E) (hv : rv FI FL SH 1 s) (h : RX12_isBase n sl SH FI FL FR b1 (n2, sl2, S2, F2, L2, R2)) (hp : s.2.2 ≠ [] → s.2.1.1 = 0 ∧ s.1 = []) : (∃ e, ms_bs E s = .inl e ∧ e = 11 ∧ b1 = 0) ∨ (∃ x, ms_bs E s = .inr x ∧ b1 = 1 ∧ (n2, sl2, S2, F2, L2, R2) = (n, sl, SH, FI, h_up FL 121 39 x, FR)) := by
  obtain ⟨v1, v2, v3, v4, v5, v6, v7, v8, v9, v10⟩ := hv
  obtain ⟨-, h⟩ := h
  unfold ms_bs
  rcases h with ⟨h0, e, -⟩ | ⟨h0, -, h⟩
  · have hne : s.2.2 ≠ [] := by
      intro e
      rw [e] at v5
      rw [v5] at h0
      exact absurd h0 (by first | decide | simp)
    obtain ⟨q1, q2⟩ := hp hne
    rw [if_pos hne, if_neg (by rw [q1, q2]; simp)]
    exact Or.inl ⟨11, rfl, rfl, e⟩
  have hnil : s.2.2 = [] := by
    cases hq : s.2.2 with
    | nil => rfl
    | cons a r => rw [hq] at v5; simp only [List.length_cons] at v5; exfalso; omega
  rw [if_neg (fun e => e hnil)]
  rw [v4.1, show ((2 : Int32)).toInt = 2 by decide] at h
  rcases h with ⟨h2, -, -, e1, e⟩ | ⟨h2, -, h⟩
  · rw [if_pos h2]
    have k1 := v4.2.2.1 (Or.inr (Or.inl h2))
    have k2 : 0 ≤ s.2.1.2.1.toInt ∧ s.2.1.2.1.toInt ≤ 31 := by
      rcases v4.2.1 with q | q | q | q | q
      · exfalso; have := q.1; omega
      · exfalso; have := q.1; omega
      · exact q.2.2
      · exfalso; have := q.1; omega
      · exfalso; have := q.1; omega
    rw [k1, l_2i (A := s.2.1.2.1.toInt) rfl (by omega) (by omega), hE.1 _ (by omega)] at e
    exact Or.inr ⟨_, rfl, e1, e⟩
  rw [if_neg h2]
  rw [show ((3 : Int32)).toInt = 3 by decide] at h
  rcases h with ⟨h3, -, e1, e⟩ | ⟨h3, -, h⟩
  · rw [if_pos h3]
    rw [v4.2.2.1 (Or.inr (Or.inr h3))] at e
    exact Or.inr ⟨_, rfl, e1, e⟩
  rw [if_neg h3]
  try rw [v4.1] at h
  rcases h with ⟨h4, -, h⟩ | ⟨h4, e1, -⟩
  · rw [if_pos h4]
    obtain ⟨S, sr⟩ := s
    (try dsimp only at v1 v3 ⊢)
    rcases h with ⟨h5, -, -, e1, e⟩ | ⟨h5, e1, -⟩
    · cases S with
      | nil => rw [v1] at h5; exact absurd h5 (by first | decide | simp)
      | cons t R =>
        simp only [List.length_cons] at v1 v2
        have k : (((128 : Int32) + FI 128 1) - (1 : Int32)).toInt = ((128 * 1 + R.length : Nat) : Int) := by
          rw [i_sub (i_add (by decide : ((128 : Int32)).toInt = 128) v1 (by omega) (by omega)) (by decide : ((1 : Int32)).toInt = 1) (by omega) (by omega)]
          omega
        rw [show (((128 : Int32) + FI 128 1) - (1 : Int32)).toInt.toNat = 128 * 1 + R.length by omega, show FL 127 (128 * 1 + R.length) = t from v3.1] at e
        exact Or.inr ⟨t, rfl, e1, e⟩
    · cases S with
      | nil => exact Or.inl ⟨11, rfl, rfl, e1⟩
      | cons t R =>
        simp only [List.length_cons] at v1
        rw [v1] at h5
        exfalso; omega
  · rw [if_neg h4]
    exact Or.inl ⟨11, rfl, rfl, e1⟩
theorem rl_run : ∀ (g l o f A p : Nat) (bs : List Int32) (s : ms_S) (l4 l5 l6 l7 : Int32) (FI : Nat → Nat → Int32) (FL : Nat → Nat → Int64), l4.toInt = l → l ≤ 1 → (l = 0 → a1.toInt ≠ 1) → (FI 121 29).toInt = o → o ≤ 8 → bk FI SH 124 A bs → bs.length ≤ 100000 → l5.toInt = ((A + p : Nat) : Int) → p ≤ bs.length → l6.toInt = A → l7.toInt = ((A + bs.length : Nat) : Int) → rE FI FL SH E → rv FI FL SH l s → (FI 121 30).toInt = f → f ≤ 1000 → 0 ≤ (FI 142 l).toInt → (FI 142 l).toInt ≤ o → GX12_exec_18 a1 a2 a3 g l4 l5 l6 l7 n sl SH FI FL FR v st → ∃ r, ms_R E l o bs p f s r ∧ rn_c a1 a2 a3 l4 l6 l7 n sl SH FI FL FR v st l o g r := by
  intro g
  induction g using Nat.strongRecOn with
  | ind g ih =>
    intro l o f A p bs s l4 l5 l6 l7 FI FL hl h1 ha1 ho ho8 hb hbl h5 hp h6 h7 hE hv hf hf2 d0 d1 h
    by_cases hpe : p = bs.length
    · have e5 : l5 = l7 := i_eqv (by rw [h5, h7, hpe])
      rw [e5] at h
      exact ⟨_, ms_R_end hpe, g, FI, FL, Nat.le_refl _, h, hv, gz_rf, hf, hf2⟩
    cases g with
    | zero => exact h.elim
    | succ g =>
      rcases rs_one (K := GX12_exec_18 a1 a2 a3 g) hl h1 ho ho8 hb hbl h5 h6 h7 (by omega) hE hv hf hf2 h with ⟨hf0, e⟩ | ⟨hf0, F1, L1, gA, hvA, e30, hc⟩
      · exact ⟨.inl 12, ms_R_12 hpe hf0, e⟩
      have hEA := rE_gf hE gA
      cases hq : ms_one E l o bs p s with
      | inl e =>
        rw [hq] at hc
        exact ⟨.inl e, ms_R_e hpe hf0 hq, hc⟩
      | inr q =>
        rw [hq] at hc
        match q, hc, hq with
        | .inl x, ⟨pc, F2, L2, k, hpc, hxb, hv2, g2, e2⟩, hq =>
          have g3 := gz_tr gA g2
          obtain ⟨r, hr, hrc⟩ := ih g (Nat.lt_succ_self g) l o (f - 1) A x.1 bs x.2 l4 pc l6 l7 F2 L2 hl h1 ha1 (by rw [g3.2.2.1]; exact ho) ho8 (bk_fr hb (g3.1 124 (by omega)).1) hbl hpc hxb h6 h7 (rE_gf hE g3) hv2 (by rw [e2]; exact e30) (by omega) (by rw [g3.2.2.2.2.1 l (Nat.le_refl _)]; exact d0) (by rw [g3.2.2.2.2.1 l (Nat.le_refl _)]; exact d1) k
          exact ⟨r, ms_R_go hpe hf0 hq hr, rn_up hrc (Nat.le_succ g) g3⟩
        | .inr (.inl x), ⟨k6, k7, F2, k, e6, e7, hx16, hxb, hol, b1, b2, b3, hcf⟩, hq =>
          obtain ⟨x1, x2, x3⟩ := hEA.2.2.1 x.1 hx16
          have hE2 : rE F2 L1 SH E := rE_fr hEA (hcf.1 123 (by decide) (by decide) (by decide) (by decide) (by decide)) (hcf.1 124 (by decide) (by decide) (by decide) (by decide) (by decide)) (hcf.1 125 (by decide) (by decide) (by decide) (by decide) (by decide)) (fun k hk => hcf.2.1 k (by omega) (by omega)) (fun _ _ => rfl) rfl
          have eo : (F2 121 29).toInt = ((o + 1 : Nat) : Int) := by rw [hcf.2.2.1, gA.2.2.1, i_add ho (by decide : ((1 : Int32)).toInt = 1) (by omega) (by omega)]; omega
          have ed : (F2 142 l).toInt = (FI 142 l).toInt + 1 := by rw [hcf.2.2.2.2.2, gA.2.2.2.2.1 l (Nat.le_refl _)]; exact i_add rfl (by decide) (by omega) (by omega)
          obtain ⟨r1, hr1, hc1⟩ := ih g (Nat.lt_succ_self g) l (o + 1) (f - 1) (600 * x.1) 0 (ms_ex E x.1) s l4 k6 k6 k7 F2 L1 hl h1 ha1 eo (by omega) (bk_fr x3 (hcf.1 124 (by decide) (by decide) (by decide) (by decide) (by decide))) (by omega) (by rw [e6, Nat.add_zero]) (by omega) e6 e7 hE2 (rv_fr hvA (cf_lf hcf)) (by rw [hcf.2.1 30 (by decide) (by decide)]; exact e30) (by omega) (by omega) (by omega) k
          match r1, hr1, hc1 with
          | .inl e, hr1, hc1 => exact ⟨.inl e, ms_R_ce hpe hf0 hq hr1, hc1⟩
          | .inr y, hr1, ⟨g2, F3, L3, hg2, k3, hv3, gf3, e3, e3b⟩ =>
            cases g2 with
            | zero => exact k3.elim
            | succ g3 =>
              obtain ⟨-, k3⟩ := P_p k3 (rfl : k7.toInt = k7.toInt)
              have el : l4.toInt.toNat = l := by omega
              have d3 : F3 142 l = F2 142 l := gf3.2.2.2.2.1 l (Nat.le_refl _)
              have k3 := P_p k3 (by rw [el, d3]; omega)
              obtain ⟨-, -, -, -, -, k3⟩ := k3
              have o3 : (F3 121 29).toInt = ((o + 1 : Nat) : Int) := by rw [gf3.2.2.1]; exact eo
              have eo2 : (F3 121 29 - (1 : Int32)).toInt.toNat = o := by rw [i_sub o3 (by decide : ((1 : Int32)).toInt = 1) (by omega) (by omega)]; omega
              obtain ⟨m1, m2, m3⟩ := gf3.2.2.2.1 o (by omega)
              rw [el, eo2, m1, m2, m3, b2, b3] at k3
              have fin : ∀ F4 : Nat → Nat → Int32, (∀ c, c ≠ 121 → c ≠ 142 → F4 c = F3 c) → (∀ k, k ≠ 29 → k ≠ 33 → F4 121 k = F3 121 k) → F4 121 29 = F3 121 29 - (1 : Int32) → (∀ i, i ≠ l → F4 142 i = F3 142 i) → F4 142 l = F3 142 l - (1 : Int32) → GX12_exec_18 a1 a2 a3 g3 l4 (F2 139 o) l6 l7 n sl SH F4 L3 FR v st → ∃ r, ms_R E l o bs p f s r ∧ rn_c a1 a2 a3 l4 l6 l7 n sl SH FI FL FR v st l o (g + 1) r := by
                intro F4 q1 q2 q3 q4 q5 k4
                have g5 := gz_tr gA (cf_gf hcf gf3 q1 q2 q3 q4 q5)
                have hv4 : rv F4 L3 SH l y.2 := rv_fr hv3 ⟨q1 124 (by decide) (by decide), fun r hr => by rw [q1 r (by omega) (by omega)], fun r i hr _ _ => by rw [q1 r (by omega) (by omega)], rfl, fun _ _ _ => rfl, fun _ _ _ => rfl⟩
                obtain ⟨r, hr, hrc⟩ := ih g3 (by omega) l o y.1 A x.2 bs y.2 l4 (F2 139 o) l6 l7 F4 L3 hl h1 ha1 (by rw [g5.2.2.1]; exact ho) ho8 (bk_fr hb (g5.1 124 (by omega)).1) hbl b1 hxb h6 h7 (rE_gf hE g5) hv4 (by rw [q2 30 (by decide) (by decide)]; exact e3) e3b (by rw [g5.2.2.2.2.1 l (Nat.le_refl _)]; exact d0) (by rw [g5.2.2.2.2.1 l (Nat.le_refl _)]; exact d1) k4
                exact ⟨r, ms_R_c hpe hf0 hq hr1 hr, rn_up hrc (by omega) g5⟩
              have q1 : ∀ c, c ≠ 121 → c ≠ 142 → (h_up (h_up F3 142 l (F3 142 l - (1 : Int32))) 121 29 (F3 121 29 - (1 : Int32))) c = F3 c := fun c g1 g2 => by rw [h_up_nc g1, h_up_nc g2]
              have q2 : ∀ k, k ≠ 29 → k ≠ 33 → (h_up (h_up F3 142 l (F3 142 l - (1 : Int32))) 121 29 (F3 121 29 - (1 : Int32))) 121 k = F3 121 k := fun k g1 _ => by rw [h_up_ne g1, h_up_nc (by decide)]
              have q4 : ∀ i, i ≠ l → (h_up (h_up F3 142 l (F3 142 l - (1 : Int32))) 121 29 (F3 121 29 - (1 : Int32))) 142 i = F3 142 i := fun i hi => by rw [h_up_nc (by decide), h_up_ne hi]
              have q5 : (h_up (h_up F3 142 l (F3 142 l - (1 : Int32))) 121 29 (F3 121 29 - (1 : Int32))) 142 l = F3 142 l - (1 : Int32) := by rw [h_up_nc (by decide), h_up_eq]
              rcases k3 with ⟨-, -, k3⟩ | ⟨-, k3⟩
              · rcases k3 with ⟨-, k3⟩ | ⟨-, k3⟩
                · exact fin _ (fun c g1 g2 => by rw [h_up_nc g1]; exact q1 c g1 g2) (fun k g1 g2 => by rw [h_up_ne g2]; exact q2 k g1 g2) (by rw [h_up_ne (by decide), h_up_eq]) (fun i hi => by rw [h_up_nc (by decide)]; exact q4 i hi) (by rw [h_up_nc (by decide)]; exact q5) k3
                · exact fin _ q1 q2 h_up_eq q4 q5 k3
              · exact fin _ q1 q2 h_up_eq q4 q5 k3
        | .inr (.inr x), ⟨hl0, hfr, k6, k7, F2, L2, k, e6, e7, hxb, b40, b41, b42, b44, hbf⟩, hq =>
          subst hl0
          obtain ⟨x1, x2, x3⟩ := hEA.2.2.1 (ms_fr E).toNat (by have := hE.2.2.2.1; omega)
          have hE2 : rE F2 L2 SH E := rE_fr hEA (hbf.1 123 (by decide) (by decide) (by decide) (by decide) (by decide) (by decide)) (hbf.1 124 (by decide) (by decide) (by decide) (by decide) (by decide) (by decide)) (hbf.1 125 (by decide) (by decide) (by decide) (by decide) (by decide) (by decide)) (fun k hk => hbf.2.2.1 k (by omega) (by omega)) (fun k hk => hbf.2.2.2.1 k (by omega)) (hbf.2.1 122 (by decide))
          have eo : (F2 121 29).toInt = (o : Int) := by rw [hbf.2.2.1 29 (by omega) (by omega), gA.2.2.1]; exact ho
          have z142 : (F2 142 1).toInt = 0 := by rw [hbf.2.2.2.2.2 142 (by omega)]; decide
          obtain ⟨r1, hr1, hc1⟩ := ih g (Nat.lt_succ_self g) 1 o (f - 1) (600 * (ms_fr E).toNat) 0 (ms_ex E (ms_fr E).toNat) ([], ms_0, []) 1 k6 k6 k7 F2 L2 (by decide) (by decide) (fun e => absurd e (by first | decide | simp)) eo ho8 (bk_fr x3 (hbf.1 124 (by decide) (by decide) (by decide) (by decide) (by decide) (by decide))) (by omega) (by rw [e6, Nat.add_zero]) (by omega) e6 e7 hE2 (bf_rv hbf) (by rw [hbf.2.2.1 30 (by omega) (by omega)]; exact e30) (by omega) (by omega) (by omega) k
          match r1, hr1, hc1 with
          | .inl e, hr1, hc1 => exact ⟨.inl e, ms_R_be hpe hf0 hq hr1, hc1⟩
          | .inr y, hr1, ⟨g2, F3, L3, hg2, k3, hv3, gf3, e3, e3b⟩ =>
            cases g2 with
            | zero => exact k3.elim
            | succ g3 =>
              obtain ⟨-, k3⟩ := P_p k3 (rfl : k7.toInt = k7.toInt)
              rw [show ((1 : Int32)).toInt.toNat = 1 by decide] at k3
              have d3 : F3 142 1 = F2 142 1 := gf3.2.2.2.2.1 1 (Nat.le_refl _)
              have k3 := P_n k3 (by rw [d3]; omega)
              obtain ⟨-, k3⟩ := P_p k3 (rfl : k7.toInt = k7.toInt)
              rw [show ((1 : Int32)).toInt.toNat = 1 by decide] at k3
              have hE3 : rE F3 L3 SH E := rE_gf hE2 gf3
              obtain ⟨w1, w2, w3, w4, w5, w6, w7, w8, w9, w10⟩ := id hv3
              have go : (y.2.2.2 ≠ [] → y.2.2.1.1 = 0 ∧ y.2.1 = []) → RX12_exec_175 (GX12_exec_18 a1 a2 a3 g3) a1 a2 a3 1 n sl SH F3 L3 FR v st → ∃ r, ms_R E 0 o bs p f s r ∧ rn_c a1 a2 a3 l4 l6 l7 n sl SH FI FL FR v st 0 o (g + 1) r := by
                intro hpp k4
                have k4 := P_n k4 (by decide)
                obtain ⟨b1, n1, sl1, SH1, FI1, FL1, FR1, hbase, k4⟩ := k4
                rcases r_base hE3 hv3 hbase hpp with ⟨e, e1, e2, e4⟩ | ⟨z, e1, e2, e4⟩
                · have k4 := P_p k4 (by rw [e4]; decide)
                  refine ⟨.inl e, ms_R_bf hpe hf0 hq hr1 e1, ?_⟩
                  show v.toInt = e
                  rw [fl k4, e2]; decide
                · cases e4
                  have k4 := P_n k4 (by rw [e2]; decide)
                  have k4 := P_n k4 (by rw [show ((1 : Int32)).toInt = 1 by decide]; exact ha1 rfl)
                  obtain ⟨-, k4⟩ := k4
                  have hv0 : rv F3 L3 SH 0 s := rv_fr (rv_fr hvA (bf_lf hbf)) (gf3.2.2.2.2.2 rfl).1
                  rw [hv0.1, show ((128 : Int32)).toInt = 128 by decide] at k4
                  rcases k4 with ⟨h128, k4⟩ | ⟨h128, k4⟩
                  · refine ⟨.inl 4, ms_R_b4 hpe hf0 hq hr1 e1 (by omega), ?_⟩
                    show v.toInt = 4
                    rw [fl k4]; decide
                  · obtain ⟨u8, n8, sl8, SH8, FI8, FL8, FR8, hpush, k4⟩ := k4
                    have hlen := hv0.2.1
                    have hvp : rv (h_up F3 121 33 (F3 121 43)) (h_up L3 121 39 z) SH 0 s := rv_fr hv0 (lf_fk (fk_up (K := [33]) fk_rf (by decide)) (fk_up (K := [39]) fk_rf (by decide)))
                    obtain ⟨F5, L5, e5, hv5, g5, e35⟩ := rr_push (l := 0) (o := o) (by decide) (by decide) hvp (by omega) hpush
                    cases e5
                    rw [h_up_eq, h_up_ne (show (44 : Nat) ≠ 39 by decide), (gf3.2.2.2.2.2 rfl).2.2.2.2, b44] at hv5
                    have g6 : gz 0 o FI FL FI8 FL8 := gz_tr gA (gz_tr (bf_gf hbf gf3) (gz_tr (gz_i (gz_l gz_rf (Or.inl ⟨rfl, Or.inr (Or.inr rfl)⟩)) (Or.inl ⟨rfl, by decide, by decide⟩)) g5))
                    have c40 : F3 121 40 = F2 121 40 := (gf3.2.2.2.2.2 rfl).2.1
                    have c41 : F3 121 41 = F2 121 41 := (gf3.2.2.2.2.2 rfl).2.2.1
                    have c42 : F3 121 42 = F2 121 42 := (gf3.2.2.2.2.2 rfl).2.2.2.1
                    rw [c41, c42, b41, b42] at k4
                    have e0 : l4 = 0 := i_eqv (by rw [hl]; decide)
                    rw [e0]
                    obtain ⟨r, hr, hrc⟩ := ih g3 (by omega) 0 o y.1 A x.2 bs ((z + x.1) :: s.1, s.2) 0 (F3 121 40) l6 l7 FI8 FL8 (by decide) (by decide) ha1 (by rw [g6.2.2.1]; exact ho) ho8 (bk_fr hb (g6.1 124 (by omega)).1) hbl (by rw [c40]; exact b40) hxb h6 h7 (rE_gf hE g6) hv5 (by rw [e35, h_up_ne (by decide)]; exact e3) e3b (by rw [g6.2.2.2.2.1 0 (Nat.le_refl _)]; exact d0) (by rw [g6.2.2.2.2.1 0 (Nat.le_refl _)]; exact d1) k4
                    exact ⟨r, ms_R_b hpe hf0 hq hr1 e1 (by omega) hr, rn_up hrc (by omega) g6⟩
              have bad : y.2.2.2 ≠ [] → (y.2.2.1.1 ≠ 0 ∨ y.2.1 ≠ []) → RX12_exec_153 a1 a2 a3 1 n sl SH F3 L3 FR v st → ∃ r, ms_R E 0 o bs p f s r ∧ rn_c a1 a2 a3 l4 l6 l7 n sl SH FI FL FR v st 0 o (g + 1) r := by
                intro q1 q2 k4
                have k4 := P_n k4 (by decide)
                refine ⟨.inl 13, ms_R_bf hpe hf0 hq hr1 (by unfold ms_bs; rw [if_pos q1, if_pos q2]), ?_⟩
                show v.toInt = 13
                rw [fl k4]; decide
              have nn : 0 < (F3 129 1).toInt → y.2.2.2 ≠ [] := fun hlt e => by
                rw [w5, e] at hlt
                exact absurd hlt (by first | decide | simp)
              rcases k3 with ⟨hlt, -, k3⟩ | ⟨hlt, k3⟩
              · rw [w4.1] at k3
                rcases k3 with ⟨hh, -, k3⟩ | ⟨hh, k3⟩
                · rw [w1] at k3
                  rcases k3 with ⟨hs, k3⟩ | ⟨hs, k3⟩
                  · exact bad (nn hlt) (Or.inr (fun e => by rw [e] at hs; exact absurd hs (by first | decide | simp))) k3
                  · refine go (fun _ => ⟨hh, ?_⟩) k3
                    cases hy : y.2.1 with
                    | nil => rfl
                    | cons a r => rw [hy] at hs; simp only [List.length_cons] at hs; exfalso; omega
                · exact bad (nn hlt) (Or.inl hh) k3
              · refine go (fun e => ?_) k3
                exfalso
                cases hy : y.2.2.2 with
                | nil => exact e hy
                | cons a r => rw [w5, hy] at hlt; simp only [List.length_cons] at hlt; omega
end RR
