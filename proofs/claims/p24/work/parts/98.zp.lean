/-! THE CLASS'S PARSER: places. -/
theorem l_gl {a b : List Int} {i : Nat} (h : i < a.length) : (a ++ b).getD i 0 = a.getD i 0 := by rw [List.getD_eq_getElem?_getD, List.getD_eq_getElem?_getD, List.getElem?_append_left h]
theorem l_gr {a b : List Int} {i : Nat} (h : a.length ≤ i) : (a ++ b).getD i 0 = b.getD (i - a.length) 0 := by rw [List.getD_eq_getElem?_getD, List.getD_eq_getElem?_getD, List.getElem?_append_right h]
section YC
variable {n sl : Nat} {SH : Nat → Nat × Nat} {FI : Nat → Nat → Int32} {FL : Nat → Nat → Int64} {FR : Nat → Nat → Option Nat} {s : hS}
theorem y_copy {c z : Nat} {m : Int32} {v : Option Nat} (h : RJ7_copyOf_59c91 (some c) m n sl SH FI FL FR v s) (hm : m.toInt = z) (hz : z ≤ (SH c).2) (hb : (SH c).2 ≤ 100000) (hc : c < n) : ∃ sl2 SH2 F2 L2 R2, v = some n ∧ s = (n + 1, sl2, SH2, F2, L2, R2) ∧ (SH2 n).2 = z ∧ (∀ i, i < z → F2 n i = FI c i) ∧ (∀ q, q ≠ n → SH2 q = SH q) ∧ (∀ q, q ≠ n → F2 q = FI q) ∧ (∀ q, q ≠ n → L2 q = FL q) ∧ (∀ q, q ≠ n → R2 q = FR q) := by
  have ez : (Int32.ofNat (SH c).2).toInt = ((SH c).2 : Int) := i_lit (by omega)
  obtain ⟨c1, e1, h⟩ := h
  cases e1
  rcases h with ⟨hc1, h⟩ | ⟨hc1, h⟩
  · rw [ez, hm] at hc1
    obtain ⟨c4, e4, v2, n2, sl2, SH2, FI2, FL2, FR2, hk, rfl, rfl⟩ := h
    cases e4
    obtain ⟨-, e⟩ := hk
    cases e
    refine ⟨_, _, _, _, _, rfl, rfl, ?_, fun i _ => ?_, fun q hq => va_o hq, fun q hq => va_o hq, fun q hq => va_o hq, fun q hq => va_o hq⟩
    · rw [va_s]; omega
    · rw [va_s]
  · rw [ez, hm] at hc1
    obtain ⟨v4, n4, sl4, SH4, FI4, FL4, FR4, hk, c6, e6, c9, e9, c10, e10, v7, n7, sl7, SH7, FI7, FL7, FR7, hp, rfl, rfl⟩ := h
    cases e6
    cases e9
    cases e10
    have hk : (n4, sl4, SH4, FI4, FL4, FR4) = (n + 1, sl + m.toInt.toNat, va_up SH n (100 + 0, m.toInt.toNat), va_up FI n (fun _ => 0), va_up FL n (fun _ => 0), va_up FR n (fun _ => none)) := hk
    cases hk
    obtain ⟨-, -, -, -, -, e⟩ := hp
    cases e
    have es : va_up SH n (100 + 0, m.toInt.toNat) c = SH c := va_o (by omega)
    have em : (fJ9_min_7cf53 (Int32.ofNat (va_up SH n (100 + 0, m.toInt.toNat) c).2) m (va_up SH n (100 + 0, m.toInt.toNat)) (va_up FI n (fun _ => 0)) (va_up FL n (fun _ => 0)) (va_up FR n (fun _ => none))).toInt = z := by
      unfold fJ9_min_7cf53
      rw [es]
      by_cases hlt : m.toInt < (Int32.ofNat (SH c).2).toInt
      · rw [if_pos hlt]; exact hm
      · exfalso
        rw [ez, hm] at hlt
        omega
    refine ⟨_, _, _, _, _, rfl, rfl, ?_, fun i hi => ?_, fun q hq => va_o hq, fun q hq => ?_, fun q hq => va_o hq, fun q hq => va_o hq⟩
    · rw [va_s]
      show m.toInt.toNat = z
      omega
    · rw [va_s]
      unfold va_cpy
      have z0 : ((0 : Int32)).toInt.toNat = 0 := by decide
      rw [em, z0, if_pos (by omega), va_o (by omega)]
      congr 1
      omega
    · rw [va_o hq, va_o hq]
theorem y_ct {SH2 : Nat → Nat × Nat} {F2 : Nat → Nat → Int32} {L2 : Nat → Nat → Int64} {R2 : Nat → Nat → Option Nat} (hQ : h_S n SH) (h1 : ∀ q, q ≠ n → SH2 q = SH q) (h2 : ∀ q, q ≠ n → F2 q = FI q) (h3 : ∀ q, q ≠ n → L2 q = FL q) (h4 : ∀ q, q ≠ n → R2 q = FR q) : b_ct n SH FI FL FR (n + 1) SH2 F2 L2 R2 := by
  have h176 := hQ.1
  exact ⟨by omega, ⟨by omega, fun q hq => (h1 q (by omega)).trans (hQ.2 q hq)⟩, fun c k g _ => by rw [h2 c (by omega)], fun c k g _ => by rw [h3 c (by omega)], fun c k g => by rw [h4 c (by omega)], fun h => by rw [h2 110 (by omega)]; exact h, fun c g => h1 c (by omega)⟩
theorem b_nwz {tg : Nat} {v : Unit} {n0 sl0 : Nat} {SH0 : Nat → Nat × Nat} {FI0 : Nat → Nat → Int32} {FL0 : Nat → Nat → Int64} {FR0 : Nat → Nat → Option Nat} (h : P_nw tg n sl SH FI FL FR v (n0, sl0, SH0, FI0, FL0, FR0)) : ∀ k, FI0 n k = 0 := by
  have h : (n0, sl0, SH0, FI0, FL0, FR0) = (n + 1, sl + h_nf tg, va_up SH n (tg, 0), va_up FI n (fun _ => 0), va_up FL n (fun _ => 0), va_up FR n (fun _ => none)) := h
  cases h
  intro k
  rw [va_s]
end YC
section SB
variable {K W : Nat → Int} {M : Nat} {n sl : Nat} {SH : Nat → Nat × Nat} {FR : Nat → Nat → Option Nat} {o : Int}
theorem s_w117 {FI : Nat → Nat → Int32} {FL : Nat → Nat → Int64} {t k : Nat} {x : Int32} (h : q_tk K W M FI FL ∧ s_vw M FI FL t o) : q_tk K W M (h_up FI 117 k x) FL ∧ s_vw M (h_up FI 117 k x) FL t o := by
  have e0 : h_up FI 117 k x 110 = FI 110 := h_up_nc (by omega)
  have e1 : h_up FI 117 k x 111 = FI 111 := h_up_nc (by omega)
  have e2 : h_up FI 117 k x 112 = FI 112 := h_up_nc (by omega)
  refine ⟨q_fr h.1 ⟨e2, by rw [e1], rfl⟩, ?_⟩
  have h2 := h.2
  unfold s_vw at h2 ⊢
  rw [e0, e2]
  exact h2
/-- the block's cell, at the end -/
theorem s_82 {FI : Nat → Nat → Int32} {FL : Nat → Nat → Int64} {l1 : Int32} {m : Nat} {v : Option Nat} {s : hS} (hQ : h_S n SH) (hl : l1.toInt = m) (hm : m ≤ 64) (h : RX4_readBlock_82 l1 n sl SH FI FL FR v s) : ∃ sl2 SH2 F2 L2 R2 F1, v = some n ∧ s = (n + 1, sl2, SH2, F2, L2, R2) ∧ b_ct n SH FI FL FR (n + 1) SH2 F2 L2 R2 ∧ (SH2 n).2 = m ∧ (∀ i, i < m → F2 n i = FI 117 i) ∧ F2 110 = F1 110 ∧ F2 112 = FI 112 ∧ L2 110 = FL 110 ∧ L2 113 = FL 113 ∧ ((m ≠ 0 ∧ F1 = FI) ∨ (m = 0 ∧ ∃ u s', RX4_refuse (1 : Int32) n sl SH FI FL FR u s' ∧ s' = (n, sl, SH, F1, FL, FR))) := by
  have h176 := hQ.1
  have es := s117 hQ
  rcases h with ⟨h0, h⟩ | ⟨h0, h⟩
  · obtain ⟨v1, n1, sl1, SH1, FI1, FL1, FR1, hr, v2, n2, sl2, SH2, FI2, FL2, FR2, hk, rfl, rfl⟩ := h
    have hr0 := hr
    obtain ⟨F1, e, br⟩ := b_refuse hQ hr
    cases e
    obtain ⟨sl3, SH3, F3, L3, R3, rfl, e, k1, k2, k3, k4, k5, k6⟩ := y_copy hk hl (by rw [es]; exact hm) (by rw [es]; decide) (by omega)
    cases e
    have b2 := y_ct hQ k3 k4 k5 k6
    have e112 : FI1 112 = FI 112 := by funext k; exact br.2.2.1 112 k (by omega) (by omega)
    exact ⟨_, _, _, _, _, FI1, rfl, rfl, b_tr br b2, k1, fun i hi => by omega, k4 110 (by omega), (k4 112 (by omega)).trans e112, k5 110 (by omega), k5 113 (by omega), Or.inr ⟨by omega, _, _, hr0, rfl⟩⟩
  · obtain ⟨v2, n2, sl2, SH2, FI2, FL2, FR2, hk, rfl, rfl⟩ := h
    obtain ⟨sl3, SH3, F3, L3, R3, rfl, e, k1, k2, k3, k4, k5, k6⟩ := y_copy hk hl (by rw [es]; exact hm) (by rw [es]; decide) (by omega)
    cases e
    exact ⟨_, _, _, _, _, FI, rfl, rfl, y_ct hQ k3 k4 k5 k6, k1, k2, k4 110 (by omega), k4 112 (by omega), k5 110 (by omega), k5 113 (by omega), Or.inl ⟨by omega, rfl⟩⟩
/-- behind a fault -/
theorem s_bl_f {FI : Nat → Nat → Int32} {FL : Nat → Nat → Int64} {g m : Nat} {l1 l2 : Int32} {v : Option Nat} {s : hS} (hQ : h_S n SH) (hf : s_ft FI) (hl : l1.toInt = m) (hm : m ≤ 64) (h : GX4_readBlock_4 g l1 l2 n sl SH FI FL FR v s) : ∃ sl2 SH2 F2 L2 R2, v = some n ∧ s = (n + 1, sl2, SH2, F2, L2, R2) ∧ b_ct n SH FI FL FR (n + 1) SH2 F2 L2 R2 ∧ s_ft F2 := by
  have hX : RX4_readBlock_82 l1 n sl SH FI FL FR v s := by
    cases g with
    | zero => exact h.elim
    | succ g =>
      rcases h with ⟨-, h⟩ | ⟨-, h⟩
      · exact h
      · rcases h with ⟨h5, -⟩ | ⟨-, h⟩
        · exfalso
          rw [hf.2] at h5
          revert h5
          decide
        · exact h
  obtain ⟨sl2, SH2, F2, L2, R2, F1, rfl, rfl, b, -, -, e, -, -, -, w⟩ := s_82 hQ hl hm hX
  refine ⟨_, _, _, _, _, rfl, rfl, b, ?_⟩
  unfold s_ft
  rw [e]
  rcases w with ⟨-, e1⟩ | ⟨-, u, s', hr, e1⟩
  · rw [e1]; exact hf
  · have e2 := s_refuse_f hr hf.1
    rw [e2] at e1
    cases e1
    exact hf
theorem s_bl : ∀ (g : Nat) (l1 l2 : Int32) (FI : Nat → Nat → Int32) (FL : Nat → Nat → Int64) (v : Option Nat) (s : hS) (t m : Nat) (bs : List Int), GX4_readBlock_4 g l1 l2 n sl SH FI FL FR v s → h_S n SH → q_tk K W M FI FL → s_vw M FI FL t o → l1.toInt = m → l2.toInt = m → bs.length = m → m ≤ 64 → (∀ i, i < m → (FI 117 i).toInt = bs.getD i 0 ∧ 0 ≤ bs.getD i 0 ∧ bs.getD i 0 ≤ 255) → ∃ sl2 SH2 F2 L2 R2, v = some n ∧ s = (n + 1, sl2, SH2, F2, L2, R2) ∧ b_ct n SH FI FL FR (n + 1) SH2 F2 L2 R2 ∧ ((∃ t2 c, (∀ f, 66 ≤ f + m → lp_bl K W f m t = some (t2, c)) ∧ 0 < m + c.length ∧ t ≤ t2 ∧ s_vw M F2 L2 t2 o ∧ (SH2 n).2 = m + c.length ∧ m + c.length ≤ 64 ∧ ∀ i, i < m + c.length → (F2 n i).toInt = (bs ++ c).getD i 0 ∧ 0 ≤ (bs ++ c).getD i 0 ∧ (bs ++ c).getD i 0 ≤ 255) ∨ (s_ft F2 ∧ ((∀ f, 66 ≤ f + m → lp_bl K W f m t = none) ∨ (m = 0 ∧ K t ≠ 3)))) := by
  intro g
  induction g with
  | zero => intro l1 l2 FI FL v s t m bs h; exact h.elim
  | succ g ih =>
    intro l1 l2 FI FL v s t m bs h hQ hq hv hl1 hl2 hbs hm hB
    have h176 := hQ.1
    have es := s117 hQ
    have e64 : (Int32.ofNat (SH 117).2).toInt = 64 := by rw [es]; decide
    have z5 : ((5 : Int32)).toInt = 5 := by decide
    have z255 : ((255 : Int64)).toInt = 255 := by decide
    have kd := s_kd hq hv
    rcases h with ⟨h1, h⟩ | ⟨h1, h⟩
    · exfalso
      rw [e64] at h1
      omega
    · rcases h with ⟨h5, h⟩ | ⟨h5, h⟩
      · rw [z5] at h5
        rcases kd with ⟨ht, kd, -, kr, k3, -⟩ | ⟨-, -, kd⟩
        · have ce := ck_e kr
          have hK : K t = 3 := by omega
          obtain ⟨w1, w2, w3⟩ := k3 hK
          rcases h with ⟨h6, h⟩ | ⟨h6, h⟩
          · rw [z255, w1] at h6
            obtain ⟨v3, n3, sl3, SH3, FI3, FL3, FR3, hr, hK2⟩ := h
            obtain ⟨-, -, br⟩ := b_refuse hQ hr
            obtain ⟨F3, e, a3, ft⟩ := s_refuse hr (by decide) hq hv
            cases e
            obtain ⟨sl2, SH2, F2, L2, R2, rfl, rfl, b2, ft2⟩ := s_bl_f hQ ft hl1 hm hK2
            refine ⟨_, _, _, _, _, rfl, rfl, b_tr (b_a hQ a3 (fun h => absurd hv.1 h)) b2, Or.inr ⟨ft2, Or.inl fun f hf => ?_⟩⟩
            cases f with
            | zero => omega
            | succ f => rw [lp_bl, if_pos hK, if_pos h6]
          · rw [z255, w1] at h6
            rcases h with ⟨h7, h⟩ | ⟨h7, h⟩
            · rw [e64] at h7
              obtain ⟨-, v5, n5, sl5, SH5, FI5, FL5, FR5, hk, hK2⟩ := h
              have em : l1.toInt.toNat = m := by omega
              rw [em] at hk
              obtain ⟨q1, w117⟩ := s_w117 (k := m) (x := (FL 110 9).toInt32) ⟨hq, hv⟩
              obtain ⟨F5, L5, e, a5, w5⟩ := s_take hk q1 w117 ht
              cases e
              have q5 := q_a q1 a5
              have ex : ((FL 110 9).toInt32).toInt = W t := l_2i w1 (by omega) (by omega)
              have e117 : ∀ i, FI5 117 i = h_up FI 117 m (FL 110 9).toInt32 117 i := fun i => a5.1 117 i (by omega)
              obtain ⟨sl2, SH2, F2, L2, R2, rfl, rfl, b2, res⟩ := ih _ _ FI5 FL5 v s (t + 1) (m + 1) (bs ++ [W t]) hK2 hQ q5 w5 (by rw [i_add hl1 (by decide : ((1 : Int32)).toInt = 1) (by omega) (by omega)]; omega) (by rw [i_add hl2 (by decide : ((1 : Int32)).toInt = 1) (by omega) (by omega)]; omega) (by rw [List.length_append, hbs]; rfl) (by omega) (fun i hi => by
                rw [e117]
                by_cases e : i = m
                · subst e
                  rw [h_up_eq, ex, l_gr (by omega), hbs, Nat.sub_self]
                  exact ⟨rfl, w2, by show W t ≤ 255; omega⟩
                · rw [h_up_ne e, l_gl (by omega)]
                  exact hB i (by omega))
              have b1 : b_ct n SH FI FL FR n SH FI5 FL5 FR := ⟨Nat.le_refl _, hQ, fun c k _ g2 => by rw [a5.1 c k (by omega), h_up_nc (by omega)], fun c k _ g2 => a5.2 c k g2, fun _ _ _ => rfl, fun h => absurd hv.1 h, fun _ _ => rfl⟩
              refine ⟨_, _, _, _, _, rfl, rfl, b_tr b1 b2, ?_⟩
              rcases res with ⟨t2, c, r1, r2, r3, r4, r5, r6, r7⟩ | ⟨ft, r | ⟨r, -⟩⟩
              · refine Or.inl ⟨t2, W t :: c, fun f hf => ?_, by rw [List.length_cons]; omega, by omega, r4, by rw [r5, List.length_cons]; omega, by rw [List.length_cons]; omega, ?_⟩
                · cases f with
                  | zero => omega
                  | succ f => rw [lp_bl, if_pos hK, if_neg h6, if_neg (by omega), r1 f (by omega)]
                · rw [List.append_assoc] at r7
                  rw [List.length_cons]
                  intro i hi
                  exact r7 i (by omega)
              · refine Or.inr ⟨ft, Or.inl fun f hf => ?_⟩
                cases f with
                | zero => omega
                | succ f => rw [lp_bl, if_pos hK, if_neg h6, if_neg (by omega), r f (by omega)]
              · omega
            · rw [e64] at h7
              obtain ⟨v3, n3, sl3, SH3, FI3, FL3, FR3, hr, hK2⟩ := h
              obtain ⟨F3, e, a3, ft⟩ := s_refuse hr (by decide) hq hv
              cases e
              obtain ⟨sl2, SH2, F2, L2, R2, rfl, rfl, b2, ft2⟩ := s_bl_f hQ ft hl1 hm hK2
              refine ⟨_, _, _, _, _, rfl, rfl, b_tr (b_a hQ a3 (fun h => absurd hv.1 h)) b2, Or.inr ⟨ft2, Or.inl fun f hf => ?_⟩⟩
              cases f with
              | zero => omega
              | succ f => rw [lp_bl, if_pos hK, if_neg h6, if_pos (by omega)]
        · exfalso; omega
      · rw [z5] at h5
        have hK : K t ≠ 3 := by
          rcases kd with ⟨-, kd, -, kr, -⟩ | ⟨-, kK, -⟩
          · have ce := ck_e kr
            omega
          · omega
        obtain ⟨sl2, SH2, F2, L2, R2, F1, rfl, rfl, b, j1, j2, j3, j4, j5, j6, w⟩ := s_82 hQ hl1 hm h
        refine ⟨_, _, _, _, _, rfl, rfl, b, ?_⟩
        rcases w with ⟨m0, rfl⟩ | ⟨m0, u, s', hr, e1⟩
        · refine Or.inl ⟨t, [], fun f hf => ?_, by rw [List.length_nil]; omega, Nat.le_refl _, ?_, j1, by rw [List.length_nil]; omega, fun i hi => ?_⟩
          · cases f with
            | zero => omega
            | succ f => rw [lp_bl, if_neg hK]
          · unfold s_vw
            rw [j3, j4, j5, j6]
            exact hv
          · rw [List.length_nil] at hi
            rw [List.append_nil, j2 i (by omega)]
            exact hB i (by omega)
        · obtain ⟨F3, e2, a3, ft⟩ := s_refuse hr (by decide) hq hv
          rw [e2] at e1
          cases e1
          refine Or.inr ⟨?_, Or.inr ⟨m0, hK⟩⟩
          unfold s_ft
          rw [j3]
          exact ft
end SB
