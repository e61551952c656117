/-! THE CLASS'S PARSER over expressions: what it leaves alone, in every state. -/
def b_ct (n : Nat) (SH : Nat → Nat × Nat) (FI : Nat → Nat → Int32) (FL : Nat → Nat → Int64) (FR : Nat → Nat → Option Nat) (n2 : Nat) (SH2 : Nat → Nat × Nat) (F2 : Nat → Nat → Int32) (L2 : Nat → Nat → Int64) (R2 : Nat → Nat → Option Nat) : Prop := n ≤ n2 ∧ h_S n2 SH2 ∧ (∀ c k, c < n → ¬ ((c = 110 ∧ 4 ≤ k ∧ k ≤ 8) ∨ c = 117) → F2 c k = FI c k) ∧ (∀ c k, c < n → ¬ (c = 110 ∧ k = 9) → L2 c k = FL c k) ∧ (∀ c k, c < n → R2 c k = FR c k) ∧ ((FI 110 5).toInt ≠ 0 → (F2 110 5).toInt ≠ 0) ∧ (∀ c, c < n → SH2 c = SH c)
def p_R (n : Nat) (SH : Nat → Nat × Nat) (FI : Nat → Nat → Int32) (FL : Nat → Nat → Int64) (FR : Nat → Nat → Option Nat) (v : Option Nat) (s : hS) : Prop := ∃ c n2 sl2 SH2 F2 L2 R2, v = some c ∧ s = (n2, sl2, SH2, F2, L2, R2) ∧ n ≤ c ∧ c < n2 ∧ b_ct n SH FI FL FR n2 SH2 F2 L2 R2 ∧ R2 c 6 = none
section BP
variable {n sl : Nat} {SH : Nat → Nat × Nat} {FI : Nat → Nat → Int32} {FL : Nat → Nat → Int64} {FR : Nat → Nat → Option Nat} {s : hS} {n1 n2 : Nat} {SH1 SH2 : Nat → Nat × Nat} {F1 F2 : Nat → Nat → Int32} {L1 L2 : Nat → Nat → Int64} {R1 R2 : Nat → Nat → Option Nat}
theorem b_rf (h : h_S n SH) : b_ct n SH FI FL FR n SH FI FL FR := ⟨Nat.le_refl _, h, fun _ _ _ _ => rfl, fun _ _ _ _ => rfl, fun _ _ _ => rfl, fun h => h, fun _ _ => rfl⟩
theorem b_tr (h : b_ct n SH FI FL FR n1 SH1 F1 L1 R1) (h2 : b_ct n1 SH1 F1 L1 R1 n2 SH2 F2 L2 R2) : b_ct n SH FI FL FR n2 SH2 F2 L2 R2 := by
  have a := h.1
  have b := h2.1
  exact ⟨by omega, h2.2.1, fun c k g1 g2 => (h2.2.2.1 c k (by omega) g2).trans (h.2.2.1 c k g1 g2), fun c k g1 g2 => (h2.2.2.2.1 c k (by omega) g2).trans (h.2.2.2.1 c k g1 g2), fun c k g1 => (h2.2.2.2.2.1 c k (by omega)).trans (h.2.2.2.2.1 c k g1), fun h3 => h2.2.2.2.2.2.1 (h.2.2.2.2.2.1 h3), fun c g1 => (h2.2.2.2.2.2.2 c (by omega)).trans (h.2.2.2.2.2.2 c g1)⟩
theorem b_a (h : h_S n SH) (ha : a_fr FI F2 FL L2) (hf : (FI 110 5).toInt ≠ 0 → (F2 110 5).toInt ≠ 0) : b_ct n SH FI FL FR n SH F2 L2 FR := ⟨Nat.le_refl _, h, fun c k _ g => ha.1 c k (fun e => g (Or.inl e)), fun c k _ g => ha.2 c k g, fun _ _ _ => rfl, hf, fun _ _ => rfl⟩
theorem b_wI {c k : Nat} {x : Int32} (h : b_ct n SH FI FL FR n2 SH2 F2 L2 R2) (h0 : 176 ≤ n) (hc : n ≤ c) : b_ct n SH FI FL FR n2 SH2 (h_up F2 c k x) L2 R2 := ⟨h.1, h.2.1, fun q j g1 g2 => by rw [h_up_nc (by omega)]; exact h.2.2.1 q j g1 g2, h.2.2.2.1, h.2.2.2.2.1, fun h3 => by rw [h_up_nc (by omega)]; exact h.2.2.2.2.2.1 h3, h.2.2.2.2.2.2⟩
theorem b_wL {c k : Nat} {x : Int64} (h : b_ct n SH FI FL FR n2 SH2 F2 L2 R2) (hc : n ≤ c) : b_ct n SH FI FL FR n2 SH2 F2 (h_up L2 c k x) R2 := ⟨h.1, h.2.1, h.2.2.1, fun q j g1 g2 => by rw [h_up_nc (by omega)]; exact h.2.2.2.1 q j g1 g2, h.2.2.2.2.1, h.2.2.2.2.2⟩
theorem b_wR {c k : Nat} {x : Option Nat} (h : b_ct n SH FI FL FR n2 SH2 F2 L2 R2) (hc : n ≤ c) : b_ct n SH FI FL FR n2 SH2 F2 L2 (h_up R2 c k x) := ⟨h.1, h.2.1, h.2.2.1, h.2.2.2.1, fun q j g1 => by rw [h_up_nc (by omega)]; exact h.2.2.2.2.1 q j g1, h.2.2.2.2.2⟩
theorem b_w4 {x : Int32} (h : b_ct n SH FI FL FR n2 SH2 F2 L2 R2) : b_ct n SH FI FL FR n2 SH2 (h_up F2 110 4 x) L2 R2 := ⟨h.1, h.2.1, fun q j g1 g2 => by rw [h_up_x (fun e => g2 (Or.inl ⟨e.1, by omega, by omega⟩))]; exact h.2.2.1 q j g1 g2, h.2.2.2.1, h.2.2.2.2.1, fun h3 => by rw [h_up_x (by decide)]; exact h.2.2.2.2.2.1 h3, h.2.2.2.2.2.2⟩
theorem b_nw {v : Unit} {tg : Nat} (h0 : h_S n SH) (h : P_nw tg n sl SH FI FL FR v s) : ∃ sl2 SH2 F2 L2 R2, s = (n + 1, sl2, SH2, F2, L2, R2) ∧ b_ct n SH FI FL FR (n + 1) SH2 F2 L2 R2 ∧ (∀ k, R2 n k = none) ∧ F2 110 = FI 110 ∧ L2 110 = FL 110 := by
  have h1 := h0.1
  have nn : ∀ {α : Type} {F : Nat → α} {x : α} {c : Nat}, c ≠ n → va_up F n x c = F c := fun hc => if_neg hc
  refine ⟨_, _, _, _, _, h, ⟨by omega, ⟨by omega, fun q hq => ?_⟩, fun c k g1 _ => ?_, fun c k g1 _ => ?_, fun c k g1 => ?_, fun h3 => ?_, fun c g1 => ?_⟩, fun k => ?_, ?_, ?_⟩
  · rw [nn (by omega)]; exact h0.2 q hq
  · rw [nn (by omega)]
  · rw [nn (by omega)]
  · rw [nn (by omega)]
  · rw [nn (by omega)]; exact h3
  · rw [nn (by omega)]
  · have e : va_up FR n (fun _ => none) n = fun _ => none := if_pos rfl
    rw [e]
  · rw [nn (by omega)]
  · rw [nn (by omega)]
theorem b_take {v : Unit} (h0 : h_S n SH) (h : RX4_take n sl SH FI FL FR v s) : ∃ F2 L2, s = (n, sl, SH, F2, L2, FR) ∧ b_ct n SH FI FL FR n SH F2 L2 FR := by
  rcases h with ⟨h1, h⟩ | ⟨-, -, rfl⟩
  · rcases h with ⟨h2, -, -, -, rfl⟩ | ⟨-, -, rfl⟩
    · refine ⟨_, _, rfl, b_a h0 ⟨fun c k hck => ?_, fun c k hck => h_up_x hck⟩ (fun h => absurd h1 h)⟩
      rw [h_up_x (fun h => hck ⟨h.1, by omega, by omega⟩), h_up_x (fun h => hck ⟨h.1, by omega, by omega⟩)]
    · exact ⟨_, _, rfl, b_rf h0⟩
  · exact ⟨_, _, rfl, b_rf h0⟩
theorem b_refuse {a : Int32} {v : Unit} (h0 : h_S n SH) (h : RX4_refuse a n sl SH FI FL FR v s) : ∃ F2, s = (n, sl, SH, F2, FL, FR) ∧ b_ct n SH FI FL FR n SH F2 FL FR := by
  rcases h with ⟨h1, h⟩ | ⟨-, -, rfl⟩
  · rcases h with ⟨-, -, rfl⟩ | ⟨-, h⟩
    · exact ⟨_, rfl, b_rf h0⟩
    · rcases h with ⟨-, -, -, rfl⟩ | ⟨-, -, rfl⟩
      · refine ⟨_, rfl, b_a h0 ⟨fun c k hck => ?_, fun _ _ _ => rfl⟩ (fun h => absurd h1 h)⟩
        rw [h_up_x (fun h => hck ⟨h.1, by omega, by omega⟩), h_up_x (fun h => hck ⟨h.1, by omega, by omega⟩), h_up_x (fun h => hck ⟨h.1, by omega, by omega⟩)]
      · exact ⟨_, rfl, b_rf h0⟩
  · exact ⟨_, rfl, b_rf h0⟩
theorem b_expect {a : Int32} {v : Unit} (h0 : h_S n SH) (h : RX4_expect a n sl SH FI FL FR v s) : ∃ F2 L2, s = (n, sl, SH, F2, L2, FR) ∧ b_ct n SH FI FL FR n SH F2 L2 FR := by
  rcases h with ⟨-, h⟩ | ⟨-, h⟩
  · obtain ⟨v1, n1, sl1, SH1, FI1, FL1, FR1, hc, -, rfl⟩ := h
    exact b_take h0 hc
  · obtain ⟨v1, n1, sl1, SH1, FI1, FL1, FR1, hc, -, rfl⟩ := h
    obtain ⟨F2, e, q⟩ := b_refuse h0 hc
    exact ⟨F2, FL, e, q⟩
theorem b_raise {w : Int32} (h0 : h_S n SH) (h : RX4_raise n sl SH FI FL FR w s) : ∃ F2, s = (n, sl, SH, F2, FL, FR) ∧ b_ct n SH FI FL FR n SH F2 FL FR := by
  rcases h with ⟨-, -, rfl⟩ | ⟨-, h⟩
  · exact ⟨_, rfl, b_w4 (b_rf h0)⟩
  · obtain ⟨v1, n1, sl1, SH1, FI1, FL1, FR1, hc, -, rfl⟩ := h
    exact b_refuse h0 hc
theorem b_high {w : Int64} (h0 : h_S n SH) (h : RX4_refuseHighRegister n sl SH FI FL FR w s) : ∃ F2, s = (n, sl, SH, F2, FL, FR) ∧ b_ct n SH FI FL FR n SH F2 FL FR := by
  rcases h with ⟨-, h⟩ | ⟨-, -, rfl⟩
  · rcases h with ⟨-, -, rfl⟩ | ⟨-, h⟩
    · exact ⟨_, rfl, b_rf h0⟩
    · obtain ⟨v1, n1, sl1, SH1, FI1, FL1, FR1, hc, -, rfl⟩ := h
      exact b_refuse h0 hc
  · exact ⟨_, rfl, b_rf h0⟩
/-- the links of a chain -/
theorem b_loop {M0 M2 : Nat → Nat → (Nat → Nat × Nat) → (Nat → Nat → Int32) → (Nat → Nat → Int64) → (Nat → Nat → Option Nat) → Option Nat → hS → Prop} {M1 : Int32 → Nat → Nat → (Nat → Nat × Nat) → (Nat → Nat → Int32) → (Nat → Nat → Int64) → (Nat → Nat → Option Nat) → Option Nat → hS → Prop} {a1 : Int32} {x : Nat} (h0 : 176 ≤ n) (hM : ∀ a n sl SH FI FL FR v s, h_S n SH → M1 a n sl SH FI FL FR v s → p_R n SH FI FL FR v s) : ∀ (gl l : Nat) (l5 l6 : Int32) (n1 sl1 : Nat) (SH1 : Nat → Nat × Nat) (F1 : Nat → Nat → Int32) (L1 : Nat → Nat → Int64) (R1 : Nat → Nat → Option Nat) (v : Option Nat) (s : hS), GX4_readLevel_68 M0 M1 M2 a1 gl (some x) (some l) l5 l6 n1 sl1 SH1 F1 L1 R1 v s → b_ct n SH FI FL FR n1 SH1 F1 L1 R1 → n ≤ x → x < n1 → n ≤ l → l ≠ x → R1 x 6 = none → ∃ n2 sl2 SH2 F2 L2 R2, v = some x ∧ s = (n2, sl2, SH2, F2, L2, R2) ∧ x < n2 ∧ b_ct n SH FI FL FR n2 SH2 F2 L2 R2 ∧ R2 x 6 = none := by
  intro gl
  induction gl with
  | zero => intro l l5 l6 n1 sl1 SH1 F1 L1 R1 v s h; exact h.elim
  | succ gl ih =>
    intro l l5 l6 n1 sl1 SH1 F1 L1 R1 v s h hb hx hx1 hl hlx hR
    rcases h with ⟨-, h⟩ | ⟨-, rfl, rfl⟩
    · rcases h with ⟨-, h⟩ | ⟨-, rfl, rfl⟩
      · obtain ⟨v3, n3, sl3, SH3, FI3, FL3, FR3, hc, v4, n4, sl4, SH4, FI4, FL4, FR4, hm, c6, e6, c7, e7, c8, e8, hK⟩ := h
        cases e6
        cases e7
        obtain ⟨F3, L3, e, q3⟩ := b_take hb.2.1 hc
        cases e
        obtain ⟨c, n5, sl5, SH5, F5, L5, R5, rfl, e, g1, g2, q4, q5⟩ := hM _ _ _ _ _ _ _ _ _ q3.2.1 hm
        cases e
        rw [h_up_eq] at e8 hK
        cases e8
        have hb2 := b_tr hb (b_tr q3 q4)
        have hn1 := hb.1
        have hn4 := q4.1
        refine ih c8 l5 _ n4 sl4 SH4 _ FL4 _ v s hK (b_wI (b_wR hb2 hl) h0 (by omega)) hx (by omega) (by omega) (by omega) ?_
        rw [h_up_nc (fun e => hlx e.symm), q4.2.2.2.2.1 x 6 hx1]
        exact hR
      · exact ⟨_, _, _, _, _, _, rfl, rfl, hx1, hb, hR⟩
    · exact ⟨_, _, _, _, _, _, rfl, rfl, hx1, hb, hR⟩
theorem b_G : ∀ (g e : Nat) (a1 : Int32) (n sl : Nat) (SH : Nat → Nat × Nat) (FI : Nat → Nat → Int32) (FL : Nat → Nat → Int64) (FR : Nat → Nat → Option Nat) (v : Option Nat) (s : hS), h_S n SH → QX4 g e a1 n sl SH FI FL FR v s → p_R n SH FI FL FR v s := by
  intro g
  induction g with
  | zero => intro e a1 n sl SH FI FL FR v s _ h; exact h.elim
  | succ g ih =>
    intro e a1 n sl SH FI FL FR v s hQ h
    have h176 := hQ.1
    match e, h with
    | 0, h =>
      obtain ⟨v0, n0, sl0, SH0, FI0, FL0, FR0, k0, v1, n1, sl1, SH1, FI1, FL1, FR1, k1, h⟩ := h
      obtain ⟨sl', SH', F', L', R', e, q0, q1, -, -⟩ := b_nw hQ k0
      cases e
      obtain ⟨-, e⟩ := k1
      cases e
      have b1 := b_wL (k := 1) (x := FL0 110 9) (b_wI (k := 0) (x := FI0 110 8) q0 h176 (Nat.le_refl _)) (Nat.le_refl _)
      rcases h with ⟨-, h⟩ | ⟨-, h⟩
      · obtain ⟨v3, n3, sl3, SH3, FI3, FL3, FR3, hc, rfl, rfl⟩ := h
        obtain ⟨F3, L3, e, q3⟩ := b_take b1.2.1 hc
        cases e
        exact ⟨n, _, _, _, _, _, _, rfl, rfl, Nat.le_refl _, by omega, b_tr b1 q3, q1 6⟩
      · rcases h with ⟨-, h⟩ | ⟨-, h⟩
        · obtain ⟨v5, n5, sl5, SH5, FI5, FL5, FR5, hc, h⟩ := h
          obtain ⟨F5, e, q5⟩ := b_raise b1.2.1 hc
          cases e
          rcases h with ⟨-, rfl, rfl⟩ | ⟨-, h⟩
          · exact ⟨n, _, _, _, _, _, _, rfl, rfl, Nat.le_refl _, by omega, b_tr b1 q5, q1 6⟩
          · obtain ⟨v7, n7, sl7, SH7, FI7, FL7, FR7, hc7, v8, n8, sl8, SH8, FI8, FL8, FR8, hm, rfl, rfl⟩ := h
            obtain ⟨F7, L7, e, q7⟩ := b_take q5.2.1 hc7
            cases e
            obtain ⟨c, n9, sl9, SH9, F9, L9, R9, rfl, e, g1, g2, q8, q9⟩ := ih 0 0 _ _ _ _ _ _ _ _ q7.2.1 hm
            cases e
            refine ⟨n, _, _, _, _, _, _, rfl, rfl, Nat.le_refl _, by omega, b_w4 (b_wR (b_tr b1 (b_tr q5 (b_tr q7 q8))) (Nat.le_refl _)), ?_⟩
            rw [h_up_ne (by decide), q8.2.2.2.2.1 n 6 (by omega)]
            exact q1 6
        · rcases h with ⟨-, h⟩ | ⟨-, h⟩
          · obtain ⟨v12, n12, sl12, SH12, FI12, FL12, FR12, hc, v13, n13, sl13, SH13, FI13, FL13, FR13, hc2, v15, n15, sl15, SH15, FI15, FL15, FR15, hc3, rfl, rfl⟩ := h
            obtain ⟨F3, L3, e, q3⟩ := b_take b1.2.1 hc
            cases e
            obtain ⟨F4, e, q4⟩ := b_high q3.2.1 hc2
            cases e
            obtain ⟨F5, L5, e, q5⟩ := b_expect q4.2.1 hc3
            cases e
            exact ⟨n, _, _, _, _, _, _, rfl, rfl, Nat.le_refl _, by omega, b_tr (b_wL (b_tr b1 (b_tr q3 q4)) (Nat.le_refl _)) q5, q1 6⟩
          · rcases h with ⟨-, h⟩ | ⟨-, h⟩
            · obtain ⟨v5, n5, sl5, SH5, FI5, FL5, FR5, hc, h⟩ := h
              obtain ⟨F5, e, q5⟩ := b_raise b1.2.1 hc
              cases e
              rcases h with ⟨-, rfl, rfl⟩ | ⟨-, h⟩
              · exact ⟨n, _, _, _, _, _, _, rfl, rfl, Nat.le_refl _, by omega, b_tr b1 q5, q1 6⟩
              · obtain ⟨v7, n7, sl7, SH7, FI7, FL7, FR7, hc7, v8, n8, sl8, SH8, FI8, FL8, FR8, hm, v22, n22, sl22, SH22, FI22, FL22, FR22, hc8, rfl, rfl⟩ := h
                obtain ⟨F7, L7, e, q7⟩ := b_take q5.2.1 hc7
                cases e
                obtain ⟨c, n9, sl9, SH9, F9, L9, R9, rfl, e, g1, g2, q8, q9⟩ := ih 2 0 _ _ _ _ _ _ _ _ q7.2.1 hm
                cases e
                obtain ⟨F8, L8, e, q10⟩ := b_expect q8.2.1 hc8
                cases e
                refine ⟨n, _, _, _, _, _, _, rfl, rfl, Nat.le_refl _, by omega, b_w4 (b_tr (b_wR (b_tr b1 (b_tr q5 (b_tr q7 q8))) (Nat.le_refl _)) q10), ?_⟩
                rw [h_up_ne (by decide), q8.2.2.2.2.1 n 6 (by omega)]
                exact q1 6
            · obtain ⟨v24, n24, sl24, SH24, FI24, FL24, FR24, hc, rfl, rfl⟩ := h
              obtain ⟨F4, e, q4⟩ := b_refuse b1.2.1 hc
              cases e
              exact ⟨n, _, _, _, _, _, _, rfl, rfl, Nat.le_refl _, by omega, b_tr b1 q4, q1 6⟩
    | 1, h =>
      rcases h with ⟨-, h⟩ | ⟨-, h⟩
      · obtain ⟨v1, n1, sl1, SH1, FI1, FL1, FR1, hm, h⟩ := h
        obtain ⟨c, n9, sl9, SH9, F9, L9, R9, rfl, e, g1, g2, q1, q2⟩ := ih 1 _ _ _ _ _ _ _ _ _ hQ hm
        cases e
        rcases h with ⟨-, h⟩ | ⟨-, rfl, rfl⟩
        · obtain ⟨v4, n4, sl4, SH4, FI4, FL4, FR4, k0, v5, n5, sl5, SH5, FI5, FL5, FR5, k1, h⟩ := h
          obtain ⟨sl', SH', F', L', R', e, q3, q4, -, -⟩ := b_nw q1.2.1 k0
          cases e
          obtain ⟨-, e⟩ := k1
          cases e
          have hn1 := q1.1
          have b1 := b_wR (k := 3) (x := some c) (b_wL (k := 1) (x := (0 : Int64)) (b_wI (k := 0) (x := (25 : Int32)) (b_tr q1 q3) h176 hn1) hn1) hn1
          have fin : ∀ {m : Int32}, RX4_readLevel_63 (fun n sl SH FI FL FR => QX4 g 0 0 n sl SH FI FL FR) (fun a1 n sl SH FI FL FR => QX4 g 1 a1 n sl SH FI FL FR) (fun n sl SH FI FL FR => QX4 g 2 0 n sl SH FI FL FR) a1 (some n1) (some c) m (n1 + 1) sl4 SH4 (h_up FI4 n1 0 (25 : Int32)) (h_up FL4 n1 1 (0 : Int64)) (h_up FR4 n1 3 (some c)) v s → p_R n SH FI FL FR v s := by
            intro m h
            obtain ⟨gl, h⟩ := h
            obtain ⟨n2, sl2, SH2, F2, L2, R2, rfl, rfl, g3, g4, g5⟩ := b_loop (x := n1) h176 (fun a n sl SH FI FL FR v s hS2 hm2 => ih 1 a n sl SH FI FL FR v s hS2 hm2) gl c _ _ _ _ _ _ _ _ v s h b1 hn1 (by omega) g1 (by omega) (by rw [h_up_ne (by decide)]; exact q4 6)
            exact ⟨n1, _, _, _, _, _, _, rfl, rfl, hn1, g3, g4, g5⟩
          rcases h with ⟨-, h⟩ | ⟨-, h⟩
          · exact fin h
          · exact fin h
        · exact ⟨c, _, _, _, _, _, _, rfl, rfl, g1, g2, q1, q2⟩
      · obtain ⟨v8, n8, sl8, SH8, FI8, FL8, FR8, hm, rfl, rfl⟩ := h
        exact ih 0 0 _ _ _ _ _ _ _ _ hQ hm
    | e + 2, h =>
      obtain ⟨v0, n0, sl0, SH0, FI0, FL0, FR0, hm, h⟩ := h
      obtain ⟨c, n9, sl9, SH9, F9, L9, R9, rfl, e, g1, g2, q1, q2⟩ := ih 1 _ _ _ _ _ _ _ _ _ hQ hm
      cases e
      rcases h with ⟨-, h⟩ | ⟨-, rfl, rfl⟩
      · obtain ⟨v2, n2, sl2, SH2, FI2, FL2, FR2, hc, h⟩ := h
        obtain ⟨F5, e, q5⟩ := b_raise q1.2.1 hc
        cases e
        rcases h with ⟨-, rfl, rfl⟩ | ⟨-, h⟩
        · exact ⟨c, _, _, _, _, _, _, rfl, rfl, g1, g2, b_tr q1 q5, q2⟩
        · obtain ⟨v4, n4, sl4, SH4, FI4, FL4, FR4, k0, v5, n5, sl5, SH5, FI5, FL5, FR5, k1, v7, n7, sl7, SH7, FI7, FL7, FR7, hc7, v8, n8, sl8, SH8, FI8, FL8, FR8, hm8, v10, n10, sl10, SH10, FI10, FL10, FR10, hc10, v11, n11, sl11, SH11, FI11, FL11, FR11, hm11, rfl, rfl⟩ := h
          have hn1 := q1.1
          obtain ⟨sl', SH', F', L', R', e, q3, q4, -, -⟩ := b_nw q5.2.1 k0
          cases e
          obtain ⟨-, e⟩ := k1
          cases e
          have b1 := b_wR (k := 3) (x := some c) (b_wL (k := 1) (x := (0 : Int64)) (b_wI (k := 0) (x := (63 : Int32)) (b_tr q1 (b_tr q5 q3)) h176 hn1) hn1) hn1
          obtain ⟨F7, L7, e, q7⟩ := b_take b1.2.1 hc7
          cases e
          obtain ⟨c8, n9, sl9, SH9, F9, L9, R9, rfl, e, g3, g4, q8, q9⟩ := ih 2 0 _ _ _ _ _ _ _ _ q7.2.1 hm8
          cases e
          obtain ⟨F10, L10, e, q10⟩ := b_expect q8.2.1 hc10
          cases e
          obtain ⟨c11, n12, sl12, SH12, F12, L12, R12, rfl, e, g5, g6, q11, q12⟩ := ih 2 0 _ _ _ _ _ _ _ _ q10.2.1 hm11
          cases e
          have m8 := q8.1
          have m11 := q11.1
          refine ⟨_, _, _, _, _, _, _, rfl, rfl, hn1, by omega, b_w4 (b_wR (b_tr (b_tr (b_wR (b_tr b1 (b_tr q7 q8)) hn1) q10) q11) hn1), ?_⟩
          rw [h_up_ne (by decide), q11.2.2.2.2.1 _ 6 (by omega), h_up_ne (by decide), q8.2.2.2.2.1 _ 6 (by omega), h_up_ne (by decide)]
          exact q4 6
      · exact ⟨c, _, _, _, _, _, _, rfl, rfl, g1, g2, q1, q2⟩
end BP
