section
/-! words, numbers, the whole text. -/
theorem t_al_m1 : t_al (-1) = false := by decide
theorem t_dg_m1 : t_dg (-1) = false := by decide
section TL
variable {X : Nat → Int} {N : Nat} {K7 : Int32 → Nat → Nat → (Nat → Nat × Nat) → (Nat → Nat → Int32) → (Nat → Nat → Int64) → (Nat → Nat → Option Nat) → Unit → hS → Prop}
theorem t_rn_s {p : Int → Bool} {f j : Nat} (h : p (t_sg X N j) = true) : t_rn p X N (f + 1) j = t_rn p X N f (j + 1) := by rw [t_rn, if_pos h]
theorem t_rn_e {p : Int → Bool} {f j : Nat} (h : p (t_sg X N j) = false) : t_rn p X N (f + 1) j = j := by rw [t_rn, if_neg (by rw [h]; simp)]
theorem t_53 {i : Nat} : ∀ (g : Nat) (l1 l3 : Int32) (l4 : Int64) (n sl : Nat) (SH : Nat → Nat × Nat) (FI : Nat → Nat → Int32) (FL : Nat → Nat → Int64) (FR : Nat → Nat → Option Nat) (v : Unit) (s : hS) (f j : Nat), GX12_tokens_53 K7 g l1 l3 l4 n sl SH FI FL FR v s → x_vw FI X N → l1.toInt = j → l3.toInt = i → i ≤ j → j ≤ N → N - j < f → (∀ q, i ≤ q → q < j → t_al (t_sg X N q) = true) → l4.toInt = t_wv X N i (min (j - i) 8) → ∃ l' n2 sl2 SH2 FI2 FL2 FR2, K7 l' n2 sl2 SH2 FI2 FL2 FR2 v s ∧ l'.toInt = t_rn t_al X N f j ∧ t_ap (n, sl, SH, FI, FL, FR) (n2, sl2, SH2, FI2, FL2, FR2) (if t_rn t_al X N f j - i > 8 then (6, 0, i) else if t_wd (t_wv X N i (t_rn t_al X N f j - i)) = -1 then (1, t_wv X N i (t_rn t_al X N f j - i), i) else (2, t_wd (t_wv X N i (t_rn t_al X N f j - i)), i)) := by
  intro g
  induction g with
  | zero => intro l1 l3 l4 n sl SH FI FL FR v s f j h; exact h.elim
  | succ g ih =>
    intro l1 l3 l4 n sl SH FI FL FR v s f j h hx h1 h3 hij hjN hf hal h4
    have hN := hx.2.1
    have hsg := x_sign (SH := SH) (FL := FL) (FR := FR) hx h1
    have hrg := t_sg_rg hx j
    have hsm := x_small (SH := SH) (FI := FI) (FL := FL) (FR := FR) hsg
    have hdg := x_digit (SH := SH) (FI := FI) (FL := FL) (FR := FR) hsg
    have hd := i_sub h1 h3 (by omega) (by omega)
    have c8 : ((8 : Int32)).toInt = 8 := by decide
    cases f with
    | zero => omega
    | succ f =>
      have next : t_al (t_sg X N j) = true → RX12_tokens_77 K7 (GX12_tokens_53 K7 g) l1 l3 l4 n sl SH FI FL FR v s → ∃ l' n2 sl2 SH2 FI2 FL2 FR2, K7 l' n2 sl2 SH2 FI2 FL2 FR2 v s ∧ l'.toInt = t_rn t_al X N (f + 1) j ∧ t_ap (n, sl, SH, FI, FL, FR) (n2, sl2, SH2, FI2, FL2, FR2) (if t_rn t_al X N (f + 1) j - i > 8 then (6, 0, i) else if t_wd (t_wv X N i (t_rn t_al X N (f + 1) j - i)) = -1 then (1, t_wv X N i (t_rn t_al X N (f + 1) j - i), i) else (2, t_wd (t_wv X N i (t_rn t_al X N (f + 1) j - i)), i)) := by
        intro ha h
        rw [t_rn_s ha]
        have hjl : j < N := by
          rcases Nat.lt_or_ge j N with h2 | h2
          · exact h2
          · rw [t_sg_N h2, t_al_m1] at ha
            cases ha
        have hl1 : (l1 + 1).toInt = ((j + 1 : Nat) : Int) := by
          rw [i_add h1 (by decide : ((1 : Int32)).toInt = 1) (by omega) (by omega)]; omega
        have hal' : ∀ q, i ≤ q → q < j + 1 → t_al (t_sg X N q) = true := by
          intro q h2 h3
          by_cases e : q = j
          · subst e; exact ha
          · exact hal q h2 (by omega)
        rcases h with ⟨h5, h⟩ | ⟨h5, h⟩
        · rw [hd, c8] at h5
          have e1 : min (j - i) 8 = j - i := by omega
          have e2 : min (j + 1 - i) 8 = (j - i) + 1 := by omega
          have rg := t_wv_rg (X := X) (N := N) (i := i) (j - i) (fun q h2 h3 => hal q h2 (by omega)) (by omega)
          have pw := p37_8 (j - i) (by omega)
          have cdr := t_cd_rg ha
          rw [e1] at h4
          have hm := l_mul (by decide : ((37 : Int64)).toInt = 37) h4 (by omega) (by omega)
          rcases h with ⟨h6, h⟩ | ⟨h6, h⟩
          · have hns := hsm.mp h6
            have hcd : t_cd (t_sg X N j) = t_sg X N j - 21 := by unfold t_cd; rw [if_neg (by rw [hns]; simp)]
            have hc := i_sub hsg (by decide : ((21 : Int32)).toInt = 21) (by omega) (by omega)
            have hs := l_add hm (i_2l hc) (by omega) (by omega)
            refine ih (l1 + 1) l3 _ n sl SH FI FL FR v s f (j + 1) h hx hl1 h3 (by omega) (by omega) (by omega) hal' ?_
            rw [e2, t_wv, show i + (j - i) = j by omega, hcd]
            exact hs
          · have hns : t_sm (t_sg X N j) = true := by
              cases e : t_sm (t_sg X N j) with
              | true => rfl
              | false => exact absurd (hsm.mpr e) h6
            have hcd : t_cd (t_sg X N j) = t_sg X N j - 96 := by unfold t_cd; rw [if_pos hns]
            have hc := i_sub hsg (by decide : ((96 : Int32)).toInt = 96) (by omega) (by omega)
            have hs := l_add hm (i_2l hc) (by omega) (by omega)
            refine ih (l1 + 1) l3 _ n sl SH FI FL FR v s f (j + 1) h hx hl1 h3 (by omega) (by omega) (by omega) hal' ?_
            rw [e2, t_wv, show i + (j - i) = j by omega, hcd]
            exact hs
        · rw [hd, c8] at h5
          refine ih (l1 + 1) l3 _ n sl SH FI FL FR v s f (j + 1) h hx hl1 h3 (by omega) (by omega) (by omega) hal' ?_
          rw [show min (j + 1 - i) 8 = min (j - i) 8 by omega]
          exact h4
      rcases h with ⟨h5, h⟩ | ⟨h5, h⟩
      · have n5 := hsm.mp h5
        rcases h with ⟨h6, h⟩ | ⟨h6, h⟩
        · have n6 := hdg.mp h6
          have na : t_al (t_sg X N j) = false := by unfold t_al; rw [n5, n6]; rfl
          rw [t_rn_e na]
          rcases h with ⟨h7, h⟩ | ⟨h7, h⟩
          · rw [hd, c8] at h7
            obtain ⟨v7, n7, sl7, SH7, FI7, FL7, FR7, hc, h⟩ := h
            rw [if_pos (by omega)]
            exact ⟨l1, n7, sl7, SH7, FI7, FL7, FR7, h, h1, t_token hc (by decide) (by decide) h3⟩
          · rw [hd, c8] at h7
            rw [if_neg (by omega)]
            rw [show min (j - i) 8 = j - i by omega] at h4
            have hwd := x_word (SH := SH) (FI := FI) (FL := FL) (FR := FR) h4
            have cm1 : ((-1 : Int32)).toInt = -1 := by decide
            rcases h with ⟨h8, h⟩ | ⟨h8, h⟩
            · rw [hwd, cm1] at h8
              obtain ⟨v7, n7, sl7, SH7, FI7, FL7, FR7, hc, h⟩ := h
              rw [if_pos h8]
              exact ⟨l1, n7, sl7, SH7, FI7, FL7, FR7, h, h1, t_token hc (by decide) h4 h3⟩
            · rw [hwd, cm1] at h8
              obtain ⟨v7, n7, sl7, SH7, FI7, FL7, FR7, hc, h⟩ := h
              rw [if_neg h8]
              exact ⟨l1, n7, sl7, SH7, FI7, FL7, FR7, h, h1, t_token hc (by decide) (i_2l hwd) h3⟩
        · have n6 : t_dg (t_sg X N j) = true := by
            cases e : t_dg (t_sg X N j) with
            | true => rfl
            | false => exact absurd (hdg.mpr e) h6
          exact next (by unfold t_al; rw [n6, Bool.or_true]) h
      · have n5 : t_sm (t_sg X N j) = true := by
          cases e : t_sm (t_sg X N j) with
          | true => rfl
          | false => exact absurd (hsm.mpr e) h5
        exact next (by unfold t_al; rw [n5, Bool.true_or]) h
theorem t_198 {i : Nat} : ∀ (g : Nat) (l1 l3 : Int32) (l4 : Int64) (n sl : Nat) (SH : Nat → Nat × Nat) (FI : Nat → Nat → Int32) (FL : Nat → Nat → Int64) (FR : Nat → Nat → Option Nat) (v : Unit) (s : hS) (f j : Nat), GX12_tokens_198 K7 g l1 l3 l4 n sl SH FI FL FR v s → x_vw FI X N → l1.toInt = j → l3.toInt = i → i ≤ j → j ≤ N → N - j < f → (∀ q, i ≤ q → q < j → t_dg (t_sg X N q) = true) → l4.toInt = t_nv X N i (min (j - i) 18) → ∃ l' n2 sl2 SH2 FI2 FL2 FR2, K7 l' n2 sl2 SH2 FI2 FL2 FR2 v s ∧ l'.toInt = t_rn t_dg X N f j ∧ t_ap (n, sl, SH, FI, FL, FR) (n2, sl2, SH2, FI2, FL2, FR2) (if t_rn t_dg X N f j - i > 18 then 6 else if t_lt (t_sg X N (t_rn t_dg X N f j)) = true then 6 else 3, t_nv X N i (min (t_rn t_dg X N f j - i) 18), i) := by
  intro g
  induction g with
  | zero => intro l1 l3 l4 n sl SH FI FL FR v s f j h; exact h.elim
  | succ g ih =>
    intro l1 l3 l4 n sl SH FI FL FR v s f j h hx h1 h3 hij hjN hf hal h4
    have hN := hx.2.1
    have hsg := x_sign (SH := SH) (FL := FL) (FR := FR) hx h1
    have hrg := t_sg_rg hx j
    have hdg := x_digit (SH := SH) (FI := FI) (FL := FL) (FR := FR) hsg
    have hlt := x_letter (SH := SH) (FI := FI) (FL := FL) (FR := FR) hsg
    have hd := i_sub h1 h3 (by omega) (by omega)
    have c18 : ((18 : Int32)).toInt = 18 := by decide
    cases f with
    | zero => omega
    | succ f =>
      rcases h with ⟨h5, h⟩ | ⟨h5, h⟩
      · have na := hdg.mp h5
        rw [t_rn_e na]
        rcases h with ⟨h6, h⟩ | ⟨h6, h⟩
        · rw [hd, c18] at h6
          obtain ⟨v7, n7, sl7, SH7, FI7, FL7, FR7, hc, h⟩ := h
          rw [if_pos (by omega)]
          exact ⟨l1, n7, sl7, SH7, FI7, FL7, FR7, h, h1, t_token hc (by decide) h4 h3⟩
        · rw [hd, c18] at h6
          rw [if_neg (by omega)]
          rcases h with ⟨h7, h⟩ | ⟨h7, h⟩
          · have m7 := hlt.mp h7
            obtain ⟨v7, n7, sl7, SH7, FI7, FL7, FR7, hc, h⟩ := h
            rw [if_neg (by rw [m7]; simp)]
            exact ⟨l1, n7, sl7, SH7, FI7, FL7, FR7, h, h1, t_token hc (by decide) h4 h3⟩
          · have n7 : t_lt (t_sg X N j) = true := by
              cases e : t_lt (t_sg X N j) with
              | true => rfl
              | false => exact absurd (hlt.mpr e) h7
            obtain ⟨v7, n7, sl7, SH7, FI7, FL7, FR7, hc, h⟩ := h
            rw [if_pos (by assumption)]
            exact ⟨l1, n7, sl7, SH7, FI7, FL7, FR7, h, h1, t_token hc (by decide) h4 h3⟩
      · have ha : t_dg (t_sg X N j) = true := by
          cases e : t_dg (t_sg X N j) with
          | true => rfl
          | false => exact absurd (hdg.mpr e) h5
        rw [t_rn_s ha]
        have hjl : j < N := by
          rcases Nat.lt_or_ge j N with h2 | h2
          · exact h2
          · rw [t_sg_N h2, t_dg_m1] at ha
            cases ha
        have hl1 : (l1 + 1).toInt = ((j + 1 : Nat) : Int) := by
          rw [i_add h1 (by decide : ((1 : Int32)).toInt = 1) (by omega) (by omega)]; omega
        have hal' : ∀ q, i ≤ q → q < j + 1 → t_dg (t_sg X N q) = true := by
          intro q h2 h3
          by_cases e : q = j
          · subst e; exact ha
          · exact hal q h2 (by omega)
        rcases h with ⟨h6, h⟩ | ⟨h6, h⟩
        · rw [hd, c18] at h6
          have e2 : min (j + 1 - i) 18 = (j - i) + 1 := by omega
          rw [show min (j - i) 18 = j - i by omega] at h4
          have rg := t_nv_rg (X := X) (N := N) (i := i) (j - i) (fun q h2 h3 => hal q h2 (by omega)) (by omega)
          have pw := p10_18 (j - i) (by omega)
          have pw2 : (10 : Int) ^ (j - i) ≤ 100000000000000000 := by
            have : ∀ m : Nat, m ≤ 17 → (10 : Int) ^ m ≤ 100000000000000000 := by decide
            exact this _ (by omega)
          have hm := l_mul (by decide : ((10 : Int64)).toInt = 10) h4 (by omega) (by omega)
          have hs := l_sub (l_add hm (i_2l hsg) (by omega) (by omega)) (by decide : ((48 : Int64)).toInt = 48) (by omega) (by omega)
          refine ih (l1 + 1) l3 _ n sl SH FI FL FR v s f (j + 1) h hx hl1 h3 (by omega) (by omega) (by omega) hal' ?_
          rw [e2, t_nv, show i + (j - i) = j by omega]
          exact hs
        · rw [hd, c18] at h6
          refine ih (l1 + 1) l3 _ n sl SH FI FL FR v s f (j + 1) h hx hl1 h3 (by omega) (by omega) (by omega) hal' ?_
          rw [show min (j + 1 - i) 18 = min (j - i) 18 by omega]
          exact h4
theorem t_sg_lt {i : Nat} (h : t_sg X N i ≠ -1) : i < N := by
  rcases Nat.lt_or_ge i N with h2 | h2
  · exact h2
  · exact absurd (t_sg_N h2) h
theorem t_s2_n {c n m : Int} (h : t_s2 c n m ≠ -1) : n ≠ -1 ∧ (t_s2 c n m = 263 → m ≠ -1) := by
  unfold t_s2 at *
  repeat' split at h
  all_goals first | (exact absurd rfl h) | (refine ⟨by omega, fun e => ?_⟩; simp_all)
theorem t_tk_e {i : Nat} (hi : i < N) (hN : N ≤ 1000) : i < (t_tk X N i).2.2 ∧ (t_tk X N i).2.2 ≤ N := by
  unfold t_tk
  have key : ∀ (p : Int → Bool), p (-1) = false → p (t_sg X N i) = true → i < t_rn p X N 1001 i ∧ t_rn p X N 1001 i ≤ N := by
    intro p hp h
    refine ⟨?_, t_rn_le hp 1001 i (by omega)⟩
    rw [show (1001 : Nat) = 1000 + 1 from rfl, t_rn_s h]
    have := t_rn_ge (p := p) (X := X) (N := N) 1000 (i + 1)
    omega
  split
  · rename_i h
    have k := key t_al t_al_m1 (by unfold t_al; rw [h, Bool.true_or])
    split
    · exact k
    · split <;> exact k
  · split
    · rename_i h
      exact key t_dg t_dg_m1 h
    · split
      · split
        · rename_i h1 h2
          have := t_sg_lt (X := X) (N := N) (i := i + 1) (by omega)
          exact ⟨by show i < i + 2; omega, by show i + 2 ≤ N; omega⟩
        · exact ⟨by show i < i + 1; omega, by show i + 1 ≤ N; omega⟩
      · dsimp only
        unfold t_sn
        split
        · rename_i h2
          have q := t_s2_n h2
          have h3 := t_sg_lt (X := X) (N := N) (i := i + 1) q.1
          dsimp only
          split
          · rename_i h4
            have := t_sg_lt (X := X) (N := N) (i := i + 2) (q.2 h4)
            omega
          · omega
        · split
          · dsimp only; omega
          · dsimp only; omega
theorem t_7 {F0 : Nat → Nat → Int32} {L0 : Nat → Nat → Int64} : ∀ (g : Nat) (l1 : Int32) (n sl : Nat) (SH : Nat → Nat × Nat) (FI : Nat → Nat → Int32) (FL : Nat → Nat → Int64) (FR : Nat → Nat → Option Nat) (v : Unit) (s : hS) (f i : Nat) (L : List (Int × Int × Nat)), GX12_tokens_7 g l1 n sl SH FI FL FR v s → x_vw FI X N → l1.toInt = i → i ≤ N → N - i < f → L.length ≤ i → t_vw F0 L0 FI FL L → t_vw F0 L0 s.2.2.2.1 s.2.2.2.2.1 (L ++ t_tl X N f i) := by
  intro g
  induction g with
  | zero => intro l1 n sl SH FI FL FR v s f i L h; exact h.elim
  | succ g ih =>
    intro l1 n sl SH FI FL FR v s f i L h hx h1 hiN hf hL hv
    have hN := hx.2.1
    have hsg := x_sign (SH := SH) (FL := FL) (FR := FR) hx h1
    have hrg := t_sg_rg hx i
    have hsm := x_small (SH := SH) (FI := FI) (FL := FL) (FR := FR) hsg
    have hdg := x_digit (SH := SH) (FI := FI) (FL := FL) (FR := FR) hsg
    have c32 : ((32 : Int32)).toInt = 32 := by decide
    have c10 : ((10 : Int32)).toInt = 10 := by decide
    have c64 : ((64 : Int32)).toInt = 64 := by decide
    have c49 : ((49 : Int32)).toInt = 49 := by decide
    have c56 : ((56 : Int32)).toInt = 56 := by decide
    have hl1 : (l1 + (1 : Int32)).toInt = ((i + 1 : Nat) : Int) := by
      rw [i_add h1 (by decide : ((1 : Int32)).toInt = 1) (by omega) (by omega)]; omega
    have hl2 : (l1 + (2 : Int32)).toInt = ((i + 2 : Nat) : Int) := by
      rw [i_add h1 (by decide : ((2 : Int32)).toInt = 2) (by omega) (by omega)]; omega
    cases f with
    | zero => omega
    | succ f =>
      rw [t_tl]
      rcases h with ⟨h2, h⟩ | ⟨h2, h⟩
      · rw [h1, hx.1] at h2
        have hiL : i < N := by omega
        rw [if_pos hiL]
        have tke := t_tk_e (X := X) hiL hN
        -- a token is told: on behind it
        have tok : ∀ (l' : Int32) (n2 sl2 : Nat) (SH2 : Nat → Nat × Nat) (FI2 : Nat → Nat → Int32) (FL2 : Nat → Nat → Int64) (FR2 : Nat → Nat → Option Nat), GX12_tokens_7 g l' n2 sl2 SH2 FI2 FL2 FR2 v s → l'.toInt = (t_tk X N i).2.2 → t_ap (n, sl, SH, FI, FL, FR) (n2, sl2, SH2, FI2, FL2, FR2) ((t_tk X N i).1, (t_tk X N i).2.1, i) → t_vw F0 L0 s.2.2.2.1 s.2.2.2.2.1 (L ++ ((t_tk X N i).1, (t_tk X N i).2.1, i) :: t_tl X N f (t_tk X N i).2.2) := by
          intro l' n2 sl2 SH2 FI2 FL2 FR2 h hl ha
          have hv2 := ha.2 F0 L0 L (by omega) hv
          have k13 : FI2 121 13 = FI 121 13 := kq_fld ha.1 (by decide)
          have k126 : FI2 126 = FI 126 := kq_cell ha.1 (by decide)
          have q := ih l' n2 sl2 SH2 FI2 FL2 FR2 v s f (t_tk X N i).2.2 (L ++ [((t_tk X N i).1, (t_tk X N i).2.1, i)]) h ⟨by rw [k13]; exact hx.1, hx.2.1, by rw [k126]; exact hx.2.2⟩ hl tke.2 (by omega) (by rw [List.length_append]; simp; omega) hv2
          rw [List.append_assoc] at q
          exact q
        have blank : t_bl (t_sg X N i) = true → RX12_tokens_35 (GX12_tokens_7 g) l1 n sl SH FI FL FR v s → t_vw F0 L0 s.2.2.2.1 s.2.2.2.2.1 (L ++ t_tl X N f (i + 1)) := by
          intro _ h
          exact ih (l1 + 1) n sl SH FI FL FR v s f (i + 1) L h hx hl1 (by omega) (by omega) (by omega) hv
        rcases h with ⟨h3, h⟩ | ⟨h3, h⟩
        · rw [hsg, c32] at h3
          have hb : t_bl (t_sg X N i) = true := by unfold t_bl; exact decide_eq_true (Or.inl h3)
          rw [if_pos hb]
          exact blank hb h
        · rw [hsg, c32] at h3
          rcases h with ⟨h4, h⟩ | ⟨h4, h⟩
          · rw [hsg, c10] at h4
            have hb : t_bl (t_sg X N i) = true := by unfold t_bl; exact decide_eq_true (Or.inr h4)
            rw [if_pos hb]
            exact blank hb h
          · rw [hsg, c10] at h4
            rw [if_neg (by unfold t_bl; rw [decide_eq_true_eq]; omega)]
            rcases h with ⟨h5, h⟩ | ⟨h5, h⟩
            · have n5 := hsm.mp h5
              rcases h with ⟨h6, h⟩ | ⟨h6, h⟩
              · have n6 := hdg.mp h6
                rcases h with ⟨h7, h⟩ | ⟨h7, h⟩
                · rw [hsg, c64] at h7
                  have e1 := x_sign (SH := SH) (FL := FL) (FR := FR) hx hl1
                  have r1 := t_sg_rg hx (i + 1)
                  have hw := i_2l (i_sub e1 (by decide : ((48 : Int32)).toInt = 48) (by omega) (by omega))
                  have no : ¬ (49 ≤ t_sg X N (i + 1) ∧ t_sg X N (i + 1) ≤ 56) → RX12_tokens_313 (GX12_tokens_7 g) l1 l1 (fX12_sign (l1 + (1 : Int32)) SH FI FL FR) n sl SH FI FL FR v s → t_vw F0 L0 s.2.2.2.1 s.2.2.2.2.1 (L ++ ((t_tk X N i).1, (t_tk X N i).2.1, i) :: t_tl X N f (t_tk X N i).2.2) := by
                    intro hno h
                    have e : t_tk X N i = (6, t_sg X N (i + 1) - 48, i + 1) := by
                      unfold t_tk
                      rw [if_neg (by rw [n5]; simp), if_neg (by rw [n6]; simp), if_pos h7, if_neg hno]
                    rcases h with ⟨h8, h⟩ | ⟨h8, h⟩
                    · obtain ⟨v0, n0, sl0, SH0, FI0, FL0, FR0, hc, h⟩ := h
                      rcases h with ⟨h9, h⟩ | ⟨h9, h⟩
                      · exact tok _ n0 sl0 SH0 FI0 FL0 FR0 h (by rw [e]; exact hl1) (by rw [e]; exact t_token hc rfl hw h1)
                      · exact absurd (show ((0 : Int32)).toInt = 0 by decide) h9
                    · exact absurd (show ((0 : Int32)).toInt = 0 by decide) h8
                  rcases h with ⟨h8, h⟩ | ⟨h8, h⟩
                  · rw [e1, c49] at h8
                    exact no (by omega) h
                  · rw [e1, c49] at h8
                    rcases h with ⟨h9, h⟩ | ⟨h9, h⟩
                    · rw [e1, c56] at h9
                      exact no (by omega) h
                    · rw [e1, c56] at h9
                      have e : t_tk X N i = (4, t_sg X N (i + 1) - 48, i + 2) := by
                        unfold t_tk
                        rw [if_neg (by rw [n5]; simp), if_neg (by rw [n6]; simp), if_pos h7, if_pos (by omega)]
                      rcases h with ⟨h10, h⟩ | ⟨h10, h⟩
                      · exact absurd h10 (by decide)
                      · obtain ⟨v0, n0, sl0, SH0, FI0, FL0, FR0, hc, h⟩ := h
                        rcases h with ⟨h11, h⟩ | ⟨h11, h⟩
                        · exact absurd h11 (by decide)
                        · exact tok _ n0 sl0 SH0 FI0 FL0 FR0 h (by rw [e]; exact hl2) (by rw [e]; exact t_token hc rfl hw h1)
                · rw [hsg, c64] at h7
                  obtain ⟨r, n0, sl0, SH0, FI0, FL0, FR0, hc, h⟩ := h
                  obtain ⟨q1, q2⟩ := sg_signs hc hx h1 hiL hsg
                  have e : t_tk X N i = ((t_sn (t_sg X N i) (t_sg X N (i + 1)) (t_sg X N (i + 2))).1, (t_sn (t_sg X N i) (t_sg X N (i + 1)) (t_sg X N (i + 2))).2.1, i + (t_sn (t_sg X N i) (t_sg X N (i + 1)) (t_sg X N (i + 2))).2.2) := by
                    unfold t_tk
                    rw [if_neg (by rw [n5]; simp), if_neg (by rw [n6]; simp), if_neg h7]
                  have te := tke.2
                  rw [e] at te
                  dsimp only at te
                  refine tok _ n0 sl0 SH0 FI0 FL0 FR0 h ?_ (by rw [e]; exact q1)
                  rw [e, i_add h1 q2 (by omega) (by omega)]
                  dsimp only
                  omega
              · have n6 : t_dg (t_sg X N i) = true := by
                  cases e : t_dg (t_sg X N i) with
                  | true => rfl
                  | false => exact absurd (hdg.mpr e) h6
                obtain ⟨g2, h⟩ := h
                obtain ⟨l', n2, sl2, SH2, FI2, FL2, FR2, q1, q2, q3⟩ := t_198 (K7 := GX12_tokens_7 g) (X := X) (N := N) (i := i) g2 l1 l1 0 n sl SH FI FL FR v s 1001 i h hx h1 h1 (by omega) hiN (by omega) (fun q a b => by omega) (by rw [Nat.sub_self]; rfl)
                have e : t_tk X N i = (if t_rn t_dg X N 1001 i - i > 18 then 6 else if t_lt (t_sg X N (t_rn t_dg X N 1001 i)) = true then 6 else 3, t_nv X N i (min (t_rn t_dg X N 1001 i - i) 18), t_rn t_dg X N 1001 i) := by
                  unfold t_tk
                  rw [if_neg (by rw [n5]; simp), if_pos n6]
                exact tok l' n2 sl2 SH2 FI2 FL2 FR2 q1 (by rw [e]; exact q2) (by rw [e]; exact q3)
            · have n5 : t_sm (t_sg X N i) = true := by
                cases e : t_sm (t_sg X N i) with
                | true => rfl
                | false => exact absurd (hsm.mpr e) h5
              obtain ⟨g2, h⟩ := h
              obtain ⟨l', n2, sl2, SH2, FI2, FL2, FR2, q1, q2, q3⟩ := t_53 (K7 := GX12_tokens_7 g) (X := X) (N := N) (i := i) g2 l1 l1 0 n sl SH FI FL FR v s 1001 i h hx h1 h1 (by omega) hiN (by omega) (fun q a b => by omega) (by rw [Nat.sub_self]; rfl)
              have e : t_tk X N i = (if t_rn t_al X N 1001 i - i > 8 then (6, 0, t_rn t_al X N 1001 i) else if t_wd (t_wv X N i (t_rn t_al X N 1001 i - i)) = -1 then (1, t_wv X N i (t_rn t_al X N 1001 i - i), t_rn t_al X N 1001 i) else (2, t_wd (t_wv X N i (t_rn t_al X N 1001 i - i)), t_rn t_al X N 1001 i)) := by
                unfold t_tk
                rw [if_pos n5]
              refine tok l' n2 sl2 SH2 FI2 FL2 FR2 q1 ?_ ?_
              · rw [q2, e]
                split
                · rfl
                · split <;> rfl
              · have e2 : ((t_tk X N i).1, (t_tk X N i).2.1, i) = (if t_rn t_al X N 1001 i - i > 8 then (6, 0, i) else if t_wd (t_wv X N i (t_rn t_al X N 1001 i - i)) = -1 then (1, t_wv X N i (t_rn t_al X N 1001 i - i), i) else (2, t_wd (t_wv X N i (t_rn t_al X N 1001 i - i)), i)) := by
                  rw [e]
                  split
                  · rfl
                  · split <;> rfl
                rw [e2]
                exact q3
      · rw [h1, hx.1] at h2
        have hie : i = N := by omega
        rw [if_neg (by omega)]
        obtain ⟨v0, n0, sl0, SH0, FI0, FL0, FR0, hc, -, rfl⟩ := h
        exact (t_token (K := 0) (W := 0) (q := N) hc (by decide) (by decide) hx.1).2 F0 L0 L (by omega) hv
end TL
end
section
/-! What the tokens are worth. -/
section TO
variable {X : Nat → Int} {N : Nat}
theorem t_tk_ok {i : Nat} (hi : i < N) (hN : N ≤ 1000) : (t_tk X N i).1 ≠ 0 ∧ ((t_tk X N i).1 = 3 → (0 ≤ (t_tk X N i).2.1 ∧ (t_tk X N i).2.1 ≤ 999999999999999999) ∧ ((t_tk X N i).2.2 ≤ i + 2 → (t_tk X N i).2.1 < 100)) ∧ ((t_tk X N i).1 = 4 → (1 ≤ (t_tk X N i).2.1 ∧ (t_tk X N i).2.1 ≤ 8) ∧ i + 2 ≤ (t_tk X N i).2.2) ∧ ((t_tk X N i).1 = 2 → i + 2 ≤ (t_tk X N i).2.2) ∧ ((t_tk X N i).1 = 5 ∧ (t_tk X N i).2.1 = 256 → i + 2 ≤ (t_tk X N i).2.2) := by
  unfold t_tk
  split
  · rename_i hs
    have ha : t_al (t_sg X N i) = true := by unfold t_al; rw [hs, Bool.true_or]
    have h1 : i + 1 ≤ t_rn t_al X N 1001 i := by
      rw [show (1001 : Nat) = 1000 + 1 from rfl, t_rn_s ha]
      exact t_rn_ge 1000 (i + 1)
    split
    · exact ⟨by simp, fun h => absurd h (by simp), fun h => absurd h (by simp), fun h => absurd h (by simp), fun h => absurd h.1 (by simp)⟩
    · rename_i h8
      split
      · exact ⟨by simp, fun h => absurd h (by simp), fun h => absurd h (by simp), fun h => absurd h (by simp), fun h => absurd h.1 (by simp)⟩
      · rename_i hw
        refine ⟨by simp, fun h => absurd h (by simp), fun h => absurd h (by simp), fun _ => ?_, fun h => absurd h.1 (by simp)⟩
        dsimp only
        rcases Nat.lt_or_ge (t_rn t_al X N 1001 i) (i + 2) with h2 | h2
        · exfalso
          apply hw
          have e : t_rn t_al X N 1001 i - i = 1 := by omega
          have c := t_cd_rg ha
          have e2 : t_wv X N i (t_rn t_al X N 1001 i - i) = t_cd (t_sg X N i) := by
            rw [e, t_wv, t_wv, Nat.add_zero]
            omega
          rw [e2]
          unfold t_wd
          rw [if_neg (by omega), if_neg (by omega), if_neg (by omega), if_neg (by omega), if_neg (by omega), if_neg (by omega), if_neg (by omega), if_neg (by omega), if_neg (by omega), if_neg (by omega)]
        · exact h2
  · split
    · rename_i hs hd
      have hin := t_rn_in (p := t_dg) (X := X) (N := N) 1001 i
      have hge := t_rn_ge (p := t_dg) (X := X) (N := N) 1001 i
      refine ⟨?_, fun h => ?_, fun h => ?_, fun h => ?_, fun h => ?_⟩
      · dsimp only; split
        · simp
        · split <;> simp
      · dsimp only at h ⊢
        have rg := t_nv_rg (X := X) (N := N) (i := i) (min (t_rn t_dg X N 1001 i - i) 18) (fun j h1 h2 => hin j h1 (by omega)) (by omega)
        have p := p10_18 (min (t_rn t_dg X N 1001 i - i) 18) (by omega)
        refine ⟨by omega, fun h2 => ?_⟩
        have p2 : ∀ m : Nat, m ≤ 2 → (10 : Int) ^ m ≤ 100 := by decide
        have := p2 (min (t_rn t_dg X N 1001 i - i) 18) (by omega)
        omega
      · exfalso
        dsimp only at h
        split at h
        · simp at h
        · split at h <;> simp at h
      · exfalso
        dsimp only at h
        split at h
        · simp at h
        · split at h <;> simp at h
      · exfalso
        have h := h.1
        dsimp only at h
        split at h
        · simp at h
        · split at h <;> simp at h
    · split
      · split
        · rename_i h1 h2
          exact ⟨by simp, fun h => absurd h (by simp), fun _ => ⟨by dsimp only; omega, Nat.le_refl _⟩, fun h => absurd h (by simp), fun h => absurd h.1 (by simp)⟩
        · exact ⟨by simp, fun h => absurd h (by simp), fun h => absurd h (by simp), fun h => absurd h (by simp), fun h => absurd h.1 (by simp)⟩
      · dsimp only
        generalize t_sg X N i = C
        unfold t_sn
        split
        · exact ⟨by simp, fun h => absurd h (by simp), fun h => absurd h (by simp), fun h => absurd h (by simp), fun _ => by dsimp only; split <;> omega⟩
        · split
          · rename_i h1 h2
            refine ⟨by simp, fun h => absurd h (by simp), fun h => absurd h (by simp), fun h => absurd h (by simp), fun h => ?_⟩
            exfalso
            have h3 := h.2
            dsimp only at h3
            subst h3
            exact absurd h2 (by decide)
          · exact ⟨by simp, fun h => absurd h (by simp), fun h => absurd h (by simp), fun h => absurd h (by simp), fun h => absurd h.1 (by simp)⟩
/-- the row of tokens: its end, and what holds from each to the next -/
theorem t_tl_ok (hN : N ≤ 1000) : ∀ (f i : Nat), N - i < f → i ≤ N → ∃ T, (t_tl X N f i).length = T + 1 ∧ T ≤ N - i ∧ (t_tl X N f i)[T]? = some (0, 0, N) ∧ (∀ x, (t_tl X N f i)[0]? = some x → i ≤ x.2.2) ∧ (∀ j x, j < T → (t_tl X N f i)[j]? = some x → x.2.2 < N ∧ x.1 = (t_tk X N x.2.2).1 ∧ x.2.1 = (t_tk X N x.2.2).2.1 ∧ ∀ y, (t_tl X N f i)[j + 1]? = some y → (t_tk X N x.2.2).2.2 ≤ y.2.2) := by
  intro f
  induction f with
  | zero => intro i h; omega
  | succ f ih =>
    intro i hf hi
    rw [t_tl]
    by_cases h1 : i < N
    · rw [if_pos h1]
      by_cases h2 : t_bl (t_sg X N i) = true
      · rw [if_pos h2]
        obtain ⟨T, q1, q2, q3, q4, q5⟩ := ih (i + 1) (by omega) (by omega)
        exact ⟨T, q1, by omega, q3, fun x hx => by have := q4 x hx; omega, q5⟩
      · rw [if_neg h2]
        have te := t_tk_e (X := X) h1 hN
        obtain ⟨T, q1, q2, q3, q4, q5⟩ := ih (t_tk X N i).2.2 (by omega) te.2
        refine ⟨T + 1, by rw [List.length_cons, q1], by omega, by rw [List.getElem?_cons_succ]; exact q3, fun x hx => ?_, fun j x hj hx => ?_⟩
        · rw [List.getElem?_cons_zero] at hx
          cases hx
          exact Nat.le_refl _
        · cases j with
          | zero =>
            rw [List.getElem?_cons_zero] at hx
            cases hx
            refine ⟨h1, rfl, rfl, fun y hy => ?_⟩
            rw [List.getElem?_cons_succ] at hy
            exact q4 y hy
          | succ j =>
            rw [List.getElem?_cons_succ] at hx
            have q := q5 j x (by omega) hx
            refine ⟨q.1, q.2.1, q.2.2.1, fun y hy => ?_⟩
            rw [List.getElem?_cons_succ] at hy
            exact q.2.2.2 y hy
    · rw [if_neg h1]
      have e : i = N := by omega
      subst e
      exact ⟨0, rfl, by omega, rfl, fun x hx => by rw [List.getElem?_cons_zero] at hx; cases hx; exact Nat.le_refl _, fun j x hj => by omega⟩
/-- tokens: what is given to the reading of a text -/
theorem t_tokens {n sl : Nat} {SH : Nat → Nat × Nat} {FI : Nat → Nat → Int32} {FL : Nat → Nat → Int64} {FR : Nat → Nat → Option Nat} {v : Unit} {s : hS} (h : RX12_tokens n sl SH FI FL FR v s) (hx : x_vw FI X N) (hr : rl_t (FI 149) (FL 150)) : ∃ P T, (t_tl X N 1001 0).length = T + 1 ∧ tk_ok (kf (s.2.2.2.1 149)) (wf (s.2.2.2.2.1 150)) P T ∧ (s.2.2.2.1 121 67).toInt = ((T + 1 : Nat) : Int) ∧ (∀ i x, (t_tl X N 1001 0)[i]? = some x → kf (s.2.2.2.1 149) i = x.1 ∧ wf (s.2.2.2.2.1 150) i = x.2.1 ∧ (i ≤ T → P i = x.2.2)) := by
  have hN := hx.2.1
  obtain ⟨g, h⟩ := h
  have hx2 : x_vw (h_up FI 121 67 0) X N := ⟨by rw [h_up_x (by decide)]; exact hx.1, hN, by rw [h_up_nc (by decide)]; exact hx.2.2⟩
  have hv0 : t_vw (h_up FI 121 67 0) FL (h_up FI 121 67 0) FL [] := ⟨by rw [h_up_eq]; decide, fun i x hi => by simp at hi, fun i _ => ⟨rfl, rfl⟩⟩
  have q := t_7 (F0 := h_up FI 121 67 0) (L0 := FL) g 0 n sl SH _ FL FR v s 1001 0 [] h hx2 (by decide) (by omega) (by omega) (by simp) hv0
  rw [List.nil_append] at q
  obtain ⟨T, r1, r2, r3, r4, r5⟩ := t_tl_ok (X := X) hN 1001 0 (by omega) (by omega)
  obtain ⟨v1, v2, v3⟩ := q
  have get : ∀ i, i ≤ T → ∃ x, (t_tl X N 1001 0)[i]? = some x := fun i hi => ⟨_, List.getElem?_eq_getElem (by omega)⟩
  have hKW : ∀ i x, (t_tl X N 1001 0)[i]? = some x → kf (s.2.2.2.1 149) i = x.1 ∧ wf (s.2.2.2.2.1 150) i = x.2.1 := fun i x hi => ⟨(v2 i x hi).1, (v2 i x hi).2.1⟩
  have old : ∀ i, T < i → kf (s.2.2.2.1 149) i = (FI 149 i).toInt ∧ wf (s.2.2.2.2.1 150) i = (FL 150 i).toInt := by
    intro i hi
    have := v3 i (by omega)
    refine ⟨?_, ?_⟩
    · show (s.2.2.2.1 149 i).toInt = _
      rw [this.1, h_up_nc (by decide)]
    · show (s.2.2.2.2.1 150 i).toInt = _
      rw [this.2]
  refine ⟨fun i => if i ≤ T then ((t_tl X N 1001 0).getD i (0, 0, 0)).2.2 else N + 3 * (i - T), T, r1, ⟨?_, ?_, ?_, by omega, ?_, ?_⟩, by rw [v1, r1], ?_⟩
  · intro i
    rcases Nat.lt_or_ge T i with hi | hi
    · have o := old i hi
      rw [o.1, o.2]
      exact hr i
    · obtain ⟨x, hxi⟩ := get i hi
      have k := hKW i x hxi
      rw [k.1, k.2]
      by_cases e : i = T
      · subst e
        rw [r3] at hxi
        cases hxi
        exact ⟨fun h => absurd h (by simp), fun h => absurd h (by simp)⟩
      · have p := r5 i x (by omega) hxi
        have tk := t_tk_ok (X := X) p.1 hN
        rw [p.2.1, p.2.2.1]
        exact ⟨fun h => (tk.2.1 h).1, fun h => (tk.2.2.1 h).1⟩
  · intro i hk
    dsimp only
    rcases Nat.lt_or_ge T i with hi | hi
    · rw [if_neg (by omega), if_neg (by omega)]
      exact ⟨by omega, fun _ _ => by omega, fun _ => by omega, fun _ => by omega, fun _ => by omega⟩
    · obtain ⟨x, hxi⟩ := get i hi
      have k := hKW i x hxi
      have hiT : i < T := by
        rcases Nat.lt_or_ge i T with h2 | h2
        · exact h2
        · exfalso
          have e : i = T := by omega
          subst e
          rw [r3] at hxi
          cases hxi
          exact hk k.1
      obtain ⟨y, hyi⟩ := get (i + 1) (by omega)
      have p := r5 i x hiT hxi
      have py := p.2.2.2 y hyi
      have tk := t_tk_ok (X := X) p.1 hN
      have te := t_tk_e (X := X) p.1 hN
      rw [if_pos hi, if_pos (by omega)]
      simp only [List.getD_eq_getElem?_getD, hxi, hyi, Option.getD_some]
      rw [k.1, k.2, p.2.1, p.2.2.1]
      exact ⟨by omega, fun h h2 => (tk.2.1 h).2 (by omega), fun h => by have := (tk.2.2.1 h).2; omega, fun h => by have := tk.2.2.2.1 h; omega, fun h => by have := tk.2.2.2.2 h; omega⟩
  · exact (hKW T _ r3).1
  · intro i hi
    obtain ⟨x, hxi⟩ := get i (by omega)
    have p := r5 i x hi hxi
    rw [(hKW i x hxi).1, p.2.1]
    exact (t_tk_ok (X := X) p.1 hN).1
  · dsimp only
    rw [if_pos (Nat.le_refl _)]
    simp only [List.getD_eq_getElem?_getD, r3, Option.getD_some]
    exact hN
  · intro i x hi
    refine ⟨(hKW i x hi).1, (hKW i x hi).2, fun hT => ?_⟩
    dsimp only
    rw [if_pos hT]
    simp only [List.getD_eq_getElem?_getD, hi, Option.getD_some]
end TO
end
section
/-! THE CLASS READS: its reader's letters and words, by the same text X of N letters. tp: the cell that the text lies in. -/
def y_vw (SH : Nat → Nat × Nat) (FI : Nat → Nat → Int32) (FR : Nat → Nat → Option Nat) (tp : Nat) (X : Nat → Int) (N : Nat) : Prop := (FI 111 6).toInt = N ∧ N ≤ 1000 ∧ FR 111 5 = some tp ∧ (SH tp).2 = 1000 ∧ tp ≠ 111 ∧ tp ≠ 112 ∧ tp ≠ 114 ∧ tp ≠ 115 ∧ (∀ i, i < N → (FI tp i).toInt = X i ∧ 0 ≤ X i ∧ X i ≤ 255)
section YR
variable {X : Nat → Int} {N tp : Nat} {n sl : Nat} {SH : Nat → Nat × Nat} {FI : Nat → Nat → Int32} {FL : Nat → Nat → Int64} {FR : Nat → Nat → Option Nat} {s : hS}
theorem y_fl {k : Nat} {x : Int32} (h : y_vw SH FI FR tp X N) (hk : k ≠ 6) : y_vw SH (h_up FI 111 k x) FR tp X N := ⟨by rw [h_up_x (by rintro ⟨-, e⟩; exact hk e.symm)]; exact h.1, h.2.1, h.2.2.1, h.2.2.2.1, h.2.2.2.2.1, h.2.2.2.2.2.1, h.2.2.2.2.2.2.1, h.2.2.2.2.2.2.2.1, by rw [h_up_nc h.2.2.2.2.1]; exact h.2.2.2.2.2.2.2.2⟩
theorem y_sg_rg (h : y_vw SH FI FR tp X N) (i : Nat) : -1 ≤ t_sg X N i ∧ t_sg X N i ≤ 255 := by
  unfold t_sg
  by_cases h1 : i < N
  · rw [if_pos h1]
    have := h.2.2.2.2.2.2.2.2 i h1
    omega
  · rw [if_neg h1]; omega
theorem y_letter {a v : Int32} {i : Nat} (h : RX7_letter a n sl SH FI FL FR v s) (hy : y_vw SH FI FR tp X N) (ha : a.toInt = i) : v.toInt = t_sg X N i ∧ s = (n, sl, SH, FI, FL, FR) := by
  have hN := hy.2.1
  have cm1 : ((-1 : Int32)).toInt = -1 := by decide
  have ht := hy.2.2.1
  have hz := hy.2.2.2.1
  have hz2 : (Int32.ofNat 1000).toInt = 1000 := by decide
  unfold t_sg
  rcases h with ⟨h1, h⟩ | ⟨h1, h⟩
  · omega
  · rcases h with ⟨h2, h⟩ | ⟨h2, h⟩
    · rw [ha, hy.1] at h2
      obtain ⟨c3, e3, h⟩ := h
      rw [ht] at e3
      cases e3
      rcases h with ⟨h3, h⟩ | ⟨h3, h⟩
      · obtain ⟨c5, e5, -, rfl, rfl⟩ := h
        rw [ht] at e5
        cases e5
        rw [if_pos (by omega), show a.toInt.toNat = i by omega]
        exact ⟨(hy.2.2.2.2.2.2.2.2 i (by omega)).1, rfl⟩
      · rw [hz, hz2] at h3
        omega
    · rw [ha, hy.1] at h2
      obtain ⟨rfl, rfl⟩ := h
      rw [if_neg (by omega)]
      exact ⟨cm1, rfl⟩
/-- the value of a row of letters' numbers, the last one first -/
def t_tv : List Int → Int
  | [] => 0
  | d :: l => 37 * t_tv l + d
theorem t_tv_nn : ∀ (l : List Int), (∀ d, d ∈ l → 1 ≤ d ∧ d ≤ 36) → 0 ≤ t_tv l
  | [], _ => Int.le_refl 0
  | d :: l, h => by
    have h1 := t_tv_nn l (fun x hx => h x (List.mem_cons_of_mem _ hx))
    have h2 := h d (by simp)
    rw [t_tv]
    omega
theorem t_tv_inj : ∀ (l m : List Int), (∀ d, d ∈ l → 1 ≤ d ∧ d ≤ 36) → (∀ d, d ∈ m → 1 ≤ d ∧ d ≤ 36) → t_tv l = t_tv m → l = m
  | [], [], _, _, _ => rfl
  | [], d :: m, _, hm, e => by
    exfalso
    have h1 := t_tv_nn m (fun x hx => hm x (List.mem_cons_of_mem _ hx))
    have h2 := hm d (by simp)
    rw [t_tv, t_tv] at e
    omega
  | c :: l, [], hl, _, e => by
    exfalso
    have h1 := t_tv_nn l (fun x hx => hl x (List.mem_cons_of_mem _ hx))
    have h2 := hl c (by simp)
    rw [t_tv, t_tv] at e
    omega
  | c :: l, d :: m, hl, hm, e => by
    have h1 := hl c (by simp)
    have h2 := hm d (by simp)
    rw [t_tv, t_tv] at e
    have e1 : c = d := by omega
    have e2 : t_tv l = t_tv m := by omega
    rw [e1, t_tv_inj l m (fun x hx => hl x (List.mem_cons_of_mem _ hx)) (fun x hx => hm x (List.mem_cons_of_mem _ hx)) e2]
def t_dl (X : Nat → Int) (N i : Nat) : Nat → List Int
  | 0 => []
  | m + 1 => t_cd (t_sg X N (i + m)) :: t_dl X N i m
theorem t_wv_tv {X : Nat → Int} {N i : Nat} : ∀ m, t_wv X N i m = t_tv (t_dl X N i m)
  | 0 => rfl
  | m + 1 => by rw [t_wv, t_wv_tv m, t_dl, t_tv]
theorem t_dl_len {X : Nat → Int} {N i : Nat} : ∀ m, (t_dl X N i m).length = m
  | 0 => rfl
  | m + 1 => by rw [t_dl, List.length_cons, t_dl_len m]
theorem t_dl_get {X : Nat → Int} {N i : Nat} : ∀ (m q : Nat), q < m → (t_dl X N i m)[q]? = some (t_cd (t_sg X N (i + (m - 1 - q))))
  | 0, q, h => by omega
  | m + 1, 0, h => by rw [t_dl, List.getElem?_cons_zero]; rfl
  | m + 1, q + 1, h => by
    rw [t_dl, List.getElem?_cons_succ, t_dl_get m q (by omega), show m + 1 - 1 - (q + 1) = m - 1 - q by omega]
/-- the words' letters as numbers -/
def t_wl (k : Nat) : List Int := ((x_strB.getD k []).map (fun c => t_cd c.toInt)).reverse
theorem t_wl_v : t_tv (t_wl 0) = 24834 ∧ t_tv (t_wl 1) = 41299405 ∧ t_tv (t_wl 2) = 5042231 ∧ t_tv (t_wl 3) = 730200 ∧ t_tv (t_wl 4) = 224 ∧ t_tv (t_wl 5) = 4330 ∧ t_tv (t_wl 6) = 20619 ∧ t_tv (t_wl 7) = 27843 ∧ t_tv (t_wl 8) = 5831 ∧ t_tv (t_wl 9) = 18356 := by decide
theorem t_wl_rg : ∀ k : Fin 10, ∀ d, d ∈ t_wl k.val → 1 ≤ d ∧ d ≤ 36 := by decide
theorem t_wl_len : ∀ k : Fin 10, (t_wl k.val).length = x_strN.getD k.val 0 ∧ (x_strB.getD k.val []).length = x_strN.getD k.val 0 ∧ x_strN.getD k.val 0 ≤ 5 := by decide
theorem t_wl_sm : ∀ k : Fin 10, ∀ c, c ∈ x_strB.getD k.val [] → 97 ≤ c.toInt ∧ c.toInt ≤ 122 := by decide
theorem t_wd_k (k : Fin 10) (v : Int) : t_wd v = k.val ↔ v = t_tv (t_wl k.val) := by
  obtain ⟨v0, v1, v2, v3, v4, v5, v6, v7, v8, v9⟩ := t_wl_v
  unfold t_wd
  match k with
  | ⟨0, _⟩ => show _ = (0 : Int) ↔ v = t_tv (t_wl 0); rw [v0]; repeat' split; all_goals omega
  | ⟨1, _⟩ => show _ = (1 : Int) ↔ v = t_tv (t_wl 1); rw [v1]; repeat' split; all_goals omega
  | ⟨2, _⟩ => show _ = (2 : Int) ↔ v = t_tv (t_wl 2); rw [v2]; repeat' split; all_goals omega
  | ⟨3, _⟩ => show _ = (3 : Int) ↔ v = t_tv (t_wl 3); rw [v3]; repeat' split; all_goals omega
  | ⟨4, _⟩ => show _ = (4 : Int) ↔ v = t_tv (t_wl 4); rw [v4]; repeat' split; all_goals omega
  | ⟨5, _⟩ => show _ = (5 : Int) ↔ v = t_tv (t_wl 5); rw [v5]; repeat' split; all_goals omega
  | ⟨6, _⟩ => show _ = (6 : Int) ↔ v = t_tv (t_wl 6); rw [v6]; repeat' split; all_goals omega
  | ⟨7, _⟩ => show _ = (7 : Int) ↔ v = t_tv (t_wl 7); rw [v7]; repeat' split; all_goals omega
  | ⟨8, _⟩ => show _ = (8 : Int) ↔ v = t_tv (t_wl 8); rw [v8]; repeat' split; all_goals omega
  | ⟨9, _⟩ => show _ = (9 : Int) ↔ v = t_tv (t_wl 9); rw [v9]; repeat' split; all_goals omega
theorem t_cd_inj {a b : Int} (ha : t_al a = true) (hb : t_al b = true) (h : t_cd a = t_cd b) : a = b := by
  have h1 : (97 ≤ a ∧ a ≤ 122) ∨ (48 ≤ a ∧ a ≤ 57) := by simpa [t_al, t_sm, t_dg] using ha
  have h2 : (97 ≤ b ∧ b ≤ 122) ∨ (48 ≤ b ∧ b ≤ 57) := by simpa [t_al, t_sm, t_dg] using hb
  unfold t_cd at h
  have e1 : t_sm a = decide (97 ≤ a ∧ a ≤ 122) := rfl
  have e2 : t_sm b = decide (97 ≤ b ∧ b ≤ 122) := rfl
  rw [e1, e2] at h
  simp only [decide_eq_true_eq] at h
  split at h <;> split at h <;> omega
/-- the letters at p are those of the k-th word -/
def t_is (X : Nat → Int) (N p m k : Nat) : Prop := m = x_strN.getD k 0 ∧ ∀ j, j < m → t_sg X N (p + j) = ((x_strB.getD k []).getD j 0).toInt
theorem t_is_wd {p m : Nat} (k : Fin 10) (hal : ∀ j, j < m → t_al (t_sg X N (p + j)) = true) : t_is X N p m k.val ↔ t_wd (t_wv X N p m) = k.val := by
  have hl := t_wl_len k
  rw [t_wd_k, t_wv_tv]
  have hx : ∀ d, d ∈ t_dl X N p m → 1 ≤ d ∧ d ≤ 36 := by
    intro d hd
    obtain ⟨q, hq⟩ := List.mem_iff_getElem?.mp hd
    have hq2 := (List.getElem?_eq_some_iff.mp hq).1
    rw [t_dl_len] at hq2
    rw [t_dl_get m q hq2] at hq
    cases hq
    exact t_cd_rg (hal _ (by omega))
  have gd : ∀ (l : List Int32) (q : Nat) (h : q < l.length), l.getD q 0 = l[q] := fun l q h => by rw [List.getD_eq_getElem?_getD, List.getElem?_eq_getElem h, Option.getD_some]
  have wl : ∀ q, q < x_strN.getD k.val 0 → (t_wl k.val)[q]? = some (t_cd ((x_strB.getD k.val []).getD (x_strN.getD k.val 0 - 1 - q) 0).toInt) := by
    intro q hq
    have hq2 : x_strN.getD k.val 0 - 1 - q < (x_strB.getD k.val []).length := by omega
    unfold t_wl
    rw [List.getElem?_reverse (by rw [List.length_map]; omega), List.length_map, hl.2.1, List.getElem?_map, List.getElem?_eq_getElem hq2, Option.map_some, gd _ _ hq2]
  constructor
  · rintro ⟨h1, h2⟩
    congr 1
    apply List.ext_getElem?
    intro q
    rcases Nat.lt_or_ge q m with hq | hq
    · rw [t_dl_get m q hq, wl q (by omega), h2 (m - 1 - q) (by omega), h1]
    · rw [List.getElem?_eq_none (by rw [t_dl_len]; exact hq), List.getElem?_eq_none (by rw [hl.1]; omega)]
  · intro h
    have e := t_tv_inj _ _ hx (t_wl_rg k) h
    have e1 : m = x_strN.getD k.val 0 := by
      have := congrArg List.length e
      rw [t_dl_len, hl.1] at this
      exact this
    refine ⟨e1, fun j hj => ?_⟩
    have e2 := congrArg (fun l => l[m - 1 - j]?) e
    try dsimp only at e2
    rw [t_dl_get m _ (by omega), wl _ (by omega)] at e2
    have e3 := Option.some.inj e2
    rw [show m - 1 - (m - 1 - j) = j by omega, show x_strN.getD k.val 0 - 1 - (m - 1 - j) = j by omega] at e3
    refine t_cd_inj (hal j hj) ?_ e3
    have hj2 : j < (x_strB.getD k.val []).length := by omega
    have := t_wl_sm k _ (List.getElem_mem hj2)
    rw [gd _ _ hj2]
    generalize (x_strB.getD k.val [])[j].toInt = z at this ⊢
    unfold t_al t_sm
    rw [decide_eq_true this, Bool.true_or]
theorem y_len {k : Fin 11} : (fJ0_length_8abf5 k SH FI FL FR).toInt = x_strN.getD k.val 0 := by
  have : ∀ k : Fin 11, ((Int32.ofNat (x_strN.getD k.val 0)) >>> ((0 : Int32) &&& 31)).toInt = x_strN.getD k.val 0 := by decide
  exact this k
theorem y_char {k : Fin 11} {a v : Int32} {j : Nat} (h : RJ0_charAt_5068e k a n sl SH FI FL FR v s) (ha : a.toInt = j) : j < x_strN.getD k.val 0 ∧ v.toInt = ((x_strB.getD k.val []).getD j 0).toInt ∧ s = (n, sl, SH, FI, FL, FR) := by
  rcases h with ⟨h1, h⟩ | ⟨h1, h⟩
  · exact h.elim
  · obtain ⟨v2, n2, sl2, SH2, FI2, FL2, FR2, hc, rfl, rfl⟩ := h
    obtain ⟨v3, n3, sl3, SH3, FI3, FL3, FR3, hd, hp, rfl, h⟩ := hc
    cases h
    obtain ⟨v4, n4, sl4, SH4, FI4, FL4, FR4, he, -, h⟩ := hd
    cases h
    rcases he with ⟨h2, he⟩ | ⟨h2, he⟩
    · exact he.elim
    · rcases he with ⟨h3, he⟩ | ⟨h3, he⟩
      · obtain ⟨-, h⟩ := he
        cases h
        have hj : j < x_strN.getD k.val 0 := by
          have := hp.2
          omega
        refine ⟨hj, ?_, rfl⟩
        rw [show a.toInt.toNat = j by omega]
        have key : ∀ k : Fin 11, ∀ j : Fin 22, ((((x_strB.getD k.val []).getD j.val 0) &&& (255 : Int32)).toUInt32 % 65536).toInt32.toInt = ((x_strB.getD k.val []).getD j.val 0).toInt := by decide
        have hn : x_strN.getD k.val 0 ≤ 22 := by
          have : ∀ k : Fin 11, x_strN.getD k.val 0 ≤ 22 := by decide
          exact this k
        exact key k ⟨j, by omega⟩
      · exact he.elim
theorem y_isWord_G {k : Fin 11} {p m : Nat} (hm : m = x_strN.getD k.val 0) (hp : p + m ≤ 2000) : ∀ (g : Nat) (l2 : Int32) (v : Int32) (s : hS) (j : Nat), GX7_isWord_20 k g l2 n sl SH FI FL FR v s → y_vw SH FI FR tp X N → (FI 111 7).toInt = p → l2.toInt = j → j ≤ m → s = (n, sl, SH, FI, FL, FR) ∧ (v.toInt = 0 ∨ v.toInt = 1) ∧ (v.toInt = 1 ↔ ∀ i, j ≤ i → i < m → t_sg X N (p + i) = ((x_strB.getD k.val []).getD i 0).toInt) := by
  intro g
  induction g with
  | zero => intro l2 v s j h; exact h.elim
  | succ g ih =>
    intro l2 v s j h hy h7 hl hj
    rcases h with ⟨h1, h⟩ | ⟨h1, h⟩
    · rw [hl, y_len] at h1
      obtain ⟨v2, n2, sl2, SH2, FI2, FL2, FR2, hc, v3, n3, sl3, SH3, FI3, FL3, FR3, hd, h⟩ := h
      obtain ⟨q1, q2⟩ := y_letter (i := p + j) hc hy (by rw [i_add h7 hl (by omega) (by omega)]; omega)
      cases q2
      obtain ⟨r1, r2, r3⟩ := y_char (j := j) hd hl
      cases r3
      rw [q1, r2] at h
      rcases h with ⟨h2, h⟩ | ⟨h2, h⟩
      · obtain ⟨w1, w2, w3⟩ := ih (l2 + 1) v s (j + 1) h hy h7 (by rw [i_add hl (by decide : ((1 : Int32)).toInt = 1) (by omega) (by omega)]; omega) (by omega)
        refine ⟨w1, w2, w3.trans ⟨fun a i b c => ?_, fun a i b c => a i (by omega) c⟩⟩
        by_cases e : i = j
        · subst e; exact h2
        · exact a i (by omega) c
      · obtain ⟨rfl, rfl⟩ := h
        exact ⟨rfl, Or.inl (by decide), fun e => absurd e (by decide), fun a => absurd (a j (Nat.le_refl _) (by omega)) h2⟩
    · rw [hl, y_len] at h1
      obtain ⟨rfl, rfl⟩ := h
      exact ⟨rfl, Or.inr (by decide), fun _ i a b => by omega, fun _ => by decide⟩
theorem y_isWord {k : Fin 11} {v : Int32} {p m : Nat} (h : RX7_isWord k n sl SH FI FL FR v s) (hy : y_vw SH FI FR tp X N) (h7 : (FI 111 7).toInt = p) (h8 : (FI 111 8).toInt = ((p + m : Nat) : Int)) (hm : m ≤ 8) (hp : p ≤ 1000) : s = (n, sl, SH, FI, FL, FR) ∧ (v.toInt = 0 ∨ v.toInt = 1) ∧ (v.toInt = 1 ↔ t_is X N p m k.val) := by
  have e := i_sub h8 h7 (by omega) (by omega)
  rcases h with ⟨h1, h⟩ | ⟨h1, h⟩
  · rw [e, y_len] at h1
    obtain ⟨g, h⟩ := h
    obtain ⟨q1, q2, q3⟩ := y_isWord_G (k := k) (p := p) (m := m) (by omega) (by omega) g 0 v s 0 h hy h7 (by decide) (by omega)
    exact ⟨q1, q2, q3.trans ⟨fun a => ⟨by omega, fun j hj => a j (by omega) hj⟩, fun a i _ hi => a.2 i hi⟩⟩
  · rw [e, y_len] at h1
    obtain ⟨rfl, rfl⟩ := h
    exact ⟨rfl, Or.inl (by decide), fun e => absurd e (by decide), fun a => absurd a.1 (by omega)⟩
end YR
end
section
/-! wordKind: which word the letters are. -/
section YW
variable {X : Nat → Int} {N tp : Nat} {n sl : Nat} {SH : Nat → Nat × Nat} {FI : Nat → Nat → Int32} {FL : Nat → Nat → Int64} {FR : Nat → Nat → Option Nat} {s : hS}
/-- a word that the letters are begins as they do -/
theorem t_is_0 {p m : Nat} {k : Fin 10} (h : t_is X N p m k.val) : t_sg X N p = ((x_strB.getD k.val []).getD 0 0).toInt := by
  have hl : ∀ k : Fin 10, 0 < x_strN.getD k.val 0 := by decide
  have := h.2 0 (by rw [h.1]; exact hl k)
  rwa [Nat.add_zero] at this
theorem y_small {a : Int32} {c : Int} (ha : a.toInt = c) : (fX7_isSmall a SH FI FL FR).toInt = 0 ↔ t_sm c = false := by
  unfold fX7_isSmall t_sm
  have c97 : ((97 : Int32)).toInt = 97 := by decide
  have c122 : ((122 : Int32)).toInt = 122 := by decide
  rw [ha, c97, c122, decide_eq_false_iff_not]
  split
  · exact ⟨fun _ => by omega, fun _ => by decide⟩
  · split
    · exact ⟨fun _ => by omega, fun _ => by decide⟩
    · exact ⟨fun h => absurd h (by decide), fun h => by omega⟩
theorem y_digit {a : Int32} {c : Int} (ha : a.toInt = c) : (fX7_isDigit a SH FI FL FR).toInt = 0 ↔ t_dg c = false := by
  unfold fX7_isDigit t_dg
  have c97 : ((48 : Int32)).toInt = 48 := by decide
  have c122 : ((57 : Int32)).toInt = 57 := by decide
  rw [ha, c97, c122, decide_eq_false_iff_not]
  split
  · exact ⟨fun _ => by omega, fun _ => by decide⟩
  · split
    · exact ⟨fun _ => by omega, fun _ => by decide⟩
    · exact ⟨fun h => absurd h (by decide), fun h => by omega⟩
theorem t_wd_rg (v : Int) : t_wd v = -1 ∨ ∃ k : Fin 10, t_wd v = k.val := by
  unfold t_wd
  repeat' split
  · exact Or.inr ⟨0, rfl⟩
  · exact Or.inr ⟨1, rfl⟩
  · exact Or.inr ⟨2, rfl⟩
  · exact Or.inr ⟨3, rfl⟩
  · exact Or.inr ⟨4, rfl⟩
  · exact Or.inr ⟨5, rfl⟩
  · exact Or.inr ⟨6, rfl⟩
  · exact Or.inr ⟨7, rfl⟩
  · exact Or.inr ⟨8, rfl⟩
  · exact Or.inr ⟨9, rfl⟩
  · exact Or.inl rfl
theorem y_wordKind {v : Int32} {p m : Nat} (h : RX7_wordKind n sl SH FI FL FR v s) (hy : y_vw SH FI FR tp X N) (h7 : (FI 111 7).toInt = p) (h8 : (FI 111 8).toInt = ((p + m : Nat) : Int)) (hm : m ≤ 8) (hp : p ≤ 1000) (hal : ∀ j, j < m → t_al (t_sg X N (p + j)) = true) : s = (n, sl, SH, FI, FL, FR) ∧ v.toInt = (if t_wd (t_wv X N p m) = -1 then 4 else t_wd (t_wv X N p m) + 7) := by
  obtain ⟨v0, n0, sl0, SH0, FI0, FL0, FR0, hc, h⟩ := h
  obtain ⟨q1, q2⟩ := y_letter (i := p) hc hy h7
  cases q2
  rw [q1] at h
  -- the k-th word is looked for
  have look : ∀ (k : Fin 10) (kd : Int32), kd.toInt = k.val + 7 → (∀ k2 : Fin 10, t_is X N p m k2.val → k2 = k) → ∀ {v1 : Int32} {n1 sl1 : Nat} {SH1 : Nat → Nat × Nat} {FI1 : Nat → Nat → Int32} {FL1 : Nat → Nat → Int64} {FR1 : Nat → Nat → Option Nat}, RX7_isWord ⟨k.val, by omega⟩ n sl SH FI FL FR v1 (n1, sl1, SH1, FI1, FL1, FR1) → P_if (v1.toInt = 0) (P_ret (4 : Int32) (n1, sl1, SH1, FI1, FL1, FR1)) (P_ret kd (n1, sl1, SH1, FI1, FL1, FR1)) v s → s = (n, sl, SH, FI, FL, FR) ∧ v.toInt = (if t_wd (t_wv X N p m) = -1 then 4 else t_wd (t_wv X N p m) + 7) := by
    intro k kd hkd hu v1 n1 sl1 SH1 FI1 FL1 FR1 hw h
    obtain ⟨w1, w2, w3⟩ := y_isWord hw hy h7 h8 hm hp
    cases w1
    have hiff := t_is_wd (X := X) (N := N) (p := p) (m := m) k hal
    rcases h with ⟨h1, h⟩ | ⟨h1, h⟩
    · obtain ⟨rfl, rfl⟩ := h
      refine ⟨rfl, ?_⟩
      have hno : t_wd (t_wv X N p m) = -1 := by
        rcases t_wd_rg (t_wv X N p m) with e | ⟨k2, e⟩
        · exact e
        · exfalso
          have hi2 := (t_is_wd (X := X) (N := N) (p := p) (m := m) k2 hal).mpr e
          have e2 := hu k2 hi2
          subst e2
          have := w3.mpr hi2
          omega
      rw [if_pos hno]
      decide
    · obtain ⟨rfl, rfl⟩ := h
      refine ⟨rfl, ?_⟩
      have hyes := hiff.mp (w3.mp (by omega))
      rw [if_neg (by rw [hyes]; omega), hyes]
      exact hkd
  have none_ : (∀ k2 : Fin 10, ¬ t_is X N p m k2.val) → P_ret (4 : Int32) (n, sl, SH, FI, FL, FR) v s → s = (n, sl, SH, FI, FL, FR) ∧ v.toInt = (if t_wd (t_wv X N p m) = -1 then 4 else t_wd (t_wv X N p m) + 7) := by
    intro hno h
    obtain ⟨rfl, rfl⟩ := h
    refine ⟨rfl, ?_⟩
    have e : t_wd (t_wv X N p m) = -1 := by
      rcases t_wd_rg (t_wv X N p m) with e | ⟨k2, e⟩
      · exact e
      · exact absurd ((t_is_wd (X := X) (N := N) (p := p) (m := m) k2 hal).mpr e) (hno k2)
    rw [if_pos e]
    decide
  have firsts : ∀ k : Fin 10, ((x_strB.getD k.val []).getD 0 0).toInt = ([114, 118, 98, 110, 102, 99, 111, 116, 100, 109] : List Int).getD k.val 0 := by decide
  have uniq : ∀ (k : Fin 10) (c : Int), t_sg X N p = c → ([114, 118, 98, 110, 102, 99, 111, 116, 100, 109] : List Int).getD k.val 0 = c → ∀ k2 : Fin 10, t_is X N p m k2.val → k2 = k := by
    intro k c hc hk k2 h2
    have e := t_is_0 h2
    rw [hc, firsts k2, ← hk] at e
    have inj : ∀ a b : Fin 10, ([114, 118, 98, 110, 102, 99, 111, 116, 100, 109] : List Int).getD a.val 0 = ([114, 118, 98, 110, 102, 99, 111, 116, 100, 109] : List Int).getD b.val 0 → b = a := by decide
    exact inj k k2 e
  have nob : (∀ k : Fin 10, t_sg X N p ≠ ([114, 118, 98, 110, 102, 99, 111, 116, 100, 109] : List Int).getD k.val 0) → ∀ k2 : Fin 10, ¬ t_is X N p m k2.val := by
    intro hno k2 h2
    have e := t_is_0 h2
    rw [firsts k2] at e
    exact hno k2 e
  rcases h with ⟨h98, h⟩ | ⟨h98, h⟩
  · obtain ⟨v1, n1, sl1, SH1, FI1, FL1, FR1, hw, h⟩ := h
    exact look ⟨2, by decide⟩ 9 (by decide) (uniq ⟨2, by decide⟩ 98 h98 (by decide)) hw h
  · skip
    rcases h with ⟨h99, h⟩ | ⟨h99, h⟩
    · obtain ⟨v1, n1, sl1, SH1, FI1, FL1, FR1, hw, h⟩ := h
      exact look ⟨5, by decide⟩ 12 (by decide) (uniq ⟨5, by decide⟩ 99 h99 (by decide)) hw h
    · skip
      rcases h with ⟨h100, h⟩ | ⟨h100, h⟩
      · obtain ⟨v1, n1, sl1, SH1, FI1, FL1, FR1, hw, h⟩ := h
        exact look ⟨8, by decide⟩ 15 (by decide) (uniq ⟨8, by decide⟩ 100 h100 (by decide)) hw h
      · skip
        rcases h with ⟨hx, h⟩ | ⟨hx, h⟩
        · exact none_ (nob (by intro k; match k with | ⟨0, _⟩ => show t_sg X N p ≠ (114 : Int); omega | ⟨1, _⟩ => show t_sg X N p ≠ (118 : Int); omega | ⟨2, _⟩ => show t_sg X N p ≠ (98 : Int); omega | ⟨3, _⟩ => show t_sg X N p ≠ (110 : Int); omega | ⟨4, _⟩ => show t_sg X N p ≠ (102 : Int); omega | ⟨5, _⟩ => show t_sg X N p ≠ (99 : Int); omega | ⟨6, _⟩ => show t_sg X N p ≠ (111 : Int); omega | ⟨7, _⟩ => show t_sg X N p ≠ (116 : Int); omega | ⟨8, _⟩ => show t_sg X N p ≠ (100 : Int); omega | ⟨9, _⟩ => show t_sg X N p ≠ (109 : Int); omega)) h
        · skip
          rcases h with ⟨h102, h⟩ | ⟨h102, h⟩
          · obtain ⟨v1, n1, sl1, SH1, FI1, FL1, FR1, hw, h⟩ := h
            exact look ⟨4, by decide⟩ 11 (by decide) (uniq ⟨4, by decide⟩ 102 h102 (by decide)) hw h
          · skip
            rcases h with ⟨h109, h⟩ | ⟨h109, h⟩
            · obtain ⟨v1, n1, sl1, SH1, FI1, FL1, FR1, hw, h⟩ := h
              exact look ⟨9, by decide⟩ 16 (by decide) (uniq ⟨9, by decide⟩ 109 h109 (by decide)) hw h
            · skip
              rcases h with ⟨h110, h⟩ | ⟨h110, h⟩
              · obtain ⟨v1, n1, sl1, SH1, FI1, FL1, FR1, hw, h⟩ := h
                exact look ⟨3, by decide⟩ 10 (by decide) (uniq ⟨3, by decide⟩ 110 h110 (by decide)) hw h
              · skip
                rcases h with ⟨h111, h⟩ | ⟨h111, h⟩
                · obtain ⟨v1, n1, sl1, SH1, FI1, FL1, FR1, hw, h⟩ := h
                  exact look ⟨6, by decide⟩ 13 (by decide) (uniq ⟨6, by decide⟩ 111 h111 (by decide)) hw h
                · skip
                  rcases h with ⟨h114, h⟩ | ⟨h114, h⟩
                  · obtain ⟨v1, n1, sl1, SH1, FI1, FL1, FR1, hw, h⟩ := h
                    exact look ⟨0, by decide⟩ 7 (by decide) (uniq ⟨0, by decide⟩ 114 h114 (by decide)) hw h
                  · skip
                    rcases h with ⟨h116, h⟩ | ⟨h116, h⟩
                    · obtain ⟨v1, n1, sl1, SH1, FI1, FL1, FR1, hw, h⟩ := h
                      exact look ⟨7, by decide⟩ 14 (by decide) (uniq ⟨7, by decide⟩ 116 h116 (by decide)) hw h
                    · skip
                      rcases h with ⟨h118, h⟩ | ⟨h118, h⟩
                      · obtain ⟨v1, n1, sl1, SH1, FI1, FL1, FR1, hw, h⟩ := h
                        exact look ⟨1, by decide⟩ 8 (by decide) (uniq ⟨1, by decide⟩ 118 h118 (by decide)) hw h
                      · skip
                        exact none_ (nob (by intro k; match k with | ⟨0, _⟩ => show t_sg X N p ≠ (114 : Int); omega | ⟨1, _⟩ => show t_sg X N p ≠ (118 : Int); omega | ⟨2, _⟩ => show t_sg X N p ≠ (98 : Int); omega | ⟨3, _⟩ => show t_sg X N p ≠ (110 : Int); omega | ⟨4, _⟩ => show t_sg X N p ≠ (102 : Int); omega | ⟨5, _⟩ => show t_sg X N p ≠ (99 : Int); omega | ⟨6, _⟩ => show t_sg X N p ≠ (111 : Int); omega | ⟨7, _⟩ => show t_sg X N p ≠ (116 : Int); omega | ⟨8, _⟩ => show t_sg X N p ≠ (100 : Int); omega | ⟨9, _⟩ => show t_sg X N p ≠ (109 : Int); omega)) h
/-- a word's letters, eight at most -/
theorem y_readWord_G {p : Nat} : ∀ (g : Nat) (l1 : Int32) (v : Unit) (s : hS) (j : Nat), GX7_readWord_2 g l1 n sl SH FI FL FR v s → y_vw SH FI FR tp X N → (FI 111 7).toInt = p → p < N → l1.toInt = j → j ≤ 8 → j ≤ t_rn t_al X N 1001 p - p → ∃ kd e : Int32, s = (n, sl, SH, h_up (h_up FI 111 8 e) 111 9 kd, FL, FR) ∧ e.toInt = ((p + min (t_rn t_al X N 1001 p - p) 8 : Nat) : Int) ∧ kd.toInt = (if t_wd (t_wv X N p (min (t_rn t_al X N 1001 p - p) 8)) = -1 then 4 else t_wd (t_wv X N p (min (t_rn t_al X N 1001 p - p) 8)) + 7) := by
  intro g
  induction g with
  | zero => intro l1 v s j h; exact h.elim
  | succ g ih =>
    intro l1 v s j h hy h7 hpN hl hj hr
    have hN := hy.2.1
    have c8 : ((8 : Int32)).toInt = 8 := by decide
    have hin := t_rn_in (p := t_al) (X := X) (N := N) 1001 p
    have hout := t_rn_out (p := t_al) t_al_m1 (X := X) (N := N) 1001 p (by omega)
    have hge := t_rn_ge (p := t_al) (X := X) (N := N) 1001 p
    have hpj : ((FI 111 7) + l1).toInt = ((p + j : Nat) : Int) := by rw [i_add h7 hl (by omega) (by omega)]; omega
    have stop : ∀ {vw : Int32} {n8 sl8 : Nat} {SH8 : Nat → Nat × Nat} {FI8 : Nat → Nat → Int32} {FL8 : Nat → Nat → Int64} {FR8 : Nat → Nat → Option Nat}, min (t_rn t_al X N 1001 p - p) 8 = j → RX7_wordKind n sl SH (h_up FI 111 8 ((FI 111 7) + l1)) FL FR vw (n8, sl8, SH8, FI8, FL8, FR8) → P_ret () (n8, sl8, SH8, (h_up FI8 111 9 vw), FL8, FR8) v s → ∃ kd e : Int32, s = (n, sl, SH, h_up (h_up FI 111 8 e) 111 9 kd, FL, FR) ∧ e.toInt = ((p + min (t_rn t_al X N 1001 p - p) 8 : Nat) : Int) ∧ kd.toInt = (if t_wd (t_wv X N p (min (t_rn t_al X N 1001 p - p) 8)) = -1 then 4 else t_wd (t_wv X N p (min (t_rn t_al X N 1001 p - p) 8)) + 7) := by
      intro vw n8 sl8 SH8 FI8 FL8 FR8 hmin hw h
      obtain ⟨q1, q2⟩ := y_wordKind (m := j) hw (y_fl hy (by decide)) (by rw [h_up_x (by decide)]; exact h7) (by rw [h_up_eq]; exact hpj) hj (by omega) (fun i hi => hin (p + i) (by omega) (by omega))
      cases q1
      obtain ⟨-, rfl⟩ := h
      rw [hmin]
      exact ⟨vw, _, rfl, hpj, q2⟩
    rcases h with ⟨h1, h⟩ | ⟨h1, h⟩
    · rw [hl, c8] at h1
      obtain ⟨v1, n1, sl1, SH1, FI1, FL1, FR1, hc, h⟩ := h
      obtain ⟨q1, q2⟩ := y_letter (i := p + j) hc hy hpj
      cases q2
      have go : t_al (t_sg X N (p + j)) = true → GX7_readWord_2 g (l1 + 1) n sl SH FI FL FR v s → _ := fun ha h => ih (l1 + 1) v s (j + 1) h hy h7 hpN (by rw [i_add hl (by decide : ((1 : Int32)).toInt = 1) (by omega) (by omega)]; omega) (by omega) (by
        rcases Nat.lt_or_ge j (t_rn t_al X N 1001 p - p) with h2 | h2
        · omega
        · exfalso
          have e : p + j = t_rn t_al X N 1001 p := by omega
          rw [e, hout] at ha
          cases ha)
      have hsm := y_small (SH := SH) (FI := FI) (FL := FL) (FR := FR) q1
      rcases h with ⟨h2, h⟩ | ⟨h2, h⟩
      · have n2 := hsm.mp h2
        obtain ⟨v4, n4, sl4, SH4, FI4, FL4, FR4, hd, h⟩ := h
        obtain ⟨r1, r2⟩ := y_letter (i := p + j) hd hy hpj
        cases r2
        have hdg := y_digit (SH := SH) (FI := FI) (FL := FL) (FR := FR) r1
        rcases h with ⟨h3, h⟩ | ⟨h3, h⟩
        · have n3 := hdg.mp h3
          have na : t_al (t_sg X N (p + j)) = false := by unfold t_al; rw [n2, n3]; rfl
          have e : t_rn t_al X N 1001 p - p = j := by
            rcases Nat.lt_or_ge j (t_rn t_al X N 1001 p - p) with h2 | h2
            · have := hin (p + j) (by omega) (by omega)
              rw [na] at this
              cases this
            · omega
          obtain ⟨v8, n8, sl8, SH8, FI8, FL8, FR8, hw, h⟩ := h
          exact stop (by omega) hw h
        · have n3 : t_dg (t_sg X N (p + j)) = true := by
            cases e : t_dg (t_sg X N (p + j)) with
            | true => rfl
            | false => exact absurd (hdg.mpr e) h3
          exact go (by unfold t_al; rw [n3, Bool.or_true]) h
      · have n2 : t_sm (t_sg X N (p + j)) = true := by
          cases e : t_sm (t_sg X N (p + j)) with
          | true => rfl
          | false => exact absurd (hsm.mpr e) h2
        exact go (by unfold t_al; rw [n2, Bool.true_or]) h
    · rw [hl, c8] at h1
      obtain ⟨v8, n8, sl8, SH8, FI8, FL8, FR8, hw, h⟩ := h
      exact stop (by omega) hw h
end YW
end
section
/-! numbers, @, signs; a token. -/
theorem h_up_up {α : Type} {F : Nat → Nat → α} {c k : Nat} {x y : α} : h_up (h_up F c k x) c k y = h_up F c k y := by
  funext a b
  by_cases h : a = c ∧ b = k
  · obtain ⟨rfl, rfl⟩ := h
    rw [h_up_eq, h_up_eq]
  · rw [h_up_x h, h_up_x h, h_up_x h]
/-- what a token leaves: its end, its kind; nothing else of the ints, of the longs the number alone -/
def y_to (FI F2 : Nat → Nat → Int32) (FL L2 : Nat → Nat → Int64) (e : Nat) (kd : Int) : Prop := (∀ c k, ¬ (c = 111 ∧ (k = 8 ∨ k = 9)) → F2 c k = FI c k) ∧ (∀ c k, ¬ (c = 111 ∧ k = 10) → L2 c k = FL c k) ∧ (F2 111 8).toInt = e ∧ (F2 111 9).toInt = kd
/-- the kinds of the class for the reference's -/
def t_ck (k w : Int) : Int := if k = 0 then 2 else if k = 1 then 4 else if k = 2 then w + 7 else if k = 3 then 5 else if k = 4 then 6 else if k = 5 then (if 256 ≤ w then w - 239 else w) else 3
section YN
variable {X : Nat → Int} {N tp : Nat} {n sl : Nat} {SH : Nat → Nat × Nat} {FI : Nat → Nat → Int32} {FL : Nat → Nat → Int64} {FR : Nat → Nat → Option Nat} {s : hS}
theorem y_62 {l1 : Int32} {p m : Nat} {v : Unit} (h : RX7_readNumber_62 l1 n sl SH FI FL FR v s) (hy : y_vw SH FI FR tp X N) (h7 : (FI 111 7).toInt = p) (hl : l1.toInt = m) (hp : p ≤ 1000) (hm : m ≤ 18) : ∃ F2, s = (n, sl, SH, F2, FL, FR) ∧ y_to FI F2 FL FL (p + m) (if t_dg (t_sg X N (p + m)) = true ∨ t_lt (t_sg X N (p + m)) = true then 3 else 5) := by
  obtain ⟨v1, n1, sl1, SH1, FI1, FL1, FR1, hc, h⟩ := h
  have hpm : ((FI 111 7) + l1).toInt = ((p + m : Nat) : Int) := by rw [i_add h7 hl (by omega) (by omega)]; omega
  obtain ⟨q1, q2⟩ := y_letter (i := p + m) hc (y_fl hy (by decide)) hpm
  cases q2
  have hdg := y_digit (SH := SH) (FI := h_up FI 111 8 ((FI 111 7) + l1)) (FL := FL) (FR := FR) q1
  have hsm := y_small (SH := SH) (FI := h_up FI 111 8 ((FI 111 7) + l1)) (FL := FL) (FR := FR) q1
  have c65 : ((65 : Int32)).toInt = 65 := by decide
  have c90 : ((90 : Int32)).toInt = 90 := by decide
  have fin : ∀ (kd : Int32) (K : Int), kd.toInt = K → s = (n, sl, SH, h_up (h_up FI 111 8 ((FI 111 7) + l1)) 111 9 kd, FL, FR) → ∃ F2, s = (n, sl, SH, F2, FL, FR) ∧ y_to FI F2 FL FL (p + m) K := by
    intro kd K hk hs
    refine ⟨_, hs, fun c k hck => ?_, fun _ _ _ => rfl, ?_, ?_⟩
    · rw [h_up_x (by rintro ⟨rfl, rfl⟩; exact hck ⟨rfl, Or.inr rfl⟩), h_up_x (by rintro ⟨rfl, rfl⟩; exact hck ⟨rfl, Or.inl rfl⟩)]
    · rw [h_up_x (by decide), h_up_eq]; exact hpm
    · rw [h_up_eq]; exact hk
  have e5 : ((5 : Int32)).toInt = 5 := by decide
  have e3 : ((3 : Int32)).toInt = 3 := by decide
  have hlt : t_lt (t_sg X N (p + m)) = (t_sm (t_sg X N (p + m)) || decide (65 ≤ t_sg X N (p + m) ∧ t_sg X N (p + m) ≤ 90)) := rfl
  rcases h with ⟨h1, h⟩ | ⟨h1, h⟩
  · have n1 := hdg.mp h1
    rcases h with ⟨h2, h⟩ | ⟨h2, h⟩
    · have n2 := hsm.mp h2
      rcases h with ⟨h3, h⟩ | ⟨h3, h⟩
      · obtain ⟨-, hs⟩ := h
        rw [q1, c65] at h3
        rw [if_neg (by rw [hlt, n1, n2]; simp; omega)]
        exact fin 5 5 e5 hs
      · rw [q1, c65] at h3
        rcases h with ⟨h4, h⟩ | ⟨h4, h⟩
        · obtain ⟨-, hs⟩ := h
          rw [q1, c90] at h4
          rw [if_neg (by rw [hlt, n1, n2]; simp; omega)]
          exact fin 5 5 e5 hs
        · obtain ⟨-, hs⟩ := h
          rw [q1, c90] at h4
          rw [if_pos (by rw [hlt, n2]; simp; omega)]
          exact fin 3 3 e3 hs
    · have n2 : t_sm (t_sg X N (p + m)) = true := by
        cases e : t_sm (t_sg X N (p + m)) with
        | true => rfl
        | false => exact absurd (hsm.mpr e) h2
      obtain ⟨-, hs⟩ := h
      rw [if_pos (by rw [hlt, n2]; simp)]
      exact fin 3 3 e3 hs
  · have n1 : t_dg (t_sg X N (p + m)) = true := by
      cases e : t_dg (t_sg X N (p + m)) with
      | true => rfl
      | false => exact absurd (hdg.mpr e) h1
    obtain ⟨-, hs⟩ := h
    rw [if_pos (Or.inl n1)]
    exact fin 3 3 e3 hs
theorem y_number_G {p : Nat} : ∀ (g : Nat) (l1 : Int32) (FL : Nat → Nat → Int64) (v : Unit) (s : hS) (j : Nat), GX7_readNumber_7 g l1 n sl SH FI FL FR v s → y_vw SH FI FR tp X N → (FI 111 7).toInt = p → p < N → l1.toInt = j → j ≤ 18 → j ≤ t_rn t_dg X N 1001 p - p → (FL 111 10).toInt = t_nv X N p j → ∃ F2 L2, s = (n, sl, SH, F2, L2, FR) ∧ y_to FI F2 FL L2 (p + min (t_rn t_dg X N 1001 p - p) 18) (if t_dg (t_sg X N (p + min (t_rn t_dg X N 1001 p - p) 18)) = true ∨ t_lt (t_sg X N (p + min (t_rn t_dg X N 1001 p - p) 18)) = true then 3 else 5) ∧ (L2 111 10).toInt = t_nv X N p (min (t_rn t_dg X N 1001 p - p) 18) := by
  intro g
  induction g with
  | zero => intro l1 FL v s j h; exact h.elim
  | succ g ih =>
    intro l1 FL v s j h hy h7 hpN hl hj hr hn
    have hN := hy.2.1
    have c18 : ((18 : Int32)).toInt = 18 := by decide
    have hin := t_rn_in (p := t_dg) (X := X) (N := N) 1001 p
    have hout := t_rn_out (p := t_dg) t_dg_m1 (X := X) (N := N) 1001 p (by omega)
    have hge := t_rn_ge (p := t_dg) (X := X) (N := N) 1001 p
    have hpj : ((FI 111 7) + l1).toInt = ((p + j : Nat) : Int) := by rw [i_add h7 hl (by omega) (by omega)]; omega
    have stop : min (t_rn t_dg X N 1001 p - p) 18 = j → RX7_readNumber_62 l1 n sl SH FI FL FR v s → ∃ F2 L2, s = (n, sl, SH, F2, L2, FR) ∧ y_to FI F2 FL L2 (p + min (t_rn t_dg X N 1001 p - p) 18) (if t_dg (t_sg X N (p + min (t_rn t_dg X N 1001 p - p) 18)) = true ∨ t_lt (t_sg X N (p + min (t_rn t_dg X N 1001 p - p) 18)) = true then 3 else 5) ∧ (L2 111 10).toInt = t_nv X N p (min (t_rn t_dg X N 1001 p - p) 18) := by
      intro hmin h
      rw [hmin]
      obtain ⟨F2, q1, q2⟩ := y_62 h hy h7 hl (by omega) hj
      exact ⟨F2, FL, q1, q2, hn⟩
    rcases h with ⟨h1, h⟩ | ⟨h1, h⟩
    · rw [hl, c18] at h1
      obtain ⟨v1, n1, sl1, SH1, FI1, FL1, FR1, hc, h⟩ := h
      obtain ⟨q1, q2⟩ := y_letter (i := p + j) hc hy hpj
      cases q2
      have hdg := y_digit (SH := SH) (FI := FI) (FL := FL) (FR := FR) q1
      have hrg := y_sg_rg hy (p + j)
      rcases h with ⟨h2, h⟩ | ⟨h2, h⟩
      · have n2 := hdg.mp h2
        have e : t_rn t_dg X N 1001 p - p = j := by
          rcases Nat.lt_or_ge j (t_rn t_dg X N 1001 p - p) with h3 | h3
          · have := hin (p + j) (by omega) (by omega)
            rw [n2] at this
            cases this
          · omega
        exact stop (by omega) h
      · have n2 : t_dg (t_sg X N (p + j)) = true := by
          cases e : t_dg (t_sg X N (p + j)) with
          | true => rfl
          | false => exact absurd (hdg.mpr e) h2
        have hjr : j < t_rn t_dg X N 1001 p - p := by
          rcases Nat.lt_or_ge j (t_rn t_dg X N 1001 p - p) with h3 | h3
          · exact h3
          · exfalso
            have e : p + j = t_rn t_dg X N 1001 p := by omega
            rw [e, hout] at n2
            cases n2
        obtain ⟨v4, n4, sl4, SH4, FI4, FL4, FR4, hd, h⟩ := h
        obtain ⟨r1, r2⟩ := y_letter (i := p + j) hd hy hpj
        cases r2
        have rg := t_nv_rg (X := X) (N := N) (i := p) j (fun q a b => hin q a (by omega)) (by omega)
        have pw2 : (10 : Int) ^ j ≤ 100000000000000000 := by
          have : ∀ m : Nat, m ≤ 17 → (10 : Int) ^ m ≤ 100000000000000000 := by decide
          exact this _ (by omega)
        have hx : (((FL 111 10) * ((10 : Int64))) + ((v4 - ((48 : Int32))).toInt64)).toInt = t_nv X N p (j + 1) := by
          rw [l_add (l_mul hn (by decide : ((10 : Int64)).toInt = 10) (by omega) (by omega)) (i_2l (i_sub r1 (by decide : ((48 : Int32)).toInt = 48) (by omega) (by omega))) (by omega) (by omega), t_nv]
          omega
        obtain ⟨F2, L2, w1, w2, w3⟩ := ih (l1 + 1) _ v s (j + 1) h hy h7 hpN (by rw [i_add hl (by decide : ((1 : Int32)).toInt = 1) (by omega) (by omega)]; omega) (by omega) (by omega) (by rw [h_up_eq]; exact hx)
        refine ⟨F2, L2, w1, ⟨w2.1, fun c k hck => ?_, w2.2.2⟩, w3⟩
        rw [w2.2.1 c k hck, h_up_x hck]
    · rw [hl, c18] at h1
      exact stop (by omega) h
/-- whether the k-th string's letters hold a letter -/
theorem y_ioc_G {k : Fin 11} {a2 a3 a4 l4 : Int32} {c8 : Int} (h4 : a4.toInt = x_strN.getD k.val 0) (hc : l4.toInt = c8) : ∀ (g : Nat) (l5 : Int32) (v : Int32) (s : hS) (j : Nat), GJ1_indexOfChar_4cfef_7 k a2 a3 a4 g l4 l5 n sl SH FI FL FR v s → l5.toInt = j → j ≤ 22 → s = (n, sl, SH, FI, FL, FR) ∧ (v.toInt < 0 ↔ ∀ i, j ≤ i → i < x_strN.getD k.val 0 → ((x_strB.getD k.val []).getD i 0).toInt ≠ c8) := by
  intro g
  induction g with
  | zero => intro l5 v s j h; exact h.elim
  | succ g ih =>
    intro l5 v s j h hl hj
    have hn : x_strN.getD k.val 0 ≤ 22 := by
      have : ∀ k : Fin 11, x_strN.getD k.val 0 ≤ 22 := by decide
      exact this k
    rcases h with ⟨h1, h⟩ | ⟨h1, h⟩
    · rw [hl, h4] at h1
      obtain ⟨-, h⟩ := h
      rw [show l5.toInt.toNat = j by omega, hc] at h
      rcases h with ⟨h2, h⟩ | ⟨h2, h⟩
      · obtain ⟨rfl, rfl⟩ := h
        exact ⟨rfl, fun e => by omega, fun e => absurd h2 (e j (Nat.le_refl _) (by omega))⟩
      · obtain ⟨w1, w2⟩ := ih (l5 + 1) v s (j + 1) h (by rw [i_add hl (by decide : ((1 : Int32)).toInt = 1) (by omega) (by omega)]; omega) (by omega)
        refine ⟨w1, w2.trans ⟨fun e i a b => ?_, fun e i a b => e i (by omega) b⟩⟩
        by_cases e2 : i = j
        · subst e2; exact h2
        · exact e i (by omega) b
    · rw [hl, h4] at h1
      obtain ⟨rfl, rfl⟩ := h
      exact ⟨rfl, fun _ i a b => by omega, fun _ => by decide⟩
theorem y_signs_in : ∀ c : Fin 256, (t_s1 (c.val : Int) = true ↔ ∃ i, i < 22 ∧ ((x_strB.getD 10 []).getD i 0).toInt = ((Int32.ofNat c.val).toInt8.toInt32).toInt) ∧ ((Int32.ofNat c.val).toUInt32 % 65536).toInt32 = Int32.ofNat c.val := by decide +kernel
theorem y_indexOf {a v : Int32} {C : Int} (h : RJ0_indexOf_0f7a4 (10 : Fin 11) ((a.toUInt32 % 65536).toInt32) n sl SH FI FL FR v s) (ha : a.toInt = C) (h0 : 0 ≤ C) (h255 : C ≤ 255) : s = (n, sl, SH, FI, FL, FR) ∧ (v.toInt < 0 ↔ t_s1 C = false) := by
  have ea : a = Int32.ofNat C.toNat := i_eqv (by rw [ha, i_lit (by omega)]; omega)
  have key := y_signs_in ⟨C.toNat, by omega⟩
  dsimp only at key
  rw [show ((C.toNat : Nat) : Int) = C by omega] at key
  rw [ea, key.2] at h
  obtain ⟨v0, n0, sl0, SH0, FI0, FL0, FR0, hc, rfl, rfl⟩ := h
  rcases hc with ⟨-, hc⟩ | ⟨-, hc⟩
  · exact hc.elim
  · obtain ⟨v3, n3, sl3, SH3, FI3, FL3, FR3, hd, rfl, h⟩ := hc
    cases h
    have e1 : (fJ1_canEncode_9a6ad (Int32.ofNat C.toNat) SH FI FL FR).toInt = 1 := by
      unfold fJ1_canEncode_9a6ad
      have c255 : ((255 : Int32)).toInt = 255 := by decide
      rw [i_lit (by omega), c255, if_neg (by omega), if_neg (by omega)]
      decide
    have e2 : fJ9_max_7cf53 0 0 SH FI FL FR = 0 := by unfold fJ9_max_7cf53; decide
    have e3 : fJ9_min_7cf53 (fJ0_length_8abf5 (10 : Fin 11) SH FI FL FR) (Int32.ofNat (x_strN.getD (10 : Fin 11).val 0)) SH FI FL FR = 22 := by unfold fJ9_min_7cf53 fJ0_length_8abf5; decide
    rcases hd with ⟨h1, hd⟩ | ⟨h1, hd⟩
    · rw [e1] at h1
      exact absurd h1 (by decide)
    · rw [e2, e3] at hd
      rcases hd with ⟨h2, hd⟩ | ⟨h2, hd⟩
      · obtain ⟨v5, n5, sl5, SH5, FI5, FL5, FR5, ⟨g, he⟩, rfl, h⟩ := hd
        cases h
        obtain ⟨w1, w2⟩ := y_ioc_G (k := (10 : Fin 11)) (a4 := 22) (by decide) rfl g 0 _ _ 0 he (by decide) (by omega)
        refine ⟨w1, w2.trans ⟨fun e => ?_, fun e i _ hi hx => ?_⟩⟩
        · cases hb : t_s1 C with
          | false => rfl
          | true =>
            obtain ⟨i, hi, hx⟩ := key.1.mp hb
            exact absurd hx (e i (by omega) hi)
        · have := key.1.mpr ⟨i, hi, hx⟩
          rw [e] at this
          cases this
      · exact absurd (by decide) h2
end YN
end
section
/-! @, signs; a token of the class. -/
section YT
variable {X : Nat → Int} {N tp : Nat} {n sl : Nat} {SH : Nat → Nat × Nat} {FI : Nat → Nat → Int32} {FL : Nat → Nat → Int64} {FR : Nat → Nat → Option Nat} {s : hS}
theorem y_s2 {a b : Int32} {C D : Int} (ha : a.toInt = C) (hb : b.toInt = D) : (fX7_signOfTwo a b SH FI FL FR).toInt = if t_s2 C D 0 = -1 then 3 else t_s2 C D 0 - 239 := by
  have c61 : ((61 : Int32)).toInt = 61 := by decide
  have c33 : ((33 : Int32)).toInt = 33 := by decide
  have c60 : ((60 : Int32)).toInt = 60 := by decide
  have c62 : ((62 : Int32)).toInt = 62 := by decide
  have c46 : ((46 : Int32)).toInt = 46 := by decide
  unfold fX7_signOfTwo t_s2
  rw [ha, hb, c61, c33, c60, c62, c46]
  by_cases d1 : D = 61
  · subst d1
    by_cases e1 : C = 61
    · subst e1; decide
    · by_cases e2 : C = 33
      · subst e2; decide
      · by_cases e3 : C = 60
        · subst e3; decide
        · by_cases e4 : C = 62
          · subst e4; decide
          · simp [e1, e2, e3, e4]
  · by_cases e0 : C = D
    · subst e0
      by_cases e2 : C = 46
      · subst e2; decide
      · by_cases e3 : C = 60
        · subst e3; decide
        · by_cases e4 : C = 62
          · subst e4; decide
          · simp [d1, e2, e3, e4]
    · have hs : (if C = 46 ∧ D = 46 then (256 : Int) else if C = 61 ∧ D = 61 then 257 else if C = 33 ∧ D = 61 then 258 else if C = 60 ∧ D = 61 then 259 else if C = 62 ∧ D = 61 then 260 else if C = 60 ∧ D = 60 then 261 else if C = 62 ∧ D = 62 then (if (0 : Int) = 62 then 263 else 262) else -1) = -1 := by
        rw [if_neg (by omega), if_neg (by omega), if_neg (by omega), if_neg (by omega), if_neg (by omega), if_neg (by omega), if_neg (by omega)]
      rw [if_neg d1, if_neg e0, hs]
      decide
theorem t_s2_m {C D E : Int} : t_s2 C D E = if t_s2 C D 0 = 262 ∧ E = 62 then 263 else t_s2 C D 0 := by
  unfold t_s2
  by_cases a1 : C = 46 ∧ D = 46
  · simp [a1]
  · by_cases a2 : C = 61 ∧ D = 61
    · simp [a2]
    · by_cases a3 : C = 33 ∧ D = 61
      · simp [a3]
      · by_cases a4 : C = 60 ∧ D = 61
        · simp [a4]
        · by_cases a5 : C = 62 ∧ D = 61
          · simp [a5]
          · by_cases a6 : C = 60 ∧ D = 60
            · simp [a6]
            · by_cases a7 : C = 62 ∧ D = 62
              · rw [if_neg a1, if_neg a2, if_neg a3, if_neg a4, if_neg a5, if_neg a6, if_pos a7, if_neg a1, if_neg a2, if_neg a3, if_neg a4, if_neg a5, if_neg a6, if_pos a7]
                by_cases e : E = 62
                · simp [e]
                · simp [e]
              · rw [if_neg a1, if_neg a2, if_neg a3, if_neg a4, if_neg a5, if_neg a6, if_neg a7, if_neg a1, if_neg a2, if_neg a3, if_neg a4, if_neg a5, if_neg a6, if_neg a7]
                simp
theorem t_s2_rg (C D E : Int) : t_s2 C D E = -1 ∨ (256 ≤ t_s2 C D E ∧ t_s2 C D E ≤ 263) := by
  unfold t_s2
  repeat' split
  all_goals omega
theorem y_to_2 {F0 F2 : Nat → Nat → Int32} {e kd : Int32} {E : Nat} {K : Int} (h0 : ∀ c k, ¬ (c = 111 ∧ (k = 8 ∨ k = 9)) → F0 c k = FI c k) (hF : F2 = h_up (h_up F0 111 9 kd) 111 8 e) (he : e.toInt = E) (hk : kd.toInt = K) : y_to FI F2 FL FL E K := by
  subst hF
  refine ⟨fun c k hck => ?_, fun _ _ _ => rfl, by rw [h_up_eq]; exact he, by rw [h_up_x (by decide), h_up_eq]; exact hk⟩
  rw [h_up_x (by rintro ⟨rfl, rfl⟩; exact hck ⟨rfl, Or.inl rfl⟩), h_up_x (by rintro ⟨rfl, rfl⟩; exact hck ⟨rfl, Or.inr rfl⟩)]
  exact h0 c k hck
theorem y_63 {a : Int32} {C : Int} {p : Nat} {v : Unit} {F0 : Nat → Nat → Int32} (h : RX7_readSign_63 a n sl SH F0 FL FR v s) (h0 : ∀ c k, ¬ (c = 111 ∧ (k = 8 ∨ k = 9)) → F0 c k = FI c k) (h7 : (F0 111 7).toInt = p) (hp : p ≤ 1000) (ha : a.toInt = C) (hC : 0 ≤ C ∧ C ≤ 255) : ∃ F2, s = (n, sl, SH, F2, FL, FR) ∧ y_to FI F2 FL FL (if (F0 111 9).toInt = 3 then p + 1 else p + 2) (if (F0 111 9).toInt = 3 then (if t_s1 C = true then C else 3) else (F0 111 9).toInt) := by
  have e1 : ((F0 111 7) + ((1 : Int32))).toInt = ((p + 1 : Nat) : Int) := by rw [i_add h7 (by decide : ((1 : Int32)).toInt = 1) (by omega) (by omega)]; omega
  have e2 : ((F0 111 7) + ((2 : Int32))).toInt = ((p + 2 : Nat) : Int) := by rw [i_add h7 (by decide : ((2 : Int32)).toInt = 2) (by omega) (by omega)]; omega
  have c3 : ((3 : Int32)).toInt = 3 := by decide
  rcases h with ⟨h1, h⟩ | ⟨h1, h⟩
  · rw [c3] at h1
    rw [if_pos h1, if_pos h1]
    obtain ⟨v1, n1, sl1, SH1, FI1, FL1, FR1, hc, h⟩ := h
    obtain ⟨q1, q2⟩ := y_indexOf hc ha hC.1 hC.2
    cases q1
    rcases h with ⟨h2, h⟩ | ⟨h2, h⟩
    · obtain ⟨-, rfl⟩ := h
      rw [if_neg (by rw [q2.mp h2]; simp)]
      exact ⟨_, rfl, y_to_2 h0 rfl e1 c3⟩
    · obtain ⟨-, rfl⟩ := h
      have : t_s1 C = true := by
        cases e : t_s1 C with
        | true => rfl
        | false => exact absurd (q2.mpr e) h2
      rw [if_pos this]
      exact ⟨_, rfl, y_to_2 h0 rfl e1 ha⟩
  · rw [c3] at h1
    rw [if_neg h1, if_neg h1]
    obtain ⟨-, rfl⟩ := h
    refine ⟨_, rfl, fun c k hck => ?_, fun _ _ _ => rfl, by rw [h_up_eq]; exact e2, by rw [h_up_x (by decide)]⟩
    rw [h_up_x (by rintro ⟨rfl, rfl⟩; exact hck ⟨rfl, Or.inl rfl⟩)]
    exact h0 c k hck
theorem y_readSign {a : Int32} {p : Nat} {v : Unit} (h : RX7_readSign a n sl SH FI FL FR v s) (hy : y_vw SH FI FR tp X N) (h7 : (FI 111 7).toInt = p) (hpN : p < N) (ha : a.toInt = t_sg X N p) : ∃ F2, s = (n, sl, SH, F2, FL, FR) ∧ y_to FI F2 FL FL (p + (t_sn (t_sg X N p) (t_sg X N (p + 1)) (t_sg X N (p + 2))).2.2) (t_ck (t_sn (t_sg X N p) (t_sg X N (p + 1)) (t_sg X N (p + 2))).1 (t_sn (t_sg X N p) (t_sg X N (p + 1)) (t_sg X N (p + 2))).2.1) := by
  have hN := hy.2.1
  have hC : 0 ≤ t_sg X N p ∧ t_sg X N p ≤ 255 := by
    unfold t_sg
    rw [if_pos hpN]
    exact (hy.2.2.2.2.2.2.2.2 p hpN).2
  obtain ⟨v0, n0, sl0, SH0, FI0, FL0, FR0, hc, h⟩ := h
  obtain ⟨q1, q2⟩ := y_letter (i := p + 1) hc hy (by rw [i_add h7 (by decide : ((1 : Int32)).toInt = 1) (by omega) (by omega)]; omega)
  cases q2
  have hs2 := y_s2 (SH := SH) (FI := FI) (FL := FL) (FR := FR) ha q1
  have c23 : ((23 : Int32)).toInt = 23 := by decide
  have hm := t_s2_m (C := t_sg X N p) (D := t_sg X N (p + 1)) (E := t_sg X N (p + 2))
  have hrg := t_s2_rg (t_sg X N p) (t_sg X N (p + 1)) 0
  have h0 : ∀ c k, ¬ (c = 111 ∧ (k = 8 ∨ k = 9)) → h_up FI 111 9 (fX7_signOfTwo a v0 SH FI FL FR) c k = FI c k := fun c k hck => h_up_x (by rintro ⟨rfl, rfl⟩; exact hck ⟨rfl, Or.inr rfl⟩)
  have h7' : (h_up FI 111 9 (fX7_signOfTwo a v0 SH FI FL FR) 111 7).toInt = p := by rw [h_up_x (by decide)]; exact h7
  have h9 : (h_up FI 111 9 (fX7_signOfTwo a v0 SH FI FL FR) 111 9).toInt = if t_s2 (t_sg X N p) (t_sg X N (p + 1)) 0 = -1 then 3 else t_s2 (t_sg X N p) (t_sg X N (p + 1)) 0 - 239 := by rw [h_up_eq]; exact hs2
  generalize t_sg X N p = C at *
  generalize t_sg X N (p + 1) = D at *
  have rest : t_s2 C D (t_sg X N (p + 2)) = t_s2 C D 0 → RX7_readSign_63 a n sl SH (h_up FI 111 9 (fX7_signOfTwo a v0 SH FI FL FR)) FL FR v s → ∃ F2, s = (n, sl, SH, F2, FL, FR) ∧ y_to FI F2 FL FL (p + (t_sn C D (t_sg X N (p + 2))).2.2) (t_ck (t_sn C D (t_sg X N (p + 2))).1 (t_sn C D (t_sg X N (p + 2))).2.1) := by
    intro he h
    obtain ⟨F2, w1, w2⟩ := y_63 (FI := FI) h h0 h7' (by omega) ha hC
    refine ⟨F2, w1, ?_⟩
    rw [h9] at w2
    by_cases hx : t_s2 C D 0 = -1
    · rw [if_pos hx, if_pos rfl, if_pos rfl] at w2
      rw [t_sn_1 (by rw [he]; exact hx)]
      by_cases hs : t_s1 C = true
      · rw [if_pos hs] at w2
        rw [if_pos hs, if_pos hs]
        have e : t_ck 5 C = C := by unfold t_ck; rw [if_neg (by decide), if_neg (by decide), if_neg (by decide), if_neg (by decide), if_neg (by decide), if_pos rfl, if_neg (by omega)]
        dsimp only
        rw [e]
        exact w2
      · rw [if_neg hs] at w2
        rw [if_neg hs, if_neg hs]
        exact w2
    · rw [if_neg hx, if_neg (by omega), if_neg (by omega)] at w2
      rw [t_sn_2 he hx]
      have e : t_ck 5 (t_s2 C D 0) = t_s2 C D 0 - 239 := by unfold t_ck; rw [if_neg (by decide), if_neg (by decide), if_neg (by decide), if_neg (by decide), if_neg (by decide), if_pos rfl, if_pos (by omega)]
      dsimp only
      rw [e, if_neg (by
        intro h263
        have : t_s2 C D 0 ≠ 263 := by
          unfold t_s2
          repeat' split
          all_goals first | omega | (intro h; exact absurd h (by decide)) | (rename_i h; exact absurd h (by decide))
        exact this h263)]
      exact w2
  rcases h with ⟨h1, h⟩ | ⟨h1, h⟩
  · rw [hs2, c23] at h1
    have h262 : t_s2 C D 0 = 262 := by
      by_cases hx : t_s2 C D 0 = -1
      · rw [if_pos hx] at h1; exact absurd h1 (by decide)
      · rw [if_neg hx] at h1; omega
    obtain ⟨v4, n4, sl4, SH4, FI4, FL4, FR4, hd, h⟩ := h
    obtain ⟨r1, r2⟩ := y_letter (i := p + 2) hd (y_fl hy (by decide)) (by rw [i_add h7 (by decide : ((2 : Int32)).toInt = 2) (by omega) (by omega)]; omega)
    cases r2
    have c62 : ((62 : Int32)).toInt = 62 := by decide
    rcases h with ⟨h2, h⟩ | ⟨h2, h⟩
    · rw [r1, c62] at h2
      obtain ⟨-, rfl⟩ := h
      rw [if_pos ⟨h262, h2⟩] at hm
      rw [t_sn_2 hm (by decide)]
      refine ⟨_, rfl, y_to_2 h0 rfl ?_ (by decide)⟩
      rw [i_add h7' (by decide : ((3 : Int32)).toInt = 3) (by omega) (by omega)]
      rfl
    · rw [r1, c62] at h2
      rw [if_neg (fun e => h2 e.2)] at hm
      exact rest hm h
  · rw [hs2, c23] at h1
    have h262 : t_s2 C D 0 ≠ 262 := by
      intro e
      rw [e] at h1
      exact h1 (by decide)
    rw [if_neg (fun e => h262 e.1)] at hm
    exact rest hm h
end YT
end
section
/-! a token of the class; all of them. -/
def t_sk (X : Nat → Int) (N : Nat) : Nat → Nat → Nat
  | 0, i => i
  | f + 1, i => if i < N ∧ t_bl (t_sg X N i) = true then t_sk X N f (i + 1) else i
/-- what the class makes of the token at p: as the reference, or none, or eight letters of a name too long -/
def y_is (X : Nat → Int) (N p : Nat) (kd : Int) (e : Nat) (num : Int) : Prop :=
  if p < N then ((t_tk X N p).1 ≠ 6 ∧ kd = t_ck (t_tk X N p).1 (t_tk X N p).2.1 ∧ e = (t_tk X N p).2.2 ∧ ((t_tk X N p).1 = 3 ∨ (t_tk X N p).1 = 4 → num = (t_tk X N p).2.1)) ∨ ((t_tk X N p).1 = 6 ∧ (kd = 3 ∨ (kd = 4 ∧ e = p + 8 ∧ p + 8 < N ∧ t_al (t_sg X N (p + 8)) = true)))
  else kd = 2 ∧ e = p
section YA
variable {X : Nat → Int} {N tp : Nat} {n sl : Nat} {SH : Nat → Nat × Nat} {FI : Nat → Nat → Int32} {FL : Nat → Nat → Int64} {FR : Nat → Nat → Option Nat} {s : hS}
/-- what reading a token changes -/
def y_fr (FI F2 : Nat → Nat → Int32) (FL L2 : Nat → Nat → Int64) : Prop := (∀ c k, ¬ (c = 111 ∧ (k = 7 ∨ k = 8 ∨ k = 9)) → F2 c k = FI c k) ∧ (∀ c k, ¬ (c = 111 ∧ k = 10) → L2 c k = FL c k)
theorem y_52 {v : Unit} {p : Nat} (h : RX7_readToken_52 n sl SH FI FL FR v s) (hy : y_vw SH FI FR tp X N) (h8 : (FI 111 8).toInt = p) (hp : p ≤ N) : ∃ F2 L2 e, s = (n, sl, SH, F2, L2, FR) ∧ y_fr FI F2 FL L2 ∧ (F2 111 7).toInt = p ∧ (F2 111 8).toInt = ((e : Nat) : Int) ∧ y_is X N p (F2 111 9).toInt e (L2 111 10).toInt := by
  have hN := hy.2.1
  have hy7 : y_vw SH (h_up FI 111 7 (FI 111 8)) FR tp X N := y_fl hy (by decide)
  have h7 : (h_up FI 111 7 (FI 111 8) 111 7).toInt = p := by rw [h_up_eq]; exact h8
  have h78 : (h_up FI 111 7 (FI 111 8) 111 8).toInt = p := by rw [h_up_x (by decide)]; exact h8
  obtain ⟨v1, n1, sl1, SH1, FI1, FL1, FR1, hc, h⟩ := h
  obtain ⟨q1, q2⟩ := y_letter (i := p) hc hy7 h8
  cases q2
  have cm1 : ((-1 : Int32)).toInt = -1 := by decide
  have c64 : ((64 : Int32)).toInt = 64 := by decide
  have fr1 : ∀ c k, ¬ (c = 111 ∧ (k = 7 ∨ k = 8 ∨ k = 9)) → h_up FI 111 7 (FI 111 8) c k = FI c k := fun c k hck => h_up_x (by rintro ⟨rfl, rfl⟩; exact hck ⟨rfl, Or.inl rfl⟩)
  -- out of what a part of it says
  have out : ∀ {F2 : Nat → Nat → Int32} {L2 : Nat → Nat → Int64} {e : Nat} {kd : Int}, s = (n, sl, SH, F2, L2, FR) → y_to (h_up FI 111 7 (FI 111 8)) F2 FL L2 e kd → y_is X N p kd e (L2 111 10).toInt → ∃ F2 L2 e, s = (n, sl, SH, F2, L2, FR) ∧ y_fr FI F2 FL L2 ∧ (F2 111 7).toInt = p ∧ (F2 111 8).toInt = ((e : Nat) : Int) ∧ y_is X N p (F2 111 9).toInt e (L2 111 10).toInt := by
    intro F2 L2 e kd hs ht hi
    refine ⟨F2, L2, e, hs, ⟨fun c k hck => ?_, ht.2.1⟩, ?_, ht.2.2.1, by rw [ht.2.2.2]; exact hi⟩
    · rw [ht.1 c k (fun h => hck ⟨h.1, Or.inr h.2⟩)]
      exact fr1 c k hck
    · rw [ht.1 111 7 (by decide)]
      exact h7
  rcases h with ⟨h1, h⟩ | ⟨h1, h⟩
  · rw [q1, cm1] at h1
    obtain ⟨-, rfl⟩ := h
    have hNp : ¬ p < N := by
      intro hlt
      have := hy.2.2.2.2.2.2.2.2 p hlt
      unfold t_sg at h1
      rw [if_pos hlt] at h1
      omega
    refine ⟨_, FL, p, rfl, ⟨fun c k hck => ?_, fun _ _ _ => rfl⟩, by rw [h_up_x (by decide)]; exact h7, by rw [h_up_x (by decide)]; exact h78, ?_⟩
    · rw [h_up_x (by rintro ⟨rfl, rfl⟩; exact hck ⟨rfl, Or.inr (Or.inr rfl)⟩)]
      exact fr1 c k hck
    · unfold y_is
      rw [if_neg hNp, h_up_eq]
      exact ⟨by decide, rfl⟩
  · rw [q1, cm1] at h1
    have hpN := t_sg_lt h1
    have te := t_tk_e (X := X) hpN hN
    have hsm := y_small (SH := SH) (FI := h_up FI 111 7 (FI 111 8)) (FL := FL) (FR := FR) q1
    have hdg := y_digit (SH := SH) (FI := h_up FI 111 7 (FI 111 8)) (FL := FL) (FR := FR) q1
    rcases h with ⟨h2, h⟩ | ⟨h2, h⟩
    · have n2 := hsm.mp h2
      rcases h with ⟨h3, h⟩ | ⟨h3, h⟩
      · have n3 := hdg.mp h3
        rcases h with ⟨h4, h⟩ | ⟨h4, h⟩
        · rw [q1, c64] at h4
          obtain ⟨v9, n9, sl9, SH9, FI9, FL9, FR9, hr, -, rfl⟩ := h
          obtain ⟨v0, n0, sl0, SH0, FI0, FL0, FR0, hl, h⟩ := hr
          obtain ⟨r1, r2⟩ := y_letter (i := p + 1) hl hy7 (by rw [i_add h7 (by decide : ((1 : Int32)).toInt = 1) (by omega) (by omega)]; omega)
          cases r2
          have rg := y_sg_rg hy (p + 1)
          have hd := i_sub r1 (by decide : ((48 : Int32)).toInt = 48) (by omega) (by omega)
          have c1 : ((1 : Int32)).toInt = 1 := by decide
          have c8 : ((8 : Int32)).toInt = 8 := by decide
          have e2 : ((h_up FI 111 7 (FI 111 8) 111 7) + ((2 : Int32))).toInt = ((p + 2 : Nat) : Int) := by rw [i_add h7 (by decide : ((2 : Int32)).toInt = 2) (by omega) (by omega)]; omega
          have tk : t_tk X N p = (if 49 ≤ t_sg X N (p + 1) ∧ t_sg X N (p + 1) ≤ 56 then (4, t_sg X N (p + 1) - 48, p + 2) else (6, t_sg X N (p + 1) - 48, p + 1)) := by
            unfold t_tk
            rw [if_neg (by rw [n2]; simp), if_neg (by rw [n3]; simp), if_pos h4]
          have bad : ¬ (49 ≤ t_sg X N (p + 1) ∧ t_sg X N (p + 1) ≤ 56) → (n9, sl9, SH9, FI9, FL9, FR9) = (n, sl, SH, h_up (h_up (h_up FI 111 7 (FI 111 8)) 111 9 3) 111 8 ((h_up FI 111 7 (FI 111 8) 111 7) + ((2 : Int32))), h_up FL 111 10 ((v0 - ((48 : Int32))).toInt64), FR) → ∃ F2 L2 e, (n9, sl9, SH9, FI9, FL9, FR9) = (n, sl, SH, F2, L2, FR) ∧ y_fr FI F2 FL L2 ∧ (F2 111 7).toInt = p ∧ (F2 111 8).toInt = ((e : Nat) : Int) ∧ y_is X N p (F2 111 9).toInt e (L2 111 10).toInt := by
            intro hno hs
            refine out (e := p + 2) (kd := 3) hs ⟨(y_to_2 (FL := FL) (fun _ _ _ => rfl) rfl e2 (by decide : ((3 : Int32)).toInt = 3)).1, fun c k hck => h_up_x hck, (y_to_2 (FL := FL) (fun _ _ _ => rfl) rfl e2 (by decide : ((3 : Int32)).toInt = 3)).2.2⟩ ?_
            unfold y_is
            rw [if_pos hpN, tk, if_neg hno]
            exact Or.inr ⟨rfl, Or.inl rfl⟩
          rcases h with ⟨h5, h⟩ | ⟨h5, h⟩
          · rw [hd, c1] at h5
            exact bad (by omega) h.2
          · rw [hd, c1] at h5
            rcases h with ⟨h6, h⟩ | ⟨h6, h⟩
            · rw [hd, c8] at h6
              exact bad (by omega) h.2
            · rw [hd, c8] at h6
              refine out (e := p + 2) (kd := 6) h.2 ⟨(y_to_2 (FL := FL) (fun _ _ _ => rfl) rfl e2 (by decide : ((6 : Int32)).toInt = 6)).1, fun c k hck => h_up_x hck, (y_to_2 (FL := FL) (fun _ _ _ => rfl) rfl e2 (by decide : ((6 : Int32)).toInt = 6)).2.2⟩ ?_
              unfold y_is
              rw [if_pos hpN, tk, if_pos (by omega), h_up_eq]
              exact Or.inl ⟨by dsimp only; decide, by dsimp only; rfl, rfl, fun _ => i_2l hd⟩
        · rw [q1, c64] at h4
          obtain ⟨v9, n9, sl9, SH9, FI9, FL9, FR9, hr, -, rfl⟩ := h
          obtain ⟨F2, w1, w2⟩ := y_readSign hr hy7 h7 hpN q1
          have tk : t_tk X N p = ((t_sn (t_sg X N p) (t_sg X N (p + 1)) (t_sg X N (p + 2))).1, (t_sn (t_sg X N p) (t_sg X N (p + 1)) (t_sg X N (p + 2))).2.1, p + (t_sn (t_sg X N p) (t_sg X N (p + 1)) (t_sg X N (p + 2))).2.2) := by
            unfold t_tk
            rw [if_neg (by rw [n2]; simp), if_neg (by rw [n3]; simp), if_neg h4]
          refine out w1 w2 ?_
          unfold y_is
          rw [if_pos hpN, tk]
          by_cases h6 : (t_sn (t_sg X N p) (t_sg X N (p + 1)) (t_sg X N (p + 2))).1 = 6
          · refine Or.inr ⟨h6, Or.inl ?_⟩
            rw [h6]
            rfl
          · refine Or.inl ⟨h6, rfl, rfl, fun h34 => ?_⟩
            exfalso
            have : (t_sn (t_sg X N p) (t_sg X N (p + 1)) (t_sg X N (p + 2))).1 = 5 ∨ (t_sn (t_sg X N p) (t_sg X N (p + 1)) (t_sg X N (p + 2))).1 = 6 := by
              unfold t_sn
              split
              · exact Or.inl rfl
              · split
                · exact Or.inl rfl
                · exact Or.inr rfl
            dsimp only at h34
            omega
      · have n3 : t_dg (t_sg X N p) = true := by
          cases e : t_dg (t_sg X N p) with
          | true => rfl
          | false => exact absurd (hdg.mpr e) h3
        obtain ⟨v9, n9, sl9, SH9, FI9, FL9, FR9, ⟨g, hr⟩, -, rfl⟩ := h
        obtain ⟨F2, L2, w1, w2, w3⟩ := y_number_G (p := p) g 0 _ v9 _ 0 hr hy7 h7 hpN (by decide) (by omega) (by omega) (by rw [h_up_eq]; rfl)
        have tk : t_tk X N p = (if t_rn t_dg X N 1001 p - p > 18 then 6 else if t_lt (t_sg X N (t_rn t_dg X N 1001 p)) = true then 6 else 3, t_nv X N p (min (t_rn t_dg X N 1001 p - p) 18), t_rn t_dg X N 1001 p) := by
          unfold t_tk
          rw [if_neg (by rw [n2]; simp), if_pos n3]
        have hin := t_rn_in (p := t_dg) (X := X) (N := N) 1001 p
        have hout := t_rn_out (p := t_dg) t_dg_m1 (X := X) (N := N) 1001 p (by omega)
        have hge := t_rn_ge (p := t_dg) (X := X) (N := N) 1001 p
        refine out w1 ⟨w2.1, fun c k hck => by rw [w2.2.1 c k hck, h_up_x hck], w2.2.2⟩ ?_
        unfold y_is
        rw [if_pos hpN, tk, w3]
        rcases Nat.lt_or_ge 18 (t_rn t_dg X N 1001 p - p) with hb | hb
        · have e1 : min (t_rn t_dg X N 1001 p - p) 18 = 18 := by omega
          refine Or.inr ⟨by dsimp only; rw [if_pos hb], Or.inl ?_⟩
          rw [e1, if_pos (Or.inl (hin (p + 18) (by omega) (by omega)))]
        · have e1 : p + min (t_rn t_dg X N 1001 p - p) 18 = t_rn t_dg X N 1001 p := by omega
          rw [e1]
          dsimp only
          rw [if_neg (show ¬ (t_rn t_dg X N 1001 p - p > 18) by omega)]
          by_cases hl : t_lt (t_sg X N (t_rn t_dg X N 1001 p)) = true
          · rw [if_pos hl]
            exact Or.inr ⟨rfl, Or.inl (by rw [if_pos (Or.inr hl)])⟩
          · rw [if_neg hl]
            refine Or.inl ⟨by decide, ?_, rfl, fun _ => rfl⟩
            rw [if_neg (by rw [hout]; simpa using hl)]
            rfl
    · have n2 : t_sm (t_sg X N p) = true := by
        cases e : t_sm (t_sg X N p) with
        | true => rfl
        | false => exact absurd (hsm.mpr e) h2
      obtain ⟨v9, n9, sl9, SH9, FI9, FL9, FR9, ⟨g, hr⟩, -, rfl⟩ := h
      obtain ⟨kd, e, w1, w2, w3⟩ := y_readWord_G (p := p) g 0 v9 _ 0 hr hy7 h7 hpN (by decide) (by omega) (by omega)
      have tk : t_tk X N p = (if t_rn t_al X N 1001 p - p > 8 then (6, 0, t_rn t_al X N 1001 p) else if t_wd (t_wv X N p (t_rn t_al X N 1001 p - p)) = -1 then (1, t_wv X N p (t_rn t_al X N 1001 p - p), t_rn t_al X N 1001 p) else (2, t_wd (t_wv X N p (t_rn t_al X N 1001 p - p)), t_rn t_al X N 1001 p)) := by
        unfold t_tk
        rw [if_pos n2]
      have hin := t_rn_in (p := t_al) (X := X) (N := N) 1001 p
      have hge := t_rn_ge (p := t_al) (X := X) (N := N) 1001 p
      have hle := t_rn_le (p := t_al) t_al_m1 (X := X) (N := N) 1001 p (by omega)
      refine out (e := p + min (t_rn t_al X N 1001 p - p) 8) (kd := kd.toInt) w1 ⟨fun c k hck => ?_, fun _ _ _ => rfl, by rw [h_up_x (by decide), h_up_eq]; exact w2, by rw [h_up_eq]⟩ ?_
      · rw [h_up_x (by rintro ⟨rfl, rfl⟩; exact hck ⟨rfl, Or.inr rfl⟩), h_up_x (by rintro ⟨rfl, rfl⟩; exact hck ⟨rfl, Or.inl rfl⟩)]
      · unfold y_is
        rw [if_pos hpN, tk]
        rcases Nat.lt_or_ge 8 (t_rn t_al X N 1001 p - p) with hb | hb
        · have e1 : min (t_rn t_al X N 1001 p - p) 8 = 8 := by omega
          rw [if_pos hb]
          refine Or.inr ⟨rfl, Or.inr ⟨?_, by omega, by omega, hin (p + 8) (by omega) (by omega)⟩⟩
          rw [w3, e1, if_pos ?_]
          rcases t_wd_rg (t_wv X N p 8) with e | ⟨k2, e⟩
          · exact e
          · exfalso
            have hi2 := (t_is_wd (X := X) (N := N) (p := p) (m := 8) k2 (fun j hj => hin (p + j) (by omega) (by omega))).mpr e
            have := (t_wl_len k2).2.2
            have := hi2.1
            omega
        · have e1 : min (t_rn t_al X N 1001 p - p) 8 = t_rn t_al X N 1001 p - p := by omega
          rw [if_neg (show ¬ (t_rn t_al X N 1001 p - p > 8) by omega)]
          rw [e1] at w3 ⊢
          by_cases hw : t_wd (t_wv X N p (t_rn t_al X N 1001 p - p)) = -1
          · rw [if_pos hw] at w3 ⊢
            exact Or.inl ⟨by dsimp only; decide, by rw [w3]; rfl, by dsimp only; omega, fun h => by rcases h with h | h <;> exact absurd h (by dsimp only; decide)⟩
          · rw [if_neg hw] at w3 ⊢
            exact Or.inl ⟨by dsimp only; decide, by rw [w3]; rfl, by dsimp only; omega, fun h => by rcases h with h | h <;> exact absurd h (by dsimp only; decide)⟩
theorem y_readToken_G : ∀ (g : Nat) (FI : Nat → Nat → Int32) (v : Unit) (s : hS) (f b : Nat), GX7_readToken_0 g n sl SH FI FL FR v s → y_vw SH FI FR tp X N → (FI 111 8).toInt = b → b ≤ N → N - b < f → ∃ F2 L2 e, s = (n, sl, SH, F2, L2, FR) ∧ y_fr FI F2 FL L2 ∧ (F2 111 7).toInt = t_sk X N f b ∧ (F2 111 8).toInt = ((e : Nat) : Int) ∧ y_is X N (t_sk X N f b) (F2 111 9).toInt e (L2 111 10).toInt := by
  intro g
  induction g with
  | zero => intro FI v s f b h; exact h.elim
  | succ g ih =>
    intro FI v s f b h hy h8 hb hf
    have c10 : ((10 : Int32)).toInt = 10 := by decide
    have c32 : ((32 : Int32)).toInt = 32 := by decide
    have hN := hy.2.1
    have h8n : (FI 111 8).toInt.toNat = b := by omega
    cases f with
    | zero => omega
    | succ f =>
      rw [t_sk]
      have go : b < N → t_bl (t_sg X N b) = true → RX7_readToken_39 (GX7_readToken_0 g) n sl SH FI FL FR v s → ∃ F2 L2 e, s = (n, sl, SH, F2, L2, FR) ∧ y_fr FI F2 FL L2 ∧ (F2 111 7).toInt = (if b < N ∧ t_bl (t_sg X N b) = true then t_sk X N f (b + 1) else b : Nat) ∧ (F2 111 8).toInt = ((e : Nat) : Int) ∧ y_is X N (if b < N ∧ t_bl (t_sg X N b) = true then t_sk X N f (b + 1) else b) (F2 111 9).toInt e (L2 111 10).toInt := by
        intro hlt hbl h
        rw [if_pos ⟨hlt, hbl⟩]
        obtain ⟨F2, L2, e, w1, w2, w3, w4, w5⟩ := ih _ v s f (b + 1) h (y_fl hy (by decide)) (by rw [h_up_eq, i_add h8 (by decide : ((1 : Int32)).toInt = 1) (by omega) (by omega)]; omega) hlt (by omega)
        refine ⟨F2, L2, e, w1, ⟨fun c k hck => ?_, w2.2⟩, w3, w4, w5⟩
        rw [w2.1 c k hck, h_up_x (by rintro ⟨rfl, rfl⟩; exact hck ⟨rfl, Or.inr (Or.inl rfl)⟩)]
      have stop : ¬ (b < N ∧ t_bl (t_sg X N b) = true) → RX7_readToken_52 n sl SH FI FL FR v s → ∃ F2 L2 e, s = (n, sl, SH, F2, L2, FR) ∧ y_fr FI F2 FL L2 ∧ (F2 111 7).toInt = (if b < N ∧ t_bl (t_sg X N b) = true then t_sk X N f (b + 1) else b : Nat) ∧ (F2 111 8).toInt = ((e : Nat) : Int) ∧ y_is X N (if b < N ∧ t_bl (t_sg X N b) = true then t_sk X N f (b + 1) else b) (F2 111 9).toInt e (L2 111 10).toInt := by
        intro hno h
        rw [if_neg hno]
        exact y_52 h hy h8 hb
      rcases h with ⟨h1, h⟩ | ⟨h1, h⟩
      · rw [h8, hy.1] at h1
        have hlt : b < N := by omega
        have hsg : t_sg X N b = X b := by unfold t_sg; rw [if_pos hlt]
        have hX := (hy.2.2.2.2.2.2.2.2 b hlt).1
        obtain ⟨c2, e2, -, h⟩ := h
        rw [hy.2.2.1] at e2
        cases e2
        rw [h8n, hX, ← hsg, c10] at h
        rcases h with ⟨h2, h⟩ | ⟨h2, h⟩
        · exact go hlt (by unfold t_bl; exact decide_eq_true (Or.inr h2)) h
        · obtain ⟨c4, e4, -, h⟩ := h
          rw [hy.2.2.1] at e4
          cases e4
          rw [hX, ← hsg, c32] at h
          rcases h with ⟨h3, h⟩ | ⟨h3, h⟩
          · exact go hlt (by unfold t_bl; exact decide_eq_true (Or.inl h3)) h
          · exact stop (by unfold t_bl; rw [decide_eq_true_eq]; omega) h
      · rw [h8, hy.1] at h1
        exact stop (by omega) h
end YA
end
section
/-! readAll: the class's tokens beside the reference's. -/
theorem t_tl_fuel {X : Nat → Int} {N : Nat} (hN : N ≤ 1000) : ∀ (f f2 i : Nat), i ≤ N → N - i < f → N - i < f2 → t_tl X N f i = t_tl X N f2 i := by
  intro f
  induction f with
  | zero => intro f2 i _ h; omega
  | succ f ih =>
    intro f2 i hi h1 h2
    cases f2 with
    | zero => omega
    | succ f2 =>
      rw [t_tl, t_tl]
      by_cases h3 : i < N
      · rw [if_pos h3, if_pos h3]
        have te := t_tk_e (X := X) h3 hN
        rw [ih f2 (i + 1) (by omega) (by omega) (by omega), ih f2 (t_tk X N i).2.2 te.2 (by omega) (by omega)]
      · rw [if_neg h3, if_neg h3]
theorem t_tl_sk {X : Nat → Int} {N : Nat} (hN : N ≤ 1000) : ∀ (f b : Nat), b ≤ N → N - b < f → b ≤ t_sk X N f b ∧ t_sk X N f b ≤ N ∧ t_tl X N f b = (if t_sk X N f b < N then ((t_tk X N (t_sk X N f b)).1, (t_tk X N (t_sk X N f b)).2.1, t_sk X N f b) :: t_tl X N 1001 (t_tk X N (t_sk X N f b)).2.2 else [(0, 0, N)]) := by
  intro f
  induction f with
  | zero => intro b _ h; omega
  | succ f ih =>
    intro b hb hf
    rw [t_sk, t_tl]
    by_cases h1 : b < N
    · by_cases h2 : t_bl (t_sg X N b) = true
      · rw [if_pos ⟨h1, h2⟩, if_pos h1, if_pos h2]
        have q := ih (b + 1) h1 (by omega)
        exact ⟨by omega, q.2⟩
      · have te := t_tk_e (X := X) h1 hN
        rw [if_neg (fun h => h2 h.2), if_pos h1, if_neg h2, if_pos h1, t_tl_fuel hN f 1001 _ te.2 (by omega) (by omega)]
        exact ⟨Nat.le_refl _, hb, rfl⟩
    · rw [if_neg (fun h => h1 h.1), if_neg h1, if_neg h1]
      exact ⟨Nat.le_refl _, hb, rfl⟩
/-- the kinds and worths that a token may have -/
theorem t_tk_kw {X : Nat → Int} {N i : Nat} (hi : i < N) (hN : N ≤ 1000) : ((t_tk X N i).1 = 1 ∧ True) ∨ ((t_tk X N i).1 = 2 ∧ 0 ≤ (t_tk X N i).2.1 ∧ (t_tk X N i).2.1 ≤ 9) ∨ (t_tk X N i).1 = 3 ∨ (t_tk X N i).1 = 4 ∨ ((t_tk X N i).1 = 5 ∧ (37 ≤ (t_tk X N i).2.1 ∧ (t_tk X N i).2.1 ≤ 126 ∨ 256 ≤ (t_tk X N i).2.1 ∧ (t_tk X N i).2.1 ≤ 263)) ∨ (t_tk X N i).1 = 6 := by
  unfold t_tk
  split
  · split
    · simp
    · split
      · simp
      · rename_i hw
        have := t_wd_rg (t_wv X N i (t_rn t_al X N 1001 i - i))
        rcases this with e | ⟨k, e⟩
        · exact absurd e hw
        · refine Or.inr (Or.inl ⟨rfl, ?_⟩)
          dsimp only
          have := k.isLt
          omega
  · split
    · dsimp only
      split
      · simp
      · split <;> simp
    · split
      · split <;> simp
      · dsimp only
        generalize t_sg X N i = C
        unfold t_sn
        split
        · rename_i h
          have := t_s2_rg C (t_sg X N (i + 1)) (t_sg X N (i + 2))
          refine Or.inr (Or.inr (Or.inr (Or.inr (Or.inl ⟨rfl, Or.inr ?_⟩))))
          dsimp only
          omega
        · split
          · rename_i h1 h2
            have h3 : C = 61 ∨ C = 59 ∨ C = 44 ∨ C = 58 ∨ C = 123 ∨ C = 125 ∨ C = 91 ∨ C = 93 ∨ C = 40 ∨ C = 41 ∨ C = 47 ∨ C = 37 ∨ C = 63 ∨ C = 124 ∨ C = 94 ∨ C = 38 ∨ C = 60 ∨ C = 62 ∨ C = 43 ∨ C = 45 ∨ C = 42 ∨ C = 126 := by simpa [t_s1] using h2
            refine Or.inr (Or.inr (Or.inr (Or.inr (Or.inl ⟨rfl, Or.inl ?_⟩))))
            dsimp only
            omega
          · simp
section YB
variable {X : Nat → Int} {N tp : Nat} {n sl : Nat} {SH : Nat → Nat × Nat} {FR : Nat → Nat → Option Nat} {a1 : Option Nat} {a2 : Int32}
/-- the token in hand is kept -/
theorem y_keep {F3 : Nat → Nat → Int32} {L3 : Nat → Nat → Int64} {j : Nat} (h4 : (F3 111 4).toInt = j) : ∀ i, i < j → (h_up (h_up (h_up (h_up F3 112 j (F3 111 9)) 114 j (F3 111 7)) 115 j (F3 111 8)) 111 4 ((F3 111 4) + ((1 : Int32)))) 112 i = F3 112 i ∧ (h_up (h_up (h_up (h_up F3 112 j (F3 111 9)) 114 j (F3 111 7)) 115 j (F3 111 8)) 111 4 ((F3 111 4) + ((1 : Int32)))) 114 i = F3 114 i ∧ (h_up (h_up (h_up (h_up F3 112 j (F3 111 9)) 114 j (F3 111 7)) 115 j (F3 111 8)) 111 4 ((F3 111 4) + ((1 : Int32)))) 115 i = F3 115 i ∧ (h_up L3 113 j (L3 111 10)) 113 i = L3 113 i := by
  intro i hi
  refine ⟨?_, ?_, ?_, ?_⟩
  · rw [h_up_nc (by decide), h_up_nc (by decide), h_up_nc (by decide), h_up_ne (by omega)]
  · rw [h_up_nc (by decide), h_up_nc (by decide), h_up_ne (by omega), h_up_nc (by decide)]
  · rw [h_up_nc (by decide), h_up_ne (by omega), h_up_nc (by decide), h_up_nc (by decide)]
  · rw [h_up_ne (by omega)]
/-- one turn of the loop: a token is read and kept -/
theorem y_turn {g : Nat} {FI : Nat → Nat → Int32} {FL : Nat → Nat → Int64} {v : Unit} {s : hS} {b j : Nat} (hS : h_S n SH) (h : GX7_readAll_30 a1 a2 (g + 1) n sl SH FI FL FR v s) (hy : y_vw SH FI FR tp X N) (h8 : (FI 111 8).toInt = b) (hb : b ≤ N) (h4 : (FI 111 4).toInt = j) (hj : j ≤ 1001) : (((FI 111 9).toInt = 2 ∨ (FI 111 9).toInt = 3 ∨ 1001 ≤ j) ∧ s = (n, sl, SH, FI, FL, FR)) ∨ ((FI 111 9).toInt ≠ 2 ∧ (FI 111 9).toInt ≠ 3 ∧ j < 1001 ∧ ∃ F2 L2 e, GX7_readAll_30 a1 a2 g n sl SH F2 L2 FR v s ∧ y_vw SH F2 FR tp X N ∧ (F2 111 4).toInt = ((j + 1 : Nat) : Int) ∧ (F2 111 8).toInt = ((e : Nat) : Int) ∧ y_is X N (t_sk X N 1001 b) (F2 111 9).toInt e (L2 111 10).toInt ∧ F2 112 j = F2 111 9 ∧ (F2 114 j).toInt = t_sk X N 1001 b ∧ F2 115 j = F2 111 8 ∧ L2 113 j = L2 111 10 ∧ (∀ i, i < j → F2 112 i = FI 112 i ∧ F2 114 i = FI 114 i ∧ F2 115 i = FI 115 i ∧ L2 113 i = FL 113 i)) := by
  have hN := hy.2.1
  have c2 : ((2 : Int32)).toInt = 2 := by decide
  have c3 : ((3 : Int32)).toInt = 3 := by decide
  have hz : (Int32.ofNat (SH 112).2).toInt = 1001 := by rw [s112 hS]; decide
  rcases h with ⟨h1, h⟩ | ⟨h1, h⟩
  · rw [h4, hz] at h1
    rcases h with ⟨h2, h⟩ | ⟨h2, h⟩
    · rw [c2] at h2
      exact Or.inl ⟨Or.inl h2, h.2⟩
    · rw [c2] at h2
      rcases h with ⟨h3, h⟩ | ⟨h3, h⟩
      · rw [c3] at h3
        exact Or.inl ⟨Or.inr (Or.inl h3), h.2⟩
      · rw [c3] at h3
        obtain ⟨v3, n3, sl3, SH3, FI3, FL3, FR3, ⟨gt, hc⟩, -, -, -, -, h⟩ := h
        obtain ⟨F2, L2, e, w1, w2, w3, w4, w5⟩ := y_readToken_G gt FI v3 _ 1001 b hc hy h8 hb (by omega)
        cases w1
        have f4 : FI3 111 4 = FI 111 4 := w2.1 111 4 (by decide)
        have f4' : (FI3 111 4).toInt = j := by rw [f4]; exact h4
        have f4n : (FI3 111 4).toInt.toNat = j := by omega
        rw [f4n] at h
        refine Or.inr ⟨h2, h3, by omega, _, _, e, h, ?_, ?_, ?_, ?_, ?_, ?_, ?_, ?_, fun i hi => ?_⟩
        · have t1 := hy.2.2.2.2.1
          have t2 := hy.2.2.2.2.2.1
          have t3 := hy.2.2.2.2.2.2.1
          have t4 := hy.2.2.2.2.2.2.2.1
          refine ⟨?_, hN, hy.2.2.1, hy.2.2.2.1, t1, t2, t3, t4, ?_⟩
          · rw [h_up_x (by decide), h_up_nc (by decide), h_up_nc (by decide), h_up_nc (by decide), w2.1 111 6 (by decide)]
            exact hy.1
          · intro i hi
            rw [h_up_nc t1, h_up_nc t4, h_up_nc t3, h_up_nc t2, w2.1 tp i (fun h => t1 h.1)]
            exact hy.2.2.2.2.2.2.2.2 i hi
        · rw [h_up_eq, i_add f4' (by decide : ((1 : Int32)).toInt = 1) (by omega) (by omega)]; omega
        · rw [h_up_x (by decide), h_up_nc (by decide), h_up_nc (by decide), h_up_nc (by decide)]; exact w4
        · rw [h_up_x (by decide), h_up_nc (by decide), h_up_nc (by decide), h_up_nc (by decide), h_up_nc (by decide)]; exact w5
        · rw [h_up_nc (by decide), h_up_nc (by decide), h_up_nc (by decide), h_up_eq, h_up_x (by decide), h_up_nc (by decide), h_up_nc (by decide), h_up_nc (by decide)]
        · rw [h_up_nc (by decide), h_up_nc (by decide), h_up_eq]; exact w3
        · rw [h_up_nc (by decide), h_up_eq, h_up_x (by decide), h_up_nc (by decide), h_up_nc (by decide), h_up_nc (by decide)]
        · rw [h_up_eq, h_up_nc (by decide)]
        · have k := y_keep (F3 := FI3) (L3 := FL3) (j := j) f4' i hi
          refine ⟨?_, ?_, ?_, ?_⟩
          · rw [k.1]; exact w2.1 112 i (by omega)
          · rw [k.2.1]; exact w2.1 114 i (by omega)
          · rw [k.2.2.1]; exact w2.1 115 i (by omega)
          · rw [k.2.2.2]; exact w2.2 113 i (by omega)
  · rw [h4, hz] at h1
    obtain ⟨-, rfl⟩ := h
    exact Or.inl ⟨Or.inr (Or.inr (by omega)), rfl⟩
theorem y_is_e {p e : Nat} {kd num : Int} (hN : N ≤ 1000) (hp : p ≤ N) (h : y_is X N p kd e num) : (kd = 2 ∧ e = p ∧ N ≤ p) ∨ kd = 3 ∨ (p < e ∧ e ≤ N ∧ p < N ∧ kd ≠ 2) := by
  unfold y_is at h
  by_cases h1 : p < N
  · rw [if_pos h1] at h
    have te := t_tk_e (X := X) h1 hN
    have tk := t_tk_ok (X := X) h1 hN
    rcases h with ⟨h2, h3, h4, -⟩ | ⟨h2, h3⟩
    · refine Or.inr (Or.inr ⟨by omega, by omega, h1, ?_⟩)
      rw [h3]
      intro hk
      have hw := t_tk_kw (X := X) h1 hN
      unfold t_ck at hk
      rw [if_neg tk.1] at hk
      rcases hw with hw | hw | hw | hw | hw | hw
      · rw [if_pos hw.1] at hk; omega
      · rw [if_neg (by omega), if_pos hw.1] at hk; omega
      · rw [if_neg (by omega), if_neg (by omega), if_pos hw] at hk; omega
      · rw [if_neg (by omega), if_neg (by omega), if_neg (by omega), if_pos hw] at hk; omega
      · rw [if_neg (by omega), if_neg (by omega), if_neg (by omega), if_neg (by omega), if_pos hw.1] at hk
        split at hk <;> omega
      · exact h2 hw
    · rcases h3 with h3 | ⟨h3, h4, h5, -⟩
      · exact Or.inr (Or.inl h3)
      · exact Or.inr (Or.inr ⟨by omega, by omega, h1, by omega⟩)
  · rw [if_neg h1] at h
    exact Or.inl ⟨h.1, h.2, by omega⟩
end YB
end
section
/-! readAll, to its end. -/
/-- what the class keeps of the reference's tokens: the same up to the first that is none -/
def y_ok (X : Nat → Int) (N : Nat) (F : Nat → Nat → Int32) (L : Nat → Nat → Int64) : List (Int × Int × Nat) → Nat → Prop
  | [], _ => False
  | x :: l, j => (F 114 j).toInt = x.2.2 ∧ ((x.1 = 0 ∧ (F 112 j).toInt = 2 ∧ (F 111 4).toInt = ((j + 1 : Nat) : Int)) ∨ (x.1 ≠ 0 ∧ x.1 ≠ 6 ∧ (F 112 j).toInt = t_ck x.1 x.2.1 ∧ (F 115 j).toInt = ((t_tk X N x.2.2).2.2 : Int) ∧ (x.1 = 3 ∨ x.1 = 4 → (L 113 j).toInt = x.2.1) ∧ y_ok X N F L l (j + 1)) ∨ (x.1 = 6 ∧ (((F 112 j).toInt = 3 ∧ (F 111 4).toInt = ((j + 1 : Nat) : Int)) ∨ ((F 112 j).toInt = 4 ∧ ((j + 2 : Nat) : Int) ≤ (F 111 4).toInt ∧ (F 112 (j + 1)).toInt ≠ 61))))
theorem t_sk_id {X : Nat → Int} {N f i : Nat} (h : ¬ t_bl (t_sg X N i) = true) : t_sk X N (f + 1) i = i := by
  rw [t_sk, if_neg (fun h2 => h h2.2)]
theorem t_al_bl {c : Int} (h : t_al c = true) : ¬ t_bl c = true := by
  have h2 : (97 ≤ c ∧ c ≤ 122) ∨ (48 ≤ c ∧ c ≤ 57) := by simpa [t_al, t_sm, t_dg] using h
  unfold t_bl
  rw [decide_eq_true_eq]
  omega
theorem t_tk_al {X : Nat → Int} {N i : Nat} (h : t_al (t_sg X N i) = true) : (t_tk X N i).1 = 1 ∨ (t_tk X N i).1 = 2 ∨ (t_tk X N i).1 = 3 ∨ (t_tk X N i).1 = 6 := by
  unfold t_tk
  split
  · split
    · simp
    · split <;> simp
  · rename_i hs
    have hd : t_dg (t_sg X N i) = true := by
      unfold t_al at h
      rw [Bool.or_eq_true] at h
      exact h.resolve_left hs
    rw [if_pos hd]
    dsimp only
    split
    · simp
    · split <;> simp
/-- the kind of a token that is one: neither the end nor none -/
theorem t_ck_n {X : Nat → Int} {N i : Nat} (hi : i < N) (hN : N ≤ 1000) (h6 : (t_tk X N i).1 ≠ 6) : t_ck (t_tk X N i).1 (t_tk X N i).2.1 ≠ 2 ∧ t_ck (t_tk X N i).1 (t_tk X N i).2.1 ≠ 3 := by
  have tk := t_tk_ok (X := X) hi hN
  have hw := t_tk_kw (X := X) hi hN
  unfold t_ck
  rw [if_neg tk.1]
  rcases hw with hw | hw | hw | hw | hw | hw
  · rw [if_pos hw.1]; omega
  · rw [if_neg (by omega), if_pos hw.1]; omega
  · rw [if_neg (by omega), if_neg (by omega), if_pos hw]; omega
  · rw [if_neg (by omega), if_neg (by omega), if_neg (by omega), if_pos hw]; omega
  · rw [if_neg (by omega), if_neg (by omega), if_neg (by omega), if_neg (by omega), if_pos hw.1]
    split <;> omega
  · exact absurd hw h6
theorem y_is_al {X : Nat → Int} {N p e : Nat} {kd num : Int} (hN : N ≤ 1000) (hp : p < N) (ha : t_al (t_sg X N p) = true) (h : y_is X N p kd e num) : kd ≠ 61 := by
  unfold y_is at h
  rw [if_pos hp] at h
  rcases h with ⟨h2, h3, -, -⟩ | ⟨-, h3⟩
  · rw [h3]
    have hw := t_tk_kw (X := X) hp hN
    have tk := t_tk_ok (X := X) hp hN
    unfold t_ck
    rw [if_neg tk.1]
    rcases t_tk_al ha with h4 | h4 | h4 | h4
    · rw [if_pos h4]; omega
    · rw [if_neg (by omega), if_pos h4]; omega
    · rw [if_neg (by omega), if_neg (by omega), if_pos h4]; omega
    · exact absurd h4 h2
  · omega
section YC
variable {X : Nat → Int} {N tp : Nat} {n sl : Nat} {SH : Nat → Nat × Nat} {FR : Nat → Nat → Option Nat} {a1 : Option Nat} {a2 : Int32}
theorem y_stop {g : Nat} {FI : Nat → Nat → Int32} {FL : Nat → Nat → Int64} {v : Unit} {s : hS} (h : GX7_readAll_30 a1 a2 g n sl SH FI FL FR v s) (hk : (FI 111 9).toInt = 2 ∨ (FI 111 9).toInt = 3) : s = (n, sl, SH, FI, FL, FR) := by
  have c2 : ((2 : Int32)).toInt = 2 := by decide
  have c3 : ((3 : Int32)).toInt = 3 := by decide
  cases g with
  | zero => exact h.elim
  | succ g =>
    rcases h with ⟨h1, h⟩ | ⟨h1, h⟩
    · rcases h with ⟨h2, h⟩ | ⟨h2, h⟩
      · exact h.2
      · rw [c2] at h2
        rcases h with ⟨h3, h⟩ | ⟨h3, h⟩
        · exact h.2
        · rw [c3] at h3
          exact absurd hk (by omega)
    · exact h.2
/-- what stays of the tokens before j -/
def y_kp (FI F2 : Nat → Nat → Int32) (FL L2 : Nat → Nat → Int64) (j : Nat) : Prop := ∀ i, i < j → F2 112 i = FI 112 i ∧ F2 114 i = FI 114 i ∧ F2 115 i = FI 115 i ∧ L2 113 i = FL 113 i
theorem y_kp_t {FI F2 F3 : Nat → Nat → Int32} {FL L2 L3 : Nat → Nat → Int64} {j k : Nat} (h : y_kp FI F2 FL L2 j) (h2 : y_kp F2 F3 L2 L3 k) (hjk : j ≤ k) : y_kp FI F3 FL L3 j := by
  intro i hi
  have a := h i hi
  have b := h2 i (by omega)
  exact ⟨b.1.trans a.1, b.2.1.trans a.2.1, b.2.2.1.trans a.2.2.1, b.2.2.2.trans a.2.2.2⟩
theorem y_rest (hQ : h_S n SH) : ∀ (g : Nat) (FI : Nat → Nat → Int32) (FL : Nat → Nat → Int64) (v : Unit) (s : hS) (b j : Nat), GX7_readAll_30 a1 a2 g n sl SH FI FL FR v s → y_vw SH FI FR tp X N → (FI 111 8).toInt = b → (b ≤ N ∨ (FI 111 9).toInt = 3) → (FI 111 4).toInt = j → j ≤ 1001 → ∃ F2 L2, s = (n, sl, SH, F2, L2, FR) ∧ y_vw SH F2 FR tp X N ∧ y_kp FI F2 FL L2 j ∧ (j : Int) ≤ (F2 111 4).toInt ∧ (F2 111 4).toInt ≤ 1001 := by
  intro g
  induction g with
  | zero => intro FI FL v s b j h; exact h.elim
  | succ g ih =>
    intro FI FL v s b j h hy h8 hb h4 hj
    have hN := hy.2.1
    have same : s = (n, sl, SH, FI, FL, FR) → ∃ F2 L2, s = (n, sl, SH, F2, L2, FR) ∧ y_vw SH F2 FR tp X N ∧ y_kp FI F2 FL L2 j ∧ (j : Int) ≤ (F2 111 4).toInt ∧ (F2 111 4).toInt ≤ 1001 := fun e => ⟨FI, FL, e, hy, fun _ _ => ⟨rfl, rfl, rfl, rfl⟩, by omega, by omega⟩
    by_cases h3 : (FI 111 9).toInt = 3
    · exact same (y_stop h (Or.inr h3))
    · have hb2 : b ≤ N := hb.resolve_right h3
      have sk := t_tl_sk (X := X) hN 1001 b hb2 (by omega)
      rcases y_turn hQ h hy h8 hb2 h4 hj with ⟨-, q⟩ | ⟨-, -, q3, F2, L2, e, w1, w2, w3, w4, w5, -, -, -, -, w6⟩
      · exact same q
      · have ie := y_is_e hN sk.2.1 w5
        obtain ⟨F3, L3, z1, z2, z3, z4, z5⟩ := ih F2 L2 v s e (j + 1) w1 w2 w4 (by rcases ie with i | i | i; exact Or.inl (by omega); exact Or.inr i; exact Or.inl i.2.1) w3 (by omega)
        exact ⟨F3, L3, z1, z2, y_kp_t w6 z3 (by omega), by omega, z5⟩
theorem y_all (hQ : h_S n SH) : ∀ (g : Nat) (FI : Nat → Nat → Int32) (FL : Nat → Nat → Int64) (v : Unit) (s : hS) (b j : Nat), GX7_readAll_30 a1 a2 g n sl SH FI FL FR v s → y_vw SH FI FR tp X N → (FI 111 8).toInt = b → b ≤ N → (FI 111 4).toInt = j → j + (N - b) ≤ 1000 → (FI 111 9).toInt ≠ 2 → (FI 111 9).toInt ≠ 3 → ∃ F2 L2, s = (n, sl, SH, F2, L2, FR) ∧ y_vw SH F2 FR tp X N ∧ y_kp FI F2 FL L2 j ∧ y_ok X N F2 L2 (t_tl X N 1001 b) j := by
  intro g
  induction g with
  | zero => intro FI FL v s b j h; exact h.elim
  | succ g ih =>
    intro FI FL v s b j h hy h8 hb h4 hj hk2 hk3
    have hN := hy.2.1
    have sk := t_tl_sk (X := X) hN 1001 b hb (by omega)
    rcases y_turn hQ h hy h8 hb h4 (by omega) with ⟨q, -⟩ | ⟨-, -, -, F2, L2, e, w1, w2, w3, w4, w5, k1, k2, k3, k4, w6⟩
    · exact absurd q (by omega)
    · rw [sk.2.2]
      by_cases hp : t_sk X N 1001 b < N
      · rw [if_pos hp]
        have te := t_tk_e (X := X) hp hN
        have w5' := w5
        unfold y_is at w5'
        rw [if_pos hp] at w5'
        rcases w5' with ⟨h6, hkd, he, hnum⟩ | ⟨h6, h3 | ⟨hn4, he, hl, hal⟩⟩
        · subst he
          have cn := t_ck_n (X := X) hp hN h6
          obtain ⟨F3, L3, z1, z2, z3, z4⟩ := ih F2 L2 v s _ (j + 1) w1 w2 w4 te.2 w3 (by omega) (by rw [hkd]; exact cn.1) (by rw [hkd]; exact cn.2)
          have kj := z3 j (by omega)
          refine ⟨F3, L3, z1, z2, y_kp_t w6 z3 (by omega), ?_⟩
          rw [y_ok]
          refine ⟨by rw [kj.2.1]; exact k2, Or.inr (Or.inl ⟨(t_tk_ok (X := X) hp hN).1, h6, by rw [kj.1, k1]; exact hkd, by rw [kj.2.2.1, k3]; exact w4, fun h => by rw [kj.2.2.2, k4]; exact hnum h, z4⟩)⟩
        · have hs := y_stop w1 (Or.inr h3)
          refine ⟨F2, L2, hs, w2, w6, ?_⟩
          rw [y_ok]
          exact ⟨k2, Or.inr (Or.inr ⟨h6, Or.inl ⟨by rw [k1]; exact h3, w3⟩⟩)⟩
        · subst he
          cases g with
          | zero => exact w1.elim
          | succ g =>
            have hsk : t_sk X N 1001 (t_sk X N 1001 b + 8) = t_sk X N 1001 b + 8 := t_sk_id (t_al_bl hal)
            rcases y_turn hQ w1 w2 w4 (by omega) w3 (by omega) with ⟨q, -⟩ | ⟨-, -, -, F3, L3, e3, u1, u2, u3, u4, u5, m1, m2, m3, m4, u6⟩
            · exact absurd q (by omega)
            · rw [hsk] at u5
              have ie := y_is_e hN (by omega) u5
              have ia := y_is_al hN hl hal u5
              obtain ⟨F4, L4, z1, z2, z3, z4, z5⟩ := y_rest hQ g F3 L3 v s e3 (j + 1 + 1) u1 u2 u4 (by rcases ie with i | i | i; exact Or.inl (by omega); exact Or.inr i; exact Or.inl i.2.1) u3 (by omega)
              have kj := y_kp_t u6 z3 (by omega) j (by omega)
              have kj2 := z3 (j + 1) (by omega)
              refine ⟨F4, L4, z1, z2, y_kp_t w6 (y_kp_t u6 z3 (by omega)) (by omega), ?_⟩
              rw [y_ok]
              exact ⟨by rw [kj.2.1]; exact k2, Or.inr (Or.inr ⟨h6, Or.inr ⟨by rw [kj.1, k1]; exact hn4, by omega, by rw [kj2.1, m1]; exact ia⟩⟩)⟩
      · rw [if_neg hp]
        have w5' := w5
        unfold y_is at w5'
        rw [if_neg hp] at w5'
        have hs := y_stop w1 (Or.inl w5'.1)
        refine ⟨F2, L2, hs, w2, w6, ?_⟩
        rw [y_ok]
        exact ⟨by rw [k2]; dsimp only; omega, Or.inl ⟨rfl, by rw [k1]; exact w5'.1, w3⟩⟩
/-- readAll: the class's tokens are the reference's up to the first that is none -/
theorem y_readAll {FI : Nat → Nat → Int32} {FL : Nat → Nat → Int64} {v : Unit} {s : hS} (hQ : h_S n SH) (h : RX7_readAll (some tp) a2 n sl SH FI FL FR v s) (ha : a2.toInt = N) (hN : N ≤ 1000) (hz : (SH tp).2 = 1000) (ht : tp ≠ 111 ∧ tp ≠ 112 ∧ tp ≠ 114 ∧ tp ≠ 115) (hX : ∀ i, i < N → (FI tp i).toInt = X i ∧ 0 ≤ X i ∧ X i ≤ 255) : ∃ F2 L2, s = (n, sl, SH, F2, L2, h_up FR 111 5 (some tp)) ∧ y_vw SH F2 (h_up FR 111 5 (some tp)) tp X N ∧ y_ok X N F2 L2 (t_tl X N 1001 0) 0 := by
  obtain ⟨c2, e2, g, h⟩ := h
  cases e2
  have hm : fJ9_min_7cf53 a2 (Int32.ofNat (SH tp).2) SH FI FL (h_up FR 111 5 (some tp)) = a2 := by
    unfold fJ9_min_7cf53
    rw [hz, if_neg]
    rw [ha, show (Int32.ofNat 1000).toInt = 1000 by decide]
    omega
  rw [hm] at h
  have hy : y_vw SH (h_up (h_up (h_up (h_up FI 111 6 a2) 111 8 ((0 : Int32))) 111 4 ((0 : Int32))) 111 9 ((1 : Int32))) (h_up FR 111 5 (some tp)) tp X N := by
    refine ⟨?_, hN, h_up_eq, hz, ht.1, ht.2.1, ht.2.2.1, ht.2.2.2, ?_⟩
    · rw [h_up_x (by decide), h_up_x (by decide), h_up_x (by decide), h_up_eq]
      exact ha
    · intro i hi
      rw [h_up_nc ht.1, h_up_nc ht.1, h_up_nc ht.1, h_up_nc ht.1]
      exact hX i hi
  obtain ⟨F2, L2, q1, q2, -, q4⟩ := y_all hQ g _ FL v s 0 0 h hy (by rw [h_up_x (by decide), h_up_x (by decide), h_up_eq]; rfl) (by omega) (by rw [h_up_x (by decide), h_up_eq]; rfl) (by omega) (by rw [h_up_eq]; decide) (by rw [h_up_eq]; decide)
  exact ⟨F2, L2, q1, q2, q4⟩
end YC
end
section
/-! THE CLASS'S TREES as its coder reads them: n_cd, by fuel. Mode 0 a node, 1 the rest of a chain from a link on, 2 a chain from its first on. None: too little fuel, a cell that is no node, no node where one must be, or too deep. -/
def o2 (g : List Int → List Int → List Int) : Option (List Int) → Option (List Int) → Option (List Int)
  | some a, some b => some (g a b)
  | _, _ => none
theorem o2_some {g : List Int → List Int → List Int} {x y : Option (List Int)} {z : List Int} (h : o2 g x y = some z) : ∃ a b, x = some a ∧ y = some b ∧ g a b = z := by
  cases x with
  | none => cases h
  | some a =>
    cases y with
    | none => cases h
    | some b => exact ⟨a, b, rfl, rfl, Option.some.inj h⟩
theorem om_some {g : List Int → List Int} {x : Option (List Int)} {z : List Int} (h : x.map g = some z) : ∃ a, x = some a ∧ g a = z := by
  cases x with
  | none => cases h
  | some a => exact ⟨a, rfl, Option.some.inj h⟩
def n_un (k w : Int) : List Int := if k = 6 then (if w = 8 then [6] else [148, w]) else if k = 14 then [155] else if k = 45 then [31] else if k = 126 then [32] else []
def n_op (k : Int) : Int := if k = 15 then 27 else if k = 18 then 41 else if k = 19 then 46 else if k = 20 then 44 else if k = 21 then 42 else if k = 22 then 36 else if k = 23 then 38 else if k = 24 then 37 else if k = 38 then 26 else if k = 42 then 30 else if k = 43 then 34 else if k = 45 then 28 else if k = 60 then 45 else if k = 62 then 43 else if k = 94 then 39 else if k = 124 then 33 else 29
def n_bs (k w p : Int) : List Int := (if k = 37 then 112 + w else 145) :: lc_s 9 p
def n_rg (k w : Int) : Bool := decide ((k = 5 → 0 ≤ w ∧ w ≤ 999999999999999999) ∧ (k = 37 → 0 ≤ w ∧ w ≤ 31) ∧ (k = 6 → 1 ≤ w ∧ w ≤ 8))
def n_sg (g w : Int) : Int := if g = 45 then -w else w
section NC
variable (FI : Nat → Nat → Int32) (FL : Nat → Nat → Int64) (FR : Nat → Nat → Option Nat)
/-- the plain term behind a first that is based -/
def n_nx (c : Nat) : Option Nat := if (FI c 0).toInt = 37 ∨ (FI c 0).toInt = 11 then (match FR c 6 with
  | none => none
  | some e => if 176 ≤ e ∧ (FI e 0).toInt = 5 ∧ ((FI e 2).toInt = 43 ∨ (FI e 2).toInt = 45) ∧ n_rg (FI e 0).toInt (FL e 1).toInt = true then some e else none) else none
/-- one step -/
def n_st (rec : Nat → Option Nat → Int → Option (List Int)) (m c : Nat) (d : Int) : Option (List Int) :=
  if c < 176 ∨ n_rg (FI c 0).toInt (FL c 1).toInt = false then none
  else if m = 0 then
    if 120 < d then none
    else if (FI c 0).toInt = 5 then some (lc_c (FL c 1).toInt)
    else if (FI c 0).toInt = 11 ∨ (FI c 0).toInt = 37 then some (n_bs (FI c 0).toInt (FL c 1).toInt 0)
    else if (FI c 0).toInt = 12 then some [156]
    else if (FI c 0).toInt = 13 then some [151]
    else if (FI c 0).toInt = 25 then (if 120 ≤ d then none else rec 2 (FR c 3) d)
    else if (FI c 0).toInt = 63 then o2 (fun a x => a ++ x) (rec 0 (FR c 3) (d + 1)) (o2 lc_ch (rec 0 (FR c 4) (d + 1)) (rec 0 (FR c 5) (d + 1)))
    else (rec 0 (FR c 3) (d + 1)).map (fun a => a ++ n_un (FI c 0).toInt (FL c 1).toInt)
  else if m = 1 then
    if (FI c 2).toInt = 43 ∧ (FI c 0).toInt = 5 then (rec 1 (FR c 6) d).map (fun r => 35 :: lc_u 9 (FL c 1).toInt ++ r)
    else o2 (fun a r => (a ++ [n_op (FI c 2).toInt]) ++ r) (rec 0 (some c) (d + 1)) (rec 1 (FR c 6) d)
  else match n_nx FI FL FR c with
    | some e => (rec 1 (FR e 6) d).map (fun r => n_bs (FI c 0).toInt (FL c 1).toInt (n_sg (FI e 2).toInt (FL e 1).toInt) ++ r)
    | none => o2 (fun a r => a ++ r) (rec 0 (some c) (d + 1)) (rec 1 (FR c 6) d)
def n_cd : Nat → Nat → Option Nat → Int → Option (List Int)
  | 0, _, _, _ => none
  | f + 1, m, o, d => match o with
    | none => (match m with
      | 1 => some []
      | _ => none)
    | some c => n_st FI FL FR (n_cd f) m c d
end NC
section ND
variable {FI : Nat → Nat → Int32} {FL : Nat → Nat → Int64} {FR : Nat → Nat → Option Nat}
theorem o2_mono {g : List Int → List Int → List Int} {x y x2 y2 : Option (List Int)} {z : List Int} (hx : ∀ a, x = some a → x2 = some a) (hy : ∀ a, y = some a → y2 = some a) (h : o2 g x y = some z) : o2 g x2 y2 = some z := by
  obtain ⟨a, b, h1, h2, h3⟩ := o2_some h
  rw [hx a h1, hy b h2, ← h3]
  rfl
theorem om_mono {g : List Int → List Int} {x x2 : Option (List Int)} {z : List Int} (hx : ∀ a, x = some a → x2 = some a) (h : x.map g = some z) : x2.map g = some z := by
  obtain ⟨a, h1, h3⟩ := om_some h
  rw [hx a h1, ← h3]
  rfl
theorem n_st_mono {rec rec2 : Nat → Option Nat → Int → Option (List Int)} (hr : ∀ m o d x, rec m o d = some x → rec2 m o d = some x) {m c : Nat} {d : Int} {x : List Int} (h : n_st FI FL FR rec m c d = some x) : n_st FI FL FR rec2 m c d = some x := by
  unfold n_st at h ⊢
  by_cases h0 : c < 176 ∨ n_rg (FI c 0).toInt (FL c 1).toInt = false
  · rw [if_pos h0] at h; cases h
  · rw [if_neg h0] at h ⊢
    by_cases h1 : m = 0
    · rw [if_pos h1] at h ⊢
      by_cases h2 : 120 < d
      · rw [if_pos h2] at h ⊢; exact h
      · rw [if_neg h2] at h ⊢
        by_cases h3 : (FI c 0).toInt = 5
        · rw [if_pos h3] at h ⊢; exact h
        · rw [if_neg h3] at h ⊢
          by_cases h4 : (FI c 0).toInt = 11 ∨ (FI c 0).toInt = 37
          · rw [if_pos h4] at h ⊢; exact h
          · rw [if_neg h4] at h ⊢
            by_cases h5 : (FI c 0).toInt = 12
            · rw [if_pos h5] at h ⊢; exact h
            · rw [if_neg h5] at h ⊢
              by_cases h6 : (FI c 0).toInt = 13
              · rw [if_pos h6] at h ⊢; exact h
              · rw [if_neg h6] at h ⊢
                by_cases h7 : (FI c 0).toInt = 25
                · rw [if_pos h7] at h ⊢
                  by_cases hq : 120 ≤ d
                  · rw [if_pos hq] at h; cases h
                  · rw [if_neg hq] at h ⊢; exact hr _ _ _ _ h
                · rw [if_neg h7] at h ⊢
                  by_cases h8 : (FI c 0).toInt = 63
                  · rw [if_pos h8] at h ⊢
                    exact o2_mono (fun a ha => hr _ _ _ _ ha) (fun a ha => o2_mono (fun b hb => hr _ _ _ _ hb) (fun b hb => hr _ _ _ _ hb) ha) h
                  · rw [if_neg h8] at h ⊢
                    exact om_mono (fun a ha => hr _ _ _ _ ha) h
    · rw [if_neg h1] at h ⊢
      by_cases h2 : m = 1
      · rw [if_pos h2] at h ⊢
        by_cases h3 : (FI c 2).toInt = 43 ∧ (FI c 0).toInt = 5
        · rw [if_pos h3] at h ⊢
          exact om_mono (fun a ha => hr _ _ _ _ ha) h
        · rw [if_neg h3] at h ⊢
          exact o2_mono (fun a ha => hr _ _ _ _ ha) (fun a ha => hr _ _ _ _ ha) h
      · rw [if_neg h2] at h ⊢
        cases e : n_nx FI FL FR c with
        | some e2 =>
          rw [e] at h
          exact om_mono (fun a ha => hr _ _ _ _ ha) h
        | none =>
          rw [e] at h
          exact o2_mono (fun a ha => hr _ _ _ _ ha) (fun a ha => hr _ _ _ _ ha) h
theorem n_cd_mono1 : ∀ (f m : Nat) (o : Option Nat) (d : Int) (x : List Int), n_cd FI FL FR f m o d = some x → n_cd FI FL FR (f + 1) m o d = some x := by
  intro f
  induction f with
  | zero => intro m o d x h; cases h
  | succ f ih =>
    intro m o d x h
    cases o with
    | none => exact h
    | some c => exact n_st_mono ih h
theorem n_cd_mono {f f2 m : Nat} {o : Option Nat} {d : Int} {x : List Int} (hf : f ≤ f2) (h : n_cd FI FL FR f m o d = some x) : n_cd FI FL FR f2 m o d = some x := by
  obtain ⟨k, rfl⟩ := Nat.exists_eq_add_of_le hf
  induction k with
  | zero => exact h
  | succ k ih => exact n_cd_mono1 _ _ _ _ _ (ih (Nat.le_add_right _ _))
theorem n_cd_ok {f m c : Nat} {d : Int} {x : List Int} (h : n_cd FI FL FR f m (some c) d = some x) : 176 ≤ c ∧ n_rg (FI c 0).toInt (FL c 1).toInt = true := by
  cases f with
  | zero => cases h
  | succ f =>
    have h2 : n_st FI FL FR (n_cd FI FL FR f) m c d = some x := h
    unfold n_st at h2
    by_cases h0 : c < 176 ∨ n_rg (FI c 0).toInt (FL c 1).toInt = false
    · rw [if_pos h0] at h2; cases h2
    · refine ⟨by omega, ?_⟩
      cases e : n_rg (FI c 0).toInt (FL c 1).toInt with
      | true => rfl
      | false => exact absurd (Or.inr e) h0
end ND
/-! Which cells a tree lies in, by meaning: whatever happens elsewhere, and to the sign and the link of its root, it codes to the same bytes. -/
def n_ag (lo hi x c : Nat) (FI : Nat → Nat → Int32) (FL : Nat → Nat → Int64) (FR : Nat → Nat → Option Nat) (F2 : Nat → Nat → Int32) (L2 : Nat → Nat → Int64) (R2 : Nat → Nat → Option Nat) : Prop := (∀ q k, lo ≤ q → q < hi → q ≠ x → ¬ (q = c ∧ k = 2) → F2 q k = FI q k) ∧ (∀ q k, lo ≤ q → q < hi → q ≠ x → L2 q k = FL q k) ∧ (∀ q k, lo ≤ q → q < hi → q ≠ x → ¬ (q = c ∧ k = 6) → R2 q k = FR q k)
def n_is (FI : Nat → Nat → Int32) (FL : Nat → Nat → Int64) (FR : Nat → Nat → Option Nat) (lo hi c H : Nat) (code : List Int) : Prop := 176 ≤ lo ∧ lo ≤ c ∧ c < hi ∧ ∀ F2 L2 R2, n_ag lo hi 0 c FI FL FR F2 L2 R2 → ∀ d : Int, d + H ≤ 120 → ∃ f, n_cd F2 L2 R2 f 0 (some c) d = some code
section NI
variable {FI F2 F3 : Nat → Nat → Int32} {FL L2 L3 : Nat → Nat → Int64} {FR R2 R3 : Nat → Nat → Option Nat} {lo hi c H : Nat} {code : List Int}
theorem n_ag_t {x : Nat} (h1 : n_ag lo hi x c FI FL FR F2 L2 R2) (h2 : n_ag lo hi x c F2 L2 R2 F3 L3 R3) : n_ag lo hi x c FI FL FR F3 L3 R3 :=
  ⟨fun q k a b e n => (h2.1 q k a b e n).trans (h1.1 q k a b e n), fun q k a b e => (h2.2.1 q k a b e).trans (h1.2.1 q k a b e), fun q k a b e n => (h2.2.2 q k a b e n).trans (h1.2.2 q k a b e n)⟩
theorem n_is_fr (h : n_is FI FL FR lo hi c H code) (ha : n_ag lo hi 0 c FI FL FR F2 L2 R2) : n_is F2 L2 R2 lo hi c H code :=
  ⟨h.1, h.2.1, h.2.2.1, fun F3 L3 R3 h3 d hd => h.2.2.2 F3 L3 R3 (n_ag_t ha h3) d hd⟩
theorem n_is_w {lo2 hi2 H2 : Nat} (h : n_is FI FL FR lo hi c H code) (h0 : 176 ≤ lo2) (h1 : lo2 ≤ lo) (h2 : hi ≤ hi2) (h3 : H ≤ H2) : n_is FI FL FR lo2 hi2 c H2 code :=
  ⟨h0, by have := h.2.1; omega, by have := h.2.2.1; omega, fun F3 L3 R3 h4 d hd => h.2.2.2 F3 L3 R3 ⟨fun q k a b e n => h4.1 q k (by omega) (by omega) e n, fun q k a b e => h4.2.1 q k (by omega) (by omega) e, fun q k a b e n => h4.2.2 q k (by omega) (by omega) e n⟩ d (by omega)⟩
/-- the root's own fields, in every heap that agrees -/
theorem n_ag_c (h0 : 176 ≤ lo) (h1 : lo ≤ c) (h2 : c < hi) (ha : n_ag lo hi 0 c FI FL FR F2 L2 R2) : F2 c 0 = FI c 0 ∧ L2 c 1 = FL c 1 ∧ R2 c 3 = FR c 3 ∧ R2 c 4 = FR c 4 ∧ R2 c 5 = FR c 5 :=
  ⟨ha.1 c 0 h1 h2 (by omega) (by omega), ha.2.1 c 1 h1 h2 (by omega), ha.2.2 c 3 h1 h2 (by omega) (by omega), ha.2.2 c 4 h1 h2 (by omega) (by omega), ha.2.2 c 5 h1 h2 (by omega) (by omega)⟩
/-- what lies in a part of the cells, the root not among them -/
theorem n_ag_s {lo2 hi2 c2 : Nat} (h1 : lo ≤ lo2) (h2 : hi2 ≤ hi) (h3 : ¬ (lo2 ≤ c ∧ c < hi2)) (ha : n_ag lo hi 0 c FI FL FR F2 L2 R2) : n_ag lo2 hi2 0 c2 FI FL FR F2 L2 R2 :=
  ⟨fun q k a b e n => ha.1 q k (by omega) (by omega) e (by omega), fun q k a b e => ha.2.1 q k (by omega) (by omega) e, fun q k a b e n => ha.2.2 q k (by omega) (by omega) e (by omega)⟩
theorem n_is_at (h0 : 176 ≤ lo) (h1 : lo ≤ c) (h2 : c < hi) (hr : n_rg (FI c 0).toInt (FL c 1).toInt = true) (hk : ((FI c 0).toInt = 5 ∧ code = lc_c (FL c 1).toInt) ∨ (((FI c 0).toInt = 11 ∨ (FI c 0).toInt = 37) ∧ code = n_bs (FI c 0).toInt (FL c 1).toInt 0) ∨ ((FI c 0).toInt = 12 ∧ code = [156]) ∨ ((FI c 0).toInt = 13 ∧ code = [151])) : n_is FI FL FR lo hi c 0 code := by
  refine ⟨h0, h1, h2, fun F2 L2 R2 ha d hd => ⟨1, ?_⟩⟩
  obtain ⟨e0, e1, -⟩ := n_ag_c h0 h1 h2 ha
  show n_st F2 L2 R2 _ 0 c d = some code
  unfold n_st
  rw [e0, e1, if_neg (by rw [hr]; simp; omega), if_pos rfl, if_neg (by omega)]
  rcases hk with ⟨k1, rfl⟩ | ⟨k1, rfl⟩ | ⟨k1, rfl⟩ | ⟨k1, rfl⟩
  · rw [if_pos k1]
  · rw [if_neg (by omega), if_pos k1]
  · rw [if_neg (by omega), if_neg (by omega), if_pos k1]
  · rw [if_neg (by omega), if_neg (by omega), if_neg (by omega), if_pos k1]
theorem n_is_un {lo2 hi2 c2 : Nat} {code2 : List Int} (h0 : 176 ≤ lo) (h1 : lo ≤ c) (h2 : c < hi) (hr : n_rg (FI c 0).toInt (FL c 1).toInt = true) (hk : (FI c 0).toInt = 6 ∨ (FI c 0).toInt = 14 ∨ (FI c 0).toInt = 45 ∨ (FI c 0).toInt = 126 ∨ (FI c 0).toInt = 40) (h3 : FR c 3 = some c2) (hc : n_is FI FL FR lo2 hi2 c2 H code2) (i1 : lo ≤ lo2) (i2 : hi2 ≤ hi) (i3 : ¬ (lo2 ≤ c ∧ c < hi2)) : n_is FI FL FR lo hi c (H + 1) (code2 ++ n_un (FI c 0).toInt (FL c 1).toInt) := by
  refine ⟨h0, h1, h2, fun F2 L2 R2 ha d hd => ?_⟩
  obtain ⟨e0, e1, e3, -⟩ := n_ag_c h0 h1 h2 ha
  obtain ⟨f, hf⟩ := hc.2.2.2 F2 L2 R2 (n_ag_s i1 i2 i3 ha) (d + 1) (by omega)
  refine ⟨f + 1, ?_⟩
  show n_st F2 L2 R2 _ 0 c d = some _
  unfold n_st
  rw [e0, e1, e3, h3, if_neg (by rw [hr]; simp; omega), if_pos rfl, if_neg (by omega), if_neg (by omega), if_neg (by omega), if_neg (by omega), if_neg (by omega), if_neg (by omega), if_neg (by omega), hf]
  rfl
theorem n_is_ch {lo1 hi1 c1 lo2 hi2 c2 lo3 hi3 c3 : Nat} {code1 code2 code3 : List Int} (h0 : 176 ≤ lo) (h1 : lo ≤ c) (h2 : c < hi) (hk : (FI c 0).toInt = 63) (e1 : FR c 3 = some c1) (e2 : FR c 4 = some c2) (e3 : FR c 5 = some c3) (q1 : n_is FI FL FR lo1 hi1 c1 H code1) (q2 : n_is FI FL FR lo2 hi2 c2 H code2) (q3 : n_is FI FL FR lo3 hi3 c3 H code3) (i1 : lo ≤ lo1 ∧ hi1 ≤ hi ∧ ¬ (lo1 ≤ c ∧ c < hi1)) (i2 : lo ≤ lo2 ∧ hi2 ≤ hi ∧ ¬ (lo2 ≤ c ∧ c < hi2)) (i3 : lo ≤ lo3 ∧ hi3 ≤ hi ∧ ¬ (lo3 ≤ c ∧ c < hi3)) : n_is FI FL FR lo hi c (H + 1) (code1 ++ lc_ch code2 code3) := by
  refine ⟨h0, h1, h2, fun F2 L2 R2 ha d hd => ?_⟩
  obtain ⟨a0, a1, a3, a4, a5⟩ := n_ag_c h0 h1 h2 ha
  obtain ⟨f1, hf1⟩ := q1.2.2.2 F2 L2 R2 (n_ag_s i1.1 i1.2.1 i1.2.2 ha) (d + 1) (by omega)
  obtain ⟨f2, hf2⟩ := q2.2.2.2 F2 L2 R2 (n_ag_s i2.1 i2.2.1 i2.2.2 ha) (d + 1) (by omega)
  obtain ⟨f3, hf3⟩ := q3.2.2.2 F2 L2 R2 (n_ag_s i3.1 i3.2.1 i3.2.2 ha) (d + 1) (by omega)
  have hr : n_rg (FI c 0).toInt (FL c 1).toInt = true := by unfold n_rg; rw [hk]; simp
  refine ⟨f1 + f2 + f3 + 1, ?_⟩
  show n_st F2 L2 R2 _ 0 c d = some _
  unfold n_st
  rw [a0, a1, a3, a4, a5, e1, e2, e3, if_neg (by rw [hr]; simp; omega), if_pos rfl, if_neg (by omega), if_neg (by omega), if_neg (by omega), if_neg (by omega), if_neg (by omega), if_neg (by omega), if_pos hk, n_cd_mono (by omega) hf1, n_cd_mono (by omega) hf2, n_cd_mono (by omega) hf3]
  rfl
/-- one more behind the others of a chain -/
def n_tm (FI : Nat → Nat → Int32) (FL : Nat → Nat → Int64) (e : Nat) (ce : List Int) : List Int := if (FI e 2).toInt = 43 ∧ (FI e 0).toInt = 5 then 35 :: lc_u 9 (FL e 1).toInt else ce ++ [n_op (FI e 2).toInt]
/-- a chain under way: x the chain's own node, a its first, l its last -/
def n_cw (FI : Nat → Nat → Int32) (FL : Nat → Nat → Int64) (FR : Nat → Nat → Option Nat) (lo hi x a l H : Nat) (code : List Int) : Prop := 176 ≤ lo ∧ lo ≤ l ∧ l < hi ∧ l ≠ x ∧ ∀ F2 L2 R2, ((∀ q k, lo ≤ q → q < hi → q ≠ x → F2 q k = FI q k) ∧ (∀ q k, lo ≤ q → q < hi → q ≠ x → L2 q k = FL q k) ∧ (∀ q k, lo ≤ q → q < hi → q ≠ x → ¬ (q = l ∧ k = 6) → R2 q k = FR q k)) → ∀ d : Int, d + 1 + H ≤ 120 → ∀ r f, n_cd F2 L2 R2 f 1 (R2 l 6) d = some r → ∃ f2, n_cd F2 L2 R2 f2 2 (some a) d = some (code ++ r)
/-- a rest of one and what is behind it -/
theorem n_cd_1 {f f2 e : Nat} {d : Int} {ce r : List Int} (h : n_cd FI FL FR f 0 (some e) (d + 1) = some ce) (h2 : n_cd FI FL FR f2 1 (FR e 6) d = some r) : n_cd FI FL FR (f + f2 + 1) 1 (some e) d = some (n_tm FI FL e ce ++ r) := by
  have ok := n_cd_ok h
  show n_st FI FL FR _ 1 e d = some _
  unfold n_st n_tm
  rw [if_neg (by rw [ok.2]; simp; omega), if_neg (by decide), if_pos rfl]
  by_cases h3 : (FI e 2).toInt = 43 ∧ (FI e 0).toInt = 5
  · rw [if_pos h3, if_pos h3, n_cd_mono (by omega) h2]
    rfl
  · rw [if_neg h3, if_neg h3, n_cd_mono (by omega) h, n_cd_mono (by omega) h2]
    rfl
/-- the first two of a chain -/
theorem n_cw_1 {x lo1 hi1 a lo2 hi2 e : Nat} {ca ce : List Int} (q1 : n_is FI FL FR lo1 hi1 a H ca) (q2 : n_is FI FL FR lo2 hi2 e H ce) (hl : FR a 6 = some e) (i1 : lo ≤ lo1) (i2 : hi1 ≤ lo2) (i3 : hi2 ≤ hi) (h0 : 176 ≤ lo) (hx : ¬ (lo1 ≤ x ∧ x < hi1) ∧ ¬ (lo2 ≤ x ∧ x < hi2)) : n_cw FI FL FR lo hi x a e H (if ((FI a 0).toInt = 37 ∨ (FI a 0).toInt = 11) ∧ (FI e 0).toInt = 5 ∧ ((FI e 2).toInt = 43 ∨ (FI e 2).toInt = 45) then n_bs (FI a 0).toInt (FL a 1).toInt (n_sg (FI e 2).toInt (FL e 1).toInt) else ca ++ n_tm FI FL e ce) := by
  have b1 := q1.2.1
  have b2 := q1.2.2.1
  have b3 := q2.2.1
  have b4 := q2.2.2.1
  refine ⟨h0, by omega, by omega, by omega, fun F2 L2 R2 ha d hd r f hr => ?_⟩
  obtain ⟨f1, hf1⟩ := q1.2.2.2 F2 L2 R2 ⟨fun q k g1 g2 _ _ => ha.1 q k (by omega) (by omega) (by omega), fun q k g1 g2 _ => ha.2.1 q k (by omega) (by omega) (by omega), fun q k g1 g2 _ _ => ha.2.2 q k (by omega) (by omega) (by omega) (by omega)⟩ (d + 1) (by omega)
  obtain ⟨f2, hf2⟩ := q2.2.2.2 F2 L2 R2 ⟨fun q k g1 g2 _ _ => ha.1 q k (by omega) (by omega) (by omega), fun q k g1 g2 _ => ha.2.1 q k (by omega) (by omega) (by omega), fun q k g1 g2 _ g4 => ha.2.2 q k (by omega) (by omega) (by omega) g4⟩ (d + 1) (by omega)
  have ea0 : F2 a 0 = FI a 0 := ha.1 a 0 (by omega) (by omega) (by omega)
  have ea1 : L2 a 1 = FL a 1 := ha.2.1 a 1 (by omega) (by omega) (by omega)
  have ea6 : R2 a 6 = some e := (ha.2.2 a 6 (by omega) (by omega) (by omega) (by omega)).trans hl
  have ee0 : F2 e 0 = FI e 0 := ha.1 e 0 (by omega) (by omega) (by omega)
  have ee2 : F2 e 2 = FI e 2 := ha.1 e 2 (by omega) (by omega) (by omega)
  have ee1 : L2 e 1 = FL e 1 := ha.2.1 e 1 (by omega) (by omega) (by omega)
  have oka := n_cd_ok hf1
  have oke := n_cd_ok hf2
  have g0 : ¬ (a < 176 ∨ n_rg (F2 a 0).toInt (L2 a 1).toInt = false) := by rw [oka.2]; simp; omega
  by_cases hcm : ((FI a 0).toInt = 37 ∨ (FI a 0).toInt = 11) ∧ (FI e 0).toInt = 5 ∧ ((FI e 2).toInt = 43 ∨ (FI e 2).toInt = 45)
  · rw [if_pos hcm]
    have hn : n_nx F2 L2 R2 a = some e := by
      unfold n_nx
      rw [ea0, if_pos hcm.1, ea6]
      dsimp only
      rw [if_pos ⟨oke.1, by rw [ee0]; exact hcm.2.1, by rw [ee2]; exact hcm.2.2, oke.2⟩]
    refine ⟨f + 1, ?_⟩
    show n_st F2 L2 R2 _ 2 a d = some _
    unfold n_st
    rw [if_neg g0, if_neg (by decide), if_neg (by decide), hn]
    dsimp only
    rw [hr, ea0, ea1, ee2, ee1]
    rfl
  · rw [if_neg hcm]
    have hn : n_nx F2 L2 R2 a = none := by
      unfold n_nx
      by_cases k1 : (FI a 0).toInt = 37 ∨ (FI a 0).toInt = 11
      · rw [ea0, if_pos k1, ea6]
        dsimp only
        rw [if_neg]
        rw [ee0, ee2]
        exact fun h => hcm ⟨k1, h.2.1, h.2.2.1⟩
      · rw [ea0, if_neg k1]
    have h1 := n_cd_1 hf2 hr
    refine ⟨f1 + (f2 + f + 1) + 1, ?_⟩
    show n_st F2 L2 R2 _ 2 a d = some _
    unfold n_st
    rw [if_neg g0, if_neg (by decide), if_neg (by decide), hn]
    dsimp only
    rw [n_cd_mono (by omega) hf1, ea6, n_cd_mono (by omega) h1]
    have et : n_tm F2 L2 e ce = n_tm FI FL e ce := by unfold n_tm; rw [ee0, ee1, ee2]
    rw [et, List.append_assoc]
    rfl
/-- one more -/
theorem n_cw_s {x a l lo2 hi2 e : Nat} {ce : List Int} (q1 : n_cw FI FL FR lo hi x a l H code) (q2 : n_is FI FL FR lo2 hi2 e H ce) (hl : FR l 6 = some e) (i2 : hi ≤ lo2) (hx : x < lo2) : n_cw FI FL FR lo hi2 x a e H (code ++ n_tm FI FL e ce) := by
  have b3 := q2.2.1
  have b4 := q2.2.2.1
  have b1 := q1.2.1
  have b2 := q1.2.2.1
  refine ⟨q1.1, by omega, by omega, by omega, fun F2 L2 R2 ha d hd r f hr => ?_⟩
  obtain ⟨f2, hf2⟩ := q2.2.2.2 F2 L2 R2 ⟨fun q k g1 g2 _ _ => ha.1 q k (by omega) (by omega) (by omega), fun q k g1 g2 _ => ha.2.1 q k (by omega) (by omega) (by omega), fun q k g1 g2 _ g4 => ha.2.2 q k (by omega) (by omega) (by omega) g4⟩ (d + 1) (by omega)
  have el : R2 l 6 = some e := (ha.2.2 l 6 (by omega) (by omega) q1.2.2.2.1 (by omega)).trans hl
  have ee0 : F2 e 0 = FI e 0 := ha.1 e 0 (by omega) (by omega) (by omega)
  have ee2 : F2 e 2 = FI e 2 := ha.1 e 2 (by omega) (by omega) (by omega)
  have ee1 : L2 e 1 = FL e 1 := ha.2.1 e 1 (by omega) (by omega) (by omega)
  have et : n_tm F2 L2 e ce = n_tm FI FL e ce := by unfold n_tm; rw [ee0, ee1, ee2]
  have h1 := n_cd_1 hf2 hr
  rw [et] at h1
  obtain ⟨f3, h3⟩ := q1.2.2.2.2 F2 L2 R2 ⟨fun q k g1 g2 g3 => ha.1 q k g1 (by omega) g3, fun q k g1 g2 g3 => ha.2.1 q k g1 (by omega) g3, fun q k g1 g2 g3 g4 => ha.2.2 q k g1 (by omega) g3 (by omega)⟩ d hd _ _ (by rw [el]; exact h1)
  exact ⟨f3, by rw [List.append_assoc]; exact h3⟩
/-- what keeps a chain under way -/
theorem n_cw_fr {x a l : Nat} (q : n_cw FI FL FR lo hi x a l H code) (ha : (∀ q k, lo ≤ q → q < hi → q ≠ x → F2 q k = FI q k) ∧ (∀ q k, lo ≤ q → q < hi → q ≠ x → L2 q k = FL q k) ∧ (∀ q k, lo ≤ q → q < hi → q ≠ x → ¬ (q = l ∧ k = 6) → R2 q k = FR q k)) : n_cw F2 L2 R2 lo hi x a l H code :=
  ⟨q.1, q.2.1, q.2.2.1, q.2.2.2.1, fun F3 L3 R3 h3 d hd r f hr => q.2.2.2.2 F3 L3 R3 ⟨fun p k g1 g2 g3 => (h3.1 p k g1 g2 g3).trans (ha.1 p k g1 g2 g3), fun p k g1 g2 g3 => (h3.2.1 p k g1 g2 g3).trans (ha.2.1 p k g1 g2 g3), fun p k g1 g2 g3 g4 => (h3.2.2 p k g1 g2 g3 g4).trans (ha.2.2 p k g1 g2 g3 g4)⟩ d hd r f hr⟩
/-- the chain at its end -/
theorem n_is_cw {x a l : Nat} (q : n_cw FI FL FR lo hi x a l H code) (h1 : lo ≤ x) (h2 : x < hi) (hk : (FI x 0).toInt = 25) (h3 : FR x 3 = some a) (h6 : FR l 6 = none) : n_is FI FL FR lo hi x (H + 1) code := by
  refine ⟨q.1, h1, h2, fun F2 L2 R2 ha d hd => ?_⟩
  obtain ⟨a0, a1, a3, -⟩ := n_ag_c q.1 h1 h2 ha
  have hl : R2 l 6 = none := (ha.2.2 l 6 q.2.1 q.2.2.1 (by have := q.1; have := q.2.1; omega) (by intro h; exact q.2.2.2.1 h.1)).trans h6
  have hq := q.1
  obtain ⟨f, hf⟩ := q.2.2.2.2 F2 L2 R2 ⟨fun p k g1 g2 g3 => ha.1 p k g1 g2 (by omega) (by omega), fun p k g1 g2 g3 => ha.2.1 p k g1 g2 (by omega), fun p k g1 g2 g3 g4 => ha.2.2 p k g1 g2 (by omega) (by omega)⟩ d (by omega) [] 1 (by rw [hl]; rfl)
  have hr : n_rg (FI x 0).toInt (FL x 1).toInt = true := by unfold n_rg; rw [hk]; simp
  refine ⟨f + 1, ?_⟩
  show n_st F2 L2 R2 _ 0 x d = some _
  unfold n_st
  rw [a0, a1, a3, h3, if_neg (by rw [hr]; simp; omega), if_pos rfl, if_neg (by omega), if_neg (by omega), if_neg (by omega), if_neg (by omega), if_neg (by omega), if_pos hk, if_neg (by omega), hf, List.append_nil]
end NI
end
