/-! words, numbers, the whole text. -/
theorem t_al_m1 : t_al (-1) = false := by decide
theorem t_dg_m1 : t_dg (-1) = false := by decide
section TL
variable {X : Nat → Int} {N : Nat} {K7 : Int32 → Nat → Nat → (Nat → Nat × Nat) → (Nat → Nat → Int32) → (Nat → Nat → Int64) → (Nat → Nat → Option Nat) → Unit → hS → Prop}
theorem t_rn_s {p : Int → Bool} {f j : Nat} (h : p (t_sg X N j) = true) : t_rn p X N (f + 1) j = t_rn p X N f (j + 1) := by rw [t_rn, if_pos h]
theorem t_rn_e {p : Int → Bool} {f j : Nat} (h : p (t_sg X N j) = false) : t_rn p X N (f + 1) j = j := by rw [t_rn, if_neg (by rw [h]; simp)]
theorem t_53 {i : Nat} : ∀ (g : Nat) (l1 l3 : Int32) (l4 : Int64) (n sl : Nat) (SH : Nat → Nat × Nat) (FI : Nat → Nat → Int32) (FL : Nat → Nat → Int64) (FR : Nat → Nat → Option Nat) (v : Unit) (s : hS) (f j : Nat), GX12_tokens_53 K7 g l1 l3 l4 n sl SH FI FL FR v s → x_vw FI X N → l1.toInt = j → l3.toInt = i → i ≤ j → j ≤ N → N - j < f → (∀ q, i ≤ q → q < j → t_al (t_sg X N q) = true) → l4.toInt = t_wv X N i (min (j - i) 8) → ∃ l' n2 sl2 SH2 FI2 FL2 FR2, K7 l' n2 sl2 SH2 FI2 FL2 FR2 v s ∧ l'.toInt = t_rn t_al X N f j ∧ t_ap (n, sl, SH, FI, FL, FR) (n2, sl2, SH2, FI2, FL2, FR2) (if t_rn t_al X N f j - i > 8 then (6, 0, i) else if t_wd (t_wv X N i (t_rn t_al X N f j - i)) = -1 then (1, t_wv X N i (t_rn t_al X N f j - i), i) else (2, t_wd (t_wv X N i (t_rn t_al X N f j - i)), i)) := by
  intro g
  induction g with
  | zero => intro l1 l3 l4 n sl SH FI FL FR v s f j h; exact h.elim
  | succ g ih =>
    intro l1 l3 l4 n sl SH FI FL FR v s f j h hx h1 h3 hij hjN hf hal h4
    have hN := hx.2.1
    have hsg := x_sign (SH := SH) (FL := FL) (FR := FR) hx h1
    have hrg := t_sg_rg hx j
    have hsm := x_small (SH := SH) (FI := FI) (FL := FL) (FR := FR) hsg
    have hdg := x_digit (SH := SH) (FI := FI) (FL := FL) (FR := FR) hsg
    have hd := i_sub h1 h3 (by omega) (by omega)
    have c8 : ((8 : Int32)).toInt = 8 := by decide
    cases f with
    | zero => omega
    | succ f =>
      have next : t_al (t_sg X N j) = true → RX12_tokens_77 K7 (GX12_tokens_53 K7 g) l1 l3 l4 n sl SH FI FL FR v s → ∃ l' n2 sl2 SH2 FI2 FL2 FR2, K7 l' n2 sl2 SH2 FI2 FL2 FR2 v s ∧ l'.toInt = t_rn t_al X N (f + 1) j ∧ t_ap (n, sl, SH, FI, FL, FR) (n2, sl2, SH2, FI2, FL2, FR2) (if t_rn t_al X N (f + 1) j - i > 8 then (6, 0, i) else if t_wd (t_wv X N i (t_rn t_al X N (f + 1) j - i)) = -1 then (1, t_wv X N i (t_rn t_al X N (f + 1) j - i), i) else (2, t_wd (t_wv X N i (t_rn t_al X N (f + 1) j - i)), i)) := by
        intro ha h
        rw [t_rn_s ha]
        have hjl : j < N := by
          rcases Nat.lt_or_ge j N with h2 | h2
          · exact h2
          · rw [t_sg_N h2, t_al_m1] at ha
            cases ha
        have hl1 : (l1 + 1).toInt = ((j + 1 : Nat) : Int) := by
          rw [i_add h1 (by decide : ((1 : Int32)).toInt = 1) (by omega) (by omega)]; omega
        have hal' : ∀ q, i ≤ q → q < j + 1 → t_al (t_sg X N q) = true := by
          intro q h2 h3
          by_cases e : q = j
          · subst e; exact ha
          · exact hal q h2 (by omega)
        rcases h with ⟨h5, h⟩ | ⟨h5, h⟩
        · rw [hd, c8] at h5
          have e1 : min (j - i) 8 = j - i := by omega
          have e2 : min (j + 1 - i) 8 = (j - i) + 1 := by omega
          have rg := t_wv_rg (X := X) (N := N) (i := i) (j - i) (fun q h2 h3 => hal q h2 (by omega)) (by omega)
          have pw := p37_8 (j - i) (by omega)
          have cdr := t_cd_rg ha
          rw [e1] at h4
          have hm := l_mul (by decide : ((37 : Int64)).toInt = 37) h4 (by omega) (by omega)
          rcases h with ⟨h6, h⟩ | ⟨h6, h⟩
          · have hns := hsm.mp h6
            have hcd : t_cd (t_sg X N j) = t_sg X N j - 21 := by unfold t_cd; rw [if_neg (by rw [hns]; simp)]
            have hc := i_sub hsg (by decide : ((21 : Int32)).toInt = 21) (by omega) (by omega)
            have hs := l_add hm (i_2l hc) (by omega) (by omega)
            refine ih (l1 + 1) l3 _ n sl SH FI FL FR v s f (j + 1) h hx hl1 h3 (by omega) (by omega) (by omega) hal' ?_
            rw [e2, t_wv, show i + (j - i) = j by omega, hcd]
            exact hs
          · have hns : t_sm (t_sg X N j) = true := by
              cases e : t_sm (t_sg X N j) with
              | true => rfl
              | false => exact absurd (hsm.mpr e) h6
            have hcd : t_cd (t_sg X N j) = t_sg X N j - 96 := by unfold t_cd; rw [if_pos hns]
            have hc := i_sub hsg (by decide : ((96 : Int32)).toInt = 96) (by omega) (by omega)
            have hs := l_add hm (i_2l hc) (by omega) (by omega)
            refine ih (l1 + 1) l3 _ n sl SH FI FL FR v s f (j + 1) h hx hl1 h3 (by omega) (by omega) (by omega) hal' ?_
            rw [e2, t_wv, show i + (j - i) = j by omega, hcd]
            exact hs
        · rw [hd, c8] at h5
          refine ih (l1 + 1) l3 _ n sl SH FI FL FR v s f (j + 1) h hx hl1 h3 (by omega) (by omega) (by omega) hal' ?_
          rw [show min (j + 1 - i) 8 = min (j - i) 8 by omega]
          exact h4
      rcases h with ⟨h5, h⟩ | ⟨h5, h⟩
      · have n5 := hsm.mp h5
        rcases h with ⟨h6, h⟩ | ⟨h6, h⟩
        · have n6 := hdg.mp h6
          have na : t_al (t_sg X N j) = false := by unfold t_al; rw [n5, n6]; rfl
          rw [t_rn_e na]
          rcases h with ⟨h7, h⟩ | ⟨h7, h⟩
          · rw [hd, c8] at h7
            obtain ⟨v7, n7, sl7, SH7, FI7, FL7, FR7, hc, h⟩ := h
            rw [if_pos (by omega)]
            exact ⟨l1, n7, sl7, SH7, FI7, FL7, FR7, h, h1, t_token hc (by decide) (by decide) h3⟩
          · rw [hd, c8] at h7
            rw [if_neg (by omega)]
            rw [show min (j - i) 8 = j - i by omega] at h4
            have hwd := x_word (SH := SH) (FI := FI) (FL := FL) (FR := FR) h4
            have cm1 : ((-1 : Int32)).toInt = -1 := by decide
            rcases h with ⟨h8, h⟩ | ⟨h8, h⟩
            · rw [hwd, cm1] at h8
              obtain ⟨v7, n7, sl7, SH7, FI7, FL7, FR7, hc, h⟩ := h
              rw [if_pos h8]
              exact ⟨l1, n7, sl7, SH7, FI7, FL7, FR7, h, h1, t_token hc (by decide) h4 h3⟩
            · rw [hwd, cm1] at h8
              obtain ⟨v7, n7, sl7, SH7, FI7, FL7, FR7, hc, h⟩ := h
              rw [if_neg h8]
              exact ⟨l1, n7, sl7, SH7, FI7, FL7, FR7, h, h1, t_token hc (by decide) (i_2l hwd) h3⟩
        · have n6 : t_dg (t_sg X N j) = true := by
            cases e : t_dg (t_sg X N j) with
            | true => rfl
            | false => exact absurd (hdg.mpr e) h6
          exact next (by unfold t_al; rw [n6, Bool.or_true]) h
      · have n5 : t_sm (t_sg X N j) = true := by
          cases e : t_sm (t_sg X N j) with
          | true => rfl
          | false => exact absurd (hsm.mpr e) h5
        exact next (by unfold t_al; rw [n5, Bool.true_or]) h
theorem t_198 {i : Nat} : ∀ (g : Nat) (l1 l3 : Int32) (l4 : Int64) (n sl : Nat) (SH : Nat → Nat × Nat) (FI : Nat → Nat → Int32) (FL : Nat → Nat → Int64) (FR : Nat → Nat → Option Nat) (v : Unit) (s : hS) (f j : Nat), GX12_tokens_198 K7 g l1 l3 l4 n sl SH FI FL FR v s → x_vw FI X N → l1.toInt = j → l3.toInt = i → i ≤ j → j ≤ N → N - j < f → (∀ q, i ≤ q → q < j → t_dg (t_sg X N q) = true) → l4.toInt = t_nv X N i (min (j - i) 18) → ∃ l' n2 sl2 SH2 FI2 FL2 FR2, K7 l' n2 sl2 SH2 FI2 FL2 FR2 v s ∧ l'.toInt = t_rn t_dg X N f j ∧ t_ap (n, sl, SH, FI, FL, FR) (n2, sl2, SH2, FI2, FL2, FR2) (if t_rn t_dg X N f j - i > 18 then 6 else if t_lt (t_sg X N (t_rn t_dg X N f j)) = true then 6 else 3, t_nv X N i (min (t_rn t_dg X N f j - i) 18), i) := by
  intro g
  induction g with
  | zero => intro l1 l3 l4 n sl SH FI FL FR v s f j h; exact h.elim
  | succ g ih =>
    intro l1 l3 l4 n sl SH FI FL FR v s f j h hx h1 h3 hij hjN hf hal h4
    have hN := hx.2.1
    have hsg := x_sign (SH := SH) (FL := FL) (FR := FR) hx h1
    have hrg := t_sg_rg hx j
    have hdg := x_digit (SH := SH) (FI := FI) (FL := FL) (FR := FR) hsg
    have hlt := x_letter (SH := SH) (FI := FI) (FL := FL) (FR := FR) hsg
    have hd := i_sub h1 h3 (by omega) (by omega)
    have c18 : ((18 : Int32)).toInt = 18 := by decide
    cases f with
    | zero => omega
    | succ f =>
      rcases h with ⟨h5, h⟩ | ⟨h5, h⟩
      · have na := hdg.mp h5
        rw [t_rn_e na]
        rcases h with ⟨h6, h⟩ | ⟨h6, h⟩
        · rw [hd, c18] at h6
          obtain ⟨v7, n7, sl7, SH7, FI7, FL7, FR7, hc, h⟩ := h
          rw [if_pos (by omega)]
          exact ⟨l1, n7, sl7, SH7, FI7, FL7, FR7, h, h1, t_token hc (by decide) h4 h3⟩
        · rw [hd, c18] at h6
          rw [if_neg (by omega)]
          rcases h with ⟨h7, h⟩ | ⟨h7, h⟩
          · have m7 := hlt.mp h7
            obtain ⟨v7, n7, sl7, SH7, FI7, FL7, FR7, hc, h⟩ := h
            rw [if_neg (by rw [m7]; simp)]
            exact ⟨l1, n7, sl7, SH7, FI7, FL7, FR7, h, h1, t_token hc (by decide) h4 h3⟩
          · have n7 : t_lt (t_sg X N j) = true := by
              cases e : t_lt (t_sg X N j) with
              | true => rfl
              | false => exact absurd (hlt.mpr e) h7
            obtain ⟨v7, n7, sl7, SH7, FI7, FL7, FR7, hc, h⟩ := h
            rw [if_pos (by assumption)]
            exact ⟨l1, n7, sl7, SH7, FI7, FL7, FR7, h, h1, t_token hc (by decide) h4 h3⟩
      · have ha : t_dg (t_sg X N j) = true := by
          cases e : t_dg (t_sg X N j) with
          | true => rfl
          | false => exact absurd (hdg.mpr e) h5
        rw [t_rn_s ha]
        have hjl : j < N := by
          rcases Nat.lt_or_ge j N with h2 | h2
          · exact h2
          · rw [t_sg_N h2, t_dg_m1] at ha
            cases ha
        have hl1 : (l1 + 1).toInt = ((j + 1 : Nat) : Int) := by
          rw [i_add h1 (by decide : ((1 : Int32)).toInt = 1) (by omega) (by omega)]; omega
        have hal' : ∀ q, i ≤ q → q < j + 1 → t_dg (t_sg X N q) = true := by
          intro q h2 h3
          by_cases e : q = j
          · subst e; exact ha
          · exact hal q h2 (by omega)
        rcases h with ⟨h6, h⟩ | ⟨h6, h⟩
        · rw [hd, c18] at h6
          have e2 : min (j + 1 - i) 18 = (j - i) + 1 := by omega
          rw [show min (j - i) 18 = j - i by omega] at h4
          have rg := t_nv_rg (X := X) (N := N) (i := i) (j - i) (fun q h2 h3 => hal q h2 (by omega)) (by omega)
          have pw := p10_18 (j - i) (by omega)
          have pw2 : (10 : Int) ^ (j - i) ≤ 100000000000000000 := by
            have : ∀ m : Nat, m ≤ 17 → (10 : Int) ^ m ≤ 100000000000000000 := by decide
            exact this _ (by omega)
          have hm := l_mul (by decide : ((10 : Int64)).toInt = 10) h4 (by omega) (by omega)
          have hs := l_sub (l_add hm (i_2l hsg) (by omega) (by omega)) (by decide : ((48 : Int64)).toInt = 48) (by omega) (by omega)
          refine ih (l1 + 1) l3 _ n sl SH FI FL FR v s f (j + 1) h hx hl1 h3 (by omega) (by omega) (by omega) hal' ?_
          rw [e2, t_nv, show i + (j - i) = j by omega]
          exact hs
        · rw [hd, c18] at h6
          refine ih (l1 + 1) l3 _ n sl SH FI FL FR v s f (j + 1) h hx hl1 h3 (by omega) (by omega) (by omega) hal' ?_
          rw [show min (j + 1 - i) 18 = min (j - i) 18 by omega]
          exact h4
theorem t_sg_lt {i : Nat} (h : t_sg X N i ≠ -1) : i < N := by
  rcases Nat.lt_or_ge i N with h2 | h2
  · exact h2
  · exact absurd (t_sg_N h2) h
theorem t_s2_n {c n m : Int} (h : t_s2 c n m ≠ -1) : n ≠ -1 ∧ (t_s2 c n m = 263 → m ≠ -1) := by
  unfold t_s2 at *
  repeat' split at h
  all_goals first | (exact absurd rfl h) | (refine ⟨by omega, fun e => ?_⟩; simp_all)
theorem t_tk_e {i : Nat} (hi : i < N) (hN : N ≤ 1000) : i < (t_tk X N i).2.2 ∧ (t_tk X N i).2.2 ≤ N := by
  unfold t_tk
  have key : ∀ (p : Int → Bool), p (-1) = false → p (t_sg X N i) = true → i < t_rn p X N 1001 i ∧ t_rn p X N 1001 i ≤ N := by
    intro p hp h
    refine ⟨?_, t_rn_le hp 1001 i (by omega)⟩
    rw [show (1001 : Nat) = 1000 + 1 from rfl, t_rn_s h]
    have := t_rn_ge (p := p) (X := X) (N := N) 1000 (i + 1)
    omega
  split
  · rename_i h
    have k := key t_al t_al_m1 (by unfold t_al; rw [h, Bool.true_or])
    split
    · exact k
    · split <;> exact k
  · split
    · rename_i h
      exact key t_dg t_dg_m1 h
    · split
      · split
        · rename_i h1 h2
          have := t_sg_lt (X := X) (N := N) (i := i + 1) (by omega)
          exact ⟨by show i < i + 2; omega, by show i + 2 ≤ N; omega⟩
        · exact ⟨by show i < i + 1; omega, by show i + 1 ≤ N; omega⟩
      · dsimp only
        unfold t_sn
        split
        · rename_i h2
          have q := t_s2_n h2
          have h3 := t_sg_lt (X := X) (N := N) (i := i + 1) q.1
          dsimp only
          split
          · rename_i h4
            have := t_sg_lt (X := X) (N := N) (i := i + 2) (q.2 h4)
            omega
          · omega
        · split
          · dsimp only; omega
          · dsimp only; omega
theorem t_7 {F0 : Nat → Nat → Int32} {L0 : Nat → Nat → Int64} : ∀ (g : Nat) (l1 : Int32) (n sl : Nat) (SH : Nat → Nat × Nat) (FI : Nat → Nat → Int32) (FL : Nat → Nat → Int64) (FR : Nat → Nat → Option Nat) (v : Unit) (s : hS) (f i : Nat) (L : List (Int × Int × Nat)), GX12_tokens_7 g l1 n sl SH FI FL FR v s → x_vw FI X N → l1.toInt = i → i ≤ N → N - i < f → L.length ≤ i → t_vw F0 L0 FI FL L → t_vw F0 L0 s.2.2.2.1 s.2.2.2.2.1 (L ++ t_tl X N f i) := by
  intro g
  induction g with
  | zero => intro l1 n sl SH FI FL FR v s f i L h; exact h.elim
  | succ g ih =>
    intro l1 n sl SH FI FL FR v s f i L h hx h1 hiN hf hL hv
    have hN := hx.2.1
    have hsg := x_sign (SH := SH) (FL := FL) (FR := FR) hx h1
    have hrg := t_sg_rg hx i
    have hsm := x_small (SH := SH) (FI := FI) (FL := FL) (FR := FR) hsg
    have hdg := x_digit (SH := SH) (FI := FI) (FL := FL) (FR := FR) hsg
    have c32 : ((32 : Int32)).toInt = 32 := by decide
    have c10 : ((10 : Int32)).toInt = 10 := by decide
    have c64 : ((64 : Int32)).toInt = 64 := by decide
    have c49 : ((49 : Int32)).toInt = 49 := by decide
    have c56 : ((56 : Int32)).toInt = 56 := by decide
    have hl1 : (l1 + (1 : Int32)).toInt = ((i + 1 : Nat) : Int) := by
      rw [i_add h1 (by decide : ((1 : Int32)).toInt = 1) (by omega) (by omega)]; omega
    have hl2 : (l1 + (2 : Int32)).toInt = ((i + 2 : Nat) : Int) := by
      rw [i_add h1 (by decide : ((2 : Int32)).toInt = 2) (by omega) (by omega)]; omega
    cases f with
    | zero => omega
    | succ f =>
      rw [t_tl]
      rcases h with ⟨h2, h⟩ | ⟨h2, h⟩
      · rw [h1, hx.1] at h2
        have hiL : i < N := by omega
        rw [if_pos hiL]
        have tke := t_tk_e (X := X) hiL hN
        -- a token is told: on behind it
        have tok : ∀ (l' : Int32) (n2 sl2 : Nat) (SH2 : Nat → Nat × Nat) (FI2 : Nat → Nat → Int32) (FL2 : Nat → Nat → Int64) (FR2 : Nat → Nat → Option Nat), GX12_tokens_7 g l' n2 sl2 SH2 FI2 FL2 FR2 v s → l'.toInt = (t_tk X N i).2.2 → t_ap (n, sl, SH, FI, FL, FR) (n2, sl2, SH2, FI2, FL2, FR2) ((t_tk X N i).1, (t_tk X N i).2.1, i) → t_vw F0 L0 s.2.2.2.1 s.2.2.2.2.1 (L ++ ((t_tk X N i).1, (t_tk X N i).2.1, i) :: t_tl X N f (t_tk X N i).2.2) := by
          intro l' n2 sl2 SH2 FI2 FL2 FR2 h hl ha
          have hv2 := ha.2 F0 L0 L (by omega) hv
          have k13 : FI2 121 13 = FI 121 13 := kq_fld ha.1 (by decide)
          have k126 : FI2 126 = FI 126 := kq_cell ha.1 (by decide)
          have q := ih l' n2 sl2 SH2 FI2 FL2 FR2 v s f (t_tk X N i).2.2 (L ++ [((t_tk X N i).1, (t_tk X N i).2.1, i)]) h ⟨by rw [k13]; exact hx.1, hx.2.1, by rw [k126]; exact hx.2.2⟩ hl tke.2 (by omega) (by rw [List.length_append]; simp; omega) hv2
          rw [List.append_assoc] at q
          exact q
        have blank : t_bl (t_sg X N i) = true → RX12_tokens_35 (GX12_tokens_7 g) l1 n sl SH FI FL FR v s → t_vw F0 L0 s.2.2.2.1 s.2.2.2.2.1 (L ++ t_tl X N f (i + 1)) := by
          intro _ h
          exact ih (l1 + 1) n sl SH FI FL FR v s f (i + 1) L h hx hl1 (by omega) (by omega) (by omega) hv
        rcases h with ⟨h3, h⟩ | ⟨h3, h⟩
        · rw [hsg, c32] at h3
          have hb : t_bl (t_sg X N i) = true := by unfold t_bl; exact decide_eq_true (Or.inl h3)
          rw [if_pos hb]
          exact blank hb h
        · rw [hsg, c32] at h3
          rcases h with ⟨h4, h⟩ | ⟨h4, h⟩
          · rw [hsg, c10] at h4
            have hb : t_bl (t_sg X N i) = true := by unfold t_bl; exact decide_eq_true (Or.inr h4)
            rw [if_pos hb]
            exact blank hb h
          · rw [hsg, c10] at h4
            rw [if_neg (by unfold t_bl; rw [decide_eq_true_eq]; omega)]
            rcases h with ⟨h5, h⟩ | ⟨h5, h⟩
            · have n5 := hsm.mp h5
              rcases h with ⟨h6, h⟩ | ⟨h6, h⟩
              · have n6 := hdg.mp h6
                rcases h with ⟨h7, h⟩ | ⟨h7, h⟩
                · rw [hsg, c64] at h7
                  have e1 := x_sign (SH := SH) (FL := FL) (FR := FR) hx hl1
                  have r1 := t_sg_rg hx (i + 1)
                  have hw := i_2l (i_sub e1 (by decide : ((48 : Int32)).toInt = 48) (by omega) (by omega))
                  have no : ¬ (49 ≤ t_sg X N (i + 1) ∧ t_sg X N (i + 1) ≤ 56) → RX12_tokens_313 (GX12_tokens_7 g) l1 l1 (fX12_sign (l1 + (1 : Int32)) SH FI FL FR) n sl SH FI FL FR v s → t_vw F0 L0 s.2.2.2.1 s.2.2.2.2.1 (L ++ ((t_tk X N i).1, (t_tk X N i).2.1, i) :: t_tl X N f (t_tk X N i).2.2) := by
                    intro hno h
                    have e : t_tk X N i = (6, t_sg X N (i + 1) - 48, i + 1) := by
                      unfold t_tk
                      rw [if_neg (by rw [n5]; simp), if_neg (by rw [n6]; simp), if_pos h7, if_neg hno]
                    rcases h with ⟨h8, h⟩ | ⟨h8, h⟩
                    · obtain ⟨v0, n0, sl0, SH0, FI0, FL0, FR0, hc, h⟩ := h
                      rcases h with ⟨h9, h⟩ | ⟨h9, h⟩
                      · exact tok _ n0 sl0 SH0 FI0 FL0 FR0 h (by rw [e]; exact hl1) (by rw [e]; exact t_token hc rfl hw h1)
                      · exact absurd (show ((0 : Int32)).toInt = 0 by decide) h9
                    · exact absurd (show ((0 : Int32)).toInt = 0 by decide) h8
                  rcases h with ⟨h8, h⟩ | ⟨h8, h⟩
                  · rw [e1, c49] at h8
                    exact no (by omega) h
                  · rw [e1, c49] at h8
                    rcases h with ⟨h9, h⟩ | ⟨h9, h⟩
                    · rw [e1, c56] at h9
                      exact no (by omega) h
                    · rw [e1, c56] at h9
                      have e : t_tk X N i = (4, t_sg X N (i + 1) - 48, i + 2) := by
                        unfold t_tk
                        rw [if_neg (by rw [n5]; simp), if_neg (by rw [n6]; simp), if_pos h7, if_pos (by omega)]
                      rcases h with ⟨h10, h⟩ | ⟨h10, h⟩
                      · exact absurd h10 (by decide)
                      · obtain ⟨v0, n0, sl0, SH0, FI0, FL0, FR0, hc, h⟩ := h
                        rcases h with ⟨h11, h⟩ | ⟨h11, h⟩
                        · exact absurd h11 (by decide)
                        · exact tok _ n0 sl0 SH0 FI0 FL0 FR0 h (by rw [e]; exact hl2) (by rw [e]; exact t_token hc rfl hw h1)
                · rw [hsg, c64] at h7
                  obtain ⟨r, n0, sl0, SH0, FI0, FL0, FR0, hc, h⟩ := h
                  obtain ⟨q1, q2⟩ := sg_signs hc hx h1 hiL hsg
                  have e : t_tk X N i = ((t_sn (t_sg X N i) (t_sg X N (i + 1)) (t_sg X N (i + 2))).1, (t_sn (t_sg X N i) (t_sg X N (i + 1)) (t_sg X N (i + 2))).2.1, i + (t_sn (t_sg X N i) (t_sg X N (i + 1)) (t_sg X N (i + 2))).2.2) := by
                    unfold t_tk
                    rw [if_neg (by rw [n5]; simp), if_neg (by rw [n6]; simp), if_neg h7]
                  have te := tke.2
                  rw [e] at te
                  dsimp only at te
                  refine tok _ n0 sl0 SH0 FI0 FL0 FR0 h ?_ (by rw [e]; exact q1)
                  rw [e, i_add h1 q2 (by omega) (by omega)]
                  dsimp only
                  omega
              · have n6 : t_dg (t_sg X N i) = true := by
                  cases e : t_dg (t_sg X N i) with
                  | true => rfl
                  | false => exact absurd (hdg.mpr e) h6
                obtain ⟨g2, h⟩ := h
                obtain ⟨l', n2, sl2, SH2, FI2, FL2, FR2, q1, q2, q3⟩ := t_198 (K7 := GX12_tokens_7 g) (X := X) (N := N) (i := i) g2 l1 l1 0 n sl SH FI FL FR v s 1001 i h hx h1 h1 (by omega) hiN (by omega) (fun q a b => by omega) (by rw [Nat.sub_self]; rfl)
                have e : t_tk X N i = (if t_rn t_dg X N 1001 i - i > 18 then 6 else if t_lt (t_sg X N (t_rn t_dg X N 1001 i)) = true then 6 else 3, t_nv X N i (min (t_rn t_dg X N 1001 i - i) 18), t_rn t_dg X N 1001 i) := by
                  unfold t_tk
                  rw [if_neg (by rw [n5]; simp), if_pos n6]
                exact tok l' n2 sl2 SH2 FI2 FL2 FR2 q1 (by rw [e]; exact q2) (by rw [e]; exact q3)
            · have n5 : t_sm (t_sg X N i) = true := by
                cases e : t_sm (t_sg X N i) with
                | true => rfl
                | false => exact absurd (hsm.mpr e) h5
              obtain ⟨g2, h⟩ := h
              obtain ⟨l', n2, sl2, SH2, FI2, FL2, FR2, q1, q2, q3⟩ := t_53 (K7 := GX12_tokens_7 g) (X := X) (N := N) (i := i) g2 l1 l1 0 n sl SH FI FL FR v s 1001 i h hx h1 h1 (by omega) hiN (by omega) (fun q a b => by omega) (by rw [Nat.sub_self]; rfl)
              have e : t_tk X N i = (if t_rn t_al X N 1001 i - i > 8 then (6, 0, t_rn t_al X N 1001 i) else if t_wd (t_wv X N i (t_rn t_al X N 1001 i - i)) = -1 then (1, t_wv X N i (t_rn t_al X N 1001 i - i), t_rn t_al X N 1001 i) else (2, t_wd (t_wv X N i (t_rn t_al X N 1001 i - i)), t_rn t_al X N 1001 i)) := by
                unfold t_tk
                rw [if_pos n5]
              refine tok l' n2 sl2 SH2 FI2 FL2 FR2 q1 ?_ ?_
              · rw [q2, e]
                split
                · rfl
                · split <;> rfl
              · have e2 : ((t_tk X N i).1, (t_tk X N i).2.1, i) = (if t_rn t_al X N 1001 i - i > 8 then (6, 0, i) else if t_wd (t_wv X N i (t_rn t_al X N 1001 i - i)) = -1 then (1, t_wv X N i (t_rn t_al X N 1001 i - i), i) else (2, t_wd (t_wv X N i (t_rn t_al X N 1001 i - i)), i)) := by
                  rw [e]
                  split
                  · rfl
                  · split <;> rfl
                rw [e2]
                exact q3
      · rw [h1, hx.1] at h2
        have hie : i = N := by omega
        rw [if_neg (by omega)]
        obtain ⟨v0, n0, sl0, SH0, FI0, FL0, FR0, hc, -, rfl⟩ := h
        exact (t_token (K := 0) (W := 0) (q := N) hc (by decide) (by decide) hx.1).2 F0 L0 L (by omega) hv
end TL
