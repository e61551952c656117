/-! THE CLASS'S COMPILE. -/
section CM
variable {K W : Nat → Int} {M : Nat} {X : Nat → Int} {N : Nat} {P : Nat → Nat}
def l_tx (K W : Nat → Int) (M t : Nat) (V : List lp_V) (r : Option (List lp_V)) : Prop := ∃ F0, ∀ f g, F0 ≤ f → M + 1 ≤ g + t → lp_tx K W f g t V = r
theorem l_tx_0 {t : Nat} {V : List lp_V} (ht : t ≤ M) (h : K t = 0) : l_tx K W M t V (some V) := by
  refine ⟨0, fun f g _ hg => ?_⟩
  cases g with
  | zero => omega
  | succ g => rw [lp_tx_st, if_pos h]
theorem l_tx_n {t : Nat} {V : List lp_V} (ht : t ≤ M) (h : K t ≠ 0) (hs : l_st K W t V none) : l_tx K W M t V none := by
  obtain ⟨a, hs⟩ := hs
  refine ⟨a, fun f g hf hg => ?_⟩
  cases g with
  | zero => omega
  | succ g => rw [lp_tx_st, if_neg h, hs f hf]
theorem l_tx_s {t t2 : Nat} {V V2 : List lp_V} {r : Option (List lp_V)} (ht : t ≤ M) (h : K t ≠ 0) (hs : l_st K W t V (some (t2, V2))) (ht2 : t < t2) (hr : l_tx K W M t2 V2 r) : l_tx K W M t V r := by
  obtain ⟨a, hs⟩ := hs
  obtain ⟨b, hr⟩ := hr
  refine ⟨a + b, fun f g hf hg => ?_⟩
  cases g with
  | zero => omega
  | succ g =>
    rw [lp_tx_st, if_neg h, hs f (by omega)]
    exact hr f g (by omega) (by omega)
theorem s_goes {n sl : Nat} {SH : Nat → Nat × Nat} {FI : Nat → Nat → Int32} {FL : Nat → Nat → Int64} {FR : Nat → Nat → Option Nat} : (fX4_goesOn SH FI FL FR).toInt = 0 ↔ ((FI 110 5).toInt ≠ 0 ∨ (FI 110 8).toInt = 2) := by
  unfold fX4_goesOn
  have z2 : ((2 : Int32)).toInt = 2 := by decide
  have z1 : ((1 : Int32)).toInt = 1 := by decide
  have z0 : ((0 : Int32)).toInt = 0 := by decide
  rw [z2]
  by_cases h1 : (FI 110 5).toInt = 0
  · rw [if_pos h1]
    by_cases h2 : (FI 110 8).toInt = 2
    · rw [if_pos h2, z0]; omega
    · rw [if_neg h2, z1]; omega
  · rw [if_neg h1, z0]; omega
theorem s_goes' {SH : Nat → Nat × Nat} {FI : Nat → Nat → Int32} {FL : Nat → Nat → Int64} {FR : Nat → Nat → Option Nat} : (fX4_goesOn SH FI FL FR).toInt = 0 ↔ ((FI 110 5).toInt ≠ 0 ∨ (FI 110 8).toInt = 2) := s_goes (n := 0) (sl := 0)
/-- the declarations, one by one -/
theorem s_text {lo vc : Nat} {l1 : Int32} (hP : tk_P K W P) (hlo : 176 ≤ lo) (hvc : lo ≤ vc) (hl1 : l1.toInt = N) (hMN : M ≤ N) (hN : N ≤ 1000) : ∀ (g : Nat) (l2 : Int32) (n sl : Nat) (SH : Nat → Nat × Nat) (FI : Nat → Nat → Int32) (FL : Nat → Nat → Int64) (FR : Nat → Nat → Option Nat) (v : Int32) (s : hS) (t i : Nat) (V : List lp_V), GX11_compile_24 g l1 l2 n sl SH FI FL FR v s → h_S n SH → q_tk K W M FI FL → q_nm K W M X N FI FR → s_vw M FI FL t 0 → d_st FI FL FR SH n vc V → l2.toInt = i → i ≤ t → (lp_fl V).length ≤ 4 * P t → ∃ n2 sl2 SH2 F2 L2 R2, RX11_compile_52 n2 sl2 SH2 F2 L2 R2 v s ∧ n ≤ n2 ∧ b_cd lo SH FI FL FR n2 SH2 F2 L2 R2 ∧ ((∃ V2, l_tx K W M t V (some V2) ∧ (F2 110 5).toInt = 0 ∧ d_st F2 L2 R2 SH2 n2 vc V2 ∧ ∃ t', t' ≤ M ∧ (lp_fl V2).length ≤ 4 * P t') ∨ (l_tx K W M t V none ∧ s_ft F2)) := by
  intro g
  induction g with
  | zero => intro l2 n sl SH FI FL FR v s t i V h; exact h.elim
  | succ g ih =>
    intro l2 n sl SH FI FL FR v s t i V h hQ hq hm hv hd hl2 hi hz
    have htM := hv.2.2.1
    have hvn := hd.2.2.1
    have brf : b_cd lo SH FI FL FR n SH FI FL FR := ⟨by omega, hQ, fun _ _ _ _ _ => rfl, fun _ _ _ _ => rfl, fun _ _ _ => rfl, fun _ _ => rfl⟩
    rcases h with ⟨h1, h⟩ | ⟨-, h⟩
    · exfalso; omega
    · rcases h with ⟨h2, h⟩ | ⟨h2, h⟩
      · rw [s_goes'] at h2
        have hk : (FI 110 8).toInt = 2 := h2.resolve_left (fun hh => hh hv.1)
        have hK : K t = 0 := by
          rcases s_kd hq hv with ⟨-, kd, k0, kr, -⟩ | ⟨e, -, -⟩
          · have ce := ck_e kr
            exfalso; omega
          · subst e
            have h112 : (FI 112 t).toInt = 2 := by rw [← hv.2.2.2.1]; exact hk
            rcases hq.2.2 with y | ⟨-, y | y⟩
            · exact y.1
            · omega
            · omega
        exact ⟨_, _, _, _, _, _, h, Nat.le_refl _, brf, Or.inl ⟨V, l_tx_0 htM hK, hv.1, hd, t, htM, hz⟩⟩
      · rw [s_goes'] at h2
        have hk : (FI 110 8).toInt ≠ 2 := fun hh => h2 (Or.inr hh)
        have hK : K t ≠ 0 := by
          rcases s_kd hq hv with ⟨-, -, k0, -⟩ | ⟨e, -, -⟩
          · exact k0
          · subst e
            have h112 : (FI 112 t).toInt ≠ 2 := by rw [← hv.2.2.2.1]; exact hk
            rcases hq.2.2 with y | ⟨y, -⟩
            · exact absurd y.2.1 h112
            · omega
        obtain ⟨v3, n3, sl3, SH3, FI3, FL3, FR3, hr, h⟩ := h
        obtain ⟨n4, sl4, SH4, F4, L4, R4, e, nn, bd, res⟩ := s_decl hlo hvc hQ hq hm hv hd hr
        cases e
        rcases res with ⟨t2, V2, ls, ht2, w2, d2⟩ | ⟨ls, ft⟩
        · have hq3 : q_tk K W M FI3 FL3 := q_fr hq ⟨by funext k; exact bd.2.2.1 112 k (by omega) (by omega) (by omega), bd.2.2.1 111 4 (by omega) (by omega) (by omega), by funext k; exact bd.2.2.2.1 113 k (by omega) (by omega)⟩
          have hm3 : q_nm K W M X N FI3 FR3 := nm_fr2 hm (by funext k; exact bd.2.2.1 19 k (by omega) (by omega) (by omega)) (by funext k; exact bd.2.2.1 114 k (by omega) (by omega) (by omega)) (by funext k; exact bd.2.2.1 115 k (by omega) (by omega) (by omega)) (bd.2.2.2.2.1 111 5 (by omega))
          have hz2 : (lp_fl V2).length ≤ 4 * P t2 := by
            obtain ⟨a, ls⟩ := ls
            have := (lp_st_P hP (ls a (Nat.le_refl _))).2
            omega
          obtain ⟨n5, sl5, SH5, F5, L5, R5, h5, nn5, bd5, res⟩ := ih _ n3 sl3 SH3 FI3 FL3 FR3 v s t2 (i + 1) V2 h bd.2.1 hq3 hm3 w2 d2 (by rw [i_add hl2 (by decide : ((1 : Int32)).toInt = 1) (by omega) (by omega)]; omega) (by omega) hz2
          refine ⟨_, _, _, _, _, _, h5, by omega, b_cd_t bd bd5, ?_⟩
          rcases res with ⟨V5, r1, r2⟩ | ⟨r1, r2⟩
          · exact Or.inl ⟨V5, l_tx_s htM hK ls ht2 r1, r2⟩
          · exact Or.inr ⟨l_tx_s htM hK ls ht2 r1, r2⟩
        · have h52 : RX11_compile_52 n3 sl3 SH3 FI3 FL3 FR3 v s := by
            cases g with
            | zero => exact h.elim
            | succ g =>
              rcases h with ⟨-, h⟩ | ⟨-, h⟩
              · exact h
              · rcases h with ⟨-, h⟩ | ⟨hg, -⟩
                · exact h
                · exfalso
                  exact hg (s_goes'.mpr (Or.inl ft.1))
          exact ⟨_, _, _, _, _, _, h52, nn, bd, Or.inr ⟨l_tx_n htM hK ls, ft⟩⟩
end CM
/-- a variable that is coded -/
def d_cd (F : Nat → Nat → Int32) (R : Nat → Nat → Option Nat) (SH : Nat → Nat × Nat) (n x : Nat) (v : lp_V) : Prop := (F x 5).toInt = (v.2.2.1 : Int) ∧ (∃ nm, R x 0 = some nm ∧ 176 ≤ nm ∧ nm < n ∧ nm_ok F SH nm v.1) ∧ ∃ cc, R x 6 = some cc ∧ cc < n ∧ 176 ≤ cc ∧ (SH cc).2 = v.2.2.2.1.length ∧ v.2.2.2.1.length ≤ 600 ∧ ∀ k, k < v.2.2.2.1.length → (F cc k).toInt = v.2.2.2.1.getD k 0
/-- the variables that the class has -/
def v_cl (F : Nat → Nat → Int32) (R : Nat → Nat → Option Nat) (SH : Nat → Nat × Nat) (n : Nat) (V : List lp_V) : Prop := ∃ vc, R 0 11 = some vc ∧ vc < n ∧ (SH vc).2 = 12 ∧ (F 0 12).toInt = V.length ∧ V.length ≤ 12 ∧ ∀ (i : Nat) (v : lp_V), V[i]? = some v → ∃ x, R vc i = some x ∧ x < n ∧ d_cd F R SH n x v
/-- what the coder leaves alone, of the cells below lo -/
def b_ce (lo : Nat) (SH : Nat → Nat × Nat) (FI : Nat → Nat → Int32) (FL : Nat → Nat → Int64) (FR : Nat → Nat → Option Nat) (n2 : Nat) (SH2 : Nat → Nat × Nat) (F2 : Nat → Nat → Int32) (L2 : Nat → Nat → Int64) (R2 : Nat → Nat → Option Nat) : Prop := lo ≤ n2 ∧ h_S n2 SH2 ∧ (∀ c k, c < lo → c ≠ 119 → c ≠ 120 → F2 c k = FI c k) ∧ (∀ c k, c < lo → L2 c k = FL c k) ∧ (∀ c k, c < lo → R2 c k = FR c k) ∧ (∀ c, c < lo → SH2 c = SH c)
theorem b_ce_t {lo n1 n2 : Nat} {SH SH1 SH2 : Nat → Nat × Nat} {FI F1 F2 : Nat → Nat → Int32} {FL L1 L2 : Nat → Nat → Int64} {FR R1 R2 : Nat → Nat → Option Nat} (h : b_ce lo SH FI FL FR n1 SH1 F1 L1 R1) (h2 : b_ce lo SH1 F1 L1 R1 n2 SH2 F2 L2 R2) : b_ce lo SH FI FL FR n2 SH2 F2 L2 R2 :=
  ⟨h2.1, h2.2.1, fun c k g1 g2 g3 => (h2.2.2.1 c k g1 g2 g3).trans (h.2.2.1 c k g1 g2 g3), fun c k g1 => (h2.2.2.2.1 c k g1).trans (h.2.2.2.1 c k g1), fun c k g1 => (h2.2.2.2.2.1 c k g1).trans (h.2.2.2.2.1 c k g1), fun c g1 => (h2.2.2.2.2.2 c g1).trans (h.2.2.2.2.2 c g1)⟩
def v_ok (v : lp_V) : Prop := v.2.2.2.2 = false ∧ v.2.2.2.1.length ≤ 600
theorem v_is_r {F : Nat → Nat → Int32} {L : Nat → Nat → Int64} {R : Nat → Nat → Option Nat} {SH : Nat → Nat × Nat} {n x m : Nat} {C : List Int} {b : Bool} (h : v_is F L R SH n x m C b) : (F x 5).toInt = (m : Int) := by
  rcases h with ⟨y1, y2, -⟩ | ⟨Q, -, -, -, y4, -⟩
  · rw [y2, y1]; rfl
  · exact y4
theorem d_cd_fr {F F2 : Nat → Nat → Int32} {R R2 : Nat → Nat → Option Nat} {SH S2 : Nat → Nat × Nat} {n n2 x : Nat} {v : lp_V} (h : d_cd F R SH n x v) (hx : 176 ≤ x ∧ x < n) (h0 : ∀ q k, 119 ≠ q → 120 ≠ q → q < n → F2 q k = F q k) (h2 : ∀ k, R2 x k = R x k) (h3 : ∀ q, q < n → S2 q = SH q) (hn : n ≤ n2) : d_cd F2 R2 S2 n2 x v := by
  obtain ⟨y1, ⟨nm, z1, z0, z2, z3⟩, cc, w1, w2, w3, w4, w5, w6⟩ := h
  exact ⟨by rw [h0 x 5 (by omega) (by omega) hx.2]; exact y1, ⟨nm, by rw [h2 0]; exact z1, z0, by omega, nm_fr z3 (by funext k; exact h0 nm k (by omega) (by omega) z2) (h3 nm z2)⟩, cc, by rw [h2 6]; exact w1, by omega, w3, by rw [h3 cc w2]; exact w4, w5, fun k hk => by rw [h0 cc k (by omega) (by omega) w2]; exact w6 k hk⟩
section CL
variable {vc : Nat} {V : List lp_V} {xs ns : Nat → Nat}
/-- a fault among the variables -/
theorem s_71f {g n sl : Nat} {SH : Nat → Nat × Nat} {FI : Nat → Nat → Int32} {FL : Nat → Nat → Int64} {FR : Nat → Nat → Option Nat} {l2 l3 l4 v : Int32} {s : hS} (h0 : l2.toInt ≠ 0) (h : GX11_compile_71 g l2 l3 l4 n sl SH FI FL FR v s) : RX11_compile_136 l2 l3 n sl SH FI FL FR v s := by
  cases g with
  | zero => exact h.elim
  | succ g =>
    rcases h with ⟨-, h⟩ | ⟨-, h⟩
    · rcases h with ⟨hz, -⟩ | ⟨-, h⟩
      · exact absurd hz h0
      · exact h
    · exact h
theorem s_71 {lo : Nat} (hlo : 176 ≤ lo) (hvc : lo ≤ vc) (hB : ∀ v, v ∈ V → v.2.2.2.1.length ≤ 100000) : ∀ (g : Nat) (l2 l3 l4 : Int32) (n sl : Nat) (SH : Nat → Nat × Nat) (FI : Nat → Nat → Int32) (FL : Nat → Nat → Int64) (FR : Nat → Nat → Option Nat) (v : Int32) (s : hS) (i : Nat), GX11_compile_71 g l2 l3 l4 n sl SH FI FL FR v s → h_S n SH → FR 110 2 = some vc → vc < n → (FI 110 3).toInt = V.length → V.length ≤ 12 → d_xs FI FL FR SH n vc xs ns V → l2.toInt = 0 → l4.toInt = i → i ≤ V.length → (∀ (j : Nat) (v : lp_V), j < i → V[j]? = some v → v_ok v ∧ d_cd FI FR SH n (xs j) v) → ∃ l2' l3' n2 sl2 SH2 F2 L2 R2, RX11_compile_136 l2' l3' n2 sl2 SH2 F2 L2 R2 v s ∧ b_ce lo SH FI FL FR n2 SH2 F2 L2 R2 ∧ n ≤ n2 ∧ ((l2'.toInt = 0 ∧ (∀ x, x ∈ V → v_ok x) ∧ (∀ k, R2 vc k = FR vc k) ∧ SH2 vc = SH vc ∧ ∀ (j : Nat) (v : lp_V), V[j]? = some v → d_cd F2 R2 SH2 n2 (xs j) v) ∨ (l2'.toInt ≠ 0 ∧ ∃ x, x ∈ V ∧ ¬ v_ok x)) := by
  intro g
  induction g with
  | zero => intro l2 l3 l4 n sl SH FI FL FR v s i h; exact h.elim
  | succ g ih =>
    intro l2 l3 l4 n sl SH FI FL FR v s i h hQ hr hvn hc h12 hx h2 h4 hi hcd
    have h176 := hQ.1
    rcases h with ⟨hlt, h⟩ | ⟨hlt, h⟩
    · have hil : i < V.length := by omega
      rcases h with ⟨-, h⟩ | ⟨hn, -⟩
      · obtain ⟨c3, e3, -, v3, n3, sl3, SH3, FI3, FL3, FR3, hk, c5, e5, c6, e6, h⟩ := h
        rw [hr] at e3
        cases e3
        have em : l4.toInt.toNat = i := by omega
        have hvi : V[i]? = some V[i] := List.getElem?_eq_getElem hil
        obtain ⟨y1, y2, y3, y4⟩ := hx i V[i] hvi
        rw [em, y1] at hk e5 e6
        cases e5
        cases e6
        have x1 := y4.1
        have x2 := y4.2.1
        obtain ⟨nm, z1, z2, z3, z4⟩ := y4.2.2.2.2.2.1
        obtain ⟨F1, fr, res⟩ := c_code hQ (by omega) y4.2.2.1 y4.2.2.2.1 y4.2.2.2.2.1 (v_is_bd y4.2.2.2.2.2.2 (hB _ (List.mem_of_getElem? hvi))) hk
        rcases res with ⟨bad, rfl, e⟩ | ⟨good, rfl, sl4, SH4, F4, L4, R4, e, k1, k2, k3, k4, k5, k6⟩
        · cases e
          rcases h with ⟨-, h⟩ | ⟨hn, -⟩
          · obtain ⟨c8, e8, h⟩ := h
            have h136 := s_71f (by decide) h
            refine ⟨_, _, _, _, _, _, _, _, h136, ⟨by omega, hQ, fun c k g1 g2 g3 => fr c k g2 g3, fun _ _ _ => rfl, fun c k g1 => by rw [h_up_nc (by omega)], fun _ _ => rfl⟩, Nat.le_refl _, Or.inr ⟨by decide, V[i], List.mem_of_getElem? hvi, fun hh => ?_⟩⟩
            rcases bad with bad | bad
            · rw [hh.1] at bad; cases bad
            · have := hh.2; omega
          · exfalso
            exact hn h_up_eq
        · cases e
          rcases h with ⟨hn, -⟩ | ⟨-, h⟩
          · exfalso
            rw [h_up_eq] at hn
            cases hn
          · have vok : v_ok V[i] := by
              constructor
              · cases eb : (V[i]).2.2.2.2 with
                | false => rfl
                | true => exact absurd (Or.inl eb) good
              · omega
            have g0 : ∀ q k, 119 ≠ q → 120 ≠ q → q < n → FI3 q k = FI q k := fun q k w1 w2 w3 => by rw [k4 q (by omega)]; exact fr q k (by omega) (by omega)
            have g2 : ∀ q k, q < n → ¬ (q = xs i ∧ k = 6) → h_up FR3 (xs i) 6 (some n) q k = FR q k := fun q k w3 w4 => by rw [h_up_x w4, k6 q (by omega)]
            have bce : b_ce lo SH FI FL FR (n + 1) SH3 FI3 FL3 (h_up FR3 (xs i) 6 (some n)) := ⟨by omega, ⟨by omega, fun q hq => (k3 q (by omega)).trans (hQ.2 q hq)⟩, fun c k w1 w2 w3 => g0 c k (by omega) (by omega) (by omega), fun c k w1 => by rw [k5 c (by omega)], fun c k w1 => g2 c k (by omega) (by omega), fun c w1 => k3 c (by omega)⟩
            have hx2 : d_xs FI3 FL3 (h_up FR3 (xs i) 6 (some n)) SH3 (n + 1) vc xs ns V := by
              intro j v' hj
              obtain ⟨p1, p2, p3, p4⟩ := hx j v' hj
              have q1 := p4.1
              have q2 := p4.2.1
              refine ⟨by rw [g2 vc j hvn (by omega)]; exact p1, by omega, p3, d_va_fr p4 (fun q k w1 w2 => g0 q k (by omega) (by omega) (by omega)) (fun q k w1 w2 => by rw [k5 q (by omega)]) (fun q k w1 w2 w3 => ?_) (fun q w1 w2 => k3 q (by omega))⟩
              rcases Nat.lt_trichotomy i j with hij | hij | hij
              · have := p3 i hij
                exact g2 q k (by omega) (by omega)
              · subst hij
                exact g2 q k (by omega) w3
              · have := y3 j hij
                exact g2 q k (by omega) (by omega)
            obtain ⟨l2', l3', n5, sl5, SH5, F5, L5, R5, h5, b5, nn5, res⟩ := ih l2 l3 _ (n + 1) sl3 SH3 FI3 FL3 _ v s (i + 1) h bce.2.1 (by rw [g2 110 2 (by omega) (by omega)]; exact hr) (by omega) (by rw [g0 110 3 (by omega) (by omega) (by omega)]; exact hc) h12 hx2 h2 (by rw [i_add h4 (by decide : ((1 : Int32)).toInt = 1) (by omega) (by omega)]; omega) (by omega) (fun j v' hj hv' => by
              obtain ⟨p1, p2, p3, p4⟩ := hx j v' hv'
              have q1 := p4.1
              have q2 := p4.2.1
              obtain ⟨nm', w1, w2, w3, w4⟩ := p4.2.2.2.2.2.1
              by_cases e : j = i
              · subst e
                rw [hvi] at hv'
                cases hv'
                refine ⟨vok, by rw [g0 (xs j) 5 (by omega) (by omega) (by omega)]; exact v_is_r y4.2.2.2.2.2.2, ⟨nm, by rw [h_up_ne (by decide), k6 (xs j) (by omega)]; exact z1, by omega, by omega, nm_fr z4 (by funext k; exact g0 nm k (by omega) (by omega) (by omega)) (k3 nm (by omega))⟩, n, h_up_eq, by omega, by omega, k1, vok.2, k2⟩
              · obtain ⟨o1, o2⟩ := hcd j v' (by omega) hv'
                have hne : xs j ≠ xs i := by
                  have := y3 j (by omega)
                  omega
                exact ⟨o1, d_cd_fr o2 ⟨by omega, by omega⟩ g0 (fun k => g2 (xs j) k (by omega) (by omega)) (fun q w => k3 q (by omega)) (by omega)⟩)
            refine ⟨l2', l3', _, _, _, _, _, _, h5, b_ce_t bce b5, by omega, ?_⟩
            rcases res with ⟨r1, r2, r3, r4, r5⟩ | res
            · exact Or.inl ⟨r1, r2, fun k => (r3 k).trans (g2 vc k hvn (by omega)), r4.trans (k3 vc (by omega)), r5⟩
            · exact Or.inr res
      · exact absurd h2 hn
    · have hie : i = V.length := by omega
      refine ⟨l2, l3, _, _, _, _, _, _, h, ⟨by omega, hQ, fun _ _ _ _ _ => rfl, fun _ _ _ => rfl, fun _ _ _ => rfl, fun _ _ => rfl⟩, Nat.le_refl _, Or.inl ⟨h2, fun x hx' => ?_, fun _ => rfl, rfl, fun j v' hj => ?_⟩⟩
      · obtain ⟨j, hj⟩ := List.mem_iff_getElem?.mp hx'
        have := (List.getElem?_eq_some_iff.mp hj).1
        exact (hcd j x (by omega) hj).1
      · have := (List.getElem?_eq_some_iff.mp hj).1
        exact (hcd j v' (by omega) hj).2
end CL
/-- the end: what is told, what is kept -/
theorem s_136 {n sl : Nat} {SH : Nat → Nat × Nat} {FI : Nat → Nat → Int32} {FL : Nat → Nat → Int64} {FR : Nat → Nat → Option Nat} {l2 l3 v : Int32} {s : hS} (h : RX11_compile_136 l2 l3 n sl SH FI FL FR v s) : ∃ F2, (∀ c k, c ≠ 21 → F2 c k = FI c k) ∧ ((l2.toInt = 0 ∧ v = FI 110 3 ∧ s = (n, sl, SH, h_up F2 0 12 (FI 110 3), FL, h_up FR 0 11 (FR 110 2))) ∨ (l2.toInt ≠ 0 ∧ v = -1 ∧ s = (n, sl, SH, F2, FL, FR))) := by
  obtain ⟨v0, n0, sl0, SH0, FI0, FL0, FR0, ht, h⟩ := h
  have hX : ∃ F2, (∀ c k, c ≠ 21 → F2 c k = FI c k) ∧ (n0, sl0, SH0, FI0, FL0, FR0) = (n, sl, SH, F2, FL, FR) := by
    obtain ⟨-, ht⟩ := ht
    rcases ht with ⟨-, -, -, -, -, e⟩ | ⟨-, -, -, -, -, e⟩
    · exact ⟨_, fun c k hc => by rw [h_up_nc hc, h_up_nc hc, h_up_nc hc, h_up_nc hc], e⟩
    · exact ⟨_, fun c k hc => by rw [h_up_nc hc, h_up_nc hc, h_up_nc hc, h_up_nc hc], e⟩
  obtain ⟨F2, hF, e⟩ := hX
  cases e
  refine ⟨FI0, hF, ?_⟩
  have e3 : FI0 110 3 = FI 110 3 := hF 110 3 (by decide)
  rcases h with ⟨h0, rfl, rfl⟩ | ⟨h0, rfl, rfl⟩
  · rw [e3]
    exact Or.inl ⟨h0, rfl, rfl⟩
  · exact Or.inr ⟨h0, rfl, rfl⟩
/-- what compile leaves alone, of the cells below n -/
def b_cp (n : Nat) (SH : Nat → Nat × Nat) (FI : Nat → Nat → Int32) (FL : Nat → Nat → Int64) (FR : Nat → Nat → Option Nat) (n2 : Nat) (SH2 : Nat → Nat × Nat) (F2 : Nat → Nat → Int32) (L2 : Nat → Nat → Int64) (R2 : Nat → Nat → Option Nat) : Prop := n ≤ n2 ∧ h_S n2 SH2 ∧ (∀ c k, c < n → ¬ (c = 0 ∧ (k = 9 ∨ k = 12)) → ¬ (c = 21 ∨ (110 ≤ c ∧ c ≤ 120)) → F2 c k = FI c k) ∧ (∀ c k, c < n → ¬ (110 ≤ c ∧ c ≤ 115) → L2 c k = FL c k) ∧ (∀ c k, c < n → ¬ (c = 0 ∧ k = 11) → ¬ (110 ≤ c ∧ c ≤ 111) → R2 c k = FR c k) ∧ (∀ c, c < n → SH2 c = SH c)
/-- THE CLASS'S COMPILE: the variables that lp_tx says, or none -/
theorem lp_fl_mem {V : List lp_V} {v : lp_V} (h : v ∈ V) : v.2.2.2.1.length ≤ (lp_fl V).length := by
  induction V with
  | nil => cases h
  | cons a V ih =>
    have e : lp_fl (a :: V) = a.2.2.2.1 ++ lp_fl V := by simp [lp_fl]
    rw [e, List.length_append]
    rcases List.mem_cons.mp h with rfl | h
    · omega
    · have := ih h
      omega
theorem s_compile {n sl N T : Nat} {P : Nat → Nat} {X K W : Nat → Int} {SH : Nat → Nat × Nat} {FI : Nat → Nat → Int32} {FL : Nat → Nat → Int64} {FR : Nat → Nat → Option Nat} {v : Int32} {s : hS} (hQ : h_S n SH) (h : RX11_compile n sl SH FI FL FR v s) (ha : (FI 0 9).toInt = N) (hN : N ≤ 1000) (hX : ∀ i, i < N → (FI 19 i).toInt = X i ∧ 0 ≤ X i ∧ X i ≤ 255) (hK : ∀ i x, (t_tl X N 1001 0)[i]? = some x → K i = x.1 ∧ W i = x.2.1) (hk : tk_ok K W P T) (hT : (t_tl X N 1001 0).length = T + 1) : ∃ n2 sl2 SH2 F2 L2 R2, s = (n2, sl2, SH2, F2, L2, R2) ∧ b_cp n SH FI FL FR n2 SH2 F2 L2 R2 ∧ (F2 0 9).toInt = 0 ∧ ∃ F0, ∀ f, F0 ≤ f → match lp_tx K W f 1100 0 [] with
    | none => v = -1 ∧ F2 0 12 = FI 0 12 ∧ R2 0 11 = FR 0 11
    | some V => ((∃ x, x ∈ V ∧ ¬ v_ok x) ∧ v = -1 ∧ F2 0 12 = FI 0 12 ∧ R2 0 11 = FR 0 11) ∨ ((∀ x, x ∈ V → v_ok x) ∧ v.toInt = V.length ∧ v_cl F2 R2 SH2 n2 V) := by
  have h176 := hQ.1
  obtain ⟨v1, n1, sl1, SH1, FI1, FL1, FR1, hb, g, h⟩ := h
  obtain ⟨M, sl2, SH2, F2, L2, R2, e, hMN, hMl, hQ1, hq, hm, hv, hd, f1, l1, r1, s1⟩ := s_begin (K := K) (W := W) (X := X) (N := N) hQ hb ha hN (fun i hi => by rw [h_up_nc (by decide)]; exact hX i hi) hK
  cases e
  have hM := hq.1
  obtain ⟨n3, sl3, SH3, F3, L3, R3, h3, nn3, bd3, res⟩ := s_text hk.2.1 h176 (Nat.le_refl n) ha hMN hN g _ (n + 1) sl1 SH1 FI1 FL1 FR1 v s 0 0 [] h hQ1 hq hm hv hd (by decide) (Nat.zero_le _) (Nat.zero_le _)
  have f09 : FI1 0 9 = 0 := by rw [f1 0 9 (by omega) (by omega), h_up_eq]
  obtain ⟨g3, h3⟩ := h3
  rcases res with ⟨V, ⟨a, lt⟩, h5, d3, t', ht', hz'⟩ | ⟨⟨a, lt⟩, ft⟩
  · obtain ⟨d1, d2, dn, d4, d5, d6, xs, ns, d7⟩ := d3
    have hBV : ∀ v, v ∈ V → v.2.2.2.1.length ≤ 100000 := fun v hv' => by
      have x1 := lp_fl_mem hv'
      have x2 := tk_P_le hk.2.1 hk.2.2.2.2.1 (i := t') (j := T) (by omega) (Nat.le_refl _)
      have x3 := hk.2.2.2.2.2
      omega
    obtain ⟨l2', l3', n4, sl4, SH4, F4, L4, R4, h4, b4, nn4, res⟩ := s_71 (vc := n) (lo := n) h176 (Nat.le_refl n) hBV g3 _ _ _ n3 sl3 SH3 F3 L3 R3 v s 0 h3 bd3.2.1 d1 dn d5 d6 d7 h5 (by decide) (Nat.zero_le _) (fun j v hj => by omega)
    obtain ⟨F5, hF5, r5⟩ := s_136 h4
    have fz : ∀ c k, c < n → ¬ (c = 21 ∨ (110 ≤ c ∧ c ≤ 120)) → F5 c k = FI1 c k := fun c k y1 y2 => by rw [hF5 c k (by omega), b4.2.2.1 c k y1 (by omega) (by omega), bd3.2.2.1 c k y1 (by omega) (by omega)]
    have lz : ∀ c k, c < n → c ≠ 110 → L4 c k = FL1 c k := fun c k y1 y2 => by rw [b4.2.2.2.1 c k y1, bd3.2.2.2.1 c k y1 y2]
    have rz : ∀ c k, c < n → R4 c k = FR1 c k := fun c k y1 => by rw [b4.2.2.2.2.1 c k y1, bd3.2.2.2.2.1 c k y1]
    have sz : ∀ c, c < n → SH4 c = SH c := fun c y1 => by rw [b4.2.2.2.2.2 c y1, bd3.2.2.2.2.2 c y1, s1 c y1]
    rcases r5 with ⟨z0, rfl, rfl⟩ | ⟨z0, rfl, rfl⟩
    · rcases res with ⟨-, p2, p3, p4, p5⟩ | ⟨p1, -⟩
      · refine ⟨_, _, _, _, _, _, rfl, ⟨by omega, b4.2.1, fun c k y1 y2 y3 => ?_, fun c k y1 y2 => by rw [lz c k y1 (by omega)]; exact l1 c k y1 y2, fun c k y1 y2 y3 => ?_, sz⟩, ?_, a, fun f hf => ?_⟩
        · rw [h_up_x (by omega), fz c k y1 y3, f1 c k y1 (by omega), h_up_x (by omega)]
        · rw [h_up_x y2, rz c k y1]; exact r1 c k y1 y3
        · rw [h_up_ne (by decide), fz 0 9 (by omega) (by omega), f09]; decide
        · rw [lt f 1100 hf (by omega)]
          have e3 : (F4 110 3).toInt = V.length := by rw [b4.2.2.1 110 3 (by omega) (by omega) (by omega)]; exact d5
          have e2 : R4 110 2 = some n := by rw [b4.2.2.2.2.1 110 2 (by omega)]; exact d1
          refine Or.inr ⟨p2, e3, n, by rw [h_up_eq]; exact e2, by omega, by rw [p4]; exact d4, by rw [h_up_eq]; exact e3, d6, fun i v' hv' => ?_⟩
          obtain ⟨q1, q2, q3, q4⟩ := d7 i v' hv'
          have q5 := q4.1
          have q6 := q4.2.1
          obtain ⟨nm, w1, w2, w3, w4⟩ := q4.2.2.2.2.2.1
          refine ⟨xs i, by rw [h_up_nc (by omega), p3 i]; exact q1, by omega, ?_⟩
          obtain ⟨o1, ⟨nm2, u1, hnm2, u2, u3⟩, cc, t1, t2, t3, t4, t5, t6⟩ := p5 i v' hv'
          -- 21 and 0 are none of these cells
          have ge : ∀ q k, 176 ≤ q → h_up F5 0 12 (F4 110 3) q k = F4 q k := fun q k hq' => by rw [h_up_nc (by omega)]; exact hF5 q k (by omega)
          exact ⟨by rw [ge (xs i) 5 (by omega)]; exact o1, ⟨nm2, by rw [h_up_nc (by omega)]; exact u1, hnm2, u2, nm_fr u3 (by funext k; exact ge nm2 k hnm2) rfl⟩, cc, by rw [h_up_nc (by omega)]; exact t1, t2, t3, t4, t5, fun k hk => by rw [ge cc k t3]; exact t6 k hk⟩
      · exact absurd z0 p1
    · rcases res with ⟨p1, -⟩ | ⟨-, p2⟩
      · exact absurd p1 z0
      · refine ⟨_, _, _, _, _, _, rfl, ⟨by omega, b4.2.1, fun c k y1 y2 y3 => ?_, fun c k y1 y2 => by rw [lz c k y1 (by omega)]; exact l1 c k y1 y2, fun c k y1 y2 y3 => by rw [rz c k y1]; exact r1 c k y1 y3, sz⟩, ?_, a, fun f hf => ?_⟩
        · rw [fz c k y1 y3, f1 c k y1 (by omega), h_up_x (by omega)]
        · rw [fz 0 9 (by omega) (by omega), f09]; decide
        · rw [lt f 1100 hf (by omega)]
          exact Or.inl ⟨p2, rfl, by rw [fz 0 12 (by omega) (by omega), f1 0 12 (by omega) (by omega), h_up_ne (by decide)], by rw [rz 0 11 (by omega)]; exact r1 0 11 (by omega) (by omega)⟩
  · have h136 := s_71f ft.1 h3
    obtain ⟨F5, hF5, r5⟩ := s_136 h136
    rcases r5 with ⟨z0, -, -⟩ | ⟨-, rfl, rfl⟩
    · exact absurd z0 ft.1
    · have fz : ∀ c k, c < n → ¬ (c = 21 ∨ (110 ≤ c ∧ c ≤ 120)) → F5 c k = FI1 c k := fun c k y1 y2 => by rw [hF5 c k (by omega), bd3.2.2.1 c k y1 (by omega) (by omega)]
      refine ⟨_, _, _, _, _, _, rfl, ⟨by omega, bd3.2.1, fun c k y1 y2 y3 => ?_, fun c k y1 y2 => by rw [bd3.2.2.2.1 c k y1 (by omega)]; exact l1 c k y1 y2, fun c k y1 y2 y3 => by rw [bd3.2.2.2.2.1 c k y1]; exact r1 c k y1 y3, fun c y1 => by rw [bd3.2.2.2.2.2 c y1, s1 c y1]⟩, ?_, a, fun f hf => ?_⟩
      · rw [fz c k y1 y3, f1 c k y1 (by omega), h_up_x (by omega)]
      · rw [fz 0 9 (by omega) (by omega), f09]; decide
      · rw [lt f 1100 hf (by omega)]
        exact ⟨rfl, by rw [fz 0 12 (by omega) (by omega), f1 0 12 (by omega) (by omega), h_up_ne (by decide)], by rw [bd3.2.2.2.2.1 0 11 (by omega)]; exact r1 0 11 (by omega) (by omega)⟩
