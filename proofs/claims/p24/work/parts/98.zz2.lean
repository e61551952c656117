/-! THE CLASS'S PARSER: a declaration. -/
section DN
variable {n sl : Nat} {SH : Nat → Nat × Nat} {FI : Nat → Nat → Int32} {FL : Nat → Nat → Int64} {FR : Nat → Nat → Option Nat} {s : hS}
/-- a new variable -/
theorem d_new {nm : Option Nat} {pl : Int32} {v0 v1 : Unit} {n0 sl0 n1 sl1 : Nat} {SH0 SH1 : Nat → Nat × Nat} {FI0 FI1 : Nat → Nat → Int32} {FL0 FL1 : Nat → Nat → Int64} {FR0 FR1 : Nat → Nat → Option Nat} (hQ : h_S n SH) (k0 : P_nw 10 n sl SH FI FL FR v0 (n0, sl0, SH0, FI0, FL0, FR0)) (k1 : RX10_init n nm pl n0 sl0 SH0 FI0 FL0 FR0 v1 (n1, sl1, SH1, FI1, FL1, FR1)) : n1 = n + 5 ∧ b_ct n SH FI FL FR (n + 5) SH1 FI1 FL1 FR1 ∧ FI1 110 = FI 110 ∧ FL1 110 = FL 110 ∧ FR1 n 0 = nm ∧ FR1 n 2 = some (n + 1) ∧ FR1 n 3 = some (n + 2) ∧ FR1 n 4 = some (n + 3) ∧ FR1 n 6 = some (n + 4) ∧ FI1 n 5 = 0 := by
  have h176 := hQ.1
  have fz := b_nwz k0
  obtain ⟨sl', SH', F', L', R', e, q0, q1, q2, q3⟩ := b_nw hQ k0
  cases e
  obtain ⟨va, na, sla, SHa, FIa, FLa, FRa, h1, vb, nb, slb, SHb, FIb, FLb, FRb, h2, vc, nc, slc, SHc, FIc, FLc, FRc, h3, vd, nd, sld, SHd, FId, FLd, FRd, h4, -, e⟩ := k1
  obtain ⟨rfl, w1, -⟩ := y_na h1
  obtain ⟨rfl, w2, -⟩ := y_na h2
  obtain ⟨rfl, w3, -⟩ := y_na h3
  obtain ⟨rfl, w4, -⟩ := y_na h4
  cases e
  have b1 := b_wR (k := 2) (x := some (n + 1)) (b_tr q0 (y_ct q0.2.1 w1.1 w1.2.1 w1.2.2.1 w1.2.2.2)) (Nat.le_refl n)
  have b2 := b_wR (k := 3) (x := some (n + 1 + 1)) (b_tr b1 (y_ct b1.2.1 w2.1 w2.2.1 w2.2.2.1 w2.2.2.2)) (Nat.le_refl n)
  have b3 := b_wR (k := 4) (x := some (n + 1 + 1 + 1)) (b_tr b2 (y_ct b2.2.1 w3.1 w3.2.1 w3.2.2.1 w3.2.2.2)) (Nat.le_refl n)
  have b4 := b_tr b3 (y_ct b3.2.1 w4.1 w4.2.1 w4.2.2.1 w4.2.2.2)
  have b5 := b_wI (k := 1) (x := pl) (b_wR (k := 0) (x := nm) (b_wR (k := 6) (x := some (n + 1 + 1 + 1 + 1)) b4 (Nat.le_refl n)) (Nat.le_refl n)) h176 (Nat.le_refl n)
  -- the receiver's references
  have ra : ∀ k, FRa n k = none := fun k => by rw [w1.2.2.2 n (by omega)]; exact q1 k
  have rb : ∀ k, FRb n k = h_up FRa n 2 (some (n + 1)) n k := fun k => by rw [w2.2.2.2 n (by omega)]
  have rc : ∀ k, FRc n k = h_up FRb n 3 (some (n + 1 + 1)) n k := fun k => by rw [w3.2.2.2 n (by omega)]
  have rd : ∀ k, FRd n k = h_up FRc n 4 (some (n + 1 + 1 + 1)) n k := fun k => by rw [w4.2.2.2 n (by omega)]
  refine ⟨rfl, b5, ?_, ?_, h_up_eq, ?_, ?_, ?_, ?_, ?_⟩
  · rw [h_up_nc (by omega), w4.2.1 110 (by omega), w3.2.1 110 (by omega), w2.2.1 110 (by omega), w1.2.1 110 (by omega), q2]
  · rw [w4.2.2.1 110 (by omega), w3.2.2.1 110 (by omega), w2.2.2.1 110 (by omega), w1.2.2.1 110 (by omega), q3]
  · rw [h_up_ne (by decide), h_up_ne (by decide), rd, h_up_ne (by decide), rc, h_up_ne (by decide), rb, h_up_eq]
  · rw [h_up_ne (by decide), h_up_ne (by decide), rd, h_up_ne (by decide), rc, h_up_eq]
  · rw [h_up_ne (by decide), h_up_ne (by decide), rd, h_up_eq]
  · rw [h_up_ne (by decide), h_up_eq]
  · rw [h_up_ne (by decide), w4.2.1 n (by omega), w3.2.1 n (by omega), w2.2.1 n (by omega), w1.2.1 n (by omega)]; exact fz 5
theorem r_refuse {a : Int32} {v : Unit} (h : RX4_refuse a n sl SH FI FL FR v s) (ha : a.toInt ≠ 0) (h0 : (FI 110 5).toInt = 0) (h1 : 0 ≤ (FI 110 7).toInt) (h2 : (FI 110 7).toInt < (FI 111 4).toInt) : ∃ F2, s = (n, sl, SH, F2, FL, FR) ∧ a_fr FI F2 FL FL ∧ s_ft F2 := by
  rcases h with ⟨-, h⟩ | ⟨hn, -⟩
  · rcases h with ⟨h3, -⟩ | ⟨-, h⟩
    · exfalso; omega
    · rcases h with ⟨-, -, -, rfl⟩ | ⟨h3, -⟩
      · refine ⟨_, rfl, ⟨fun c k hck => ?_, fun _ _ _ => rfl⟩, ?_⟩
        · rw [h_up_x (fun h => hck ⟨h.1, by omega, by omega⟩), h_up_x (fun h => hck ⟨h.1, by omega, by omega⟩), h_up_x (fun h => hck ⟨h.1, by omega, by omega⟩)]
        · exact ⟨by rw [h_up_x (by decide), h_up_x (by decide), h_up_eq]; exact ha, by rw [h_up_eq]; decide⟩
      · exact absurd h2 h3
  · exact absurd h0 hn
theorem y_same0_G {c1 c2 : Nat} : ∀ (g : Nat) (l : Int32) (v : Int32) (s : hS), GX4_areSame_11 (some c1) (some c2) g l n sl SH FI FL FR v s → s = (n, sl, SH, FI, FL, FR) := by
  intro g
  induction g with
  | zero => intro l v s h; exact h.elim
  | succ g ih =>
    intro l v s h
    obtain ⟨c, e, h⟩ := h
    rcases h with ⟨-, h⟩ | ⟨-, -, rfl⟩
    · obtain ⟨c3, -, -, c4, -, -, h⟩ := h
      rcases h with ⟨-, h⟩ | ⟨-, -, rfl⟩
      · exact ih _ v s h
      · rfl
    · rfl
theorem y_known0_G {nm : Nat} : ∀ (g : Nat) (l : Int32) (v : Int32) (s : hS), GX4_isKnown_2 (some nm) g l n sl SH FI FL FR v s → s = (n, sl, SH, FI, FL, FR) := by
  intro g
  induction g with
  | zero => intro l v s h; exact h.elim
  | succ g ih =>
    intro l v s h
    rcases h with ⟨-, h⟩ | ⟨-, -, rfl⟩
    · obtain ⟨c2, -, h⟩ := h
      rcases h with ⟨-, h⟩ | ⟨-, -, rfl⟩
      · obtain ⟨c4, -, -, c5, -, v5, n5, sl5, SH5, FI5, FL5, FR5, hk, h⟩ := h
        have e : (n5, sl5, SH5, FI5, FL5, FR5) = (n, sl, SH, FI, FL, FR) := by
          obtain ⟨c, e1, c', e2, hk⟩ := hk
          rcases hk with ⟨-, g2, hk⟩ | ⟨-, -, hk⟩
          · rw [e1, e2] at hk
            exact y_same0_G g2 _ _ _ hk
          · exact hk
        cases e
        rcases h with ⟨-, h⟩ | ⟨-, -, rfl⟩
        · exact ih _ v s h
        · rfl
      · rfl
    · rfl
end DN
/-- cells below lo: what the parser leaves alone -/
def b_cd (lo : Nat) (SH : Nat → Nat × Nat) (FI : Nat → Nat → Int32) (FL : Nat → Nat → Int64) (FR : Nat → Nat → Option Nat) (n2 : Nat) (SH2 : Nat → Nat × Nat) (F2 : Nat → Nat → Int32) (L2 : Nat → Nat → Int64) (R2 : Nat → Nat → Option Nat) : Prop := lo ≤ n2 ∧ h_S n2 SH2 ∧ (∀ c k, c < lo → c ≠ 110 → c ≠ 117 → F2 c k = FI c k) ∧ (∀ c k, c < lo → c ≠ 110 → L2 c k = FL c k) ∧ (∀ c k, c < lo → R2 c k = FR c k) ∧ (∀ c, c < lo → SH2 c = SH c)
section BD
variable {lo n n1 n2 : Nat} {SH SH1 SH2 : Nat → Nat × Nat} {FI F1 F2 : Nat → Nat → Int32} {FL L1 L2 : Nat → Nat → Int64} {FR R1 R2 : Nat → Nat → Option Nat}
theorem b_cd_of (h : b_ct n SH FI FL FR n2 SH2 F2 L2 R2) (hl : lo ≤ n) : b_cd lo SH FI FL FR n2 SH2 F2 L2 R2 := by
  have := h.1
  exact ⟨by omega, h.2.1, fun c k g1 g2 g3 => h.2.2.1 c k (by omega) (by omega), fun c k g1 g2 => h.2.2.2.1 c k (by omega) (by omega), fun c k g1 => h.2.2.2.2.1 c k (by omega), fun c g1 => h.2.2.2.2.2.2 c (by omega)⟩
theorem b_cd_t (h : b_cd lo SH FI FL FR n1 SH1 F1 L1 R1) (h2 : b_cd lo SH1 F1 L1 R1 n2 SH2 F2 L2 R2) : b_cd lo SH FI FL FR n2 SH2 F2 L2 R2 :=
  ⟨h2.1, h2.2.1, fun c k g1 g2 g3 => (h2.2.2.1 c k g1 g2 g3).trans (h.2.2.1 c k g1 g2 g3), fun c k g1 g2 => (h2.2.2.2.1 c k g1 g2).trans (h.2.2.2.1 c k g1 g2), fun c k g1 => (h2.2.2.2.2.1 c k g1).trans (h.2.2.2.2.1 c k g1), fun c g1 => (h2.2.2.2.2.2 c g1).trans (h.2.2.2.2.2 c g1)⟩
theorem b_cd_3 {x : Int32} {vc k : Nat} {r : Option Nat} (h : b_cd lo SH FI FL FR n2 SH2 F2 L2 R2) (hv : lo ≤ vc) : b_cd lo SH FI FL FR n2 SH2 (h_up F2 110 3 x) L2 (h_up R2 vc k r) :=
  ⟨h.1, h.2.1, fun c k g1 g2 g3 => by rw [h_up_nc g2]; exact h.2.2.1 c k g1 g2 g3, h.2.2.2.1, fun c k g1 => by rw [h_up_nc (by omega)]; exact h.2.2.2.2.1 c k g1, h.2.2.2.2.2⟩
end BD
/-- a variable that is told, in the cells below n -/
def d_va (F : Nat → Nat → Int32) (L : Nat → Nat → Int64) (R : Nat → Nat → Option Nat) (SH : Nat → Nat × Nat) (n vc x : Nat) (v : lp_V) : Prop := vc < x ∧ x + 5 ≤ n ∧ R x 2 = some (x + 1) ∧ R x 3 = some (x + 2) ∧ R x 4 = some (x + 3) ∧ (∃ nm, R x 0 = some nm ∧ vc < nm ∧ nm < x ∧ nm_ok F SH nm v.1) ∧ v_is F L R SH n x v.2.2.1 v.2.2.2.1 v.2.2.2.2
/-- the variables: where each stands, where its cells end -/
def d_xs (F : Nat → Nat → Int32) (L : Nat → Nat → Int64) (R : Nat → Nat → Option Nat) (SH : Nat → Nat × Nat) (n vc : Nat) (xs ns : Nat → Nat) (V : List lp_V) : Prop := ∀ (i : Nat) (v : lp_V), V[i]? = some v → R vc i = some (xs i) ∧ ns i ≤ n ∧ (∀ j, j < i → ns j ≤ xs i) ∧ d_va F L R SH (ns i) vc (xs i) v
def d_st (F : Nat → Nat → Int32) (L : Nat → Nat → Int64) (R : Nat → Nat → Option Nat) (SH : Nat → Nat × Nat) (n vc : Nat) (V : List lp_V) : Prop := R 110 2 = some vc ∧ 176 ≤ vc ∧ vc < n ∧ (SH vc).2 = 12 ∧ (F 110 3).toInt = V.length ∧ V.length ≤ 12 ∧ ∃ xs ns, d_xs F L R SH n vc xs ns V
section DS
variable {F F2 : Nat → Nat → Int32} {L L2 : Nat → Nat → Int64} {R R2 : Nat → Nat → Option Nat} {SH S2 : Nat → Nat × Nat} {n n2 vc x : Nat} {v : lp_V} {V : List lp_V}
theorem d_va_fr (h : d_va F L R SH n vc x v) (h0 : ∀ q k, vc < q → q < n → F2 q k = F q k) (h1 : ∀ q k, vc < q → q < n → L2 q k = L q k) (h2 : ∀ q k, x ≤ q → q < n → ¬ (q = x ∧ k = 6) → R2 q k = R q k) (h3 : ∀ q, vc < q → q < n → S2 q = SH q) : d_va F2 L2 R2 S2 n vc x v := by
  obtain ⟨y1, y2, y3, y4, y5, ⟨nm, z1, z2, z3, z4⟩, y7⟩ := h
  exact ⟨y1, y2, by rw [h2 x 2 (Nat.le_refl _) (by omega) (by omega)]; exact y3, by rw [h2 x 3 (Nat.le_refl _) (by omega) (by omega)]; exact y4, by rw [h2 x 4 (Nat.le_refl _) (by omega) (by omega)]; exact y5, ⟨nm, by rw [h2 x 0 (Nat.le_refl _) (by omega) (by omega)]; exact z1, z2, z3, nm_fr z4 (by funext k; exact h0 nm k z2 (by omega)) (h3 nm z2 (by omega))⟩, v_is_fr y7 y2 (fun q k g1 g2 => h0 q k (by omega) g2) (fun q k g1 g2 => h1 q k (by omega) g2) h2 (fun q g1 g2 => h3 q (by omega) g2) (Nat.le_refl _)⟩
theorem d_ns_of (h : d_st F L R SH n vc V) : d_ns F R SH vc V := by
  intro i v hv
  obtain ⟨xs, ns, hx⟩ := h.2.2.2.2.2.2
  obtain ⟨r, -, -, d⟩ := hx i v hv
  obtain ⟨nm, z1, -, -, z4⟩ := d.2.2.2.2.2.1
  exact ⟨xs i, nm, r, z1, z4⟩
/-- the variables stay where all below n stays -/
theorem d_st_b {lo : Nat} (h : d_st F L R SH n vc V) (hb : b_ct lo SH F L R n2 S2 F2 L2 R2) (hl : n ≤ lo) : d_st F2 L2 R2 S2 n2 vc V := by
  obtain ⟨y1, y2, y3, y4, y5, y6, xs, ns, y7⟩ := h
  have := hb.1
  refine ⟨by rw [hb.2.2.2.2.1 110 2 (by omega)]; exact y1, y2, by omega, by rw [hb.2.2.2.2.2.2 vc (by omega)]; exact y4, by rw [hb.2.2.1 110 3 (by omega) (by omega)]; exact y5, y6, xs, ns, fun i v hv => ?_⟩
  obtain ⟨r, rn, ro, d⟩ := y7 i v hv
  have := d.1
  exact ⟨by rw [hb.2.2.2.2.1 vc i (by omega)]; exact r, by omega, ro, d_va_fr d (fun q k g1 g2 => hb.2.2.1 q k (by omega) (by omega)) (fun q k g1 g2 => hb.2.2.2.1 q k (by omega) (by omega)) (fun q k g1 g2 _ => hb.2.2.2.2.1 q k (by omega)) (fun q g1 g2 => hb.2.2.2.2.2.2 q (by omega))⟩
end DS
