section
/-! HOW MANY BYTES a text gives: at most three for each letter of an expression, four for each letter of all. P: where the tokens begin. -/
def tk_P (K W : Nat → Int) (P : Nat → Nat) : Prop := ∀ i, K i ≠ 0 → P i < P (i + 1) ∧ (K i = 3 → P (i + 1) ≤ P i + 2 → W i < 100) ∧ (K i = 4 → P i + 2 ≤ P (i + 1)) ∧ (K i = 2 → P i + 2 ≤ P (i + 1)) ∧ (K i = 5 ∧ W i = 256 → P i + 2 ≤ P (i + 1))
theorem lc_by_len (v : Int) : ∀ n, (lc_by v n).length = n
  | 0 => rfl
  | n + 1 => by rw [lc_by, List.length_cons, lc_by_len]
theorem lc_u_len : ∀ (n : Nat) (v : Int), (lc_u n v).length ≤ n + 1
  | 0, v => by simp [lc_u]
  | n + 1, v => by
    rw [lc_u]
    split
    · rw [List.length_cons]
      have := lc_u_len n (v / 128)
      omega
    · simp
theorem lc_u_1 {n : Nat} {v : Int} (h : v ≤ 127) : (lc_u n v).length = 1 := by
  cases n with
  | zero => rfl
  | succ n => rw [lc_u, if_neg (by omega)]; rfl
theorem lc_s_len : ∀ (n : Nat) (v : Int), (lc_s n v).length ≤ n + 1
  | 0, v => by simp [lc_s]
  | n + 1, v => by
    rw [lc_s]
    split
    · rw [List.length_cons]
      have := lc_s_len n (v / 128)
      omega
    · simp
theorem lc_s_0 : (lc_s 9 0).length = 1 := by decide
theorem lc_c_len (v : Int) : (lc_c v).length ≤ 9 ∧ (v < 100 → (lc_c v).length ≤ 3) := by
  unfold lc_c
  split
  · simp
  · split
    · simp [lc_by]
    · split
      · simp [lc_by]
      · split
        · simp only [List.length_cons, lc_by_len]; omega
        · simp only [List.length_cons, lc_by_len]; omega
theorem lc_un_len (k w : Int) : (lc_un k w).length ≤ 2 ∧ (k ≠ 4 → (lc_un k w).length = 1) := by
  unfold lc_un
  split
  · simp
  · split
    · split
      · simp
      · simp; omega
    · split <;> simp
section LN
variable {K W : Nat → Int} {P : Nat → Nat}
theorem lc_bs_k {t b : Nat} {x : Int} (h : lc_bs K W t = some (b, x)) : (b = t + 2 ∧ K t ≠ 0 ∧ K (t + 1) ≠ 0) ∨ (b = t + 1 ∧ K t = 2) := by
  unfold lc_bs at h
  split at h
  · rename_i h1
    split at h
    · rename_i h2
      cases h
      exact Or.inl ⟨rfl, by omega, by omega⟩
    · cases h
  · split at h
    · rename_i h2
      cases h
      exact Or.inr ⟨rfl, h2.1⟩
    · cases h
theorem lc_at_P (hP : tk_P K W P) {y : Bool} {t t1 : Nat} {c : List Int} (h : lc_at K W y t = some (t1, c)) : t < t1 ∧ P t < P t1 ∧ c.length + 3 * P t ≤ 3 * P t1 := by
  unfold lc_at at h
  split at h
  · rename_i h1
    cases h
    have p := hP t (by omega)
    have q := lc_c_len (W t)
    refine ⟨by omega, p.1, ?_⟩
    rcases Nat.lt_or_ge (P t + 2) (P (t + 1)) with h2 | h2
    · omega
    · have := q.2 (p.2.1 h1 h2)
      omega
  · split at h
    · rename_i h1 h2
      cases h
      have p := hP t (by omega)
      exact ⟨by omega, p.1, by simp; omega⟩
    · split at h
      · rename_i h1 h2 h3
        cases h
        have p := hP t (by omega)
        exact ⟨by omega, p.1, by simp; omega⟩
      · split at h
        · cases h
        · rename_i b x hb
          have hb2 := lc_bs_k hb
          have hbp : t < b ∧ P t + 2 ≤ P b := by
            rcases hb2 with ⟨e, k1, k2⟩ | ⟨e, k1⟩
            · have p1 := hP t k1
              have p2 := hP (t + 1) k2
              subst e
              exact ⟨by omega, by have := p1.1; have := p2.1; have e2 : P (t + 1 + 1) = P (t + 2) := rfl; omega⟩
            · have p1 := hP t (by omega)
              subst e
              exact ⟨by omega, p1.2.2.2.1 k1⟩
          split at h
          · rename_i hy
            cases h
            have hy2 : lc_ad K W b = true := by
              cases y
              · simp at hy
              · simpa using hy
            have h2 : (K b = 5 ∧ (W b = 43 ∨ W b = 45)) ∧ (K (b + 1) = 3 ∧ au_bn (K (b + 2)) (W (b + 2)) ≠ 7) := by simpa [lc_ad, lc_al] using hy2
            have p3 := hP b (by omega)
            have p4 := hP (b + 1) (by omega)
            have := lc_s_len 9 (lc_sg K W b)
            have e : P (b + 1 + 1) = P (b + 2) := rfl
            refine ⟨by omega, by omega, ?_⟩
            rw [List.length_cons]
            omega
          · cases h
            refine ⟨by omega, by omega, ?_⟩
            rw [List.length_cons, lc_s_0]
            omega
theorem lc_pr_P (hP : tk_P K W P) {l : Nat} (hl : 1 ≤ l) {sub : Nat → Option (Nat × List Int)} (hs : ∀ t t1 c, sub t = some (t1, c) → t < t1 ∧ P t < P t1 ∧ c.length + 3 * P t ≤ 3 * P t1) : ∀ (n t : Nat) (c : List Int) (t1 : Nat) (c1 : List Int), lc_pr sub K W l n t c = some (t1, c1) → t ≤ t1 ∧ P t ≤ P t1 ∧ c1.length + 3 * P t ≤ c.length + 3 * P t1 := by
  intro n
  induction n with
  | zero => intro t c t1 c1 h; cases h
  | succ n ih =>
    intro t c t1 c1 h
    rw [lc_pr] at h
    split at h
    · rename_i hb
      have hk : K t ≠ 0 := fun e => by rw [e, au_bn_k0] at hb; omega
      have p := hP t hk
      split at h
      · rename_i ha
        have ha2 : (l = 6 ∧ W t = 43) ∧ lc_al K W (t + 1) = true := by simpa using ha
        have hal : K (t + 1) = 3 ∧ au_bn (K (t + 1 + 1)) (W (t + 1 + 1)) ≠ 7 := by simpa [lc_al] using ha2.2
        have p2 := hP (t + 1) (by omega)
        have e : P (t + 1 + 1) = P (t + 2) := rfl
        have k := ih _ _ _ _ h
        rw [List.length_append, List.length_cons] at k
        have hu := lc_u_len 9 (W (t + 1))
        refine ⟨by omega, by omega, ?_⟩
        rcases Nat.lt_or_ge (P (t + 1) + 2) (P (t + 2)) with h2 | h2
        · omega
        · have := p2.2.1 hal.1 h2
          have := lc_u_1 (n := 9) (v := W (t + 1)) (by omega)
          omega
      · split at h
        · cases h
        · rename_i t2 c2 hq
          have q := hs _ _ _ hq
          split at h
          · cases h
            simp only [List.length_append, List.length_cons, List.length_nil]
            omega
          · have k := ih _ _ _ _ h
            simp only [List.length_append, List.length_cons, List.length_nil] at k
            omega
    · cases h
      omega
theorem lc_ps_P (hP : tk_P K W P) : ∀ (f l : Nat) (o : Int) (t t1 : Nat) (c : List Int), lc_ps K W f l o t = some (t1, c) → t < t1 ∧ P t < P t1 ∧ c.length + 3 * P t ≤ 3 * P t1 := by
  intro f
  induction f with
  | zero => intro l o t t1 c h; cases h
  | succ f ih =>
    intro l o t t1 c h
    rw [lc_ps] at h
    split at h
    · split at h
      · cases h
      · rename_i t2 c2 hq
        have q := ih _ _ _ _ _ hq
        split at h
        · rename_i h63
          have p1 := hP t2 (by omega)
          split at h
          · cases h
          · split at h
            · cases h
            · rename_i t3 c3 hq2
              have q2 := ih _ _ _ _ _ hq2
              split at h
              · rename_i h58
                have p2 := hP t3 (by omega)
                split at h
                · cases h
                · rename_i t4 c4 hq3
                  have q3 := ih _ _ _ _ _ hq3
                  cases h
                  simp only [lc_ch, List.length_append, List.length_cons, lc_by_len]
                  omega
              · cases h
        · cases h
          exact q
    · split at h
      · split at h
        · rename_i hu
          have hk : K t ≠ 0 := fun e => by rw [e, lc_uy_k0] at hu; cases hu
          have p1 := hP t hk
          split at h
          · cases h
          · split at h
            · cases h
            · rename_i t2 c2 hq
              have q := ih _ _ _ _ _ hq
              cases h
              have hu2 := lc_un_len (K t) (W t)
              rw [List.length_append]
              omega
        · split at h
          · rename_i h40
            have p1 := hP t (by omega)
            split at h
            · cases h
            · split at h
              · cases h
              · rename_i t2 c2 hq
                have q := ih _ _ _ _ _ hq
                split at h
                · rename_i h41
                  have p2 := hP t2 (by omega)
                  cases h
                  omega
                · cases h
          · exact lc_at_P hP h
      · rename_i hl0 hl8
        split at h
        · cases h
        · rename_i t2 c2 hq
          have q : t < t2 ∧ P t < P t2 ∧ c2.length + 3 * P t ≤ 3 * P t2 := by
            split at hq
            · exact lc_at_P hP hq
            · exact ih _ _ _ _ _ hq
          have k := lc_pr_P hP (by omega) (fun t t1 c => ih _ _ t t1 c) _ _ _ _ _ h
          omega
theorem lp_bl_P (hP : tk_P K W P) : ∀ (f m t t1 : Nat) (c : List Int), lp_bl K W f m t = some (t1, c) → t ≤ t1 ∧ P t ≤ P t1 ∧ c.length + 3 * P t ≤ 3 * P t1 := by
  intro f
  induction f with
  | zero => intro m t t1 c h; cases h
  | succ f ih =>
    intro m t t1 c h
    rw [lp_bl] at h
    split at h
    · rename_i h3
      have p1 := hP t (by omega)
      split at h
      · cases h
      · split at h
        · cases h
        · split at h
          · cases h
          · rename_i t2 c2 hq
            have q := ih _ _ _ _ hq
            cases h
            rw [List.length_cons]
            omega
    · cases h
      simp
theorem lp_pl_P (hP : tk_P K W P) {f : Nat} {o : Int} {t t1 : Nat} {c : List Int} (hi : lp_is (K t) (W t) = true) (h : lp_pl K W f o t = some (t1, c)) : t < t1 ∧ P t + 2 ≤ P t1 ∧ c.length + 3 * P t ≤ 3 * P t1 := by
  have hi2 : (K t = 5 ∧ W t = 91) ∨ (K t = 2 ∧ (W t = 0 ∨ W t = 1 ∨ W t = 2 ∨ W t = 3)) := by simpa [lp_is] using hi
  have p1 := hP t (by omega)
  unfold lp_pl at h
  split at h
  · split at h
    · cases h
    · split at h
      · cases h
      · rename_i t2 c2 hq
        have q := lc_ps_P hP _ _ _ _ _ _ hq
        split at h
        · rename_i h93
          have p2 := hP t2 (by omega)
          cases h
          omega
        · cases h
  · rename_i h91
    have p2 := p1.2.2.2.1 (by omega)
    split at h
    · split at h
      · rename_i h3
        have p3 := hP (t + 1) (by omega)
        cases h
        have e : P (t + 1 + 1) = P (t + 2) := rfl
        simp only [List.length_cons, List.length_nil]
        omega
      · cases h
    · split at h
      · split at h
        · cases h
        · rename_i t2 c2 hq
          have q := lc_ps_P hP _ _ _ _ _ _ hq
          cases h
          simp only [List.length_append, List.length_cons, List.length_nil]
          omega
      · split at h
        · split at h
          · split at h
            · cases h
            · rename_i t2 c2 hq
              have q := lp_bl_P hP _ _ _ _ _ hq
              cases h
              simp only [List.length_cons]
              omega
          · cases h
        · cases h
          simp
          omega
theorem lp_pt_P (hP : tk_P K W P) {f : Nat} : ∀ (g m t t1 : Nat) (c : List Int), lp_pt K W f g m t = some (t1, c) → t < t1 ∧ P t + 2 ≤ P t1 ∧ c.length + 3 * P t ≤ 3 * P t1 := by
  intro g
  induction g with
  | zero => intro m t t1 c h; cases h
  | succ g ih =>
    intro m t t1 c h
    rw [lp_pt] at h
    split at h
    · rename_i hi
      split at h
      · cases h
      · rename_i t2 c2 hq
        have q := lp_pl_P hP hi.1 hq
        split at h
        · rename_i h47
          have p1 := hP t2 (by omega)
          have p2 := hP (t2 + 1) (by omega)
          have e1 : P (t2 + 1 + 1) = P (t2 + 2) := rfl
          have hu := lc_u_1 (n := 9) (v := W (t2 + 1)) (by omega)
          split at h
          · rename_i h44
            have p3 := hP (t2 + 2) (by omega)
            have e2 : P (t2 + 2 + 1) = P (t2 + 3) := rfl
            split at h
            · cases h
            · rename_i t3 c3 hq2
              have q2 := ih _ _ _ _ hq2
              cases h
              simp only [List.length_append, List.length_cons]
              omega
          · split at h
            · rename_i h125
              have p3 := hP (t2 + 2) (by omega)
              have e2 : P (t2 + 2 + 1) = P (t2 + 3) := rfl
              cases h
              simp only [List.length_append, List.length_cons]
              omega
            · cases h
        · cases h
    · cases h
theorem lp_lc_P (hP : tk_P K W P) {f t t1 : Nat} {c : List Int} (h : lp_lc K W f t = some (t1, c)) : t < t1 ∧ P t + 2 ≤ P t1 ∧ c.length + 3 * P t ≤ 3 * P t1 := by
  unfold lp_lc at h
  split at h
  · rename_i h123
    have p1 := hP t (by omega)
    have q := lp_pt_P hP _ _ _ _ _ h
    omega
  · split at h
    · rename_i hi
      exact lp_pl_P hP hi h
    · cases h
theorem lp_rw_P (hP : tk_P K W P) {f : Nat} : ∀ (g m t t1 m1 : Nat) (c : List Int) (b : Bool), lp_rw K W f g m t = some (t1, m1, c, b) → t < t1 ∧ P t < P t1 ∧ c.length + 4 + 4 * P t ≤ 4 * P t1 := by
  intro g
  induction g with
  | zero => intro m t t1 m1 c b h; cases h
  | succ g ih =>
    intro m t t1 m1 c b h
    rw [lp_rw] at h
    split at h
    · rename_i hr
      have p1 := hP t (by omega)
      have p2 := hP (t + 1) (by omega)
      have p3 := hP (t + 2) (by omega)
      have p4 := hP (t + 3) (by omega)
      have p5 := p2.2.2.2.2 ⟨hr.2.2.1, hr.2.2.2.1⟩
      have e1 : P (t + 1 + 1) = P (t + 2) := rfl
      have e2 : P (t + 2 + 1) = P (t + 3) := rfl
      have e3 : P (t + 3 + 1) = P (t + 4) := rfl
      split at h
      · cases h
      · rename_i t2 c2 hq
        have q := lp_lc_P hP hq
        split at h
        · rename_i h44
          have p6 := hP t2 (by omega)
          split at h
          · cases h
          · rename_i t3 m3 c3 b3 hq2
            have q2 := ih _ _ _ _ _ _ hq2
            cases h
            simp only [List.length_append, lc_by_len]
            omega
        · cases h
          simp only [List.length_append, lc_by_len]
          omega
    · cases h
theorem lp_bd_P (hP : tk_P K W P) {f t t1 m : Nat} {c : List Int} {b : Bool} (h : lp_bd K W f t = some (t1, m, c, b)) : t < t1 ∧ P t < P t1 ∧ c.length + 4 * P t ≤ 12 + 4 * P t1 := by
  unfold lp_bd at h
  split at h
  · split at h
    · cases h
    · rename_i t2 m2 c2 b2 hq
      have q := lp_rw_P hP _ _ _ _ _ _ _ hq
      cases h
      simp only [List.length_append, lc_by_len]
      omega
  · split at h
    · cases h
    · rename_i t2 c2 hq
      have q := lp_lc_P hP hq
      cases h
      omega
end LN
end
section
/-! location, rows. -/
theorem h_up_row {α : Type} {F : Nat → Nat → α} {c k : Nat} {x : α} : h_up F c k x c = va_up (F c) k x := by
  simp [h_up, va_up]
section LO
variable {K W : Nat → Int} {P : Nat → Nat} {n sl : Nat} {SH : Nat → Nat × Nat} {FI : Nat → Nat → Int32} {FL : Nat → Nat → Int64} {FR : Nat → Nat → Option Nat} {t T f : Nat} {o : Int} {B : List Int} {s : hS}
theorem tk_place (hd : d_vw K W FI FL t o B) : (fX12_isPlace SH FI FL FR).toInt = 0 ↔ lp_is (K t) (W t) = false := by
  unfold fX12_isPlace lp_is
  have h1 := tk_sign (SH := SH) (FR := FR) hd.1 (by decide : ((91 : Int32)).toInt = 91)
  have h2 := tk_word (SH := SH) (FR := FR) hd.1 (by decide : ((0 : Int32)).toInt = 0)
  have h3 := tk_word (SH := SH) (FR := FR) hd.1 (by decide : ((1 : Int32)).toInt = 1)
  have h4 := tk_word (SH := SH) (FR := FR) hd.1 (by decide : ((2 : Int32)).toInt = 2)
  have h5 := tk_word (SH := SH) (FR := FR) hd.1 (by decide : ((3 : Int32)).toInt = 3)
  have z1 : ((1 : Int32)).toInt ≠ 0 := by decide
  have z0 : ((0 : Int32)).toInt = 0 := by decide
  rw [decide_eq_false_iff_not]
  split
  · rename_i g1
    split
    · rename_i g2
      split
      · rename_i g3
        split
        · rename_i g4
          split
          · rename_i g5
            rw [h1] at g1
            rw [h2] at g2
            rw [h3] at g3
            rw [h4] at g4
            rw [h5] at g5
            exact ⟨fun _ => by omega, fun _ => z0⟩
          · rename_i g5
            rw [h5] at g5
            exact ⟨fun h => absurd h z1, fun h => absurd (fun e => h (Or.inr ⟨e.1, Or.inr (Or.inr (Or.inr e.2))⟩)) g5⟩
        · rename_i g4
          rw [h4] at g4
          exact ⟨fun h => absurd h z1, fun h => absurd (fun e => h (Or.inr ⟨e.1, Or.inr (Or.inr (Or.inl e.2))⟩)) g4⟩
      · rename_i g3
        rw [h3] at g3
        exact ⟨fun h => absurd h z1, fun h => absurd (fun e => h (Or.inr ⟨e.1, Or.inr (Or.inl e.2)⟩)) g3⟩
    · rename_i g2
      rw [h2] at g2
      exact ⟨fun h => absurd h z1, fun h => absurd (fun e => h (Or.inr ⟨e.1, Or.inl e.2⟩)) g2⟩
  · rename_i g1
    rw [h1] at g1
    exact ⟨fun h => absurd h z1, fun h => absurd (fun e => h (Or.inl e)) g1⟩
/-- the location's length is looked at -/
theorem d_235 {l1 : Int32} {c : List Int} {v : Unit} {md : Nat} (h : RX12_location_235 l1 n sl SH FI FL FR v s) (hl1 : l1 = Int32.ofNat B.length) (hc : c.length < 2000000000) (hd : d_vw K W FI FL t o (B ++ c)) (hm : (FI 121 78).toInt = md) : d_vw K W s.2.2.2.1 s.2.2.2.2.1 t o (B ++ c) ∧ s.2.2.2.1 163 = (if 300 < c.length then va_up (FI 163) md 1 else FI 163) := by
  have e1 : (FI 121 73 - l1).toInt = c.length := by
    rw [hd.2.2.2.1, hl1, List.length_append, Int32.ofNat_add, Int32.add_comm, Int32.add_sub_cancel, i_lit (by omega)]
  have c300 : ((300 : Int32)).toInt = 300 := by decide
  have hm2 : (FI 121 78).toInt.toNat = md := by omega
  rcases h with ⟨h1, h⟩ | ⟨h1, h⟩
  · obtain ⟨-, -, rfl⟩ := h
    rw [e1, c300] at h1
    rw [if_pos (by omega)]
    refine ⟨d_ce hd (by decide) (by decide) (by decide), ?_⟩
    try dsimp only
    rw [hm2, h_up_row]
    rfl
  · obtain ⟨-, rfl⟩ := h
    rw [e1, c300] at h1
    rw [if_neg (by omega)]
    exact ⟨hd, rfl⟩
/-- what place, need, emit, unsigned leave alone -/
def z_k (FI F2 : Nat → Nat → Int32) : Prop := F2 163 = FI 163 ∧ F2 121 78 = FI 121 78
theorem z_rf {F : Nat → Nat → Int32} : z_k F F := ⟨rfl, rfl⟩
theorem z_tr {F F2 F3 : Nat → Nat → Int32} (h : z_k F F2) (h2 : z_k F2 F3) : z_k F F3 := ⟨h2.1.trans h.1, h2.2.trans h.2⟩
theorem z_kq {m : k_M} {a b : hS} (h : kq m a b) (h1 : k_no m 163 = true) (h2 : k_in m.1 m.2.1 121 78 = false) : z_k a.2.2.2.1 b.2.2.2.1 := ⟨kq_cell h h1, kq_fld h h2⟩
theorem z_fl {F : Nat → Nat → Int32} {k : Nat} {x : Int32} (h : k ≠ 78) : z_k F (h_up F 121 k x) := ⟨h_up_nc (by decide), h_up_x (by rintro ⟨-, e⟩; exact h e.symm)⟩
theorem d_pt (hg : tk_rg K W) (hT : K T = 0) (hT2 : T ≤ 1001) (hf : 12 * T + 20 < f) {l1 : Int32} : ∀ (g : Nat) (l2 l3 : Int32) (n sl : Nat) (SH : Nat → Nat × Nat) (FI : Nat → Nat → Int32) (FL : Nat → Nat → Int64) (FR : Nat → Nat → Option Nat) (v : Unit) (s : hS) (g2 m t : Nat) (B : List Int), GX12_location_22 g l1 l2 l3 n sl SH FI FL FR v s → h_S n SH → l3.toInt ≠ 0 → l2.toInt = m → m ≤ 8 → 9 - m ≤ g2 → t ≤ T → d_vw K W FI FL t 1 B → match lp_pt K W f g2 m t with
    | none => (s.2.2.2.1 121 69).toInt ≠ 0
    | some (t1, c) => t < t1 ∧ t1 ≤ T ∧ ∃ n2 sl2 SH2 FI2 FL2 FR2, RX12_location_235 l1 n2 sl2 SH2 FI2 FL2 FR2 v s ∧ d_vw K W FI2 FL2 t1 0 (B ++ c) ∧ z_k FI FI2 := by
  intro g
  induction g with
  | zero => intro l2 l3 n sl SH FI FL FR v s g2 m t B h; exact h.elim
  | succ g ih =>
    intro l2 l3 n sl SH FI FL FR v s g2 m t B h hS h3 hl2 hm hg2 ht hd
    have c3 : ((3 : Int32)).toInt = 3 := by decide
    have c8 : ((8 : Int32)).toInt = 8 := by decide
    have c64 : ((64 : Int64)).toInt = 64 := by decide
    cases g2 with
    | zero => omega
    | succ g2 =>
      rw [lp_pt]
      have bad60 : ∀ (n sl : Nat) (SH : Nat → Nat × Nat) (FI : Nat → Nat → Int32) (FL : Nat → Nat → Int64) (FR : Nat → Nat → Option Nat), RX12_location_60 (GX12_location_22 g) l1 l2 n sl SH FI FL FR v s → (FI 121 69).toInt ≠ 0 → (s.2.2.2.1 121 69).toInt ≠ 0 := by
        intro n sl SH FI FL FR h hz
        rcases h with ⟨h1, h⟩ | ⟨h1, h⟩
        · exact absurd h1 hz
        · obtain ⟨-, rfl⟩ := h
          exact hz
      have bad131 : ∀ (n sl : Nat) (SH : Nat → Nat × Nat) (FI : Nat → Nat → Int32) (FL : Nat → Nat → Int64) (FR : Nat → Nat → Option Nat), RX12_location_131 (GX12_location_22 g) l1 l2 n sl SH FI FL FR v s → (FI 121 69).toInt ≠ 0 → (s.2.2.2.1 121 69).toInt ≠ 0 := by
        intro n sl SH FI FL FR h hz
        rcases h with ⟨h1, h⟩ | ⟨h1, h⟩
        · exact absurd h1 hz
        · obtain ⟨-, rfl⟩ := h
          exact hz
      have bad103 : ∀ (n sl : Nat) (SH : Nat → Nat × Nat) (FI : Nat → Nat → Int32) (FL : Nat → Nat → Int64) (FR : Nat → Nat → Option Nat), RX12_location_103 (GX12_location_22 g) l1 l2 n sl SH FI FL FR v s → (FI 121 69).toInt ≠ 0 → (s.2.2.2.1 121 69).toInt ≠ 0 := by
        intro n sl SH FI FL FR h hz
        rcases h with ⟨h1, h⟩ | ⟨h1, h⟩
        · exact absurd h1 hz
        · exact bad131 _ _ _ _ _ _ h hz
      rcases h with ⟨h1, h⟩ | ⟨h1, h⟩
      · exact absurd h1 h3
      · rcases h with ⟨h2, h⟩ | ⟨h2, h⟩
        · rcases h with ⟨h4, h⟩ | ⟨h4, h⟩
          · rw [tk_place hd] at h4
            rw [if_neg (by rw [h4]; simp)]
            obtain ⟨v4, n4, sl4, SH4, FI4, FL4, FR4, hc, h⟩ := h
            exact bad60 _ _ _ _ _ _ h (f_fault hc (by decide))
          · rw [tk_place hd] at h4
            have hi : lp_is (K t) (W t) = true := by
              cases e : lp_is (K t) (W t) with
              | true => rfl
              | false => exact absurd e h4
            rcases h with ⟨h5, h⟩ | ⟨h5, h⟩
            · rw [hl2, c8] at h5
              rw [if_neg (by rintro ⟨-, h⟩; omega)]
              obtain ⟨v4, n4, sl4, SH4, FI4, FL4, FR4, hc, h⟩ := h
              exact bad60 _ _ _ _ _ _ h (f_fault hc (by decide))
            · rw [hl2, c8] at h5
              rw [if_pos ⟨hi, by omega⟩]
              rcases h with ⟨h6, h⟩ | ⟨h6, h⟩
              · obtain ⟨v4, n4, sl4, SH4, FI4, FL4, FR4, hc, v5, n5, sl5, SH5, FI5, FL5, FR5, hn, h⟩ := h
                have kc := kX12_place hc
                have kn := kX12_need hn
                have zc : z_k FI FI4 := z_kq kc (by decide) (by decide)
                have zn : z_k FI4 FI5 := z_kq kn (by decide) (by decide)
                have hS5 : h_S n5 SH5 := by rw [show n5 = n4 from kn.1, show n4 = n from kc.1, show SH5 = SH4 from kn.2.2.1, show SH4 = SH from kc.2.2.1]; exact hS
                have bad5 : (FI5 121 69).toInt ≠ 0 → (s.2.2.2.1 121 69).toInt ≠ 0 := by
                  intro hz
                  rcases h with ⟨h7, h⟩ | ⟨h7, h⟩
                  · exact absurd h7 hz
                  · exact bad103 _ _ _ _ _ _ h hz
                have q := d_place hc hS hg hT hT2 ht hf hd (by decide) (by decide) hi
                generalize lp_pl K W f 1 t = r at q
                match r, q with
                | none, q => exact bad5 (kn.2.2.2.2.2.2 q)
                | some (t1, c), ⟨q1, q2, q3⟩ =>
                  dsimp only
                  rcases q3 with ⟨q3, q4⟩ | q4
                  · rw [if_neg (by rintro ⟨e1, e2, -⟩; rw [e1, e2] at q3; exact absurd q3 (by decide))]
                    exact bad5 (kn.2.2.2.2.2.2 q4)
                  · rcases d_need hn (by decide : ((47 : Int32)).toInt = 47) q4 (by omega) with ⟨g3, g4, g5⟩ | ⟨g3, g4⟩
                    · have ht1 := lt_T hT q2 (by omega)
                      have hK : (FI5 149 (FI5 121 68).toInt.toNat).toInt = K (t1 + 1) := by rw [tk_i g5.1, tk_K g5.1]
                      have hW : (FL5 150 (FI5 121 68).toInt.toNat).toInt = W (t1 + 1) := by rw [tk_i g5.1, tk_W g5.1]
                      rcases h with ⟨h7, h⟩ | ⟨h7, h⟩
                      · obtain ⟨-, h⟩ := h
                        rcases h with ⟨h8, h⟩ | ⟨h8, h⟩
                        · rw [hK, c3] at h8
                          have hr := (hg (t1 + 1)).1 h8
                          have ht2 := lt_T hT ht1 (by omega)
                          rcases h with ⟨h9, h⟩ | ⟨h9, h⟩
                          · obtain ⟨-, h⟩ := h
                            rcases h with ⟨h10, h⟩ | ⟨h10, h⟩
                            · rw [hW, c64] at h10
                              rw [if_neg (by omega)]
                              obtain ⟨v6, n6, sl6, SH6, FI6, FL6, FR6, hx, h⟩ := h
                              exact bad131 _ _ _ _ _ _ h (f_fault hx (by decide))
                            · rw [hW, c64] at h10
                              rw [if_pos ⟨g3, g4, h8, by omega⟩]
                              rcases h with ⟨h11, h⟩ | ⟨h11, h⟩
                              · obtain ⟨v6, n6, sl6, SH6, FI6, FL6, FR6, hx, -, v7, n7, sl7, SH7, FI7, FL7, FR7, hy, h⟩ := h
                                have kx := kX12_emit hx
                                have ky := kX12_unsigned hy
                                have zx : z_k FI5 FI6 := z_kq kx (by decide) (by decide)
                                have zy : z_k FI6 FI7 := z_kq ky (by decide) (by decide)
                                have r1 := d_em (a := (n5, sl5, SH5, FI5, FL5, FR5)) (b := (n6, sl6, SH6, FI6, FL6, FR6)) g5 kx (em_emit (b := 147) hx (by decide)) (by decide)
                                have hW6 : (FL6 150 (FI6 121 68).toInt.toNat).toInt = W (t1 + 1) := by rw [tk_i r1.1, tk_W r1.1]
                                have ey := em_unsigned hy (by rw [hW6]; omega)
                                rw [hW6] at ey
                                have r2 := d_em (a := (n6, sl6, SH6, FI6, FL6, FR6)) (b := (n7, sl7, SH7, FI7, FL7, FR7)) r1 ky ey (by decide)
                                have r3 := d_ti r2 (tk_n1 r2.1) (by omega)
                                have e1 : B ++ c ++ [147] ++ lc_u 9 (W (t1 + 1)) = B ++ (c ++ 147 :: lc_u 9 (W (t1 + 1))) := by simp
                                rw [e1] at r3
                                have hS7 : h_S n7 SH7 := by rw [show n7 = n6 from ky.1, show n6 = n5 from kx.1, show SH7 = SH6 from ky.2.2.1, show SH6 = SH5 from kx.2.2.1]; exact hS5
                                have zz := z_tr (z_tr (z_tr (z_tr zc zn) zx) zy) (z_fl (k := 68) (x := FI7 121 68 + 1) (by decide))
                                have hsg := tk_sign (SH := SH7) (FR := FR7) r3.1 (by decide : ((44 : Int32)).toInt = 44)
                                rcases h with ⟨h12, h⟩ | ⟨h12, h⟩
                                · have n44 := hsg.mp h12
                                  rw [if_neg n44]
                                  -- the last part: '}' is wanted
                                  cases g with
                                  | zero => exact h.elim
                                  | succ g =>
                                    rcases h with ⟨h13, h⟩ | ⟨h13, h⟩
                                    · obtain ⟨v8, n8, sl8, SH8, FI8, FL8, FR8, hz, h⟩ := h
                                      have kz := kX12_need hz
                                      rcases d_need hz (by decide : ((125 : Int32)).toInt = 125) r3 (by omega) with ⟨w3, w4, w5⟩ | ⟨w3, w4⟩
                                      · rw [if_pos ⟨w3, w4⟩]
                                        have ht3 : t1 + 3 ≤ T := lt_T (t := t1 + 2) hT ht2 (by have w3b : K (t1 + 2) = 5 := w3; omega)
                                        refine ⟨by omega, ht3, n8, sl8, SH8, _, FL8, FR8, h, d_op (o1 := 0) w5 (by rw [i_sub w5.2.2.1 (by decide : ((1 : Int32)).toInt = 1) (by decide) (by decide)]; rfl), z_tr (z_tr zz (z_kq kz (by decide) (by decide))) (z_fl (by decide))⟩
                                      · rw [if_neg w3]
                                        refine (kX12_location_235 h).2.2.2.2.2.2 ?_
                                        try dsimp only
                                        rw [h_up_x (by decide)]
                                        exact w4
                                    · exact absurd h12 h13
                                · have h44 : K (t1 + 2) = 5 ∧ W (t1 + 2) = 44 := Classical.byContradiction (fun hn => h12 (hsg.mpr hn))
                                  rw [if_pos h44]
                                  have ht3 : t1 + 3 ≤ T := lt_T (t := t1 + 2) hT ht2 (by omega)
                                  have r4 := d_ti r3 (x := (FI7 121 68 + 1) + 1) (t1 := t1 + 3) (by
                                    rw [i_add (tk_n1 r2.1) (by decide : ((1 : Int32)).toInt = 1) (by omega) (by omega)]; omega) (by omega)
                                  have k := ih (l2 + 1) _ n7 sl7 SH7 _ FL7 FR7 v s g2 (m + 1) (t1 + 3) (B ++ (c ++ 147 :: lc_u 9 (W (t1 + 1)))) h hS7 h12 (by rw [i_add hl2 (by decide : ((1 : Int32)).toInt = 1) (by omega) (by omega)]; omega) (by omega) (by omega) ht3 r4
                                  generalize lp_pt K W f g2 (m + 1) (t1 + 3) = r at k
                                  match r, k with
                                  | none, k => exact k
                                  | some (t2, c2), ⟨k1, k2, n8, sl8, SH8, FI8, FL8, FR8, k3, k4, k5⟩ =>
                                    refine ⟨by omega, k2, n8, sl8, SH8, FI8, FL8, FR8, k3, ?_, z_tr (z_tr zz (z_fl (by decide))) k5⟩
                                    have e2 : B ++ (c ++ 147 :: lc_u 9 (W (t1 + 1))) ++ c2 = B ++ (c ++ 147 :: (lc_u 9 (W (t1 + 1)) ++ c2)) := by simp
                                    rw [e2] at k4
                                    exact k4
                              · exact absurd g5.2.1 h11
                          · exact absurd g5.2.1 h9
                        · rw [hK, c3] at h8
                          rw [if_neg (by omega)]
                          obtain ⟨v6, n6, sl6, SH6, FI6, FL6, FR6, hx, h⟩ := h
                          exact bad103 _ _ _ _ _ _ h (f_fault hx (by decide))
                      · exact absurd g5.2.1 h7
                    · rw [if_neg (by rintro ⟨e1, e2, -⟩; exact g3 ⟨e1, e2⟩)]
                      exact bad5 g4
              · exact absurd hd.2.1 h6
        · exact absurd hd.2.1 h2
end LO
end
section
/-! location, to its end. -/
theorem tk_P_le {K W : Nat → Int} {P : Nat → Nat} {T : Nat} (hP : tk_P K W P) (hn : ∀ i, i < T → K i ≠ 0) {i : Nat} : ∀ {j : Nat}, i ≤ j → j ≤ T → P i ≤ P j
  | 0, h, _ => by rw [show i = 0 by omega]; exact Nat.le_refl _
  | j + 1, h, h2 => by
    by_cases e : i = j + 1
    · subst e; exact Nat.le_refl _
    · have := tk_P_le hP hn (i := i) (j := j) (by omega) (by omega)
      have := (hP j (hn j (by omega))).1
      omega
section LO2
variable {K W : Nat → Int} {P : Nat → Nat} {n sl : Nat} {SH : Nat → Nat × Nat} {FI : Nat → Nat → Int32} {FL : Nat → Nat → Int64} {FR : Nat → Nat → Option Nat} {t T f : Nat} {o : Int} {B : List Int} {s : hS}
/-- what is given of the tokens -/
def tk_ok (K W : Nat → Int) (P : Nat → Nat) (T : Nat) : Prop := tk_rg K W ∧ tk_P K W P ∧ K T = 0 ∧ T ≤ 1001 ∧ (∀ i, i < T → K i ≠ 0) ∧ P T ≤ 1000
def q_loc (K W : Nat → Int) (FI : Nat → Nat → Int32) (T md t : Nat) (B : List Int) (s : hS) (r : Option (Nat × List Int)) : Prop := match r with
  | none => (s.2.2.2.1 121 69).toInt ≠ 0
  | some (t1, c) => t < t1 ∧ t1 ≤ T ∧ ((au_bn (K t1) (W t1) = 4 ∧ (s.2.2.2.1 121 69).toInt ≠ 0) ∨ (d_vw K W s.2.2.2.1 s.2.2.2.2.1 t1 0 (B ++ c) ∧ s.2.2.2.1 163 = (if 300 < c.length then va_up (FI 163) md 1 else FI 163)))
theorem d_location {v : Unit} {md : Nat} (h : RX12_location n sl SH FI FL FR v s) (hS : h_S n SH) (hk : tk_ok K W P T) (ht : t ≤ T) (hf : 12 * T + 20 < f) (hd : d_vw K W FI FL t 0 B) (hm : (FI 121 78).toInt = md) : q_loc K W FI T md t B s (lp_lc K W f t) := by
  obtain ⟨hg, hP, hT, hT2, hn, hPT⟩ := hk
  have small : ∀ t1 c, lp_lc K W f t = some (t1, c) → t1 ≤ T → c.length < 2000000000 := by
    intro t1 c e h1
    have q := lp_lc_P hP e
    have q2 := tk_P_le hP hn h1 (Nat.le_refl _)
    omega
  have hl1 := hd.2.2.2.1
  rcases h with ⟨h1, h⟩ | ⟨h1, h⟩
  · rw [tk_sign hd.1 (by decide : ((123 : Int32)).toInt = 123)] at h1
    have e0 : lp_lc K W f t = if lp_is (K t) (W t) = true then lp_pl K W f 0 t else none := by unfold lp_lc; rw [if_neg h1]
    rcases h with ⟨h2, h⟩ | ⟨h2, h⟩
    · rw [tk_place hd] at h2
      rw [e0, if_neg (by rw [h2]; simp)]
      obtain ⟨v4, n4, sl4, SH4, FI4, FL4, FR4, hc, h⟩ := h
      exact (kX12_location_235 h).2.2.2.2.2.2 (f_fault hc (by decide))
    · rw [tk_place hd] at h2
      have hi : lp_is (K t) (W t) = true := by
        cases e : lp_is (K t) (W t) with
        | true => rfl
        | false => exact absurd e h2
      rw [if_pos hi] at e0
      obtain ⟨v4, n4, sl4, SH4, FI4, FL4, FR4, hc, h⟩ := h
      have kc := kX12_place hc
      have zc : z_k FI FI4 := z_kq kc (by decide) (by decide)
      have q := d_place hc hS hg hT hT2 ht hf hd (by decide) (by decide) hi
      rw [e0] at small ⊢
      generalize lp_pl K W f 0 t = r at q small
      match r, q with
      | none, q => exact (kX12_location_235 h).2.2.2.2.2.2 q
      | some (t1, c), ⟨q1, q2, q3⟩ =>
        refine ⟨q1, q2, ?_⟩
        rcases q3 with ⟨q3, q4⟩ | q4
        · exact Or.inl ⟨q3, (kX12_location_235 h).2.2.2.2.2.2 q4⟩
        · have k := d_235 (md := md) h hl1 (small t1 c rfl q2) q4 (by rw [zc.2]; exact hm)
          rw [zc.1] at k
          exact Or.inr k
  · rw [tk_sign hd.1 (by decide : ((123 : Int32)).toInt = 123)] at h1
    have h1' : K t = 5 ∧ W t = 123 := Classical.byContradiction (fun hn => h1 hn)
    have ht1 := lt_T hT ht (by omega)
    have e0 : lp_lc K W f t = lp_pt K W f 20 0 (t + 1) := by unfold lp_lc; rw [if_pos h1']
    obtain ⟨v4, n4, sl4, SH4, FI4, FL4, FR4, hc, g, h⟩ := h
    have kc := kX12_opens hc
    have zc : z_k FI FI4 := z_kq kc (by decide) (by decide)
    have hS4 : h_S n4 SH4 := by rw [show n4 = n from kc.1, show SH4 = SH from kc.2.2.1]; exact hS
    rcases d_opens hc hd (by omega) (by decide) (by decide) with ⟨g1, g2⟩ | ⟨g1, g2⟩
    · exact absurd g1 (by decide)
    · have q := d_pt hg hT hT2 hf g 0 1 n4 sl4 SH4 FI4 FL4 FR4 v s 20 0 (t + 1) B h hS4 (by decide) (by decide) (by decide) (by decide) ht1 g2
      rw [e0] at small ⊢
      generalize lp_pt K W f 20 0 (t + 1) = r at q small
      match r, q with
      | none, q => exact q
      | some (t1, c), ⟨q1, q2, n5, sl5, SH5, FI5, FL5, FR5, q3, q4, q5⟩ =>
        refine ⟨by omega, q2, Or.inr ?_⟩
        have k := d_235 (md := md) q3 hl1 (small t1 c rfl q2) q4 (by rw [q5.2, zc.2]; exact hm)
        rw [q5.1, zc.1] at k
        exact k
end LO2
end
section
/-! rows. -/
section RW
variable {K W : Nat → Int} {P : Nat → Nat} {n sl : Nat} {SH : Nat → Nat × Nat} {FI : Nat → Nat → Int32} {FL : Nat → Nat → Int64} {FR : Nat → Nat → Option Nat} {t T f : Nat} {o : Int} {B : List Int} {s : hS}
/-- a location's length is written ahead of it -/
theorem e_patch2 {FI : Nat → Nat → Int32} {B1 B2 : List Int} {x y : Int} {i j : Nat} {a b : Int32} (h : e_vw FI (B1 ++ x :: y :: B2)) (hi : B1.length ≤ 4000 → i = B1.length) (hj : B1.length + 1 ≤ 4000 → j = B1.length + 1) : e_vw (h_up (h_up FI 154 i a) 154 j b) (B1 ++ a.toInt :: b.toInt :: B2) := by
  have h1 := e_patch (y := a) h hi
  have e1 : B1 ++ a.toInt :: y :: B2 = (B1 ++ [a.toInt]) ++ y :: B2 := by simp
  rw [e1] at h1
  have h2 := e_patch (y := b) (i := j) h1 (fun h => by rw [List.length_append] at h ⊢; exact hj h)
  have e2 : (B1 ++ [a.toInt]) ++ b.toInt :: B2 = B1 ++ a.toInt :: b.toInt :: B2 := by simp
  rw [e2] at h2
  exact h2
def q_row (K W : Nat → Int) (FI : Nat → Nat → Int32) (T md t : Nat) (B : List Int) (s : hS) (r : Option (Nat × Nat × List Int × Bool)) : Prop := match r with
  | none => (s.2.2.2.1 121 69).toInt ≠ 0
  | some (t1, m1, c, b) => t < t1 ∧ t1 ≤ T ∧ ((au_bn (K t1) (W t1) = 4 ∧ (s.2.2.2.1 121 69).toInt ≠ 0) ∨ (d_vw K W s.2.2.2.1 s.2.2.2.2.1 t1 0 (B ++ (c ++ (lc_by 0 8 ++ lc_by 0 8))) ∧ (s.2.2.2.1 159 md).toInt = m1 ∧ (∀ i, i ≠ md → s.2.2.2.1 159 i = FI 159 i) ∧ s.2.2.2.1 163 = (if b = true then va_up (FI 163) md 1 else FI 163)))
theorem va_up_up {α : Type} {F : Nat → α} {k : Nat} {x y : α} : va_up (va_up F k x) k y = va_up F k y := by
  funext i
  simp only [va_up]
  split <;> rfl
theorem d_rows (hk : tk_ok K W P T) (hf : 12 * T + 20 < f) {md : Nat} : ∀ (g : Nat) (l1 : Int32) (n sl : Nat) (SH : Nat → Nat × Nat) (FI : Nat → Nat → Int32) (FL : Nat → Nat → Int64) (FR : Nat → Nat → Option Nat) (v : Unit) (s : hS) (g2 m t : Nat) (B : List Int), GX12_rows_2 g l1 n sl SH FI FL FR v s → h_S n SH → l1.toInt ≠ 0 → (FI 121 78).toInt = md → (FI 159 md).toInt = m → m ≤ 8 → 9 - m ≤ g2 → t ≤ T → d_vw K W FI FL t 0 B → q_row K W FI T md t B s (lp_rw K W f g2 m t) := by
  intro g
  induction g with
  | zero => intro l1 n sl SH FI FL FR v s g2 m t B h; exact h.elim
  | succ g ih =>
    intro l1 n sl SH FI FL FR v s g2 m t B h hS hl1 hmd hm hm8 hg2 ht hd
    have hk0 := hk
    obtain ⟨hg, hP, hT, hT2, hn, hPT⟩ := hk0
    have c3 : ((3 : Int32)).toInt = 3 := by decide
    have c8 : ((8 : Int32)).toInt = 8 := by decide
    have c4000 : ((4000 : Int32)).toInt = 4000 := by decide
    cases g2 with
    | zero => omega
    | succ g2 =>
      have hK : (FI 149 (FI 121 68).toInt.toNat).toInt = K t := by rw [tk_i hd.1, tk_K hd.1]
      have hW : (FL 150 (FI 121 68).toInt.toNat).toInt = W t := by rw [tk_i hd.1, tk_W hd.1]
      have hmd2 : (FI 121 78).toInt.toNat = md := by omega
      have bad140 : ∀ (x : Int64) (n sl : Nat) (SH : Nat → Nat × Nat) (FI : Nat → Nat → Int32) (FL : Nat → Nat → Int64) (FR : Nat → Nat → Option Nat), RX12_rows_140 (GX12_rows_2 g) x n sl SH FI FL FR v s → (FI 121 69).toInt ≠ 0 → (s.2.2.2.1 121 69).toInt ≠ 0 := by
        intro x n sl SH FI FL FR h hz
        rcases h with ⟨h1, h⟩ | ⟨h1, h⟩
        · exact absurd h1 hz
        · obtain ⟨-, rfl⟩ := h
          exact hz
      have bad114 : ∀ (x : Int64) (n sl : Nat) (SH : Nat → Nat × Nat) (FI : Nat → Nat → Int32) (FL : Nat → Nat → Int64) (FR : Nat → Nat → Option Nat), RX12_rows_114 (GX12_rows_2 g) x n sl SH FI FL FR v s → (FI 121 69).toInt ≠ 0 → (s.2.2.2.1 121 69).toInt ≠ 0 := by
        intro x n sl SH FI FL FR h hz
        rcases h with ⟨h1, h⟩ | ⟨h1, h⟩
        · exact absurd h1 hz
        · exact bad140 _ _ _ _ _ _ _ h hz
      have bad54 : ∀ (n sl : Nat) (SH : Nat → Nat × Nat) (FI : Nat → Nat → Int32) (FL : Nat → Nat → Int64) (FR : Nat → Nat → Option Nat), RX12_rows_54 (GX12_rows_2 g) n sl SH FI FL FR v s → (FI 121 69).toInt ≠ 0 → (s.2.2.2.1 121 69).toInt ≠ 0 := by
        intro n sl SH FI FL FR h hz
        rcases h with ⟨h1, h⟩ | ⟨h1, h⟩
        · exact absurd h1 hz
        · obtain ⟨-, rfl⟩ := h
          exact hz
      have bad262 : ∀ (n sl : Nat) (SH : Nat → Nat × Nat) (FI : Nat → Nat → Int32) (FL : Nat → Nat → Int64) (FR : Nat → Nat → Option Nat), RX12_rows_262 (GX12_rows_2 g) n sl SH FI FL FR v s → (FI 121 69).toInt ≠ 0 → (s.2.2.2.1 121 69).toInt ≠ 0 := fun n sl SH FI FL FR h hz => (kX12_rows_262 (fun x0 n sl SH FI FL FR v s h => kGX12_rows_2 g x0 n sl SH FI FL FR v s h) h).2.2.2.2.2.2 hz
      -- one row is told: on, or to the end
      have next : ∀ (n sl : Nat) (SH : Nat → Nat × Nat) (F7 : Nat → Nat → Int32) (FL : Nat → Nat → Int64) (FR : Nat → Nat → Option Nat) (t1 : Nat) (c : List Int), RX12_rows_262 (GX12_rows_2 g) n sl SH F7 FL FR v s → h_S n SH → m < 8 → t < t1 → t1 ≤ T → K t = 3 → d_vw K W F7 FL t1 0 (B ++ (lc_by (W t) 8 ++ (lc_by (W (t + 2)) 8 ++ (lc_by c.length 2 ++ c)))) → (F7 121 78).toInt = md → F7 159 = FI 159 → F7 163 = (if 300 < c.length then va_up (FI 163) md 1 else FI 163) → q_row K W FI T md t B s (if K t1 = 5 ∧ W t1 = 44 then
          match lp_rw K W f g2 (m + 1) (t1 + 1) with
          | none => none
          | some (t2, m2, c2, b2) => some (t2, m2, lc_by (W t) 8 ++ (lc_by (W (t + 2)) 8 ++ (lc_by c.length 2 ++ (c ++ c2))), decide (300 < c.length) || b2)
        else some (t1, m + 1, lc_by (W t) 8 ++ (lc_by (W (t + 2)) 8 ++ (lc_by c.length 2 ++ c)), decide (300 < c.length))) := by
        intro n sl SH F7 FL FR t1 c h hS7 hm7 htt ht1 h3 h7 h78 h159 h163
        obtain ⟨-, -, h⟩ := h
        have hmd7 : (F7 121 78).toInt.toNat = md := by omega
        have e159 : (F7 159 md + 1).toInt = ((m + 1 : Nat) : Int) := by
          rw [h159, i_add hm (by decide : ((1 : Int32)).toInt = 1) (by omega) (by omega)]; omega
        rw [hmd7] at h
        have h8 := d_ce (c := 159) (k := md) (x := F7 159 md + 1) h7 (by decide) (by decide) (by decide)
        have hsg := tk_sign (SH := SH) (FR := FR) h8.1 (by decide : ((44 : Int32)).toInt = 44)
        have fin : ∀ h : GX12_rows_2 g 0 n sl SH (h_up F7 159 md (F7 159 md + 1)) FL FR v s, d_vw K W s.2.2.2.1 s.2.2.2.2.1 t1 0 (B ++ ((lc_by (W t) 8 ++ (lc_by (W (t + 2)) 8 ++ (lc_by c.length 2 ++ c))) ++ (lc_by 0 8 ++ lc_by 0 8))) ∧ (s.2.2.2.1 159 md).toInt = ((m + 1 : Nat) : Int) ∧ (∀ i, i ≠ md → s.2.2.2.1 159 i = FI 159 i) ∧ s.2.2.2.1 163 = (if decide (300 < c.length) = true then va_up (FI 163) md 1 else FI 163) := by
          intro h
          cases g with
          | zero => exact h.elim
          | succ g =>
            rcases h with ⟨h9, h⟩ | ⟨h9, h⟩
            · obtain ⟨v1, n1, sl1, SH1, FI1, FL1, FR1, ha, v2, n2, sl2, SH2, FI2, FL2, FR2, hb, h⟩ := h
              obtain ⟨-, rfl⟩ := h
              have ka := kX12_emits ha
              have kb := kX12_emits hb
              have z0 : ((0 : Int64)).toInt = 0 := by decide
              have ea := em_emits (m := 8) ha (by decide) (by decide)
              have eb := em_emits (m := 8) hb (by decide) (by decide)
              rw [z0] at ea eb
              have q1 := d_em (a := (n, sl, SH, _, FL, FR)) (b := (n1, sl1, SH1, FI1, FL1, FR1)) h8 ka ea (by decide)
              have q2 := d_em (a := (n1, sl1, SH1, FI1, FL1, FR1)) (b := (n2, sl2, SH2, FI2, FL2, FR2)) q1 kb eb (by decide)
              have r159 : FI2 159 = h_up F7 159 md (F7 159 md + 1) 159 := by rw [show FI2 159 = FI1 159 from kq_cell kb (by decide), show FI1 159 = h_up F7 159 md (F7 159 md + 1) 159 from kq_cell ka (by decide)]
              have r163 : FI2 163 = F7 163 := by rw [show FI2 163 = FI1 163 from kq_cell kb (by decide), show FI1 163 = h_up F7 159 md (F7 159 md + 1) 163 from kq_cell ka (by decide), h_up_nc (by decide)]
              refine ⟨?_, ?_, fun i hi => ?_, ?_⟩
              · rw [List.append_assoc, List.append_assoc] at q2
                exact q2
              · show (FI2 159 md).toInt = _
                rw [r159, h_up_eq]; exact e159
              · show FI2 159 i = _
                rw [r159, h_up_ne hi, h159]
              · show FI2 163 = _
                rw [r163, h163]
                simp only [decide_eq_true_eq]
            · exact absurd (show ((0 : Int32)).toInt = 0 by decide) h9
        rcases h with ⟨h10, h⟩ | ⟨h10, h⟩
        · rcases h with ⟨h11, h⟩ | ⟨h11, h⟩
          · have n44 := hsg.mp h11
            rw [if_neg n44]
            refine ⟨htt, ht1, Or.inr ?_⟩
            rcases h with ⟨h12, h⟩ | ⟨h12, h⟩
            · exact fin h
            · exact absurd (show ((0 : Int32)).toInt = 0 by decide) h12
          · have h44 : K t1 = 5 ∧ W t1 = 44 := Classical.byContradiction (fun hn => h11 (hsg.mpr hn))
            rw [if_pos h44]
            have ht2 := lt_T hT ht1 (by omega)
            rcases h with ⟨h12, h⟩ | ⟨h12, h⟩
            · exact absurd h12 (by decide)
            · have h9 := d_ti h8 (tk_n1 h8.1) (by omega)
              have k := ih 1 n sl SH _ FL FR v s g2 (m + 1) (t1 + 1) _ h hS7 (by decide) (by rw [h_up_x (by decide), h_up_nc (by decide)]; exact h78) (by rw [h_up_nc (by decide), h_up_eq]; exact e159) (by omega) (by omega) ht2 h9
              generalize lp_rw K W f g2 (m + 1) (t1 + 1) = r at k
              match r, k with
              | none, k => exact k
              | some (t2, m2, c2, b2), ⟨k1, k2, k3⟩ =>
                refine ⟨by omega, k2, ?_⟩
                rcases k3 with k3 | ⟨k3, k4, k5, k6⟩
                · exact Or.inl k3
                · refine Or.inr ⟨?_, k4, fun i hi => ?_, ?_⟩
                  · have e : B ++ (lc_by (W t) 8 ++ (lc_by (W (t + 2)) 8 ++ (lc_by c.length 2 ++ c))) ++ (c2 ++ (lc_by 0 8 ++ lc_by 0 8)) = B ++ (lc_by (W t) 8 ++ (lc_by (W (t + 2)) 8 ++ (lc_by c.length 2 ++ (c ++ c2))) ++ (lc_by 0 8 ++ lc_by 0 8)) := by simp only [List.append_assoc]
                    rw [e] at k3
                    exact k3
                  · rw [k5 i hi, h_up_nc (by decide), h_up_ne hi, h159]
                  · rw [k6, h_up_nc (by decide), h_up_nc (by decide), h163]
                    by_cases hc : 300 < c.length
                    · cases b2
                      · simp [hc]
                      · simp [hc, va_up_up]
                    · cases b2
                      · simp [hc]
                      · simp [hc]
        · exact absurd h7.2.1 h10
      rw [lp_rw]
      rcases h with ⟨h1, h⟩ | ⟨h1, h⟩
      · exact absurd h1 hl1
      · rcases h with ⟨h2, h⟩ | ⟨h2, h⟩
        · obtain ⟨hp0, h⟩ := h
          rcases h with ⟨h3, h⟩ | ⟨h3, h⟩
          · rw [hK, c3] at h3
            have hr := (hg t).1 h3
            have ht1 := lt_T hT ht (by omega)
            obtain ⟨-, h⟩ := h
            rw [hmd2, hm, c8] at h
            rcases h with ⟨h4, h⟩ | ⟨h4, h⟩
            · rw [if_neg (by omega)]
              obtain ⟨v4, n4, sl4, SH4, FI4, FL4, FR4, hc, h⟩ := h
              exact bad54 _ _ _ _ _ _ h (f_fault hc (by decide))
            · rcases h with ⟨h5, h⟩ | ⟨h5, h⟩
              · obtain ⟨-, v4, n4, sl4, SH4, FI4, FL4, FR4, hc, h⟩ := h
                have kc := kX12_need hc
                have hd1 := d_ti hd (tk_n1 hd.1) (by omega)
                have hS4 : h_S n4 SH4 := by rw [show n4 = n from kc.1, show SH4 = SH from kc.2.2.1]; exact hS
                have bad4 : (FI4 121 69).toInt ≠ 0 → (s.2.2.2.1 121 69).toInt ≠ 0 := by
                  intro hz
                  rcases h with ⟨h7, h⟩ | ⟨h7, h⟩
                  · exact absurd h7 hz
                  · exact bad114 _ _ _ _ _ _ _ h hz
                rcases d_need hc (by decide : ((256 : Int32)).toInt = 256) hd1 (by omega) with ⟨g3, g4, g5⟩ | ⟨g3, g4⟩
                · have ht2 := lt_T hT ht1 (by omega)
                  have hK2 : (FI4 149 (FI4 121 68).toInt.toNat).toInt = K (t + 2) := by rw [tk_i g5.1, tk_K g5.1]
                  have hW2 : (FL4 150 (FI4 121 68).toInt.toNat).toInt = W (t + 2) := by rw [tk_i g5.1, tk_W g5.1]
                  rcases h with ⟨h7, h⟩ | ⟨h7, h⟩
                  · obtain ⟨-, h⟩ := h
                    rcases h with ⟨h8, h⟩ | ⟨h8, h⟩
                    · rw [hK2, c3] at h8
                      have hr2 := (hg (t + 2)).1 h8
                      have ht3 : t + 3 ≤ T := lt_T (t := t + 2) hT ht2 (by omega)
                      rcases h with ⟨h9, h⟩ | ⟨h9, h⟩
                      · obtain ⟨-, h⟩ := h
                        rw [hW, hW2] at h
                        rcases h with ⟨h10, h⟩ | ⟨h10, h⟩
                        · rcases h with ⟨h11, h⟩ | ⟨h11, h⟩
                          · obtain ⟨v5, n5, sl5, SH5, FI5, FL5, FR5, he, -, v6, n6, sl6, SH6, FI6, FL6, FR6, hx, v7, n7, sl7, SH7, FI7, FL7, FR7, hy, v8, n8, sl8, SH8, FI8, FL8, FR8, hz, h⟩ := h
                            have ke := kX12_emits he
                            have kx := kX12_emits hx
                            have ky := kX12_need hy
                            have kz := kX12_emits hz
                            have ee := em_emits (m := 8) he (by decide) (by decide)
                            rw [hW] at ee
                            have r1 := d_em (a := (n4, sl4, SH4, FI4, FL4, FR4)) (b := (n5, sl5, SH5, FI5, FL5, FR5)) g5 ke ee (by decide)
                            have hW5 : (FL5 150 (FI5 121 68).toInt.toNat).toInt = W (t + 2) := by rw [tk_i r1.1, tk_W r1.1]
                            have ex := em_emits (m := 8) hx (by decide) (by decide)
                            rw [hW5] at ex
                            have r2 := d_em (a := (n5, sl5, SH5, FI5, FL5, FR5)) (b := (n6, sl6, SH6, FI6, FL6, FR6)) r1 kx ex (by decide)
                            have r3 := d_ti r2 (tk_n1 r2.1) (by omega)
                            have bad8 : (FI8 121 69).toInt ≠ 0 → (s.2.2.2.1 121 69).toInt ≠ 0 := by
                              intro hq
                              rcases h with ⟨h12, h⟩ | ⟨h12, h⟩
                              · exact absurd h12 hq
                              · obtain ⟨-, rfl⟩ := h
                                exact hq
                            rcases d_need hy (by decide : ((58 : Int32)).toInt = 58) r3 (by omega) with ⟨w3, w4, w5⟩ | ⟨w3, w4⟩
                            · have ht4 : t + 4 ≤ T := lt_T (t := t + 3) hT ht3 (by have w3b : K (t + 3) = 5 := w3; omega)
                              rw [if_pos ⟨h3, by omega, g3, g4, h8, h10, w3, w4⟩]
                              have ez := em_emits (m := 2) hz (by decide) (by decide)
                              have e02 : lc_by ((0 : Int64)).toInt 2 = [0, 0] := by decide
                              rw [e02] at ez
                              have r4 := d_em (a := (n7, sl7, SH7, FI7, FL7, FR7)) (b := (n8, sl8, SH8, FI8, FL8, FR8)) w5 kz ez (by decide)
                              have hS8 : h_S n8 SH8 := by rw [show n8 = n7 from kz.1, show n7 = n6 from ky.1, show n6 = n5 from kx.1, show n5 = n4 from ke.1, show SH8 = SH7 from kz.2.2.1, show SH7 = SH6 from ky.2.2.1, show SH6 = SH5 from kx.2.2.1, show SH5 = SH4 from ke.2.2.1]; exact hS4
                              have u78 : FI8 121 78 = FI 121 78 := by
                                rw [show FI8 121 78 = FI7 121 78 from kq_fld kz (by decide), show FI7 121 78 = h_up FI6 121 68 (FI6 121 68 + 1) 121 78 from kq_fld ky (by decide), h_up_x (by decide), show FI6 121 78 = FI5 121 78 from kq_fld kx (by decide), show FI5 121 78 = FI4 121 78 from kq_fld ke (by decide), show FI4 121 78 = h_up FI 121 68 (FI 121 68 + 1) 121 78 from kq_fld kc (by decide), h_up_x (by decide)]
                              have u159 : FI8 159 = FI 159 := by
                                rw [show FI8 159 = FI7 159 from kq_cell kz (by decide), show FI7 159 = h_up FI6 121 68 (FI6 121 68 + 1) 159 from kq_cell ky (by decide), h_up_nc (by decide), show FI6 159 = FI5 159 from kq_cell kx (by decide), show FI5 159 = FI4 159 from kq_cell ke (by decide), show FI4 159 = h_up FI 121 68 (FI 121 68 + 1) 159 from kq_cell kc (by decide), h_up_nc (by decide)]
                              have u163 : FI8 163 = FI 163 := by
                                rw [show FI8 163 = FI7 163 from kq_cell kz (by decide), show FI7 163 = h_up FI6 121 68 (FI6 121 68 + 1) 163 from kq_cell ky (by decide), h_up_nc (by decide), show FI6 163 = FI5 163 from kq_cell kx (by decide), show FI5 163 = FI4 163 from kq_cell ke (by decide), show FI4 163 = h_up FI 121 68 (FI 121 68 + 1) 163 from kq_cell kc (by decide), h_up_nc (by decide)]
                              rcases h with ⟨h12, h⟩ | ⟨h12, h⟩
                              · obtain ⟨v9, n9, sl9, SH9, FI9, FL9, FR9, hL, h⟩ := h
                                have kL := kX12_location hL
                                have q : q_loc K W FI8 T md (t + 4) (B ++ lc_by (W t) 8 ++ lc_by (W (t + 2)) 8 ++ [0, 0]) (n9, sl9, SH9, FI9, FL9, FR9) (lp_lc K W f (t + 4)) := d_location (md := md) (t := t + 4) hL hS8 hk ht4 hf r4 (by rw [u78]; exact hmd)
                                have small : ∀ t1 c, lp_lc K W f (t + 4) = some (t1, c) → t1 ≤ T → c.length ≤ 3000 := by
                                  intro t1 c e h1
                                  have q := lp_lc_P hP e
                                  have q2 := tk_P_le hP hn h1 (Nat.le_refl _)
                                  omega
                                have hS9 : h_S n9 SH9 := by rw [show n9 = n8 from kL.1, show SH9 = SH8 from kL.2.2.1]; exact hS8
                                have u78' : FI9 121 78 = FI 121 78 := by rw [show FI9 121 78 = FI8 121 78 from kq_fld kL (by decide), u78]
                                have u159' : FI9 159 = FI 159 := by rw [show FI9 159 = FI8 159 from kq_cell kL (by decide), u159]
                                have bad9 : (FI9 121 69).toInt ≠ 0 → (s.2.2.2.1 121 69).toInt ≠ 0 := by
                                  intro hq
                                  rcases h with ⟨h13, h⟩ | ⟨h13, h⟩
                                  · exact bad262 _ _ _ _ _ _ h hq
                                  · exact bad262 _ _ _ _ _ _ h.2.2 (by rw [h_up_nc (by decide), h_up_nc (by decide)]; exact hq)
                                generalize lp_lc K W f (t + 4) = r at q small
                                match r, q with
                                | none, q => exact bad9 q
                                | some (t1, c), ⟨q1, q2, q3⟩ =>
                                  dsimp only
                                  rcases q3 with ⟨q3, q4⟩ | ⟨q3, q4⟩
                                  · rw [if_neg (by rintro ⟨e1, e2⟩; rw [e1, e2] at q3; exact absurd q3 (by decide))]
                                    exact ⟨by omega, q2, Or.inl ⟨q3, bad9 q4⟩⟩
                                  · rw [u163] at q4
                                    have hcl := small t1 c rfl q2
                                    have e5 : B ++ lc_by (W t) 8 ++ lc_by (W (t + 2)) 8 ++ [0, 0] ++ c = (B ++ lc_by (W t) 8 ++ lc_by (W (t + 2)) 8) ++ 0 :: 0 :: c := by simp
                                    rw [e5] at q3
                                    have hat : FI7 121 73 = Int32.ofNat (B ++ lc_by (W t) 8 ++ lc_by (W (t + 2)) 8).length := w5.2.2.2.1
                                    have h73 : FI9 121 73 = Int32.ofNat ((B ++ lc_by (W t) 8 ++ lc_by (W (t + 2)) 8) ++ 0 :: 0 :: c).length := q3.2.2.2.1
                                    have e6 : (B ++ lc_by (W t) 8 ++ lc_by (W (t + 2)) 8) ++ (c.length : Int) % 256 :: (c.length : Int) / 256 % 256 :: c = B ++ (lc_by (W t) 8 ++ (lc_by (W (t + 2)) 8 ++ (lc_by c.length 2 ++ c))) := by simp [lc_by]
                                    rcases h with ⟨h13, h⟩ | ⟨h13, h⟩
                                    · have hq3 : d_vw K W FI9 FL9 t1 0 ((B ++ lc_by (W t) 8 ++ lc_by (W (t + 2)) 8) ++ (c.length : Int) % 256 :: (c.length : Int) / 256 % 256 :: c) := by
                                        refine ⟨q3.1, q3.2.1, q3.2.2.1, e_vw_ln q3.2.2.2 (by simp) ?_⟩
                                        rw [c4000, h73] at h13
                                        rcases Nat.lt_or_ge 4000 ((B ++ lc_by (W t) 8 ++ lc_by (W (t + 2)) 8) ++ 0 :: 0 :: c).length with h2 | h2
                                        · exact h2
                                        · rw [i_lit (by omega)] at h13
                                          omega
                                      rw [e6] at hq3
                                      exact next n9 sl9 SH9 FI9 FL9 FR9 t1 c h hS9 (by omega) (by omega) q2 h3 hq3 (by rw [u78']; exact hmd) u159' q4
                                    · replace h := h.2.2
                                      have hx : ((FI9 121 73 - FI7 121 73) - (2 : Int32)).toInt = c.length := by
                                        rw [h73, hat, List.length_append, Int32.ofNat_add, Int32.add_comm, Int32.add_sub_cancel]
                                        rw [i_sub (i_lit (n := (0 :: 0 :: c).length) (by simp only [List.length_cons]; omega)) (by decide : ((2 : Int32)).toInt = 2) (by simp only [List.length_cons]; omega) (by simp only [List.length_cons]; omega)]
                                        simp only [List.length_cons]
                                        omega
                                      have hp2 := e_patch2 (a := ((FI9 121 73 - FI7 121 73) - (2 : Int32)) &&& (255 : Int32)) (b := (((FI9 121 73 - FI7 121 73) - (2 : Int32)) >>> ((8 : Int32) &&& 31)) &&& (255 : Int32)) (i := (FI7 121 73).toInt.toNat) (j := (FI7 121 73 + (1 : Int32)).toInt.toNat) q3.2.2.2 (fun hl => by rw [hat, i_lit (by omega)]; omega) (fun hl => by rw [i_add (show (FI7 121 73).toInt = _ by rw [hat, i_lit (by omega)]) (by decide : ((1 : Int32)).toInt = 1) (by omega) (by omega)]; omega)
                                      rw [i_m255, i_m255, i_sh8 hx, hx, e6] at hp2
                                      refine next n9 sl9 SH9 _ FL9 FR9 t1 c h hS9 (by omega) (by omega) q2 h3 ⟨⟨?_, q3.1.2.1, ?_, q3.1.2.2.2⟩, ?_, ?_, hp2⟩ ?_ ?_ ?_
                                      · rw [h_up_nc (by decide), h_up_nc (by decide)]; exact q3.1.1
                                      · rw [h_up_nc (by decide), h_up_nc (by decide)]; exact q3.1.2.2.1
                                      · rw [h_up_nc (by decide), h_up_nc (by decide)]; exact q3.2.1
                                      · rw [h_up_nc (by decide), h_up_nc (by decide)]; exact q3.2.2.1
                                      · rw [h_up_nc (by decide), h_up_nc (by decide), u78']; exact hmd
                                      · rw [h_up_nc (by decide), h_up_nc (by decide)]; exact u159'
                                      · rw [h_up_nc (by decide), h_up_nc (by decide)]; exact q4
                              · exact absurd r4.2.1 h12
                            · rw [if_neg (by rintro ⟨-, -, -, -, -, -, e1, e2⟩; exact w3 ⟨e1, e2⟩)]
                              exact bad8 (kz.2.2.2.2.2.2 w4)
                          · exact absurd g5.2.1 h11
                        · rw [if_neg (by omega)]
                          obtain ⟨v6, n6, sl6, SH6, FI6, FL6, FR6, hx, h⟩ := h
                          exact bad140 _ _ _ _ _ _ _ h (f_fault hx (by decide))
                      · exact absurd g5.2.1 h9
                    · rw [hK2, c3] at h8
                      rw [if_neg (by omega)]
                      obtain ⟨v6, n6, sl6, SH6, FI6, FL6, FR6, hx, h⟩ := h
                      exact bad114 _ _ _ _ _ _ _ h (f_fault hx (by decide))
                  · exact absurd g5.2.1 h7
                · rw [if_neg (by rintro ⟨-, -, e1, e2, -⟩; exact g3 ⟨e1, e2⟩)]
                  exact bad4 g4
              · exact absurd hd.2.1 h5
          · rw [hK, c3] at h3
            rw [if_neg (by omega)]
            obtain ⟨v4, n4, sl4, SH4, FI4, FL4, FR4, hc, h⟩ := h
            exact bad54 _ _ _ _ _ _ h (f_fault hc (by decide))
        · exact absurd hd.2.1 h2
end RW
end
section
/-! declared. -/
def lp_fl (V : List lp_V) : List Int := (V.map (fun v => v.2.2.2.1)).flatten
theorem lp_fl_snoc {V : List lp_V} {v : lp_V} : lp_fl (V ++ [v]) = lp_fl V ++ v.2.2.2.1 := by simp [lp_fl]
/-- the variables that were told, as they lie in the cells -/
def v_vw (FI : Nat → Nat → Int32) (FL : Nat → Nat → Int64) (V : List lp_V) : Prop := (FI 121 78).toInt = V.length ∧ V.length ≤ 12 ∧ (∀ i v, V[i]? = some v → (FL 158 i).toInt = v.1 ∧ (FI 160 i).toInt = v.2.1 ∧ (FI 159 i).toInt = v.2.2.1 ∧ FI 163 i = (if v.2.2.2.2 = true then 1 else 0) ∧ FI 161 i = Int32.ofNat (lp_fl (V.take i)).length) ∧ (V ≠ [] → FI 161 V.length = Int32.ofNat (lp_fl V).length)
section DC
variable {K W : Nat → Int} {P : Nat → Nat} {n sl : Nat} {SH : Nat → Nat × Nat} {FI : Nat → Nat → Int32} {FL : Nat → Nat → Int64} {FR : Nat → Nat → Option Nat} {t T f : Nat} {o : Int} {B : List Int} {s : hS} {V : List lp_V}
theorem d_names {w : Int} : ∀ (g : Nat) (l1 : Int32) (n sl : Nat) (SH : Nat → Nat × Nat) (FI : Nat → Nat → Int32) (FL : Nat → Nat → Int64) (FR : Nat → Nat → Option Nat) (v : Unit) (s : hS) (i : Nat), GX12_declared_21 g l1 n sl SH FI FL FR v s → l1.toInt = i → i ≤ V.length → V.length ≤ 12 → (FI 121 78).toInt = V.length → (∀ (j : Nat) (v : lp_V), V[j]? = some v → (FL 158 j).toInt = v.1) → (FL 150 (FI 121 68).toInt.toNat).toInt = w → ∃ n2 sl2 SH2 FI2, RX12_declared_74 n2 sl2 SH2 FI2 FL FR v s ∧ n2 = n ∧ SH2 = SH ∧ ((FI2 = FI ∧ (∀ (j : Nat) (v : lp_V), i ≤ j → V[j]? = some v → v.1 ≠ w) ∧ V.length < 12) ∨ ((FI2 121 69).toInt ≠ 0 ∧ ((FI 121 69).toInt ≠ 0 ∨ (∃ (j : Nat) (v : lp_V), V[j]? = some v ∧ v.1 = w) ∨ 12 ≤ V.length))) := by
  intro g
  induction g with
  | zero => intro l1 n sl SH FI FL FR v s i h; exact h.elim
  | succ g ih =>
    intro l1 n sl SH FI FL FR v s i h hl hi h12 hm hN hw
    have c12 : ((12 : Int32)).toInt = 12 := by decide
    rcases h with ⟨h1, h⟩ | ⟨h1, h⟩
    · have hlt : i < V.length := by omega
      obtain ⟨-, -, h⟩ := h
      have hx := hN i V[i] (List.getElem?_eq_getElem hlt)
      have hi2 : l1.toInt.toNat = i := by omega
      rw [hi2, hx, hw] at h
      have hl1 : (l1 + 1).toInt = ((i + 1 : Nat) : Int) := by
        rw [i_add hl (by decide : ((1 : Int32)).toInt = 1) (by omega) (by omega)]; omega
      rcases h with ⟨h2, h⟩ | ⟨h2, h⟩
      · obtain ⟨v2, n2, sl2, SH2, FI2, FL2, FR2, hc, h⟩ := h
        have kc := kX12_fail hc
        have e1 : n2 = n := kc.1
        have e2 : SH2 = SH := kc.2.2.1
        have e3 : FR2 = FR := kc.2.2.2.1
        have e4 : FL2 = FL := by funext a b; exact kc.2.2.2.2.2.1 a b (by simp [k_in])
        subst e1 e2 e3 e4
        obtain ⟨n3, sl3, SH3, FI3, q1, q2, q3, q4⟩ := ih (l1 + 1) n2 sl2 SH2 FI2 FL2 FR2 v s (i + 1) h hl1 (by omega) h12 (by rw [show FI2 121 78 = FI 121 78 from kq_fld kc (by decide)]; exact hm) hN (by rw [show FI2 121 68 = FI 121 68 from kq_fld kc (by decide)]; exact hw)
        refine ⟨n3, sl3, SH3, FI3, q1, q2, q3, Or.inr ⟨?_, Or.inr (Or.inl ⟨i, V[i], List.getElem?_eq_getElem hlt, h2⟩)⟩⟩
        rcases q4 with ⟨q4, -⟩ | ⟨q4, -⟩
        · rw [q4]
          exact f_fault hc (by decide)
        · exact q4
      · obtain ⟨n3, sl3, SH3, FI3, q1, q2, q3, q4⟩ := ih (l1 + 1) n sl SH FI FL FR v s (i + 1) h hl1 (by omega) h12 hm hN hw
        refine ⟨n3, sl3, SH3, FI3, q1, q2, q3, ?_⟩
        rcases q4 with ⟨q4, q5, q6⟩ | q4
        · refine Or.inl ⟨q4, fun j v hj hv => ?_, q6⟩
          by_cases e : j = i
          · subst e
            rw [List.getElem?_eq_getElem hlt] at hv
            cases hv
            exact h2
          · exact q5 j v (by omega) hv
        · exact Or.inr q4
    · have hiv : i = V.length := by omega
      rcases h with ⟨h2, h⟩ | ⟨h2, h⟩
      · obtain ⟨v2, n2, sl2, SH2, FI2, FL2, FR2, hc, h⟩ := h
        have kc := kX12_fail hc
        have e3 : FR2 = FR := kc.2.2.2.1
        have e4 : FL2 = FL := by funext a b; exact kc.2.2.2.2.2.1 a b (by simp [k_in])
        subst e3 e4
        exact ⟨n2, sl2, SH2, FI2, h, kc.1, kc.2.2.1, Or.inr ⟨f_fault hc (by decide), Or.inr (Or.inr (by omega))⟩⟩
      · refine ⟨n, sl, SH, FI, h, rfl, rfl, Or.inl ⟨rfl, fun j v hj hv => ?_, by omega⟩⟩
        exfalso
        have := (List.getElem?_eq_some_iff.mp hv).1
        omega
/-- a declaration's end: the variable is told -/
theorem d_223 {v : Unit} {F0 : Nat → Nat → Int32} {L0 : Nat → Nat → Int64} {st m : Nat} {c : List Int} {b : Bool} {w : Int} {x : Int64} (h : RX12_declared_223 n sl SH FI FL FR v s) (hd : d_vw K W FI FL t o (lp_fl V ++ c)) (ht : t + 1 ≤ 2000) (hv : v_vw F0 L0 V) (h12 : V.length < 12)
    (h78 : FI 121 78 = F0 121 78) (h158 : FL 158 = va_up (L0 158) V.length x) (hw : x.toInt = w) (h160 : ∀ i, i ≠ V.length → FI 160 i = F0 160 i) (h160' : (FI 160 V.length).toInt = st) (h159 : ∀ i, i ≠ V.length → FI 159 i = F0 159 i) (h159' : (FI 159 V.length).toInt = m) (h163 : ∀ i, i ≠ V.length → FI 163 i = F0 163 i) (h163' : FI 163 V.length = if b = true then 1 else 0) (h161 : ∀ i, i ≠ V.length → FI 161 i = F0 161 i) (h161' : FI 161 V.length = Int32.ofNat (lp_fl V).length) :
    if K t = 5 ∧ W t = 59 then d_vw K W s.2.2.2.1 s.2.2.2.2.1 (t + 1) o (lp_fl (V ++ [(w, st, m, c, b)])) ∧ v_vw s.2.2.2.1 s.2.2.2.2.1 (V ++ [(w, st, m, c, b)]) else (s.2.2.2.1 121 69).toInt ≠ 0 := by
  obtain ⟨v0, n0, sl0, SH0, FI0, FL0, FR0, hc, -, -, rfl⟩ := h
  have kc := kX12_need hc
  rcases d_need hc (by decide : ((59 : Int32)).toInt = 59) hd ht with ⟨g1, g2, g3⟩ | ⟨g1, g2⟩
  · rw [if_pos ⟨g1, g2⟩]
    have e78 : (FI0 121 78).toInt = V.length := by rw [show FI0 121 78 = FI 121 78 from kq_fld kc (by decide), h78]; exact hv.1
    have e78' : (FI0 121 78 + (1 : Int32)).toInt = ((V.length + 1 : Nat) : Int) := by
      rw [i_add e78 (by decide : ((1 : Int32)).toInt = 1) (by omega) (by omega)]; omega
    have e78n : (FI0 121 78 + (1 : Int32)).toInt.toNat = V.length + 1 := by omega
    have efl : FL0 = FL := by funext a b; exact kc.2.2.2.2.2.1 a b (by simp [k_in])
    have ce : ∀ c, 155 ≤ c → FI0 c = FI c := by
      intro c hc2
      refine kq_cell kc ?_
      simp [k_no]
      omega
    have g4 := d_ce (c := 161) (k := (FI0 121 78 + (1 : Int32)).toInt.toNat) (x := FI0 121 73) (d_fl (k := 78) (x := FI0 121 78 + 1) g3 (by decide) (by decide) (by decide) (by decide)) (by decide) (by decide) (by decide)
    rw [lp_fl_snoc]
    refine ⟨g4, ?_, ?_, ?_, ?_⟩
    · show ((h_up (h_up FI0 121 78 (FI0 121 78 + 1)) 161 (FI0 121 78 + (1 : Int32)).toInt.toNat (FI0 121 73)) 121 78).toInt = _
      rw [h_up_nc (by decide), h_up_eq, e78', List.length_append]
      rfl
    · rw [List.length_append]
      simp
      omega
    · intro i y hx
      show (FL0 158 i).toInt = y.1 ∧ ((h_up (h_up FI0 121 78 (FI0 121 78 + 1)) 161 (FI0 121 78 + (1 : Int32)).toInt.toNat (FI0 121 73)) 160 i).toInt = y.2.1 ∧ ((h_up (h_up FI0 121 78 (FI0 121 78 + 1)) 161 (FI0 121 78 + (1 : Int32)).toInt.toNat (FI0 121 73)) 159 i).toInt = y.2.2.1 ∧ (h_up (h_up FI0 121 78 (FI0 121 78 + 1)) 161 (FI0 121 78 + (1 : Int32)).toInt.toNat (FI0 121 73)) 163 i = _ ∧ (h_up (h_up FI0 121 78 (FI0 121 78 + 1)) 161 (FI0 121 78 + (1 : Int32)).toInt.toNat (FI0 121 73)) 161 i = _
      have hi := (List.getElem?_eq_some_iff.mp hx).1
      rw [List.length_append] at hi
      have hi' : i < V.length + 1 := hi
      rw [h_up_nc (by decide), h_up_nc (by decide), h_up_nc (by decide), h_up_nc (by decide), h_up_nc (by decide), h_up_nc (by decide), e78n, h_up_ne (by omega), h_up_nc (by decide), efl, h158, ce 160 (by decide), ce 159 (by decide), ce 163 (by decide), ce 161 (by decide)]
      by_cases e : i = V.length
      · subst e
        rw [List.getElem?_append_right (Nat.le_refl _), Nat.sub_self] at hx
        cases hx
        refine ⟨by simp [va_up, hw], h160', h159', h163', ?_⟩
        rw [h161', List.take_left' rfl]
      · rw [List.getElem?_append_left (by omega)] at hx
        have q := hv.2.2.1 i y hx
        rw [h160 i e, h159 i e, h163 i e, h161 i e, List.take_append_of_le_length (by omega)]
        refine ⟨?_, q.2⟩
        simp only [va_up, e, if_false]
        exact q.1
    · intro _
      show (h_up (h_up FI0 121 78 (FI0 121 78 + 1)) 161 (FI0 121 78 + (1 : Int32)).toInt.toNat (FI0 121 73)) 161 _ = _
      rw [e78n, List.length_append, show V.length + [(w, st, m, c, b)].length = V.length + 1 from rfl, h_up_eq, lp_fl_snoc]
      exact g3.2.2.2.1
  · rw [if_neg g1]
    show ((h_up (h_up FI0 121 78 (FI0 121 78 + 1)) 161 (FI0 121 78 + (1 : Int32)).toInt.toNat (FI0 121 73)) 121 69).toInt ≠ 0
    rw [h_up_nc (by decide), h_up_x (by decide)]
    exact g2
end DC
end
section
/-! declared, to its end; the text. -/
def lp_st (K W : Nat → Int) (f t : Nat) (V : List lp_V) : Option (Nat × List lp_V) :=
  if K t = 1 ∧ (∀ v, v ∈ V → v.1 ≠ W t) ∧ V.length < 12 ∧ K (t + 1) = 5 ∧ W (t + 1) = 61 then
    match lp_bd K W f (t + 2) with
    | none => none
    | some (t1, m, c, b) => if K t1 = 5 ∧ W t1 = 59 then some (t1 + 1, V ++ [(W t, t + 2, m, c, b)]) else none
  else none
theorem lp_tx_st {K W : Nat → Int} {f g t : Nat} {V : List lp_V} : lp_tx K W f (g + 1) t V = if K t = 0 then some V else match lp_st K W f t V with
    | none => none
    | some (t1, V1) => lp_tx K W f g t1 V1 := by
  rw [lp_tx]
  unfold lp_st
  by_cases h0 : K t = 0
  · rw [if_pos h0, if_pos h0]
  · rw [if_neg h0, if_neg h0]
    by_cases h1 : K t = 1 ∧ (∀ v, v ∈ V → v.1 ≠ W t) ∧ V.length < 12 ∧ K (t + 1) = 5 ∧ W (t + 1) = 61
    · rw [if_pos h1, if_pos h1]
      cases lp_bd K W f (t + 2) with
      | none => rfl
      | some x =>
        obtain ⟨t1, m, c, b⟩ := x
        dsimp only
        by_cases h2 : K t1 = 5 ∧ W t1 = 59
        · rw [if_pos h2, if_pos h2]
        · rw [if_neg h2, if_neg h2]
    · rw [if_neg h1, if_neg h1]
section DD
variable {K W : Nat → Int} {P : Nat → Nat} {n sl : Nat} {SH : Nat → Nat × Nat} {FI : Nat → Nat → Int32} {FL : Nat → Nat → Int64} {FR : Nat → Nat → Option Nat} {t T f : Nat} {o : Int} {B : List Int} {s : hS} {V : List lp_V}
theorem d_FL {c k : Nat} {x : Int64} (h : d_vw K W FI FL t o B) (hc : c ≠ 150) : d_vw K W FI (h_up FL c k x) t o B := ⟨⟨h.1.1, by rw [h_up_nc (fun e => hc e.symm)]; exact h.1.2.1, h.1.2.2⟩, h.2⟩
theorem d_declared {v : Unit} (h : RX12_declared n sl SH FI FL FR v s) (hS : h_S n SH) (hk : tk_ok K W P T) (hf : 12 * T + 20 < f) (ht : t ≤ T) (hd : d_vw K W FI FL t o (lp_fl V)) (hv : v_vw FI FL V) : match lp_st K W f t V with
    | none => (s.2.2.2.1 121 69).toInt ≠ 0
    | some (t1, V1) => t < t1 ∧ t1 ≤ T ∧ (∃ o1, d_vw K W s.2.2.2.1 s.2.2.2.2.1 t1 o1 (lp_fl V1)) ∧ v_vw s.2.2.2.1 s.2.2.2.2.1 V1 := by
  have hk0 := hk
  obtain ⟨hg, hP, hT, hT2, hn, hPT⟩ := hk0
  have c1 : ((1 : Int32)).toInt = 1 := by decide
  have c3 : ((3 : Int32)).toInt = 3 := by decide
  have hK : (FI 149 (FI 121 68).toInt.toNat).toInt = K t := by rw [tk_i hd.1, tk_K hd.1]
  have hW : (FL 150 (FI 121 68).toInt.toNat).toInt = W t := by rw [tk_i hd.1, tk_W hd.1]
  have hmd : (FI 121 78).toInt.toNat = V.length := by have := hv.1; omega
  obtain ⟨-, h⟩ := h
  rcases h with ⟨h1, h⟩ | ⟨h1, h⟩
  · rw [hK, c1] at h1
    have ht1 := lt_T hT ht (by omega)
    obtain ⟨g, h⟩ := h
    obtain ⟨n2, sl2, SH2, FI2, h74, e1, e2, q⟩ := d_names (V := V) (w := W t) g 0 n sl SH FI FL FR v s 0 h (by decide) (by omega) hv.2.1 hv.1 (fun j v hj => (hv.2.2.1 j v hj).1) hW
    subst e1 e2
    rcases q with ⟨e3, q1, q2⟩ | ⟨q1, q2⟩
    · subst e3
      have hnm : ∀ v, v ∈ V → v.1 ≠ W t := by
        intro v hm
        obtain ⟨j, hj⟩ := List.mem_iff_getElem?.mp hm
        exact q1 j v (by omega) hj
      rcases h74 with ⟨h2, h⟩ | ⟨h2, h⟩
      · obtain ⟨-, -, -, -, -, -, -, v3, n3, sl3, SH3, FI3, FL3, FR3, hc, -, h⟩ := h
        rw [hmd] at hc
        have kc := kX12_need hc
        have hd1 := d_FL (c := 158) (k := V.length) (x := FL 150 (FI2 121 68).toInt.toNat) (d_ti (x := FI2 121 68 + 1) (d_ce (c := 163) (k := V.length) (x := vp_nar .boolean 0) (d_ce (c := 159) (k := V.length) (x := 0) (d_ce (c := 161) (k := V.length) (x := FI2 121 73) (d_ce (c := 162) (k := V.length) (x := FI2 151 (FI2 121 68).toInt.toNat) hd (by decide) (by decide) (by decide)) (by decide) (by decide) (by decide)) (by decide) (by decide) (by decide)) (by decide) (by decide) (by decide)) (tk_n1 hd.1) (by omega)) (by decide)
        have e78 : FI3 121 78 = FI2 121 78 := by
          rw [show FI3 121 78 = _ from kq_fld kc (by decide)]
          dsimp only
          rw [h_up_x (by decide), h_up_nc (by decide), h_up_nc (by decide), h_up_nc (by decide), h_up_nc (by decide)]
        have e160 : FI3 160 = FI2 160 := by
          rw [show FI3 160 = _ from kq_cell kc (by decide)]
          dsimp only
          rw [h_up_nc (by decide), h_up_nc (by decide), h_up_nc (by decide), h_up_nc (by decide), h_up_nc (by decide)]
        have e159 : FI3 159 = va_up (FI2 159) V.length 0 := by
          rw [show FI3 159 = _ from kq_cell kc (by decide)]
          dsimp only
          rw [h_up_nc (by decide), h_up_nc (by decide), h_up_row, h_up_nc (by decide), h_up_nc (by decide)]
        have e161 : FI3 161 = va_up (FI2 161) V.length (FI2 121 73) := by
          rw [show FI3 161 = _ from kq_cell kc (by decide)]
          dsimp only
          rw [h_up_nc (by decide), h_up_nc (by decide), h_up_nc (by decide), h_up_row, h_up_nc (by decide)]
        have e163 : FI3 163 = va_up (FI2 163) V.length 0 := by
          rw [show FI3 163 = _ from kq_cell kc (by decide)]
          dsimp only
          rw [h_up_nc (by decide), h_up_row, h_up_nc (by decide), h_up_nc (by decide), h_up_nc (by decide)]
          rfl
        have e158 : FL3 158 = va_up (FL 158) V.length (FL 150 (FI2 121 68).toInt.toNat) := by
          rw [show FL3 158 = _ from kq_fl kc (by decide)]
          dsimp only
          rw [h_up_row]
        have hS3 : h_S n3 SH3 := by rw [show n3 = n2 from kc.1, show SH3 = SH2 from kc.2.2.1]; exact hS
        have hm3 : (FI3 121 78).toInt = V.length := by rw [e78]; exact hv.1
        have hm3n : (FI3 121 78).toInt.toNat = V.length := by omega
        rw [hm3n] at h
        rcases d_need hc (by decide : ((61 : Int32)).toInt = 61) hd1 (by omega) with ⟨g1, g2, g3⟩ | ⟨g1, g2⟩
        · have ht2 := lt_T hT ht1 (by omega)
          unfold lp_st
          rw [if_pos ⟨h1, hnm, q2, g1, g2⟩]
          rcases h with ⟨h3, h⟩ | ⟨h3, h⟩
          · obtain ⟨-, h⟩ := h
            have hK3 : (FI3 149 (FI3 121 68).toInt.toNat).toInt = K (t + 2) := by rw [tk_i g3.1, tk_K g3.1]
            have g4 := d_op (x := 0) (o1 := 0) (d_ce (c := 160) (k := V.length) (x := FI3 121 68) g3 (by decide) (by decide) (by decide)) (by decide)
            have f160 : ∀ i, i ≠ V.length → (h_up (h_up FI3 160 V.length (FI3 121 68)) 121 71 0) 160 i = FI2 160 i := by
              intro i hi
              rw [h_up_nc (by decide), h_up_ne hi, e160]
            have f160' : ((h_up (h_up FI3 160 V.length (FI3 121 68)) 121 71 0) 160 V.length).toInt = ((t + 2 : Nat) : Int) := by
              rw [h_up_nc (by decide), h_up_eq]
              exact tk_n g3.1
            have f78 : (h_up (h_up FI3 160 V.length (FI3 121 68)) 121 71 0) 121 78 = FI2 121 78 := by
              rw [h_up_x (by decide), h_up_nc (by decide), e78]
            have f159 : (h_up (h_up FI3 160 V.length (FI3 121 68)) 121 71 0) 159 = va_up (FI2 159) V.length 0 := by
              rw [h_up_nc (by decide), h_up_nc (by decide), e159]
            have f161 : (h_up (h_up FI3 160 V.length (FI3 121 68)) 121 71 0) 161 = va_up (FI2 161) V.length (FI2 121 73) := by
              rw [h_up_nc (by decide), h_up_nc (by decide), e161]
            have f163 : (h_up (h_up FI3 160 V.length (FI3 121 68)) 121 71 0) 163 = va_up (FI2 163) V.length 0 := by
              rw [h_up_nc (by decide), h_up_nc (by decide), e163]
            have vne : ∀ {α : Type} {F : Nat → α} {k i : Nat} {x : α}, i ≠ k → va_up F k x i = F i := by
              intro α F k i x hi
              simp [va_up, hi]
            have veq : ∀ {α : Type} {F : Nat → α} {k : Nat} {x : α}, va_up F k x k = x := by
              intro α F k x
              simp [va_up]
            rcases h with ⟨h4, h⟩ | ⟨h4, h⟩
            · rw [hK3, c3] at h4
              obtain ⟨v5, n5, sl5, SH5, FI5, FL5, FR5, ⟨gr, hr⟩, h⟩ := h
              have k5 := kGX12_rows_2 gr _ _ _ _ _ _ _ _ _ hr
              have qr := d_rows (f := f) hk hf (md := V.length) gr 1 n3 sl3 SH3 _ FL3 FR3 v5 (n5, sl5, SH5, FI5, FL5, FR5) 20 0 (t + 2) (lp_fl V) hr hS3 (by decide) (by rw [f78]; exact hv.1) (by rw [f159, veq]; decide) (by decide) (by decide) ht2 g4
              unfold lp_bd
              rw [if_pos h4]
              generalize lp_rw K W f 20 0 (t + 2) = r at qr
              match r, qr with
              | none, qr => exact (kX12_declared_223 h).2.2.2.2.2.2 qr
              | some (t1, m1, c, b), ⟨r1, r2, r3⟩ =>
                try dsimp only
                rcases r3 with ⟨r3, r4⟩ | ⟨r3, r4, r5, r6⟩
                · rw [if_neg (by rintro ⟨e1, e2⟩; rw [e1, e2] at r3; exact absurd r3 (by decide))]
                  exact (kX12_declared_223 h).2.2.2.2.2.2 r4
                · have k := d_223 (V := V) (F0 := FI2) (L0 := FL) (st := t + 2) (m := m1) (b := b) (w := W t) (x := FL 150 (FI2 121 68).toInt.toNat) h r3 (by omega) hv q2
                    (by rw [show FI5 121 78 = _ from kq_fld k5 (by decide)]; exact f78) (by rw [show FL5 158 = _ from kq_fl k5 (by decide)]; exact e158) hW
                    (fun i hi => by rw [show FI5 160 = _ from kq_cell k5 (by decide)]; exact f160 i hi) (by rw [show FI5 160 = _ from kq_cell k5 (by decide)]; exact f160')
                    (fun i hi => by rw [show FI5 159 i = _ from r5 i hi, f159, vne hi]) r4
                    (fun i hi => by
                      rw [show FI5 163 = _ from r6]
                      cases b
                      · rw [if_neg (by decide), f163, vne hi]
                      · rw [if_pos rfl, vne hi, f163, vne hi])
                    (by
                      rw [show FI5 163 = _ from r6]
                      cases b
                      · rw [if_neg (by decide), f163, veq, if_neg (by decide)]
                      · rw [if_pos rfl, veq, if_pos rfl])
                    (fun i hi => by rw [show FI5 161 = _ from kq_cell k5 (by decide)]; dsimp only; rw [f161, vne hi])
                    (by rw [show FI5 161 = _ from kq_cell k5 (by decide)]; dsimp only; rw [f161, veq]; exact hd.2.2.2.1)
                  by_cases h59 : K t1 = 5 ∧ W t1 = 59
                  · rw [if_pos h59] at k ⊢
                    have ht3 := lt_T hT r2 (by omega)
                    exact ⟨by omega, ht3, ⟨_, k.1⟩, k.2⟩
                  · rw [if_neg h59] at k ⊢
                    exact k
            · rw [hK3, c3] at h4
              rcases h with ⟨h5, h⟩ | ⟨h5, h⟩
              · obtain ⟨v5, n5, sl5, SH5, FI5, FL5, FR5, hl, h⟩ := h
                have k5 := kX12_location hl
                have qr := d_location (f := f) (md := V.length) hl hS3 hk ht2 hf g4 (by rw [f78]; exact hv.1)
                unfold lp_bd
                rw [if_neg h4]
                have qr' : q_loc K W _ T V.length (t + 2) (lp_fl V) (n5, sl5, SH5, FI5, FL5, FR5) (lp_lc K W f (t + 2)) := qr
                generalize lp_lc K W f (t + 2) = r at qr'
                match r, qr' with
                | none, qr => exact (kX12_declared_223 h).2.2.2.2.2.2 qr
                | some (t1, c), ⟨r1, r2, r3⟩ =>
                  dsimp only
                  rcases r3 with ⟨r3, r4⟩ | ⟨r3, r6⟩
                  · rw [if_neg (by rintro ⟨e1, e2⟩; rw [e1, e2] at r3; exact absurd r3 (by decide))]
                    exact (kX12_declared_223 h).2.2.2.2.2.2 r4
                  · have k := d_223 (V := V) (F0 := FI2) (L0 := FL) (st := t + 2) (m := 0) (b := decide (300 < c.length)) (w := W t) (x := FL 150 (FI2 121 68).toInt.toNat) h r3 (by omega) hv q2
                      (by rw [show FI5 121 78 = _ from kq_fld k5 (by decide)]; exact f78) (by rw [show FL5 158 = _ from kq_fl k5 (by decide)]; exact e158) hW
                      (fun i hi => by rw [show FI5 160 = _ from kq_cell k5 (by decide)]; exact f160 i hi) (by rw [show FI5 160 = _ from kq_cell k5 (by decide)]; exact f160')
                      (fun i hi => by rw [show FI5 159 = _ from kq_cell k5 (by decide)]; dsimp only; rw [f159, vne hi]) (by rw [show FI5 159 = _ from kq_cell k5 (by decide)]; dsimp only; rw [f159, veq]; decide)
                      (fun i hi => by
                        rw [show FI5 163 = _ from r6]
                        by_cases hc : 300 < c.length
                        · rw [if_pos hc, vne hi, f163, vne hi]
                        · rw [if_neg hc, f163, vne hi])
                      (by
                        rw [show FI5 163 = _ from r6]
                        by_cases hc : 300 < c.length
                        · rw [if_pos hc, veq, if_pos (decide_eq_true hc)]
                        · rw [if_neg hc, f163, veq, if_neg (by simpa using hc)])
                      (fun i hi => by rw [show FI5 161 = _ from kq_cell k5 (by decide)]; dsimp only; rw [f161, vne hi])
                      (by rw [show FI5 161 = _ from kq_cell k5 (by decide)]; dsimp only; rw [f161, veq]; exact hd.2.2.2.1)
                    by_cases h59 : K t1 = 5 ∧ W t1 = 59
                    · rw [if_pos h59] at k ⊢
                      have ht3 := lt_T hT r2 (by omega)
                      exact ⟨by omega, ht3, ⟨_, k.1⟩, k.2⟩
                    · rw [if_neg h59] at k ⊢
                      exact k
              · refine absurd ?_ h5
                try dsimp only
                rw [h_up_x (by decide), h_up_nc (by decide)]
                exact g3.2.1
          · exact absurd g3.2.1 h3
        · unfold lp_st
          rw [if_neg (by rintro ⟨-, -, -, e1, e2⟩; exact g1 ⟨e1, e2⟩)]
          rcases h with ⟨h3, h⟩ | ⟨h3, h⟩
          · exact absurd h3 g2
          · refine (kX12_declared_212 h).2.2.2.2.2.2 ?_
            dsimp only
            rw [h_up_x (by decide), h_up_nc (by decide)]
            exact g2
      · exact absurd hd.2.1 h2
    · have hno : ¬ (K t = 1 ∧ (∀ v, v ∈ V → v.1 ≠ W t) ∧ V.length < 12 ∧ K (t + 1) = 5 ∧ W (t + 1) = 61) := by
        rintro ⟨-, e1, e2, -⟩
        rcases q2 with q2 | ⟨j, v, q2, q3⟩ | q2
        · exact q2 hd.2.1
        · exact e1 v (List.mem_iff_getElem?.mpr ⟨j, q2⟩) q3
        · omega
      unfold lp_st
      rw [if_neg hno]
      rcases h74 with ⟨h2, h⟩ | ⟨h2, h⟩
      · exact absurd h2 q1
      · obtain ⟨-, rfl⟩ := h
        exact q1
  · rw [hK, c1] at h1
    obtain ⟨v1, n1, sl1, SH1, FI1, FL1, FR1, hc, h⟩ := h
    obtain ⟨-, rfl⟩ := h
    unfold lp_st
    rw [if_neg (fun e => h1 e.1)]
    exact f_fault hc (by decide)
end DD
end
section
/-! compile, behind its tokens. -/
theorem lp_st_P {K W : Nat → Int} {P : Nat → Nat} (hP : tk_P K W P) {f t t1 : Nat} {V V1 : List lp_V} (h : lp_st K W f t V = some (t1, V1)) : t < t1 ∧ (lp_fl V1).length + 4 * P t ≤ (lp_fl V).length + 4 * P t1 := by
  unfold lp_st at h
  split at h
  · rename_i hc
    have p1 := hP t (by omega)
    have p2 := hP (t + 1) (by omega)
    have e : P (t + 1 + 1) = P (t + 2) := rfl
    split at h
    · cases h
    · rename_i t2 m c b hq
      have q := lp_bd_P hP hq
      split at h
      · rename_i h59
        have p3 := hP t2 (by omega)
        cases h
        rw [lp_fl_snoc, List.length_append]
        dsimp only
        omega
      · cases h
  · cases h
theorem lp_tx_P {K W : Nat → Int} {P : Nat → Nat} {T : Nat} (hP : tk_P K W P) (hn : ∀ i, i < T → K i ≠ 0) (hT : K T = 0) {f : Nat} : ∀ (g t : Nat) (V V1 : List lp_V), t ≤ T → (∀ t1 V2, lp_st K W f t V = some (t1, V2) → True) → lp_tx K W f g t V = some V1 → (∀ (t t1 : Nat) (V V2 : List lp_V), t ≤ T → lp_st K W f t V = some (t1, V2) → t1 ≤ T) → (lp_fl V1).length + 4 * P t ≤ (lp_fl V).length + 4 * P T := by
  intro g
  induction g with
  | zero => intro t V V1 ht _ h; cases h
  | succ g ih =>
    intro t V V1 ht _ h hle
    rw [lp_tx_st] at h
    split at h
    · rename_i h0
      cases h
      have e : t = T := by
        rcases Nat.lt_or_ge t T with h1 | h1
        · exact absurd h0 (hn t h1)
        · omega
      subst e
      omega
    · split at h
      · cases h
      · rename_i t2 V2 hq
        have q := lp_st_P hP hq
        have k := ih t2 V2 V1 (hle t t2 V V2 ht hq) (fun _ _ _ => trivial) h hle
        omega
/-- the variables as they stand: count, names, rows, beginnings, bytes; the tokens they were told by -/
def u_vw (FI : Nat → Nat → Int32) (FL : Nat → Nat → Int64) (K W : Nat → Int) (T : Nat) (V : List lp_V) : Prop := (FI 121 74).toInt = V.length ∧ V.length ≤ 12 ∧ (∀ i v, V[i]? = some v → (FL 155 i).toInt = v.1 ∧ (FI 157 i).toInt = v.2.1 ∧ (FI 156 i).toInt = v.2.2.1 ∧ (FI 125 (20 + i)).toInt = v.2.2.2.1.length ∧ v.2.2.2.1.length ≤ 600 ∧ ∀ k, k < v.2.2.2.1.length → (FI 124 (12000 + 600 * i + k)).toInt = v.2.2.2.1.getD k 0) ∧ (∀ i, i ≤ T → (FI 152 i).toInt = K i ∧ (FL 153 i).toInt = W i)
def u_eq (FI F2 : Nat → Nat → Int32) (FL L2 : Nat → Nat → Int64) : Prop := F2 156 = FI 156 ∧ F2 157 = FI 157 ∧ F2 124 = FI 124 ∧ F2 125 = FI 125 ∧ F2 152 = FI 152 ∧ L2 153 = FL 153 ∧ L2 155 = FL 155 ∧ F2 121 74 = FI 121 74
theorem u_rf {FI : Nat → Nat → Int32} {FL : Nat → Nat → Int64} : u_eq FI FI FL FL := ⟨rfl, rfl, rfl, rfl, rfl, rfl, rfl, rfl⟩
theorem u_tr {F F2 F3 : Nat → Nat → Int32} {L L2 L3 : Nat → Nat → Int64} (h : u_eq F F2 L L2) (h2 : u_eq F2 F3 L2 L3) : u_eq F F3 L L3 := ⟨h2.1.trans h.1, h2.2.1.trans h.2.1, h2.2.2.1.trans h.2.2.1, h2.2.2.2.1.trans h.2.2.2.1, h2.2.2.2.2.1.trans h.2.2.2.2.1, h2.2.2.2.2.2.1.trans h.2.2.2.2.2.1, h2.2.2.2.2.2.2.1.trans h.2.2.2.2.2.2.1, h2.2.2.2.2.2.2.2.trans h.2.2.2.2.2.2.2⟩
def k_uv (m : k_M) : Bool := k_no m 156 && k_no m 157 && k_no m 124 && k_no m 125 && k_no m 152 && k_no (m.2.2.1, m.2.2.2, [], []) 153 && k_no (m.2.2.1, m.2.2.2, [], []) 155 && !k_in m.1 m.2.1 121 74
theorem u_kq {m : k_M} {a b : hS} (h : kq m a b) (hm : k_uv m = true) : u_eq a.2.2.2.1 b.2.2.2.1 a.2.2.2.2.1 b.2.2.2.2.1 := by
  unfold k_uv at hm
  simp only [Bool.and_eq_true, Bool.not_eq_true'] at hm
  obtain ⟨⟨⟨⟨⟨⟨⟨m1, m2⟩, m3⟩, m4⟩, m5⟩, m6⟩, m7⟩, m8⟩ := hm
  exact ⟨kq_cell h m1, kq_cell h m2, kq_cell h m3, kq_cell h m4, kq_cell h m5, kq_fl h m6, kq_fl h m7, kq_fld h m8⟩
section CP
variable {K W : Nat → Int} {P : Nat → Nat} {n sl : Nat} {SH : Nat → Nat × Nat} {FI : Nat → Nat → Int32} {FL : Nat → Nat → Int64} {FR : Nat → Nat → Option Nat} {t T f : Nat} {o : Int} {B : List Int} {s : hS} {V : List lp_V}
theorem lp_st_le (hk : tk_ok K W P T) {t t1 : Nat} {V V2 : List lp_V} (ht : t ≤ T) (h : lp_st K W f t V = some (t1, V2)) : K (t1 - 1) ≠ 0 ∧ t < t1 := by
  have h0 := (lp_st_P hk.2.1 h).1
  unfold lp_st at h
  split at h
  · split at h
    · cases h
    · split at h
      · rename_i h59
        cases h
        exact ⟨by rw [Nat.add_sub_cancel]; omega, h0⟩
      · cases h
  · cases h
theorem c_34 (hk : tk_ok K W P T) (hf : 12 * T + 20 < f) : ∀ (g n sl : Nat) (SH : Nat → Nat × Nat) (FI : Nat → Nat → Int32) (FL : Nat → Nat → Int64) (FR : Nat → Nat → Option Nat) (v : Int32) (s : hS) (g2 t : Nat) (o : Int) (V : List lp_V), GX12_compile_34 g n sl SH FI FL FR v s → h_S n SH → d_vw K W FI FL t o (lp_fl V) → v_vw FI FL V → t ≤ T → T - t < g2 → (lp_fl V).length ≤ 4 * P t → ∃ n2 sl2 SH2 FI2 FL2 FR2, RX12_compile_60 n2 sl2 SH2 FI2 FL2 FR2 v s ∧ h_S n2 SH2 ∧ u_eq FI FI2 FL FL2 ∧ FI2 121 67 = FI 121 67 ∧ match lp_tx K W f g2 t V with
    | none => (FI2 121 69).toInt ≠ 0
    | some V1 => (∃ o1, d_vw K W FI2 FL2 T o1 (lp_fl V1)) ∧ v_vw FI2 FL2 V1 ∧ (lp_fl V1).length ≤ 4000 := by
  intro g
  induction g with
  | zero => intro n sl SH FI FL FR v s g2 t o V h; exact h.elim
  | succ g ih =>
    intro n sl SH FI FL FR v s g2 t o V h hS hd hv ht hg2 hL
    have hK : (FI 149 (FI 121 68).toInt.toNat).toInt = K t := by rw [tk_i hd.1, tk_K hd.1]
    cases g2 with
    | zero => omega
    | succ g2 =>
      rw [lp_tx_st]
      rcases h with ⟨h1, h⟩ | ⟨h1, h⟩
      · obtain ⟨-, h⟩ := h
        rcases h with ⟨h2, h⟩ | ⟨h2, h⟩
        · rw [hK] at h2
          rw [if_pos h2]
          have e : t = T := by
            rcases Nat.lt_or_ge t T with h3 | h3
            · exact absurd h2 (hk.2.2.2.2.1 t h3)
            · omega
          subst e
          have := hk.2.2.2.2.2
          exact ⟨n, sl, SH, FI, FL, FR, h, hS, u_rf, rfl, ⟨o, hd⟩, hv, by omega⟩
        · rw [hK] at h2
          rw [if_neg h2]
          obtain ⟨v2, n2, sl2, SH2, FI2, FL2, FR2, hc, h⟩ := h
          have kc := kX12_declared hc
          have hS2 : h_S n2 SH2 := by rw [show n2 = n from kc.1, show SH2 = SH from kc.2.2.1]; exact hS
          have hu : u_eq FI FI2 FL FL2 := u_kq kc (by decide)
          have h67 : FI2 121 67 = FI 121 67 := kq_fld kc (by decide)
          have q := d_declared (f := f) hc hS hk hf ht hd hv
          cases hr : lp_st K W f t V with
          | none =>
            rw [hr] at q
            have q' : (FI2 121 69).toInt ≠ 0 := q
            cases g with
            | zero => exact h.elim
            | succ g =>
              rcases h with ⟨h3, h⟩ | ⟨h3, h⟩
              · exact absurd h3 q'
              · exact ⟨n2, sl2, SH2, FI2, FL2, FR2, h, hS2, hu, h67, q'⟩
          | some r =>
            obtain ⟨t1, V1⟩ := r
            rw [hr] at q
            obtain ⟨q1, q2, ⟨o1, q3⟩, q4⟩ := q
            have hp := lp_st_P hk.2.1 hr
            obtain ⟨n3, sl3, SH3, FI3, FL3, FR3, k1, k2, k3, k4, k5⟩ := ih n2 sl2 SH2 FI2 FL2 FR2 v s g2 t1 o1 V1 h hS2 q3 q4 q2 (by omega) (by omega)
            exact ⟨n3, sl3, SH3, FI3, FL3, FR3, k1, k2, u_tr hu k3, k4.trans h67, k5⟩
      · exact absurd hd.2.1 h1
theorem c_faulty {a b v : Int32} (h : RX12_faulty a b n sl SH FI FL FR v s) : v = -1 ∧ u_eq FI s.2.2.2.1 FL s.2.2.2.2.1 := by
  have k := kX12_faulty h
  obtain ⟨v1, n1, sl1, SH1, FI1, FL1, FR1, hc, rfl, rfl⟩ := h
  exact ⟨rfl, u_kq k (by decide)⟩
end CP
end
section
/-! compile's end: the variables are kept. -/
section CE
variable {K W : Nat → Int} {P : Nat → Nat} {n sl : Nat} {SH : Nat → Nat × Nat} {FI : Nat → Nat → Int32} {FL : Nat → Nat → Int64} {FR : Nat → Nat → Option Nat} {t T f : Nat} {o : Int} {B : List Int} {s : hS} {V : List lp_V}
theorem lp_fl_app {A B : List lp_V} : lp_fl (A ++ B) = lp_fl A ++ lp_fl B := by
  unfold lp_fl
  rw [List.map_append, List.flatten_append]
theorem lp_take {i : Nat} {x : lp_V} (h : V[i]? = some x) : lp_fl (V.take (i + 1)) = lp_fl (V.take i) ++ x.2.2.2.1 := by
  rw [List.take_add_one, h]
  exact lp_fl_snoc
theorem lp_len_le {i : Nat} {x : lp_V} (h : V[i]? = some x) : (lp_fl (V.take i)).length + x.2.2.2.1.length ≤ (lp_fl V).length := by
  have e2 : (lp_fl V).length = (lp_fl (V.take (i + 1))).length + (lp_fl (V.drop (i + 1))).length := by
    rw [← List.length_append, ← lp_fl_app, List.take_append_drop]
  rw [lp_take h, List.length_append] at e2
  omega
theorem v_161 (hv : v_vw FI FL V) {i : Nat} {x : lp_V} (h : V[i]? = some x) (hl : (lp_fl V).length ≤ 4000) : (FI 161 i).toInt = (lp_fl (V.take i)).length ∧ ((FI 161 (i + 1)) - (FI 161 i)).toInt = x.2.2.2.1.length := by
  have hi := (List.getElem?_eq_some_iff.mp h).1
  have hb := lp_len_le h
  have e1 := (hv.2.2.1 i x h).2.2.2.2
  have e2 : FI 161 (i + 1) = Int32.ofNat (lp_fl (V.take (i + 1))).length := by
    rcases Nat.lt_or_ge (i + 1) V.length with h1 | h1
    · exact (hv.2.2.1 (i + 1) V[i + 1] (List.getElem?_eq_getElem h1)).2.2.2.2
    · have e3 : i + 1 = V.length := by omega
      rw [e3, List.take_length]
      exact hv.2.2.2 (fun e => by rw [e] at hi; simp at hi)
  refine ⟨by rw [e1, i_lit (by omega)], ?_⟩
  rw [e1, e2, lp_take h, List.length_append, i_sub (i_lit (by omega)) (i_lit (by omega)) (by omega) (by omega)]
  omega
theorem c_82 (hv : v_vw FI FL V) (hl : (lp_fl V).length ≤ 4000) : ∀ (g : Nat) (l1 : Int32) (n sl : Nat) (SH : Nat → Nat × Nat) (FR : Nat → Nat → Option Nat) (v : Int32) (s : hS) (i : Nat), GX12_compile_82 g l1 n sl SH FI FL FR v s → l1.toInt = i → i ≤ V.length → ((∃ j x, i ≤ j ∧ V[j]? = some x ∧ ¬ (x.2.2.2.2 = false ∧ x.2.2.2.1.length ≤ 600)) ∧ v = -1 ∧ u_eq FI s.2.2.2.1 FL s.2.2.2.2.1) ∨ ((∀ j x, i ≤ j → V[j]? = some x → x.2.2.2.2 = false ∧ x.2.2.2.1.length ≤ 600) ∧ RX12_compile_151 0 n sl SH (h_up FI 121 74 (FI 121 78)) FL FR v s) := by
  intro g
  induction g with
  | zero => intro l1 n sl SH FR v s i h; exact h.elim
  | succ g ih =>
    intro l1 n sl SH FR v s i h hl1 hi
    have c600 : ((600 : Int32)).toInt = 600 := by decide
    have hm := hv.1
    have h12 := hv.2.1
    rcases h with ⟨h1, h⟩ | ⟨h1, h⟩
    · have hlt : i < V.length := by omega
      have hx := List.getElem?_eq_getElem hlt
      have q := hv.2.2.1 i V[i] hx
      have q161 := v_161 hv hx hl
      have hi0 : l1.toInt.toNat = i := by omega
      have hl1' : (l1 + (1 : Int32)).toInt = ((i + 1 : Nat) : Int) := by
        rw [i_add hl1 (by decide : ((1 : Int32)).toInt = 1) (by omega) (by omega)]; omega
      have hi1 : (l1 + (1 : Int32)).toInt.toNat = i + 1 := by omega
      obtain ⟨-, -, -, h⟩ := h
      rw [hi0, hi1, q161.2, c600, q.2.2.2.1] at h
      rcases h with ⟨h2, h⟩ | ⟨h2, h⟩
      · have hb : V[i].2.2.2.2 = false := by
          cases e : V[i].2.2.2.2 with
          | false => rfl
          | true => rw [e] at h2; exact absurd h2 (by decide)
        rcases h with ⟨h3, h⟩ | ⟨h3, h⟩
        · obtain ⟨-, v3, n3, sl3, SH3, FI3, FL3, FR3, hc, rfl, rfl⟩ := h
          obtain ⟨e1, e2⟩ := c_faulty hc
          exact Or.inl ⟨⟨i, V[i], Nat.le_refl _, hx, fun e => by omega⟩, e1, e2⟩
        · rcases ih (l1 + 1) n sl SH FR v s (i + 1) h hl1' (by omega) with ⟨⟨j, x, k1, k2, k3⟩, k4⟩ | ⟨k1, k2⟩
          · exact Or.inl ⟨⟨j, x, by omega, k2, k3⟩, k4⟩
          · refine Or.inr ⟨fun j x hj hxj => ?_, k2⟩
            by_cases e : j = i
            · subst e
              rw [hx] at hxj
              cases hxj
              exact ⟨hb, by omega⟩
            · exact k1 j x (by omega) hxj
      · have hb : V[i].2.2.2.2 = true := by
          cases e : V[i].2.2.2.2 with
          | true => rfl
          | false => rw [e] at h2; exact absurd (show (if false = true then (1 : Int32) else 0).toInt = 0 by decide) h2
        obtain ⟨-, v3, n3, sl3, SH3, FI3, FL3, FR3, hc, rfl, rfl⟩ := h
        obtain ⟨e1, e2⟩ := c_faulty hc
        exact Or.inl ⟨⟨i, V[i], Nat.le_refl _, hx, fun e => by rw [hb] at e; exact Bool.noConfusion e.1⟩, e1, e2⟩
    · refine Or.inr ⟨fun j x hj hxj => ?_, h⟩
      exfalso
      have := (List.getElem?_eq_some_iff.mp hxj).1
      omega
theorem c_221 {K1 : Int32 → Nat → Nat → (Nat → Nat × Nat) → (Nat → Nat → Int32) → (Nat → Nat → Int64) → (Nat → Nat → Option Nat) → Int32 → hS → Prop} {l1 : Int32} {i len A : Nat} (hi : l1.toInt = i) (h11 : i ≤ 11) (hlen : len ≤ 600) (hA : A ≤ 4000) : ∀ (g : Nat) (l2 : Int32) (n sl : Nat) (SH : Nat → Nat × Nat) (FI : Nat → Nat → Int32) (FL : Nat → Nat → Int64) (FR : Nat → Nat → Option Nat) (v : Int32) (s : hS) (k : Nat), GX12_compile_221 K1 g l1 l2 n sl SH FI FL FR v s → l2.toInt = k → k ≤ len → (FI 125 (20 + i)).toInt = len → (FI 161 i).toInt = A → ∃ FI2, K1 (l1 + 1) n sl SH FI2 FL FR v s ∧ (∀ c, c ≠ 124 → FI2 c = FI c) ∧ (∀ p, (p < 12000 + 600 * i + k ∨ 12000 + 600 * i + len ≤ p) → FI2 124 p = FI 124 p) ∧ (∀ q, k ≤ q → q < len → FI2 124 (12000 + 600 * i + q) = FI 154 (A + q)) := by
  intro g
  induction g with
  | zero => intro l2 n sl SH FI FL FR v s k h; exact h.elim
  | succ g ih =>
    intro l2 n sl SH FI FL FR v s k h hl2 hk h125 h161
    obtain ⟨-, h⟩ := h
    have e20 : (((20 : Int32)) + l1).toInt.toNat = 20 + i := by
      rw [i_add (by decide : ((20 : Int32)).toInt = 20) hi (by omega) (by omega)]; omega
    have hi0 : l1.toInt.toNat = i := by omega
    rw [e20, h125] at h
    rcases h with ⟨h1, h⟩ | ⟨h1, h⟩
    · obtain ⟨-, -, -, h⟩ := h
      have e1 : ((FI 161 l1.toInt.toNat) + l2).toInt.toNat = A + k := by
        rw [hi0, i_add h161 hl2 (by omega) (by omega)]; omega
      have e2 : ((((12000 : Int32)) + (((600 : Int32)) * l1)) + l2).toInt.toNat = 12000 + 600 * i + k := by
        rw [i_add (i_add (by decide : ((12000 : Int32)).toInt = 12000) (i_mul (by decide : ((600 : Int32)).toInt = 600) hi (by omega) (by omega)) (by omega) (by omega)) hl2 (by omega) (by omega)]; omega
      rw [e1, e2] at h
      obtain ⟨F2, q1, q2, q3, q4⟩ := ih (l2 + 1) n sl SH _ FL FR v s (k + 1) h (by rw [i_add hl2 (by decide : ((1 : Int32)).toInt = 1) (by omega) (by omega)]; omega) (by omega) (by rw [h_up_nc (by decide)]; exact h125) (by rw [h_up_nc (by decide)]; exact h161)
      refine ⟨F2, q1, fun c hc => by rw [q2 c hc, h_up_nc hc], fun p hp => by rw [q3 p (by omega), h_up_ne (by omega)], fun q h2 h3 => ?_⟩
      by_cases e : q = k
      · subst e
        rw [q3 _ (Or.inl (by omega)), h_up_eq]
      · rw [q4 q (by omega) h3, h_up_nc (by decide)]
    · refine ⟨FI, h, fun _ _ => rfl, fun _ _ => rfl, fun q h2 h3 => ?_⟩
      exfalso; omega
theorem c_277 : ∀ (g : Nat) (l1 : Int32) (n sl : Nat) (SH : Nat → Nat × Nat) (FI : Nat → Nat → Int32) (FL : Nat → Nat → Int64) (FR : Nat → Nat → Option Nat) (v : Int32) (s : hS) (i : Nat), GX12_compile_277 g l1 n sl SH FI FL FR v s → l1.toInt = i → (FI 121 67).toInt = ((T + 1 : Nat) : Int) → i ≤ T + 1 → T ≤ 1001 → v = FI 121 74 ∧ s.2.2.2.1 121 74 = FI 121 74 ∧ (∀ c, c ≠ 152 → c ≠ 121 → s.2.2.2.1 c = FI c) ∧ (∀ c, c ≠ 153 → s.2.2.2.2.1 c = FL c) ∧ (∀ j, i ≤ j → j ≤ T → s.2.2.2.1 152 j = FI 149 j ∧ s.2.2.2.2.1 153 j = FL 150 j) ∧ (∀ j, j < i → s.2.2.2.1 152 j = FI 152 j ∧ s.2.2.2.2.1 153 j = FL 153 j) := by
  intro g
  induction g with
  | zero => intro l1 n sl SH FI FL FR v s i h; exact h.elim
  | succ g ih =>
    intro l1 n sl SH FI FL FR v s i h hl h67 hi hT
    rcases h with ⟨h1, h⟩ | ⟨h1, h⟩
    · obtain ⟨-, -, -, -, h⟩ := h
      have hi0 : l1.toInt.toNat = i := by omega
      rw [hi0] at h
      obtain ⟨q1, q2, q3, q4, q5, q6⟩ := ih (l1 + 1) n sl SH _ _ FR v s (i + 1) h (by rw [i_add hl (by decide : ((1 : Int32)).toInt = 1) (by omega) (by omega)]; omega) (by rw [h_up_nc (by decide)]; exact h67) (by omega) hT
      refine ⟨?_, ?_, fun c h2 h3 => ?_, fun c h2 => ?_, fun j h2 h3 => ?_, fun j h2 => ?_⟩
      · rw [q1, h_up_nc (by decide)]
      · rw [q2, h_up_nc (by decide)]
      · rw [q3 c h2 h3, h_up_nc h2]
      · rw [q4 c h2, h_up_nc h2]
      · by_cases e : j = i
        · subst e
          have := q6 j (by omega)
          rw [h_up_eq, h_up_eq] at this
          exact this
        · have := q5 j (by omega) h3
          rw [h_up_nc (by decide), h_up_nc (by decide)] at this
          exact this
      · have := q6 j (by omega)
        rw [h_up_ne (by omega), h_up_ne (by omega)] at this
        exact this
    · obtain ⟨v3, n3, sl3, SH3, FI3, FL3, FR3, hc, rfl, rfl⟩ := h
      have kc := kX12_tells hc
      have e74 : FI3 121 74 = FI 121 74 := by
        rw [show FI3 121 74 = _ from kq_fld kc (by decide)]
        dsimp only
        rw [h_up_x (by decide), h_up_x (by decide)]
      have ec : ∀ c, c ≠ 121 → FI3 c = FI c := by
        intro c h2
        rw [show FI3 c = _ from kq_cell kc (by simp [k_no]; omega)]
        dsimp only
        rw [h_up_nc h2, h_up_nc h2]
      have el : ∀ c, FL3 c = FL c := by
        intro c
        funext j
        exact kc.2.2.2.2.2.1 c j (by simp [k_in])
      refine ⟨e74, e74, fun c _ h3 => ec c h3, fun c _ => el c, fun j h2 h3 => ?_, fun j _ => ⟨?_, ?_⟩⟩
      · exfalso; omega
      · show FI3 152 j = _
        rw [ec 152 (by decide)]
      · show FL3 153 j = _
        rw [el 153]
/-- what is copied of the first i variables -/
def w_dn (FI : Nat → Nat → Int32) (FL : Nat → Nat → Int64) (V : List lp_V) (i : Nat) : Prop := ∀ j v, j < i → V[j]? = some v → (FL 155 j).toInt = v.1 ∧ (FI 157 j).toInt = v.2.1 ∧ (FI 156 j).toInt = v.2.2.1 ∧ (FI 125 (20 + j)).toInt = v.2.2.2.1.length ∧ v.2.2.2.1.length ≤ 600 ∧ ∀ k, k < v.2.2.2.1.length → (FI 124 (12000 + 600 * j + k)).toInt = v.2.2.2.1.getD k 0
theorem lp_fl_get {i k : Nat} {x : lp_V} (h : V[i]? = some x) (hk : k < x.2.2.2.1.length) : (lp_fl V).getD ((lp_fl (V.take i)).length + k) 0 = x.2.2.2.1.getD k 0 := by
  have e2 : lp_fl V = lp_fl (V.take i) ++ (x.2.2.2.1 ++ lp_fl (V.drop (i + 1))) := by
    rw [← List.append_assoc, ← lp_take h, ← lp_fl_app, List.take_append_drop]
  rw [e2]
  simp only [List.getD_eq_getElem?_getD]
  rw [List.getElem?_append_right (by omega), show (lp_fl (V.take i)).length + k - (lp_fl (V.take i)).length = k by omega, List.getElem?_append_left hk]
theorem c_151 (hk : tk_ok K W P T) (hlen : (lp_fl V).length ≤ 4000) (hok : ∀ (j : Nat) (x : lp_V), V[j]? = some x → x.2.2.2.2 = false ∧ x.2.2.2.1.length ≤ 600) : ∀ (g : Nat) (l1 : Int32) (n sl : Nat) (SH : Nat → Nat × Nat) (FI : Nat → Nat → Int32) (FL : Nat → Nat → Int64) (FR : Nat → Nat → Option Nat) (v : Int32) (s : hS) (i : Nat), GX12_compile_151 g l1 n sl SH FI FL FR v s → l1.toInt = i → i ≤ V.length → v_vw FI FL V → (∃ o t, d_vw K W FI FL t o (lp_fl V)) → (FI 121 67).toInt = ((T + 1 : Nat) : Int) → (FI 121 74).toInt = V.length → w_dn FI FL V i → v.toInt = V.length ∧ u_vw s.2.2.2.1 s.2.2.2.2.1 K W T V := by
  intro g
  induction g with
  | zero => intro l1 n sl SH FI FL FR v s i h; exact h.elim
  | succ g ih =>
    intro l1 n sl SH FI FL FR v s i h hl hi hv hd h67 h74 hdn
    have hm := hv.1
    have h12 := hv.2.1
    obtain ⟨o, t, hd⟩ := hd
    rcases h with ⟨h1, h⟩ | ⟨h1, h⟩
    · have hlt : i < V.length := by omega
      have hx := List.getElem?_eq_getElem hlt
      have q := hv.2.2.1 i V[i] hx
      have q161 := v_161 hv hx hlen
      have hbl := lp_len_le hx
      have hi0 : l1.toInt.toNat = i := by omega
      have hl1' : (l1 + (1 : Int32)).toInt = ((i + 1 : Nat) : Int) := by
        rw [i_add hl (by decide : ((1 : Int32)).toInt = 1) (by omega) (by omega)]; omega
      have hi1 : (l1 + (1 : Int32)).toInt.toNat = i + 1 := by omega
      have e20 : (((20 : Int32)) + l1).toInt.toNat = 20 + i := by
        rw [i_add (by decide : ((20 : Int32)).toInt = 20) hl (by omega) (by omega)]; omega
      obtain ⟨-, -, -, -, -, -, -, -, -, gg, h⟩ := h
      rw [hi0, hi1, e20] at h
      obtain ⟨F2, k1, k2, k3, k4⟩ := c_221 (i := i) (len := V[i].2.2.2.1.length) (A := (lp_fl (V.take i)).length) hl (by omega) (hok i _ hx).2 (by omega) gg 0 n sl SH _ _ FR v s 0 h (by decide) (by omega) (by rw [h_up_eq]; exact q161.2) (by rw [h_up_nc (by decide), h_up_nc (by decide), h_up_nc (by decide)]; exact q161.1)
      have k2' : ∀ c, c ≠ 124 → c ≠ 125 → c ≠ 156 → c ≠ 157 → F2 c = FI c := by
        intro c a1 a2 a3 a4
        rw [k2 c a1, h_up_nc a2, h_up_nc a4, h_up_nc a3]
      have hfl : ∀ c, c ≠ 155 → (h_up FL 155 i (FL 158 i)) c = FL c := fun c hc => h_up_nc hc
      have hB := hd.2.2.2.2 (by omega)
      refine ih (l1 + 1) n sl SH F2 _ FR v s (i + 1) k1 hl1' (by omega) ?_ ⟨o, t, ?_⟩ (by rw [k2' 121 (by decide) (by decide) (by decide) (by decide)]; exact h67) (by rw [k2' 121 (by decide) (by decide) (by decide) (by decide)]; exact h74) ?_
      · refine ⟨by rw [k2' 121 (by decide) (by decide) (by decide) (by decide)]; exact hm, h12, fun j x hj => ?_, fun e => by rw [k2' 161 (by decide) (by decide) (by decide) (by decide)]; exact hv.2.2.2 e⟩
        rw [hfl 158 (by decide), k2' 160 (by decide) (by decide) (by decide) (by decide), k2' 159 (by decide) (by decide) (by decide) (by decide), k2' 163 (by decide) (by decide) (by decide) (by decide), k2' 161 (by decide) (by decide) (by decide) (by decide)]
        exact hv.2.2.1 j x hj
      · refine ⟨⟨by rw [k2' 149 (by decide) (by decide) (by decide) (by decide)]; exact hd.1.1, by rw [hfl 150 (by decide)]; exact hd.1.2.1, by rw [k2' 121 (by decide) (by decide) (by decide) (by decide)]; exact hd.1.2.2.1, hd.1.2.2.2⟩, by rw [k2' 121 (by decide) (by decide) (by decide) (by decide)]; exact hd.2.1, by rw [k2' 121 (by decide) (by decide) (by decide) (by decide)]; exact hd.2.2.1, by rw [k2' 121 (by decide) (by decide) (by decide) (by decide)]; exact hd.2.2.2.1, fun a b c => by rw [k2' 154 (by decide) (by decide) (by decide) (by decide)]; exact hd.2.2.2.2 a b c⟩
      · intro j x hj hxj
        have hjl := (List.getElem?_eq_some_iff.mp hxj).1
        by_cases e : j = i
        · subst e
          rw [hx] at hxj
          cases hxj
          refine ⟨by rw [h_up_eq]; exact q.1, ?_, ?_, ?_, (hok j _ hx).2, fun k hk2 => ?_⟩
          · rw [k2 157 (by decide), h_up_nc (by decide), h_up_eq]; exact q.2.1
          · rw [k2 156 (by decide), h_up_nc (by decide), h_up_nc (by decide), h_up_eq]; exact q.2.2.1
          · rw [k2 125 (by decide), h_up_eq]; exact q161.2
          · rw [k4 k (by omega) hk2, h_up_nc (by decide), h_up_nc (by decide), h_up_nc (by decide), hB _ (by omega)]
            exact lp_fl_get hx hk2
        · have p := hdn j x (by omega) hxj
          refine ⟨by rw [h_up_ne e]; exact p.1, ?_, ?_, ?_, p.2.2.2.2.1, fun k hk2 => ?_⟩
          · rw [k2 157 (by decide), h_up_nc (by decide), h_up_ne e, h_up_nc (by decide)]; exact p.2.1
          · rw [k2 156 (by decide), h_up_nc (by decide), h_up_nc (by decide), h_up_ne e]; exact p.2.2.1
          · rw [k2 125 (by decide), h_up_ne (by omega), h_up_nc (by decide), h_up_nc (by decide)]; exact p.2.2.2.1
          · have := p.2.2.2.2.1
            rw [k3 _ (by omega), h_up_nc (by decide), h_up_nc (by decide), h_up_nc (by decide)]
            exact p.2.2.2.2.2 k hk2
    · have hie : i = V.length := by omega
      obtain ⟨gg, h⟩ := h
      obtain ⟨q1, q2, q3, q4, q5, -⟩ := c_277 (T := T) gg 0 n sl SH FI FL FR v s 0 h (by decide) h67 (by omega) hk.2.2.2.1
      refine ⟨by rw [q1]; exact h74, by rw [q2]; exact h74, h12, fun j x hj => ?_, fun j hj => ?_⟩
      · have hjl := (List.getElem?_eq_some_iff.mp hj).1
        rw [q4 155 (by decide), q3 157 (by decide) (by decide), q3 156 (by decide) (by decide), q3 125 (by decide) (by decide), q3 124 (by decide) (by decide)]
        exact hdn j x (by omega) hj
      · have p := q5 j (by omega) hj
        rw [p.1, p.2]
        exact ⟨tk_K hd.1 j, tk_W hd.1 j⟩
/-- compile, behind its tokens: refused, with the variables as before; or they are those of the text -/
theorem c_compile {v : Int32} (hk : tk_ok K W P T) (hf : 12 * T + 20 < f) (h : RX12_compile_34 n sl SH FI FL FR v s) (hS : h_S n SH) (hd : d_vw K W FI FL 0 o []) (h78 : (FI 121 78).toInt = 0) (h67 : (FI 121 67).toInt = ((T + 1 : Nat) : Int)) : match lp_tx K W f 1100 0 [] with
    | none => v = -1 ∧ u_eq FI s.2.2.2.1 FL s.2.2.2.2.1
    | some V => ((∃ x, x ∈ V ∧ ¬ (x.2.2.2.2 = false ∧ x.2.2.2.1.length ≤ 600)) ∧ v = -1 ∧ u_eq FI s.2.2.2.1 FL s.2.2.2.2.1) ∨ ((∀ x, x ∈ V → x.2.2.2.2 = false ∧ x.2.2.2.1.length ≤ 600) ∧ v.toInt = V.length ∧ u_vw s.2.2.2.1 s.2.2.2.2.1 K W T V) := by
  obtain ⟨g, h⟩ := h
  have hv0 : v_vw FI FL [] := ⟨h78, by decide, fun i v hv => by simp at hv, fun e => absurd rfl e⟩
  have hT2 := hk.2.2.2.1
  obtain ⟨n2, sl2, SH2, FI2, FL2, FR2, k1, k2, k3, k4, k5⟩ := c_34 hk hf g n sl SH FI FL FR v s 1100 0 o [] h hS hd hv0 (by omega) (by omega) (by simp [lp_fl])
  generalize lp_tx K W f 1100 0 [] = r at k5
  match r, k5 with
  | none, k5 =>
    rcases k1 with ⟨h1, h⟩ | ⟨h1, h⟩
    · exact absurd h1 k5
    · obtain ⟨v3, n3, sl3, SH3, FI3, FL3, FR3, hc, rfl, rfl⟩ := h
      obtain ⟨e1, e2⟩ := c_faulty hc
      exact ⟨e1, u_tr k3 e2⟩
  | some V, ⟨⟨o1, q1⟩, q2, q3⟩ =>
    rcases k1 with ⟨h1, h⟩ | ⟨h1, h⟩
    · obtain ⟨g2, h⟩ := h
      rcases c_82 q2 q3 g2 0 n2 sl2 SH2 FR2 v s 0 h (by decide) (by omega) with ⟨⟨j, x, -, a2, a3⟩, a4, a5⟩ | ⟨a1, a2⟩
      · exact Or.inl ⟨⟨x, List.mem_iff_getElem?.mpr ⟨j, a2⟩, a3⟩, a4, u_tr k3 a5⟩
      · refine Or.inr ⟨fun x hx => ?_, ?_⟩
        · obtain ⟨j, hj⟩ := List.mem_iff_getElem?.mp hx
          exact a1 j x (by omega) hj
        · obtain ⟨g3, a2⟩ := a2
          refine c_151 hk q3 (fun j x hj => a1 j x (by omega) hj) g3 0 n2 sl2 SH2 _ FL2 FR2 v s 0 a2 (by decide) (by omega) ?_ ⟨o1, T, d_fl q1 (by decide) (by decide) (by decide) (by decide)⟩ ?_ ?_ (fun j v hj => by omega)
          · refine ⟨by rw [h_up_x (by decide)]; exact q2.1, q2.2.1, fun j x hj => ?_, fun e => by rw [h_up_nc (by decide)]; exact q2.2.2.2 e⟩
            rw [h_up_nc (by decide), h_up_nc (by decide), h_up_nc (by decide), h_up_nc (by decide)]
            exact q2.2.2.1 j x hj
          · rw [h_up_x (by decide), k4]; exact h67
          · rw [h_up_eq]; exact q2.1
    · exact absurd q1.2.1 h1
end CE
end
section
/-! THE TOKENS of a text X of N letters, as the reference cuts them. -/
def t_sg (X : Nat → Int) (N i : Nat) : Int := if i < N then X i else -1
def t_sm (c : Int) : Bool := decide (97 ≤ c ∧ c ≤ 122)
def t_dg (c : Int) : Bool := decide (48 ≤ c ∧ c ≤ 57)
def t_lt (c : Int) : Bool := t_sm c || decide (65 ≤ c ∧ c ≤ 90)
def t_al (c : Int) : Bool := t_sm c || t_dg c
def t_rn (p : Int → Bool) (X : Nat → Int) (N : Nat) : Nat → Nat → Nat
  | 0, i => i
  | f + 1, i => if p (t_sg X N i) = true then t_rn p X N f (i + 1) else i
def t_cd (c : Int) : Int := if t_sm c = true then c - 96 else c - 21
def t_wv (X : Nat → Int) (N i : Nat) : Nat → Int
  | 0 => 0
  | m + 1 => 37 * t_wv X N i m + t_cd (t_sg X N (i + m))
def t_nv (X : Nat → Int) (N i : Nat) : Nat → Int
  | 0 => 0
  | m + 1 => 10 * t_nv X N i m + t_sg X N (i + m) - 48
def t_wd (v : Int) : Int := if v = 24834 then 0 else if v = 41299405 then 1 else if v = 5042231 then 2 else if v = 730200 then 3 else if v = 224 then 4 else if v = 4330 then 5 else if v = 20619 then 6 else if v = 27843 then 7 else if v = 5831 then 8 else if v = 18356 then 9 else -1
def t_s2 (c n m : Int) : Int := if c = 46 ∧ n = 46 then 256 else if c = 61 ∧ n = 61 then 257 else if c = 33 ∧ n = 61 then 258 else if c = 60 ∧ n = 61 then 259 else if c = 62 ∧ n = 61 then 260 else if c = 60 ∧ n = 60 then 261 else if c = 62 ∧ n = 62 then (if m = 62 then 263 else 262) else -1
def t_s1 (c : Int) : Bool := decide (c = 61 ∨ c = 59 ∨ c = 44 ∨ c = 58 ∨ c = 123 ∨ c = 125 ∨ c = 91 ∨ c = 93 ∨ c = 40 ∨ c = 41 ∨ c = 47 ∨ c = 37 ∨ c = 63 ∨ c = 124 ∨ c = 94 ∨ c = 38 ∨ c = 60 ∨ c = 62 ∨ c = 43 ∨ c = 45 ∨ c = 42 ∨ c = 126)
/-- a sign: kind, worth, how many letters -/
def t_sn (c n m : Int) : Int × Int × Nat := if t_s2 c n m ≠ -1 then (5, t_s2 c n m, if t_s2 c n m = 263 then 3 else 2) else if t_s1 c = true then (5, c, 1) else (6, -1, 1)
/-- the token at i: kind, worth, its end -/
def t_tk (X : Nat → Int) (N i : Nat) : Int × Int × Nat :=
  if t_sm (t_sg X N i) = true then
    (if t_rn t_al X N 1001 i - i > 8 then (6, 0, t_rn t_al X N 1001 i) else if t_wd (t_wv X N i (t_rn t_al X N 1001 i - i)) = -1 then (1, t_wv X N i (t_rn t_al X N 1001 i - i), t_rn t_al X N 1001 i) else (2, t_wd (t_wv X N i (t_rn t_al X N 1001 i - i)), t_rn t_al X N 1001 i))
  else if t_dg (t_sg X N i) = true then
    (if t_rn t_dg X N 1001 i - i > 18 then 6 else if t_lt (t_sg X N (t_rn t_dg X N 1001 i)) = true then 6 else 3, t_nv X N i (min (t_rn t_dg X N 1001 i - i) 18), t_rn t_dg X N 1001 i)
  else if t_sg X N i = 64 then (if 49 ≤ t_sg X N (i + 1) ∧ t_sg X N (i + 1) ≤ 56 then (4, t_sg X N (i + 1) - 48, i + 2) else (6, t_sg X N (i + 1) - 48, i + 1))
  else ((t_sn (t_sg X N i) (t_sg X N (i + 1)) (t_sg X N (i + 2))).1, (t_sn (t_sg X N i) (t_sg X N (i + 1)) (t_sg X N (i + 2))).2.1, i + (t_sn (t_sg X N i) (t_sg X N (i + 1)) (t_sg X N (i + 2))).2.2)
def t_bl (c : Int) : Bool := decide (c = 32 ∨ c = 10)
def t_tl (X : Nat → Int) (N : Nat) : Nat → Nat → List (Int × Int × Nat)
  | 0, _ => []
  | f + 1, i => if i < N then (if t_bl (t_sg X N i) = true then t_tl X N f (i + 1) else ((t_tk X N i).1, (t_tk X N i).2.1, i) :: t_tl X N f (t_tk X N i).2.2) else [(0, 0, N)]
theorem t_rn_ge {p : Int → Bool} {X : Nat → Int} {N : Nat} : ∀ (f i : Nat), i ≤ t_rn p X N f i
  | 0, i => Nat.le_refl _
  | f + 1, i => by
    rw [t_rn]
    split
    · have := t_rn_ge (p := p) (X := X) (N := N) f (i + 1)
      omega
    · exact Nat.le_refl _
theorem t_sg_N {X : Nat → Int} {N i : Nat} (h : N ≤ i) : t_sg X N i = -1 := by unfold t_sg; rw [if_neg (by omega)]
theorem t_rn_le {p : Int → Bool} (hp : p (-1) = false) {X : Nat → Int} {N : Nat} : ∀ (f i : Nat), i ≤ N → t_rn p X N f i ≤ N
  | 0, i, h => h
  | f + 1, i, h => by
    rw [t_rn]
    split
    · rename_i h1
      have hi : i < N := by
        rcases Nat.lt_or_ge i N with h2 | h2
        · exact h2
        · rw [t_sg_N h2, hp] at h1
          cases h1
      exact t_rn_le hp f (i + 1) hi
    · exact h
theorem t_rn_in {p : Int → Bool} {X : Nat → Int} {N : Nat} : ∀ (f i j : Nat), i ≤ j → j < t_rn p X N f i → p (t_sg X N j) = true
  | 0, i, j, h1, h2 => by
    have h3 : j < i := h2
    omega
  | f + 1, i, j, h1, h2 => by
    rw [t_rn] at h2
    split at h2
    · rename_i h3
      by_cases e : j = i
      · subst e; exact h3
      · exact t_rn_in f (i + 1) j (by omega) h2
    · omega
theorem t_rn_out {p : Int → Bool} (hp : p (-1) = false) {X : Nat → Int} {N : Nat} : ∀ (f i : Nat), N - i < f → p (t_sg X N (t_rn p X N f i)) = false
  | 0, i, h => by omega
  | f + 1, i, h => by
    rw [t_rn]
    split
    · rename_i h1
      have hi : i < N := by
        rcases Nat.lt_or_ge i N with h2 | h2
        · exact h2
        · rw [t_sg_N h2, hp] at h1
          cases h1
      exact t_rn_out hp f (i + 1) (by omega)
    · rename_i h1
      simpa using h1
theorem t_cd_rg {c : Int} (h : t_al c = true) : 1 ≤ t_cd c ∧ t_cd c ≤ 36 := by
  unfold t_cd
  have h2 : (97 ≤ c ∧ c ≤ 122) ∨ (48 ≤ c ∧ c ≤ 57) := by simpa [t_al, t_sm, t_dg] using h
  by_cases h3 : t_sm c = true
  · rw [if_pos h3]
    have : 97 ≤ c ∧ c ≤ 122 := by simpa [t_sm] using h3
    omega
  · rw [if_neg h3]
    have : ¬ (97 ≤ c ∧ c ≤ 122) := by simpa [t_sm] using h3
    omega
theorem t_wv_rg {X : Nat → Int} {N i : Nat} : ∀ (m : Nat), (∀ j, i ≤ j → j < i + m → t_al (t_sg X N j) = true) → m ≤ 8 → 0 ≤ t_wv X N i m ∧ t_wv X N i m < 37 ^ m
  | 0, _, _ => by simp [t_wv]
  | m + 1, h, hm => by
    have q := t_wv_rg m (fun j h1 h2 => h j h1 (by omega)) (by omega)
    have c := t_cd_rg (h (i + m) (by omega) (by omega))
    rw [t_wv, Int.pow_succ]
    omega
theorem t_nv_rg {X : Nat → Int} {N i : Nat} : ∀ (m : Nat), (∀ j, i ≤ j → j < i + m → t_dg (t_sg X N j) = true) → m ≤ 18 → 0 ≤ t_nv X N i m ∧ t_nv X N i m < 10 ^ m
  | 0, _, _ => by simp [t_nv]
  | m + 1, h, hm => by
    have q := t_nv_rg m (fun j h1 h2 => h j h1 (by omega)) (by omega)
    have c : 48 ≤ t_sg X N (i + m) ∧ t_sg X N (i + m) ≤ 57 := by simpa [t_dg] using h (i + m) (by omega) (by omega)
    rw [t_nv, Int.pow_succ]
    omega
theorem p37_8 : ∀ m : Nat, m ≤ 8 → (37 : Int) ^ m ≤ 3512479453921 := by decide
theorem p10_18 : ∀ m : Nat, m ≤ 18 → (10 : Int) ^ m ≤ 1000000000000000000 := by decide
/-- the text as it lies on the reference's tape -/
def x_vw (FI : Nat → Nat → Int32) (X : Nat → Int) (N : Nat) : Prop := (FI 121 13).toInt = N ∧ N ≤ 1000 ∧ ∀ i, i < N → (FI 126 i).toInt = X i ∧ 0 ≤ X i ∧ X i ≤ 255
/-- the tokens as they lie in the cells -/
def t_vw (F0 : Nat → Nat → Int32) (L0 : Nat → Nat → Int64) (FI : Nat → Nat → Int32) (FL : Nat → Nat → Int64) (L : List (Int × Int × Nat)) : Prop := (FI 121 67).toInt = L.length ∧ (∀ i x, L[i]? = some x → (FI 149 i).toInt = x.1 ∧ (FL 150 i).toInt = x.2.1 ∧ (FI 151 i).toInt = x.2.2) ∧ ∀ i, L.length ≤ i → FI 149 i = F0 149 i ∧ FL 150 i = L0 150 i
def t_ap (a b : hS) (x : Int × Int × Nat) : Prop := kq mX12_token a b ∧ ∀ F0 L0 L, L.length ≤ 1001 → t_vw F0 L0 a.2.2.2.1 a.2.2.2.2.1 L → t_vw F0 L0 b.2.2.2.1 b.2.2.2.2.1 (L ++ [x])
section TK
variable {X : Nat → Int} {N : Nat} {n sl : Nat} {SH : Nat → Nat × Nat} {FI : Nat → Nat → Int32} {FL : Nat → Nat → Int64} {FR : Nat → Nat → Option Nat} {s : hS}
theorem x_sign {a : Int32} {i : Nat} (h : x_vw FI X N) (ha : a.toInt = i) : (fX12_sign a SH FI FL FR).toInt = t_sg X N i := by
  unfold fX12_sign t_sg
  rw [ha, h.1]
  by_cases h1 : i < N
  · rw [if_pos h1, if_pos (by omega), show ((i : Int)).toNat = i by omega]
    exact (h.2.2 i h1).1
  · rw [if_neg h1, if_neg (by omega)]
    decide
theorem t_sg_rg (h : x_vw FI X N) (i : Nat) : -1 ≤ t_sg X N i ∧ t_sg X N i ≤ 255 := by
  unfold t_sg
  by_cases h1 : i < N
  · rw [if_pos h1]
    have := h.2.2 i h1
    omega
  · rw [if_neg h1]; omega
theorem x_small {a : Int32} {c : Int} (ha : a.toInt = c) : (fX12_isSmall a SH FI FL FR).toInt = 0 ↔ t_sm c = false := by
  unfold fX12_isSmall t_sm
  have c97 : ((97 : Int32)).toInt = 97 := by decide
  have c122 : ((122 : Int32)).toInt = 122 := by decide
  rw [ha, c97, c122, decide_eq_false_iff_not]
  split
  · exact ⟨fun _ => by omega, fun _ => by decide⟩
  · split
    · exact ⟨fun _ => by omega, fun _ => by decide⟩
    · exact ⟨fun h => absurd h (by decide), fun h => by omega⟩
theorem x_digit {a : Int32} {c : Int} (ha : a.toInt = c) : (fX12_isDigit a SH FI FL FR).toInt = 0 ↔ t_dg c = false := by
  unfold fX12_isDigit t_dg
  have c97 : ((48 : Int32)).toInt = 48 := by decide
  have c122 : ((57 : Int32)).toInt = 57 := by decide
  rw [ha, c97, c122, decide_eq_false_iff_not]
  split
  · exact ⟨fun _ => by omega, fun _ => by decide⟩
  · split
    · exact ⟨fun _ => by omega, fun _ => by decide⟩
    · exact ⟨fun h => absurd h (by decide), fun h => by omega⟩
theorem x_letter {a : Int32} {c : Int} (ha : a.toInt = c) : (fX12_isLetter a SH FI FL FR).toInt = 0 ↔ t_lt c = false := by
  have hs := x_small (SH := SH) (FI := FI) (FL := FL) (FR := FR) ha
  unfold fX12_isLetter t_lt
  have c97 : ((65 : Int32)).toInt = 65 := by decide
  have c122 : ((90 : Int32)).toInt = 90 := by decide
  rw [ha, c97, c122, Bool.or_eq_false_iff, decide_eq_false_iff_not]
  split
  · rename_i h0
    have h1 := hs.mp h0
    split
    · exact ⟨fun _ => ⟨h1, by omega⟩, fun _ => by decide⟩
    · split
      · exact ⟨fun _ => ⟨h1, by omega⟩, fun _ => by decide⟩
      · exact ⟨fun h => absurd h (by decide), fun h => by omega⟩
  · rename_i h0
    exact ⟨fun h => absurd h (by decide), fun h => absurd (hs.mpr h.1) h0⟩
theorem x_word {a : Int64} {v : Int} (ha : a.toInt = v) : (fX12_word a SH FI FL FR).toInt = t_wd v := by
  have d0 : ((24834 : Int64)).toInt = 24834 := by decide
  have d1 : ((41299405 : Int64)).toInt = 41299405 := by decide
  have d2 : ((5042231 : Int64)).toInt = 5042231 := by decide
  have d3 : ((730200 : Int64)).toInt = 730200 := by decide
  have d4 : ((224 : Int64)).toInt = 224 := by decide
  have d5 : ((4330 : Int64)).toInt = 4330 := by decide
  have d6 : ((20619 : Int64)).toInt = 20619 := by decide
  have d7 : ((27843 : Int64)).toInt = 27843 := by decide
  have d8 : ((5831 : Int64)).toInt = 5831 := by decide
  have d9 : ((18356 : Int64)).toInt = 18356 := by decide
  unfold fX12_word t_wd
  rw [ha, d0, d1, d2, d3, d4, d5, d6, d7, d8, d9]
  split
  · decide
  · split
    · decide
    · split
      · decide
      · split
        · decide
        · split
          · decide
          · split
            · decide
            · split
              · decide
              · split
                · decide
                · split
                  · decide
                  · split <;> decide
theorem t_token {k p : Int32} {w : Int64} {K W : Int} {q : Nat} {v : Unit} (h : RX12_token k w p n sl SH FI FL FR v s) (hk : k.toInt = K) (hw : w.toInt = W) (hp : p.toInt = q) : t_ap (n, sl, SH, FI, FL, FR) s (K, W, q) := by
  refine ⟨kX12_token h, fun F0 L0 L hL hv => ?_⟩
  obtain ⟨-, -, -, -, rfl⟩ := h
  dsimp only at hv ⊢
  have hn : (FI 121 67).toInt.toNat = L.length := by have := hv.1; omega
  rw [hn]
  refine ⟨?_, fun i x hx => ?_, fun i hi => ?_⟩
  · rw [h_up_eq, i_add hv.1 (by decide : ((1 : Int32)).toInt = 1) (by omega) (by omega), List.length_append]
    rfl
  · have a1 : (h_up (h_up (h_up FI 149 L.length k) 151 L.length p) 121 67 (FI 121 67 + 1)) 149 i = h_up FI 149 L.length k 149 i := by rw [h_up_nc (by decide), h_up_nc (by decide)]
    have a2 : (h_up (h_up (h_up FI 149 L.length k) 151 L.length p) 121 67 (FI 121 67 + 1)) 151 i = h_up (h_up FI 149 L.length k) 151 L.length p 151 i := by rw [h_up_nc (by decide)]
    rw [a1, a2]
    have hi := (List.getElem?_eq_some_iff.mp hx).1
    rw [List.length_append] at hi
    have hi' : i < L.length + 1 := hi
    by_cases e : i = L.length
    · subst e
      rw [List.getElem?_append_right (Nat.le_refl _), Nat.sub_self] at hx
      cases hx
      rw [h_up_eq, h_up_eq, h_up_eq]
      exact ⟨hk, hw, hp⟩
    · rw [List.getElem?_append_left (by omega)] at hx
      rw [h_up_ne e, h_up_ne e, h_up_ne e, h_up_nc (by decide)]
      exact hv.2.1 i x hx
  · rw [List.length_append] at hi
    have hi' : L.length + 1 ≤ i := hi
    rw [h_up_nc (by decide), h_up_nc (by decide), h_up_ne (by omega), h_up_ne (by omega)]
    exact hv.2.2 i (by omega)
end TK
end
section
/-! signs. -/
section SG
variable {X : Nat → Int} {N : Nat} {n sl : Nat} {SH : Nat → Nat × Nat} {FI : Nat → Nat → Int32} {FL : Nat → Nat → Int64} {FR : Nat → Nat → Option Nat} {s : hS} {c a : Int32} {C : Int} {i : Nat}
theorem sg_356 {v m r : Int32} {V : Int} (h : RX12_signs_356 c a v m n sl SH FI FL FR r s) (ha : a.toInt = i) (hv : v.toInt = V) : t_ap (n, sl, SH, FI, FL, FR) s (if V = -1 then 6 else 5, V, i) ∧ r = m := by
  have cm1 : ((-1 : Int32)).toInt = -1 := by decide
  rcases h with ⟨h1, h⟩ | ⟨h1, h⟩
  · rw [hv, cm1] at h1
    obtain ⟨v1, n1, sl1, SH1, FI1, FL1, FR1, hc, rfl, rfl⟩ := h
    rw [if_pos h1]
    exact ⟨t_token hc (by decide) (i_2l hv) ha, rfl⟩
  · rw [hv, cm1] at h1
    obtain ⟨v1, n1, sl1, SH1, FI1, FL1, FR1, hc, rfl, rfl⟩ := h
    rw [if_neg h1]
    exact ⟨t_token hc (by decide) (i_2l hv) ha, rfl⟩
theorem sg_337 {m r : Int32} (h : RX12_signs_337 c a m n sl SH FI FL FR r s) (ha : a.toInt = i) (hc : c.toInt = C) (h0 : 0 ≤ C) : t_ap (n, sl, SH, FI, FL, FR) s (5, C, i) ∧ r = m := by
  rcases h with ⟨h1, h⟩ | ⟨h1, h⟩
  · exact absurd h1 (by decide)
  · have q := sg_356 h ha hc
    rw [if_neg (by omega)] at q
    exact q
theorem sg_258 {m r : Int32} (h : RX12_signs_258 c a m 0 n sl SH FI FL FR r s) (ha : a.toInt = i) (hc : c.toInt = C) (h0 : 0 ≤ C) (hA : ¬ (C = 61 ∨ C = 59 ∨ C = 44 ∨ C = 58 ∨ C = 123 ∨ C = 125 ∨ C = 91 ∨ C = 93 ∨ C = 40 ∨ C = 41)) : t_ap (n, sl, SH, FI, FL, FR) s (if t_s1 C = true then 5 else 6, if t_s1 C = true then C else -1, i) ∧ r = m := by
  have good : t_s1 C = true → RX12_signs_337 c a m n sl SH FI FL FR r s → t_ap (n, sl, SH, FI, FL, FR) s (if t_s1 C = true then 5 else 6, if t_s1 C = true then C else -1, i) ∧ r = m := by
    intro h1 h
    rw [if_pos h1, if_pos h1]
    exact sg_337 h ha hc h0
  rcases h with ⟨-, h⟩ | ⟨h1, h⟩
  · rw [hc] at h
    rcases h with ⟨g47, h⟩ | ⟨g47, h⟩
    · exact good (by unfold t_s1; exact decide_eq_true (by have z : ((47 : Int32)).toInt = 47 := (by decide); omega)) h
    · have z47 : ((47 : Int32)).toInt = 47 := by decide
      rcases h with ⟨g37, h⟩ | ⟨g37, h⟩
      · exact good (by unfold t_s1; exact decide_eq_true (by have z : ((37 : Int32)).toInt = 37 := (by decide); omega)) h
      · have z37 : ((37 : Int32)).toInt = 37 := by decide
        rcases h with ⟨g63, h⟩ | ⟨g63, h⟩
        · exact good (by unfold t_s1; exact decide_eq_true (by have z : ((63 : Int32)).toInt = 63 := (by decide); omega)) h
        · have z63 : ((63 : Int32)).toInt = 63 := by decide
          rcases h with ⟨g124, h⟩ | ⟨g124, h⟩
          · exact good (by unfold t_s1; exact decide_eq_true (by have z : ((124 : Int32)).toInt = 124 := (by decide); omega)) h
          · have z124 : ((124 : Int32)).toInt = 124 := by decide
            rcases h with ⟨g94, h⟩ | ⟨g94, h⟩
            · exact good (by unfold t_s1; exact decide_eq_true (by have z : ((94 : Int32)).toInt = 94 := (by decide); omega)) h
            · have z94 : ((94 : Int32)).toInt = 94 := by decide
              rcases h with ⟨g38, h⟩ | ⟨g38, h⟩
              · exact good (by unfold t_s1; exact decide_eq_true (by have z : ((38 : Int32)).toInt = 38 := (by decide); omega)) h
              · have z38 : ((38 : Int32)).toInt = 38 := by decide
                rcases h with ⟨g60, h⟩ | ⟨g60, h⟩
                · exact good (by unfold t_s1; exact decide_eq_true (by have z : ((60 : Int32)).toInt = 60 := (by decide); omega)) h
                · have z60 : ((60 : Int32)).toInt = 60 := by decide
                  rcases h with ⟨g62, h⟩ | ⟨g62, h⟩
                  · exact good (by unfold t_s1; exact decide_eq_true (by have z : ((62 : Int32)).toInt = 62 := (by decide); omega)) h
                  · have z62 : ((62 : Int32)).toInt = 62 := by decide
                    rcases h with ⟨g43, h⟩ | ⟨g43, h⟩
                    · exact good (by unfold t_s1; exact decide_eq_true (by have z : ((43 : Int32)).toInt = 43 := (by decide); omega)) h
                    · have z43 : ((43 : Int32)).toInt = 43 := by decide
                      rcases h with ⟨g45, h⟩ | ⟨g45, h⟩
                      · exact good (by unfold t_s1; exact decide_eq_true (by have z : ((45 : Int32)).toInt = 45 := (by decide); omega)) h
                      · have z45 : ((45 : Int32)).toInt = 45 := by decide
                        rcases h with ⟨g42, h⟩ | ⟨g42, h⟩
                        · exact good (by unfold t_s1; exact decide_eq_true (by have z : ((42 : Int32)).toInt = 42 := (by decide); omega)) h
                        · have z42 : ((42 : Int32)).toInt = 42 := by decide
                          rcases h with ⟨g126, h⟩ | ⟨g126, h⟩
                          · exact good (by unfold t_s1; exact decide_eq_true (by have z : ((126 : Int32)).toInt = 126 := (by decide); omega)) h
                          · have z126 : ((126 : Int32)).toInt = 126 := by decide
                            have hn : ¬ t_s1 C = true := by
                              unfold t_s1
                              rw [decide_eq_true_eq]
                              omega
                            rw [if_neg hn, if_neg hn]
                            rcases h with ⟨h1, h⟩ | ⟨h1, h⟩
                            · have q := sg_356 h ha (by decide : ((-1 : Int32)).toInt = -1)
                              rw [if_pos rfl] at q
                              exact q
                            · exact absurd (show ((0 : Int32)).toInt = 0 by decide) h1
  · exact absurd (show ((0 : Int32)).toInt = 0 by decide) h1
theorem sg_184 {v m r : Int32} {V : Int} (h : RX12_signs_184 c a v m n sl SH FI FL FR r s) (ha : a.toInt = i) (hc : c.toInt = C) (h0 : 0 ≤ C) (hv : v.toInt = V) : (V ≠ -1 ∧ t_ap (n, sl, SH, FI, FL, FR) s (5, V, i) ∧ r = m) ∨ (V = -1 ∧ t_ap (n, sl, SH, FI, FL, FR) s (if t_s1 C = true then 5 else 6, if t_s1 C = true then C else -1, i) ∧ r = 1) := by
  have cm1 : ((-1 : Int32)).toInt = -1 := by decide
  have good : t_s1 C = true → RX12_signs_253 c a 1 n sl SH FI FL FR r s → t_ap (n, sl, SH, FI, FL, FR) s (if t_s1 C = true then 5 else 6, if t_s1 C = true then C else -1, i) ∧ r = 1 := by
    intro h1 h
    rw [if_pos h1, if_pos h1]
    rcases h with ⟨h2, h⟩ | ⟨h2, h⟩
    · exact absurd h2 (by decide)
    · exact sg_337 h ha hc h0
  rcases h with ⟨h1, h⟩ | ⟨h1, h⟩
  · rw [hv, cm1] at h1
    refine Or.inr ⟨h1, ?_⟩
    rw [hc] at h
    rcases h with ⟨g61, h⟩ | ⟨g61, h⟩
    · exact good (by unfold t_s1; exact decide_eq_true (by have z : ((61 : Int32)).toInt = 61 := (by decide); omega)) h
    · have z61 : ((61 : Int32)).toInt = 61 := by decide
      rcases h with ⟨g59, h⟩ | ⟨g59, h⟩
      · exact good (by unfold t_s1; exact decide_eq_true (by have z : ((59 : Int32)).toInt = 59 := (by decide); omega)) h
      · have z59 : ((59 : Int32)).toInt = 59 := by decide
        rcases h with ⟨g44, h⟩ | ⟨g44, h⟩
        · exact good (by unfold t_s1; exact decide_eq_true (by have z : ((44 : Int32)).toInt = 44 := (by decide); omega)) h
        · have z44 : ((44 : Int32)).toInt = 44 := by decide
          rcases h with ⟨g58, h⟩ | ⟨g58, h⟩
          · exact good (by unfold t_s1; exact decide_eq_true (by have z : ((58 : Int32)).toInt = 58 := (by decide); omega)) h
          · have z58 : ((58 : Int32)).toInt = 58 := by decide
            rcases h with ⟨g123, h⟩ | ⟨g123, h⟩
            · exact good (by unfold t_s1; exact decide_eq_true (by have z : ((123 : Int32)).toInt = 123 := (by decide); omega)) h
            · have z123 : ((123 : Int32)).toInt = 123 := by decide
              rcases h with ⟨g125, h⟩ | ⟨g125, h⟩
              · exact good (by unfold t_s1; exact decide_eq_true (by have z : ((125 : Int32)).toInt = 125 := (by decide); omega)) h
              · have z125 : ((125 : Int32)).toInt = 125 := by decide
                rcases h with ⟨g91, h⟩ | ⟨g91, h⟩
                · exact good (by unfold t_s1; exact decide_eq_true (by have z : ((91 : Int32)).toInt = 91 := (by decide); omega)) h
                · have z91 : ((91 : Int32)).toInt = 91 := by decide
                  rcases h with ⟨g93, h⟩ | ⟨g93, h⟩
                  · exact good (by unfold t_s1; exact decide_eq_true (by have z : ((93 : Int32)).toInt = 93 := (by decide); omega)) h
                  · have z93 : ((93 : Int32)).toInt = 93 := by decide
                    rcases h with ⟨g40, h⟩ | ⟨g40, h⟩
                    · exact good (by unfold t_s1; exact decide_eq_true (by have z : ((40 : Int32)).toInt = 40 := (by decide); omega)) h
                    · have z40 : ((40 : Int32)).toInt = 40 := by decide
                      rcases h with ⟨g41, h⟩ | ⟨g41, h⟩
                      · exact good (by unfold t_s1; exact decide_eq_true (by have z : ((41 : Int32)).toInt = 41 := (by decide); omega)) h
                      · have z41 : ((41 : Int32)).toInt = 41 := by decide
                        exact sg_258 h ha hc h0 (by omega)
  · rw [hv, cm1] at h1
    have q := sg_356 h ha hv
    rw [if_neg h1] at q
    exact Or.inl ⟨h1, q⟩
theorem t_sn_2 {c n m V : Int} (h : t_s2 c n m = V) (hV : V ≠ -1) : t_sn c n m = (5, V, if V = 263 then 3 else 2) := by
  unfold t_sn
  rw [h, if_pos hV]
theorem t_sn_1 {c n m : Int} (h : t_s2 c n m = -1) : t_sn c n m = (if t_s1 c = true then 5 else 6, if t_s1 c = true then c else -1, 1) := by
  unfold t_sn
  rw [if_neg (by rw [h]; simp)]
  split <;> rfl
theorem sg_signs {r : Int32} (h : RX12_signs c a n sl SH FI FL FR r s) (hx : x_vw FI X N) (ha : a.toInt = i) (hi : i < N) (hc : c.toInt = t_sg X N i) : t_ap (n, sl, SH, FI, FL, FR) s ((t_sn (t_sg X N i) (t_sg X N (i + 1)) (t_sg X N (i + 2))).1, (t_sn (t_sg X N i) (t_sg X N (i + 1)) (t_sg X N (i + 2))).2.1, i) ∧ r.toInt = (t_sn (t_sg X N i) (t_sg X N (i + 1)) (t_sg X N (i + 2))).2.2 := by
  have hN := hx.2.1
  have h0 : 0 ≤ t_sg X N i := by unfold t_sg; rw [if_pos hi]; exact (hx.2.2 i hi).2.1
  have e1 := x_sign (SH := SH) (FL := FL) (FR := FR) hx (a := a + (1 : Int32)) (i := i + 1) (by rw [i_add ha (by decide : ((1 : Int32)).toInt = 1) (by omega) (by omega)]; omega)
  have e2 := x_sign (SH := SH) (FL := FL) (FR := FR) hx (a := a + (2 : Int32)) (i := i + 2) (by rw [i_add ha (by decide : ((2 : Int32)).toInt = 2) (by omega) (by omega)]; omega)
  generalize t_sg X N i = C at hc h0 ⊢
  generalize t_sg X N (i + 1) = D at e1 ⊢
  generalize t_sg X N (i + 2) = E at e2 ⊢
  have hit : ∀ (v m : Int32) (V : Int), v.toInt = V → V ≠ -1 → m.toInt = ((if V = 263 then 3 else 2 : Nat) : Int) → t_s2 C D E = V → RX12_signs_184 c a v m n sl SH FI FL FR r s → t_ap (n, sl, SH, FI, FL, FR) s ((t_sn C D E).1, (t_sn C D E).2.1, i) ∧ r.toInt = (t_sn C D E).2.2 := by
    intro v m V hv hV hm h2 h
    rw [t_sn_2 h2 hV]
    rcases sg_184 h ha hc h0 hv with ⟨-, q1, q2⟩ | ⟨q1, -⟩
    · exact ⟨q1, by rw [q2]; exact hm⟩
    · exact absurd q1 hV
  have miss : ∀ (m : Int32), t_s2 C D E = -1 → RX12_signs_184 c a (-1) m n sl SH FI FL FR r s → t_ap (n, sl, SH, FI, FL, FR) s ((t_sn C D E).1, (t_sn C D E).2.1, i) ∧ r.toInt = (t_sn C D E).2.2 := by
    intro m h2 h
    rw [t_sn_1 h2]
    rcases sg_184 h ha hc h0 (by decide : ((-1 : Int32)).toInt = -1) with ⟨q1, -⟩ | ⟨-, q1, q2⟩
    · exact absurd rfl q1
    · exact ⟨q1, by rw [q2]; rfl⟩
  have c46 : ((46 : Int32)).toInt = 46 := by decide
  have c61 : ((61 : Int32)).toInt = 61 := by decide
  have c33 : ((33 : Int32)).toInt = 33 := by decide
  have c60 : ((60 : Int32)).toInt = 60 := by decide
  have c62 : ((62 : Int32)).toInt = 62 := by decide
  have s134 : RX12_signs_134 c a (fX12_sign (a + (1 : Int32)) SH FI FL FR) (-1) 2 n sl SH FI FL FR r s → ¬ (C = 46 ∧ D = 46) → ¬ (C = 61 ∧ D = 61) → ¬ (C = 33 ∧ D = 61) → ¬ (C = 60 ∧ D = 61) → ¬ (C = 62 ∧ D = 61) → ¬ (C = 60 ∧ D = 60) → t_ap (n, sl, SH, FI, FL, FR) s ((t_sn C D E).1, (t_sn C D E).2.1, i) ∧ r.toInt = (t_sn C D E).2.2 := by
    intro h a1 a2 a3 a4 a5 a6
    rcases h with ⟨h1, h⟩ | ⟨h1, h⟩
    · rw [hc, c62] at h1
      rcases h with ⟨h2, h⟩ | ⟨h2, h⟩
      · rw [e1, c62] at h2
        rcases h with ⟨h3, h⟩ | ⟨h3, h⟩
        · rw [e2, c62] at h3
          rcases h with ⟨h4, h⟩ | ⟨h4, h⟩
          · exact hit 263 3 263 (by decide) (by decide) (by decide) (by unfold t_s2; rw [if_neg a1, if_neg a2, if_neg a3, if_neg a4, if_neg a5, if_neg a6, if_pos ⟨h1, h2⟩, if_pos h3]) h
          · exact absurd rfl h4
        · rw [e2, c62] at h3
          rcases h with ⟨h4, h⟩ | ⟨h4, h⟩
          · exact absurd h4 (by decide)
          · exact hit 262 2 262 (by decide) (by decide) (by decide) (by unfold t_s2; rw [if_neg a1, if_neg a2, if_neg a3, if_neg a4, if_neg a5, if_neg a6, if_pos ⟨h1, h2⟩, if_neg h3]) h
      · rw [e1, c62] at h2
        exact miss 2 (by unfold t_s2; rw [if_neg a1, if_neg a2, if_neg a3, if_neg a4, if_neg a5, if_neg a6, if_neg (fun e => h2 e.2)]) h
    · rw [hc, c62] at h1
      exact miss 2 (by unfold t_s2; rw [if_neg a1, if_neg a2, if_neg a3, if_neg a4, if_neg a5, if_neg a6, if_neg (fun e => h1 e.1)]) h
  have s114 : RX12_signs_114 c a (fX12_sign (a + (1 : Int32)) SH FI FL FR) (-1) 2 n sl SH FI FL FR r s → ¬ (C = 46 ∧ D = 46) → ¬ (C = 61 ∧ D = 61) → ¬ (C = 33 ∧ D = 61) → ¬ (C = 60 ∧ D = 61) → ¬ (C = 62 ∧ D = 61) → t_ap (n, sl, SH, FI, FL, FR) s ((t_sn C D E).1, (t_sn C D E).2.1, i) ∧ r.toInt = (t_sn C D E).2.2 := by
    intro h a1 a2 a3 a4 a5
    rcases h with ⟨h1, h⟩ | ⟨h1, h⟩
    · rw [hc, c60] at h1
      rcases h with ⟨h2, h⟩ | ⟨h2, h⟩
      · rw [e1, c60] at h2
        exact hit 261 2 261 (by decide) (by decide) (by decide) (by unfold t_s2; rw [if_neg a1, if_neg a2, if_neg a3, if_neg a4, if_neg a5, if_pos ⟨h1, h2⟩]) h
      · rw [e1, c60] at h2
        exact s134 h a1 a2 a3 a4 a5 (fun e => h2 e.2)
    · rw [hc, c60] at h1
      exact s134 h a1 a2 a3 a4 a5 (fun e => h1 e.1)
  have s94 : RX12_signs_94 c a (fX12_sign (a + (1 : Int32)) SH FI FL FR) (-1) 2 n sl SH FI FL FR r s → ¬ (C = 46 ∧ D = 46) → ¬ (C = 61 ∧ D = 61) → ¬ (C = 33 ∧ D = 61) → ¬ (C = 60 ∧ D = 61) → t_ap (n, sl, SH, FI, FL, FR) s ((t_sn C D E).1, (t_sn C D E).2.1, i) ∧ r.toInt = (t_sn C D E).2.2 := by
    intro h a1 a2 a3 a4
    rcases h with ⟨h1, h⟩ | ⟨h1, h⟩
    · rw [hc, c62] at h1
      rcases h with ⟨h2, h⟩ | ⟨h2, h⟩
      · rw [e1, c61] at h2
        exact hit 260 2 260 (by decide) (by decide) (by decide) (by unfold t_s2; rw [if_neg a1, if_neg a2, if_neg a3, if_neg a4, if_pos ⟨h1, h2⟩]) h
      · rw [e1, c61] at h2
        exact s114 h a1 a2 a3 a4 (fun e => h2 e.2)
    · rw [hc, c62] at h1
      exact s114 h a1 a2 a3 a4 (fun e => h1 e.1)
  have s74 : RX12_signs_74 c a (fX12_sign (a + (1 : Int32)) SH FI FL FR) (-1) 2 n sl SH FI FL FR r s → ¬ (C = 46 ∧ D = 46) → ¬ (C = 61 ∧ D = 61) → ¬ (C = 33 ∧ D = 61) → t_ap (n, sl, SH, FI, FL, FR) s ((t_sn C D E).1, (t_sn C D E).2.1, i) ∧ r.toInt = (t_sn C D E).2.2 := by
    intro h a1 a2 a3
    rcases h with ⟨h1, h⟩ | ⟨h1, h⟩
    · rw [hc, c60] at h1
      rcases h with ⟨h2, h⟩ | ⟨h2, h⟩
      · rw [e1, c61] at h2
        exact hit 259 2 259 (by decide) (by decide) (by decide) (by unfold t_s2; rw [if_neg a1, if_neg a2, if_neg a3, if_pos ⟨h1, h2⟩]) h
      · rw [e1, c61] at h2
        exact s94 h a1 a2 a3 (fun e => h2 e.2)
    · rw [hc, c60] at h1
      exact s94 h a1 a2 a3 (fun e => h1 e.1)
  have s54 : RX12_signs_54 c a (fX12_sign (a + (1 : Int32)) SH FI FL FR) (-1) 2 n sl SH FI FL FR r s → ¬ (C = 46 ∧ D = 46) → ¬ (C = 61 ∧ D = 61) → t_ap (n, sl, SH, FI, FL, FR) s ((t_sn C D E).1, (t_sn C D E).2.1, i) ∧ r.toInt = (t_sn C D E).2.2 := by
    intro h a1 a2
    rcases h with ⟨h1, h⟩ | ⟨h1, h⟩
    · rw [hc, c33] at h1
      rcases h with ⟨h2, h⟩ | ⟨h2, h⟩
      · rw [e1, c61] at h2
        exact hit 258 2 258 (by decide) (by decide) (by decide) (by unfold t_s2; rw [if_neg a1, if_neg a2, if_pos ⟨h1, h2⟩]) h
      · rw [e1, c61] at h2
        exact s74 h a1 a2 (fun e => h2 e.2)
    · rw [hc, c33] at h1
      exact s74 h a1 a2 (fun e => h1 e.1)
  have s34 : RX12_signs_34 c a (fX12_sign (a + (1 : Int32)) SH FI FL FR) (-1) 2 n sl SH FI FL FR r s → ¬ (C = 46 ∧ D = 46) → t_ap (n, sl, SH, FI, FL, FR) s ((t_sn C D E).1, (t_sn C D E).2.1, i) ∧ r.toInt = (t_sn C D E).2.2 := by
    intro h a1
    rcases h with ⟨h1, h⟩ | ⟨h1, h⟩
    · rw [hc, c61] at h1
      rcases h with ⟨h2, h⟩ | ⟨h2, h⟩
      · rw [e1, c61] at h2
        exact hit 257 2 257 (by decide) (by decide) (by decide) (by unfold t_s2; rw [if_neg a1, if_pos ⟨h1, h2⟩]) h
      · rw [e1, c61] at h2
        exact s54 h a1 (fun e => h2 e.2)
    · rw [hc, c61] at h1
      exact s54 h a1 (fun e => h1 e.1)
  rcases h with ⟨h1, h⟩ | ⟨h1, h⟩
  · rw [hc, c46] at h1
    rcases h with ⟨h2, h⟩ | ⟨h2, h⟩
    · rw [e1, c46] at h2
      exact hit 256 2 256 (by decide) (by decide) (by decide) (by unfold t_s2; rw [if_pos ⟨h1, h2⟩]) h
    · rw [e1, c46] at h2
      exact s34 h (fun e => h2 e.2)
  · rw [hc, c46] at h1
    exact s34 h (fun e => h1 e.1)
end SG
end
