/-! HOW MANY BYTES a text gives: at most three for each letter of an expression, four for each letter of all. P: where the tokens begin. -/
def tk_P (K W : Nat → Int) (P : Nat → Nat) : Prop := ∀ i, K i ≠ 0 → P i < P (i + 1) ∧ (K i = 3 → P (i + 1) ≤ P i + 2 → W i < 100) ∧ (K i = 4 → P i + 2 ≤ P (i + 1)) ∧ (K i = 2 → P i + 2 ≤ P (i + 1)) ∧ (K i = 5 ∧ W i = 256 → P i + 2 ≤ P (i + 1))
theorem lc_by_len (v : Int) : ∀ n, (lc_by v n).length = n
  | 0 => rfl
  | n + 1 => by rw [lc_by, List.length_cons, lc_by_len]
theorem lc_u_len : ∀ (n : Nat) (v : Int), (lc_u n v).length ≤ n + 1
  | 0, v => by simp [lc_u]
  | n + 1, v => by
    rw [lc_u]
    split
    · rw [List.length_cons]
      have := lc_u_len n (v / 128)
      omega
    · simp
theorem lc_u_1 {n : Nat} {v : Int} (h : v ≤ 127) : (lc_u n v).length = 1 := by
  cases n with
  | zero => rfl
  | succ n => rw [lc_u, if_neg (by omega)]; rfl
theorem lc_s_len : ∀ (n : Nat) (v : Int), (lc_s n v).length ≤ n + 1
  | 0, v => by simp [lc_s]
  | n + 1, v => by
    rw [lc_s]
    split
    · rw [List.length_cons]
      have := lc_s_len n (v / 128)
      omega
    · simp
theorem lc_s_0 : (lc_s 9 0).length = 1 := by decide
theorem lc_c_len (v : Int) : (lc_c v).length ≤ 9 ∧ (v < 100 → (lc_c v).length ≤ 3) := by
  unfold lc_c
  split
  · simp
  · split
    · simp [lc_by]
    · split
      · simp [lc_by]
      · split
        · simp only [List.length_cons, lc_by_len]; omega
        · simp only [List.length_cons, lc_by_len]; omega
theorem lc_un_len (k w : Int) : (lc_un k w).length ≤ 2 ∧ (k ≠ 4 → (lc_un k w).length = 1) := by
  unfold lc_un
  split
  · simp
  · split
    · split
      · simp
      · simp; omega
    · split <;> simp
section LN
variable {K W : Nat → Int} {P : Nat → Nat}
theorem lc_bs_k {t b : Nat} {x : Int} (h : lc_bs K W t = some (b, x)) : (b = t + 2 ∧ K t ≠ 0 ∧ K (t + 1) ≠ 0) ∨ (b = t + 1 ∧ K t = 2) := by
  unfold lc_bs at h
  split at h
  · rename_i h1
    split at h
    · rename_i h2
      cases h
      exact Or.inl ⟨rfl, by omega, by omega⟩
    · cases h
  · split at h
    · rename_i h2
      cases h
      exact Or.inr ⟨rfl, h2.1⟩
    · cases h
theorem lc_at_P (hP : tk_P K W P) {y : Bool} {t t1 : Nat} {c : List Int} (h : lc_at K W y t = some (t1, c)) : t < t1 ∧ P t < P t1 ∧ c.length + 3 * P t ≤ 3 * P t1 := by
  unfold lc_at at h
  split at h
  · rename_i h1
    cases h
    have p := hP t (by omega)
    have q := lc_c_len (W t)
    refine ⟨by omega, p.1, ?_⟩
    rcases Nat.lt_or_ge (P t + 2) (P (t + 1)) with h2 | h2
    · omega
    · have := q.2 (p.2.1 h1 h2)
      omega
  · split at h
    · rename_i h1 h2
      cases h
      have p := hP t (by omega)
      exact ⟨by omega, p.1, by simp; omega⟩
    · split at h
      · rename_i h1 h2 h3
        cases h
        have p := hP t (by omega)
        exact ⟨by omega, p.1, by simp; omega⟩
      · split at h
        · cases h
        · rename_i b x hb
          have hb2 := lc_bs_k hb
          have hbp : t < b ∧ P t + 2 ≤ P b := by
            rcases hb2 with ⟨e, k1, k2⟩ | ⟨e, k1⟩
            · have p1 := hP t k1
              have p2 := hP (t + 1) k2
              subst e
              exact ⟨by omega, by have := p1.1; have := p2.1; have e2 : P (t + 1 + 1) = P (t + 2) := rfl; omega⟩
            · have p1 := hP t (by omega)
              subst e
              exact ⟨by omega, p1.2.2.2.1 k1⟩
          split at h
          · rename_i hy
            cases h
            have hy2 : lc_ad K W b = true := by
              cases y
              · simp at hy
              · simpa using hy
            have h2 : (K b = 5 ∧ (W b = 43 ∨ W b = 45)) ∧ (K (b + 1) = 3 ∧ au_bn (K (b + 2)) (W (b + 2)) ≠ 7) := by simpa [lc_ad, lc_al] using hy2
            have p3 := hP b (by omega)
            have p4 := hP (b + 1) (by omega)
            have := lc_s_len 9 (lc_sg K W b)
            have e : P (b + 1 + 1) = P (b + 2) := rfl
            refine ⟨by omega, by omega, ?_⟩
            rw [List.length_cons]
            omega
          · cases h
            refine ⟨by omega, by omega, ?_⟩
            rw [List.length_cons, lc_s_0]
            omega
theorem lc_pr_P (hP : tk_P K W P) {l : Nat} (hl : 1 ≤ l) {sub : Nat → Option (Nat × List Int)} (hs : ∀ t t1 c, sub t = some (t1, c) → t < t1 ∧ P t < P t1 ∧ c.length + 3 * P t ≤ 3 * P t1) : ∀ (n t : Nat) (c : List Int) (t1 : Nat) (c1 : List Int), lc_pr sub K W l n t c = some (t1, c1) → t ≤ t1 ∧ P t ≤ P t1 ∧ c1.length + 3 * P t ≤ c.length + 3 * P t1 := by
  intro n
  induction n with
  | zero => intro t c t1 c1 h; cases h
  | succ n ih =>
    intro t c t1 c1 h
    rw [lc_pr] at h
    split at h
    · rename_i hb
      have hk : K t ≠ 0 := fun e => by rw [e, au_bn_k0] at hb; omega
      have p := hP t hk
      split at h
      · rename_i ha
        have ha2 : (l = 6 ∧ W t = 43) ∧ lc_al K W (t + 1) = true := by simpa using ha
        have hal : K (t + 1) = 3 ∧ au_bn (K (t + 1 + 1)) (W (t + 1 + 1)) ≠ 7 := by simpa [lc_al] using ha2.2
        have p2 := hP (t + 1) (by omega)
        have e : P (t + 1 + 1) = P (t + 2) := rfl
        have k := ih _ _ _ _ h
        rw [List.length_append, List.length_cons] at k
        have hu := lc_u_len 9 (W (t + 1))
        refine ⟨by omega, by omega, ?_⟩
        rcases Nat.lt_or_ge (P (t + 1) + 2) (P (t + 2)) with h2 | h2
        · omega
        · have := p2.2.1 hal.1 h2
          have := lc_u_1 (n := 9) (v := W (t + 1)) (by omega)
          omega
      · split at h
        · cases h
        · rename_i t2 c2 hq
          have q := hs _ _ _ hq
          split at h
          · cases h
            simp only [List.length_append, List.length_cons, List.length_nil]
            omega
          · have k := ih _ _ _ _ h
            simp only [List.length_append, List.length_cons, List.length_nil] at k
            omega
    · cases h
      omega
theorem lc_ps_P (hP : tk_P K W P) : ∀ (f l : Nat) (o : Int) (t t1 : Nat) (c : List Int), lc_ps K W f l o t = some (t1, c) → t < t1 ∧ P t < P t1 ∧ c.length + 3 * P t ≤ 3 * P t1 := by
  intro f
  induction f with
  | zero => intro l o t t1 c h; cases h
  | succ f ih =>
    intro l o t t1 c h
    rw [lc_ps] at h
    split at h
    · split at h
      · cases h
      · rename_i t2 c2 hq
        have q := ih _ _ _ _ _ hq
        split at h
        · rename_i h63
          have p1 := hP t2 (by omega)
          split at h
          · cases h
          · split at h
            · cases h
            · rename_i t3 c3 hq2
              have q2 := ih _ _ _ _ _ hq2
              split at h
              · rename_i h58
                have p2 := hP t3 (by omega)
                split at h
                · cases h
                · rename_i t4 c4 hq3
                  have q3 := ih _ _ _ _ _ hq3
                  cases h
                  simp only [lc_ch, List.length_append, List.length_cons, lc_by_len]
                  omega
              · cases h
        · cases h
          exact q
    · split at h
      · split at h
        · rename_i hu
          have hk : K t ≠ 0 := fun e => by rw [e, lc_uy_k0] at hu; cases hu
          have p1 := hP t hk
          split at h
          · cases h
          · split at h
            · cases h
            · rename_i t2 c2 hq
              have q := ih _ _ _ _ _ hq
              cases h
              have hu2 := lc_un_len (K t) (W t)
              rw [List.length_append]
              omega
        · split at h
          · rename_i h40
            have p1 := hP t (by omega)
            split at h
            · cases h
            · split at h
              · cases h
              · rename_i t2 c2 hq
                have q := ih _ _ _ _ _ hq
                split at h
                · rename_i h41
                  have p2 := hP t2 (by omega)
                  cases h
                  omega
                · cases h
          · exact lc_at_P hP h
      · rename_i hl0 hl8
        split at h
        · cases h
        · rename_i t2 c2 hq
          have q : t < t2 ∧ P t < P t2 ∧ c2.length + 3 * P t ≤ 3 * P t2 := by
            split at hq
            · exact lc_at_P hP hq
            · exact ih _ _ _ _ _ hq
          have k := lc_pr_P hP (by omega) (fun t t1 c => ih _ _ t t1 c) _ _ _ _ _ h
          omega
theorem lp_bl_P (hP : tk_P K W P) : ∀ (f m t t1 : Nat) (c : List Int), lp_bl K W f m t = some (t1, c) → t ≤ t1 ∧ P t ≤ P t1 ∧ c.length + 3 * P t ≤ 3 * P t1 := by
  intro f
  induction f with
  | zero => intro m t t1 c h; cases h
  | succ f ih =>
    intro m t t1 c h
    rw [lp_bl] at h
    split at h
    · rename_i h3
      have p1 := hP t (by omega)
      split at h
      · cases h
      · split at h
        · cases h
        · split at h
          · cases h
          · rename_i t2 c2 hq
            have q := ih _ _ _ _ hq
            cases h
            rw [List.length_cons]
            omega
    · cases h
      simp
theorem lp_pl_P (hP : tk_P K W P) {f : Nat} {o : Int} {t t1 : Nat} {c : List Int} (hi : lp_is (K t) (W t) = true) (h : lp_pl K W f o t = some (t1, c)) : t < t1 ∧ P t + 2 ≤ P t1 ∧ c.length + 3 * P t ≤ 3 * P t1 := by
  have hi2 : (K t = 5 ∧ W t = 91) ∨ (K t = 2 ∧ (W t = 0 ∨ W t = 1 ∨ W t = 2 ∨ W t = 3)) := by simpa [lp_is] using hi
  have p1 := hP t (by omega)
  unfold lp_pl at h
  split at h
  · split at h
    · cases h
    · split at h
      · cases h
      · rename_i t2 c2 hq
        have q := lc_ps_P hP _ _ _ _ _ _ hq
        split at h
        · rename_i h93
          have p2 := hP t2 (by omega)
          cases h
          omega
        · cases h
  · rename_i h91
    have p2 := p1.2.2.2.1 (by omega)
    split at h
    · split at h
      · rename_i h3
        have p3 := hP (t + 1) (by omega)
        cases h
        have e : P (t + 1 + 1) = P (t + 2) := rfl
        simp only [List.length_cons, List.length_nil]
        omega
      · cases h
    · split at h
      · split at h
        · cases h
        · rename_i t2 c2 hq
          have q := lc_ps_P hP _ _ _ _ _ _ hq
          cases h
          simp only [List.length_append, List.length_cons, List.length_nil]
          omega
      · split at h
        · split at h
          · split at h
            · cases h
            · rename_i t2 c2 hq
              have q := lp_bl_P hP _ _ _ _ _ hq
              cases h
              simp only [List.length_cons]
              omega
          · cases h
        · cases h
          simp
          omega
theorem lp_pt_P (hP : tk_P K W P) {f : Nat} : ∀ (g m t t1 : Nat) (c : List Int), lp_pt K W f g m t = some (t1, c) → t < t1 ∧ P t + 2 ≤ P t1 ∧ c.length + 3 * P t ≤ 3 * P t1 := by
  intro g
  induction g with
  | zero => intro m t t1 c h; cases h
  | succ g ih =>
    intro m t t1 c h
    rw [lp_pt] at h
    split at h
    · rename_i hi
      split at h
      · cases h
      · rename_i t2 c2 hq
        have q := lp_pl_P hP hi.1 hq
        split at h
        · rename_i h47
          have p1 := hP t2 (by omega)
          have p2 := hP (t2 + 1) (by omega)
          have e1 : P (t2 + 1 + 1) = P (t2 + 2) := rfl
          have hu := lc_u_1 (n := 9) (v := W (t2 + 1)) (by omega)
          split at h
          · rename_i h44
            have p3 := hP (t2 + 2) (by omega)
            have e2 : P (t2 + 2 + 1) = P (t2 + 3) := rfl
            split at h
            · cases h
            · rename_i t3 c3 hq2
              have q2 := ih _ _ _ _ hq2
              cases h
              simp only [List.length_append, List.length_cons]
              omega
          · split at h
            · rename_i h125
              have p3 := hP (t2 + 2) (by omega)
              have e2 : P (t2 + 2 + 1) = P (t2 + 3) := rfl
              cases h
              simp only [List.length_append, List.length_cons]
              omega
            · cases h
        · cases h
    · cases h
theorem lp_lc_P (hP : tk_P K W P) {f t t1 : Nat} {c : List Int} (h : lp_lc K W f t = some (t1, c)) : t < t1 ∧ P t + 2 ≤ P t1 ∧ c.length + 3 * P t ≤ 3 * P t1 := by
  unfold lp_lc at h
  split at h
  · rename_i h123
    have p1 := hP t (by omega)
    have q := lp_pt_P hP _ _ _ _ _ h
    omega
  · split at h
    · rename_i hi
      exact lp_pl_P hP hi h
    · cases h
theorem lp_rw_P (hP : tk_P K W P) {f : Nat} : ∀ (g m t t1 m1 : Nat) (c : List Int) (b : Bool), lp_rw K W f g m t = some (t1, m1, c, b) → t < t1 ∧ P t < P t1 ∧ c.length + 4 + 4 * P t ≤ 4 * P t1 := by
  intro g
  induction g with
  | zero => intro m t t1 m1 c b h; cases h
  | succ g ih =>
    intro m t t1 m1 c b h
    rw [lp_rw] at h
    split at h
    · rename_i hr
      have p1 := hP t (by omega)
      have p2 := hP (t + 1) (by omega)
      have p3 := hP (t + 2) (by omega)
      have p4 := hP (t + 3) (by omega)
      have p5 := p2.2.2.2.2 ⟨hr.2.2.1, hr.2.2.2.1⟩
      have e1 : P (t + 1 + 1) = P (t + 2) := rfl
      have e2 : P (t + 2 + 1) = P (t + 3) := rfl
      have e3 : P (t + 3 + 1) = P (t + 4) := rfl
      split at h
      · cases h
      · rename_i t2 c2 hq
        have q := lp_lc_P hP hq
        split at h
        · rename_i h44
          have p6 := hP t2 (by omega)
          split at h
          · cases h
          · rename_i t3 m3 c3 b3 hq2
            have q2 := ih _ _ _ _ _ _ hq2
            cases h
            simp only [List.length_append, lc_by_len]
            omega
        · cases h
          simp only [List.length_append, lc_by_len]
          omega
    · cases h
theorem lp_bd_P (hP : tk_P K W P) {f t t1 m : Nat} {c : List Int} {b : Bool} (h : lp_bd K W f t = some (t1, m, c, b)) : t < t1 ∧ P t < P t1 ∧ c.length + 4 * P t ≤ 12 + 4 * P t1 := by
  unfold lp_bd at h
  split at h
  · split at h
    · cases h
    · rename_i t2 m2 c2 b2 hq
      have q := lp_rw_P hP _ _ _ _ _ _ _ hq
      cases h
      simp only [List.length_append, lc_by_len]
      omega
  · split at h
    · cases h
    · rename_i t2 c2 hq
      have q := lp_lc_P hP hq
      cases h
      omega
end LN
