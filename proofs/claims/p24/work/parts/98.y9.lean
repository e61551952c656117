/-! compile, behind its tokens. -/
theorem lp_st_P {K W : Nat → Int} {P : Nat → Nat} (hP : tk_P K W P) {f t t1 : Nat} {V V1 : List lp_V} (h : lp_st K W f t V = some (t1, V1)) : t < t1 ∧ (lp_fl V1).length + 4 * P t ≤ (lp_fl V).length + 4 * P t1 := by
  unfold lp_st at h
  split at h
  · rename_i hc
    have p1 := hP t (by omega)
    have p2 := hP (t + 1) (by omega)
    have e : P (t + 1 + 1) = P (t + 2) := rfl
    split at h
    · cases h
    · rename_i t2 m c b hq
      have q := lp_bd_P hP hq
      split at h
      · rename_i h59
        have p3 := hP t2 (by omega)
        cases h
        rw [lp_fl_snoc, List.length_append]
        dsimp only
        omega
      · cases h
  · cases h
theorem lp_tx_P {K W : Nat → Int} {P : Nat → Nat} {T : Nat} (hP : tk_P K W P) (hn : ∀ i, i < T → K i ≠ 0) (hT : K T = 0) {f : Nat} : ∀ (g t : Nat) (V V1 : List lp_V), t ≤ T → (∀ t1 V2, lp_st K W f t V = some (t1, V2) → True) → lp_tx K W f g t V = some V1 → (∀ (t t1 : Nat) (V V2 : List lp_V), t ≤ T → lp_st K W f t V = some (t1, V2) → t1 ≤ T) → (lp_fl V1).length + 4 * P t ≤ (lp_fl V).length + 4 * P T := by
  intro g
  induction g with
  | zero => intro t V V1 ht _ h; cases h
  | succ g ih =>
    intro t V V1 ht _ h hle
    rw [lp_tx_st] at h
    split at h
    · rename_i h0
      cases h
      have e : t = T := by
        rcases Nat.lt_or_ge t T with h1 | h1
        · exact absurd h0 (hn t h1)
        · omega
      subst e
      omega
    · split at h
      · cases h
      · rename_i t2 V2 hq
        have q := lp_st_P hP hq
        have k := ih t2 V2 V1 (hle t t2 V V2 ht hq) (fun _ _ _ => trivial) h hle
        omega
/-- the variables as they stand: count, names, rows, beginnings, bytes; the tokens they were told by -/
def u_vw (FI : Nat → Nat → Int32) (FL : Nat → Nat → Int64) (K W : Nat → Int) (T : Nat) (V : List lp_V) : Prop := (FI 121 74).toInt = V.length ∧ V.length ≤ 12 ∧ (∀ i v, V[i]? = some v → (FL 155 i).toInt = v.1 ∧ (FI 157 i).toInt = v.2.1 ∧ (FI 156 i).toInt = v.2.2.1 ∧ (FI 125 (20 + i)).toInt = v.2.2.2.1.length ∧ v.2.2.2.1.length ≤ 600 ∧ ∀ k, k < v.2.2.2.1.length → (FI 124 (12000 + 600 * i + k)).toInt = v.2.2.2.1.getD k 0) ∧ (∀ i, i ≤ T → (FI 152 i).toInt = K i ∧ (FL 153 i).toInt = W i)
def u_eq (FI F2 : Nat → Nat → Int32) (FL L2 : Nat → Nat → Int64) : Prop := F2 156 = FI 156 ∧ F2 157 = FI 157 ∧ F2 124 = FI 124 ∧ F2 125 = FI 125 ∧ F2 152 = FI 152 ∧ L2 153 = FL 153 ∧ L2 155 = FL 155 ∧ F2 121 74 = FI 121 74
theorem u_rf {FI : Nat → Nat → Int32} {FL : Nat → Nat → Int64} : u_eq FI FI FL FL := ⟨rfl, rfl, rfl, rfl, rfl, rfl, rfl, rfl⟩
theorem u_tr {F F2 F3 : Nat → Nat → Int32} {L L2 L3 : Nat → Nat → Int64} (h : u_eq F F2 L L2) (h2 : u_eq F2 F3 L2 L3) : u_eq F F3 L L3 := ⟨h2.1.trans h.1, h2.2.1.trans h.2.1, h2.2.2.1.trans h.2.2.1, h2.2.2.2.1.trans h.2.2.2.1, h2.2.2.2.2.1.trans h.2.2.2.2.1, h2.2.2.2.2.2.1.trans h.2.2.2.2.2.1, h2.2.2.2.2.2.2.1.trans h.2.2.2.2.2.2.1, h2.2.2.2.2.2.2.2.trans h.2.2.2.2.2.2.2⟩
def k_uv (m : k_M) : Bool := k_no m 156 && k_no m 157 && k_no m 124 && k_no m 125 && k_no m 152 && k_no (m.2.2.1, m.2.2.2, [], []) 153 && k_no (m.2.2.1, m.2.2.2, [], []) 155 && !k_in m.1 m.2.1 121 74
theorem u_kq {m : k_M} {a b : hS} (h : kq m a b) (hm : k_uv m = true) : u_eq a.2.2.2.1 b.2.2.2.1 a.2.2.2.2.1 b.2.2.2.2.1 := by
  unfold k_uv at hm
  simp only [Bool.and_eq_true, Bool.not_eq_true'] at hm
  obtain ⟨⟨⟨⟨⟨⟨⟨m1, m2⟩, m3⟩, m4⟩, m5⟩, m6⟩, m7⟩, m8⟩ := hm
  exact ⟨kq_cell h m1, kq_cell h m2, kq_cell h m3, kq_cell h m4, kq_cell h m5, kq_fl h m6, kq_fl h m7, kq_fld h m8⟩
section CP
variable {K W : Nat → Int} {P : Nat → Nat} {n sl : Nat} {SH : Nat → Nat × Nat} {FI : Nat → Nat → Int32} {FL : Nat → Nat → Int64} {FR : Nat → Nat → Option Nat} {t T f : Nat} {o : Int} {B : List Int} {s : hS} {V : List lp_V}
theorem lp_st_le (hk : tk_ok K W P T) {t t1 : Nat} {V V2 : List lp_V} (ht : t ≤ T) (h : lp_st K W f t V = some (t1, V2)) : K (t1 - 1) ≠ 0 ∧ t < t1 := by
  have h0 := (lp_st_P hk.2.1 h).1
  unfold lp_st at h
  split at h
  · split at h
    · cases h
    · split at h
      · rename_i h59
        cases h
        exact ⟨by rw [Nat.add_sub_cancel]; omega, h0⟩
      · cases h
  · cases h
theorem c_34 (hk : tk_ok K W P T) (hf : 12 * T + 20 < f) : ∀ (g n sl : Nat) (SH : Nat → Nat × Nat) (FI : Nat → Nat → Int32) (FL : Nat → Nat → Int64) (FR : Nat → Nat → Option Nat) (v : Int32) (s : hS) (g2 t : Nat) (o : Int) (V : List lp_V), GX12_compile_34 g n sl SH FI FL FR v s → h_S n SH → d_vw K W FI FL t o (lp_fl V) → v_vw FI FL V → t ≤ T → T - t < g2 → (lp_fl V).length ≤ 4 * P t → ∃ n2 sl2 SH2 FI2 FL2 FR2, RX12_compile_60 n2 sl2 SH2 FI2 FL2 FR2 v s ∧ h_S n2 SH2 ∧ u_eq FI FI2 FL FL2 ∧ FI2 121 67 = FI 121 67 ∧ match lp_tx K W f g2 t V with
    | none => (FI2 121 69).toInt ≠ 0
    | some V1 => (∃ o1, d_vw K W FI2 FL2 T o1 (lp_fl V1)) ∧ v_vw FI2 FL2 V1 ∧ (lp_fl V1).length ≤ 4000 := by
  intro g
  induction g with
  | zero => intro n sl SH FI FL FR v s g2 t o V h; exact h.elim
  | succ g ih =>
    intro n sl SH FI FL FR v s g2 t o V h hS hd hv ht hg2 hL
    have hK : (FI 149 (FI 121 68).toInt.toNat).toInt = K t := by rw [tk_i hd.1, tk_K hd.1]
    cases g2 with
    | zero => omega
    | succ g2 =>
      rw [lp_tx_st]
      rcases h with ⟨h1, h⟩ | ⟨h1, h⟩
      · obtain ⟨-, h⟩ := h
        rcases h with ⟨h2, h⟩ | ⟨h2, h⟩
        · rw [hK] at h2
          rw [if_pos h2]
          have e : t = T := by
            rcases Nat.lt_or_ge t T with h3 | h3
            · exact absurd h2 (hk.2.2.2.2.1 t h3)
            · omega
          subst e
          have := hk.2.2.2.2.2
          exact ⟨n, sl, SH, FI, FL, FR, h, hS, u_rf, rfl, ⟨o, hd⟩, hv, by omega⟩
        · rw [hK] at h2
          rw [if_neg h2]
          obtain ⟨v2, n2, sl2, SH2, FI2, FL2, FR2, hc, h⟩ := h
          have kc := kX12_declared hc
          have hS2 : h_S n2 SH2 := by rw [show n2 = n from kc.1, show SH2 = SH from kc.2.2.1]; exact hS
          have hu : u_eq FI FI2 FL FL2 := u_kq kc (by decide)
          have h67 : FI2 121 67 = FI 121 67 := kq_fld kc (by decide)
          have q := d_declared (f := f) hc hS hk hf ht hd hv
          cases hr : lp_st K W f t V with
          | none =>
            rw [hr] at q
            have q' : (FI2 121 69).toInt ≠ 0 := q
            cases g with
            | zero => exact h.elim
            | succ g =>
              rcases h with ⟨h3, h⟩ | ⟨h3, h⟩
              · exact absurd h3 q'
              · exact ⟨n2, sl2, SH2, FI2, FL2, FR2, h, hS2, hu, h67, q'⟩
          | some r =>
            obtain ⟨t1, V1⟩ := r
            rw [hr] at q
            obtain ⟨q1, q2, ⟨o1, q3⟩, q4⟩ := q
            have hp := lp_st_P hk.2.1 hr
            obtain ⟨n3, sl3, SH3, FI3, FL3, FR3, k1, k2, k3, k4, k5⟩ := ih n2 sl2 SH2 FI2 FL2 FR2 v s g2 t1 o1 V1 h hS2 q3 q4 q2 (by omega) (by omega)
            exact ⟨n3, sl3, SH3, FI3, FL3, FR3, k1, k2, u_tr hu k3, k4.trans h67, k5⟩
      · exact absurd hd.2.1 h1
theorem c_faulty {a b v : Int32} (h : RX12_faulty a b n sl SH FI FL FR v s) : v = -1 ∧ u_eq FI s.2.2.2.1 FL s.2.2.2.2.1 := by
  have k := kX12_faulty h
  obtain ⟨v1, n1, sl1, SH1, FI1, FL1, FR1, hc, rfl, rfl⟩ := h
  exact ⟨rfl, u_kq k (by decide)⟩
end CP
