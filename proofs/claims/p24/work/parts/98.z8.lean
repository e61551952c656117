/-! numbers, @, signs; a token. -/
theorem h_up_up {α : Type} {F : Nat → Nat → α} {c k : Nat} {x y : α} : h_up (h_up F c k x) c k y = h_up F c k y := by
  funext a b
  by_cases h : a = c ∧ b = k
  · obtain ⟨rfl, rfl⟩ := h
    rw [h_up_eq, h_up_eq]
  · rw [h_up_x h, h_up_x h, h_up_x h]
/-- what a token leaves: its end, its kind; nothing else of the ints, of the longs the number alone -/
def y_to (FI F2 : Nat → Nat → Int32) (FL L2 : Nat → Nat → Int64) (e : Nat) (kd : Int) : Prop := (∀ c k, ¬ (c = 111 ∧ (k = 8 ∨ k = 9)) → F2 c k = FI c k) ∧ (∀ c k, ¬ (c = 111 ∧ k = 10) → L2 c k = FL c k) ∧ (F2 111 8).toInt = e ∧ (F2 111 9).toInt = kd
/-- the kinds of the class for the reference's -/
def t_ck (k w : Int) : Int := if k = 0 then 2 else if k = 1 then 4 else if k = 2 then w + 7 else if k = 3 then 5 else if k = 4 then 6 else if k = 5 then (if 256 ≤ w then w - 239 else w) else 3
section YN
variable {X : Nat → Int} {N tp : Nat} {n sl : Nat} {SH : Nat → Nat × Nat} {FI : Nat → Nat → Int32} {FL : Nat → Nat → Int64} {FR : Nat → Nat → Option Nat} {s : hS}
theorem y_62 {l1 : Int32} {p m : Nat} {v : Unit} (h : RX7_readNumber_62 l1 n sl SH FI FL FR v s) (hy : y_vw SH FI FR tp X N) (h7 : (FI 111 7).toInt = p) (hl : l1.toInt = m) (hp : p ≤ 1000) (hm : m ≤ 18) : ∃ F2, s = (n, sl, SH, F2, FL, FR) ∧ y_to FI F2 FL FL (p + m) (if t_dg (t_sg X N (p + m)) = true ∨ t_lt (t_sg X N (p + m)) = true then 3 else 5) := by
  obtain ⟨v1, n1, sl1, SH1, FI1, FL1, FR1, hc, h⟩ := h
  have hpm : ((FI 111 7) + l1).toInt = ((p + m : Nat) : Int) := by rw [i_add h7 hl (by omega) (by omega)]; omega
  obtain ⟨q1, q2⟩ := y_letter (i := p + m) hc (y_fl hy (by decide)) hpm
  cases q2
  have hdg := y_digit (SH := SH) (FI := h_up FI 111 8 ((FI 111 7) + l1)) (FL := FL) (FR := FR) q1
  have hsm := y_small (SH := SH) (FI := h_up FI 111 8 ((FI 111 7) + l1)) (FL := FL) (FR := FR) q1
  have c65 : ((65 : Int32)).toInt = 65 := by decide
  have c90 : ((90 : Int32)).toInt = 90 := by decide
  have fin : ∀ (kd : Int32) (K : Int), kd.toInt = K → s = (n, sl, SH, h_up (h_up FI 111 8 ((FI 111 7) + l1)) 111 9 kd, FL, FR) → ∃ F2, s = (n, sl, SH, F2, FL, FR) ∧ y_to FI F2 FL FL (p + m) K := by
    intro kd K hk hs
    refine ⟨_, hs, fun c k hck => ?_, fun _ _ _ => rfl, ?_, ?_⟩
    · rw [h_up_x (by rintro ⟨rfl, rfl⟩; exact hck ⟨rfl, Or.inr rfl⟩), h_up_x (by rintro ⟨rfl, rfl⟩; exact hck ⟨rfl, Or.inl rfl⟩)]
    · rw [h_up_x (by decide), h_up_eq]; exact hpm
    · rw [h_up_eq]; exact hk
  have e5 : ((5 : Int32)).toInt = 5 := by decide
  have e3 : ((3 : Int32)).toInt = 3 := by decide
  have hlt : t_lt (t_sg X N (p + m)) = (t_sm (t_sg X N (p + m)) || decide (65 ≤ t_sg X N (p + m) ∧ t_sg X N (p + m) ≤ 90)) := rfl
  rcases h with ⟨h1, h⟩ | ⟨h1, h⟩
  · have n1 := hdg.mp h1
    rcases h with ⟨h2, h⟩ | ⟨h2, h⟩
    · have n2 := hsm.mp h2
      rcases h with ⟨h3, h⟩ | ⟨h3, h⟩
      · obtain ⟨-, hs⟩ := h
        rw [q1, c65] at h3
        rw [if_neg (by rw [hlt, n1, n2]; simp; omega)]
        exact fin 5 5 e5 hs
      · rw [q1, c65] at h3
        rcases h with ⟨h4, h⟩ | ⟨h4, h⟩
        · obtain ⟨-, hs⟩ := h
          rw [q1, c90] at h4
          rw [if_neg (by rw [hlt, n1, n2]; simp; omega)]
          exact fin 5 5 e5 hs
        · obtain ⟨-, hs⟩ := h
          rw [q1, c90] at h4
          rw [if_pos (by rw [hlt, n2]; simp; omega)]
          exact fin 3 3 e3 hs
    · have n2 : t_sm (t_sg X N (p + m)) = true := by
        cases e : t_sm (t_sg X N (p + m)) with
        | true => rfl
        | false => exact absurd (hsm.mpr e) h2
      obtain ⟨-, hs⟩ := h
      rw [if_pos (by rw [hlt, n2]; simp)]
      exact fin 3 3 e3 hs
  · have n1 : t_dg (t_sg X N (p + m)) = true := by
      cases e : t_dg (t_sg X N (p + m)) with
      | true => rfl
      | false => exact absurd (hdg.mpr e) h1
    obtain ⟨-, hs⟩ := h
    rw [if_pos (Or.inl n1)]
    exact fin 3 3 e3 hs
theorem y_number_G {p : Nat} : ∀ (g : Nat) (l1 : Int32) (FL : Nat → Nat → Int64) (v : Unit) (s : hS) (j : Nat), GX7_readNumber_7 g l1 n sl SH FI FL FR v s → y_vw SH FI FR tp X N → (FI 111 7).toInt = p → p < N → l1.toInt = j → j ≤ 18 → j ≤ t_rn t_dg X N 1001 p - p → (FL 111 10).toInt = t_nv X N p j → ∃ F2 L2, s = (n, sl, SH, F2, L2, FR) ∧ y_to FI F2 FL L2 (p + min (t_rn t_dg X N 1001 p - p) 18) (if t_dg (t_sg X N (p + min (t_rn t_dg X N 1001 p - p) 18)) = true ∨ t_lt (t_sg X N (p + min (t_rn t_dg X N 1001 p - p) 18)) = true then 3 else 5) ∧ (L2 111 10).toInt = t_nv X N p (min (t_rn t_dg X N 1001 p - p) 18) := by
  intro g
  induction g with
  | zero => intro l1 FL v s j h; exact h.elim
  | succ g ih =>
    intro l1 FL v s j h hy h7 hpN hl hj hr hn
    have hN := hy.2.1
    have c18 : ((18 : Int32)).toInt = 18 := by decide
    have hin := t_rn_in (p := t_dg) (X := X) (N := N) 1001 p
    have hout := t_rn_out (p := t_dg) t_dg_m1 (X := X) (N := N) 1001 p (by omega)
    have hge := t_rn_ge (p := t_dg) (X := X) (N := N) 1001 p
    have hpj : ((FI 111 7) + l1).toInt = ((p + j : Nat) : Int) := by rw [i_add h7 hl (by omega) (by omega)]; omega
    have stop : min (t_rn t_dg X N 1001 p - p) 18 = j → RX7_readNumber_62 l1 n sl SH FI FL FR v s → ∃ F2 L2, s = (n, sl, SH, F2, L2, FR) ∧ y_to FI F2 FL L2 (p + min (t_rn t_dg X N 1001 p - p) 18) (if t_dg (t_sg X N (p + min (t_rn t_dg X N 1001 p - p) 18)) = true ∨ t_lt (t_sg X N (p + min (t_rn t_dg X N 1001 p - p) 18)) = true then 3 else 5) ∧ (L2 111 10).toInt = t_nv X N p (min (t_rn t_dg X N 1001 p - p) 18) := by
      intro hmin h
      rw [hmin]
      obtain ⟨F2, q1, q2⟩ := y_62 h hy h7 hl (by omega) hj
      exact ⟨F2, FL, q1, q2, hn⟩
    rcases h with ⟨h1, h⟩ | ⟨h1, h⟩
    · rw [hl, c18] at h1
      obtain ⟨v1, n1, sl1, SH1, FI1, FL1, FR1, hc, h⟩ := h
      obtain ⟨q1, q2⟩ := y_letter (i := p + j) hc hy hpj
      cases q2
      have hdg := y_digit (SH := SH) (FI := FI) (FL := FL) (FR := FR) q1
      have hrg := y_sg_rg hy (p + j)
      rcases h with ⟨h2, h⟩ | ⟨h2, h⟩
      · have n2 := hdg.mp h2
        have e : t_rn t_dg X N 1001 p - p = j := by
          rcases Nat.lt_or_ge j (t_rn t_dg X N 1001 p - p) with h3 | h3
          · have := hin (p + j) (by omega) (by omega)
            rw [n2] at this
            cases this
          · omega
        exact stop (by omega) h
      · have n2 : t_dg (t_sg X N (p + j)) = true := by
          cases e : t_dg (t_sg X N (p + j)) with
          | true => rfl
          | false => exact absurd (hdg.mpr e) h2
        have hjr : j < t_rn t_dg X N 1001 p - p := by
          rcases Nat.lt_or_ge j (t_rn t_dg X N 1001 p - p) with h3 | h3
          · exact h3
          · exfalso
            have e : p + j = t_rn t_dg X N 1001 p := by omega
            rw [e, hout] at n2
            cases n2
        obtain ⟨v4, n4, sl4, SH4, FI4, FL4, FR4, hd, h⟩ := h
        obtain ⟨r1, r2⟩ := y_letter (i := p + j) hd hy hpj
        cases r2
        have rg := t_nv_rg (X := X) (N := N) (i := p) j (fun q a b => hin q a (by omega)) (by omega)
        have pw2 : (10 : Int) ^ j ≤ 100000000000000000 := by
          have : ∀ m : Nat, m ≤ 17 → (10 : Int) ^ m ≤ 100000000000000000 := by decide
          exact this _ (by omega)
        have hx : (((FL 111 10) * ((10 : Int64))) + ((v4 - ((48 : Int32))).toInt64)).toInt = t_nv X N p (j + 1) := by
          rw [l_add (l_mul hn (by decide : ((10 : Int64)).toInt = 10) (by omega) (by omega)) (i_2l (i_sub r1 (by decide : ((48 : Int32)).toInt = 48) (by omega) (by omega))) (by omega) (by omega), t_nv]
          omega
        obtain ⟨F2, L2, w1, w2, w3⟩ := ih (l1 + 1) _ v s (j + 1) h hy h7 hpN (by rw [i_add hl (by decide : ((1 : Int32)).toInt = 1) (by omega) (by omega)]; omega) (by omega) (by omega) (by rw [h_up_eq]; exact hx)
        refine ⟨F2, L2, w1, ⟨w2.1, fun c k hck => ?_, w2.2.2⟩, w3⟩
        rw [w2.2.1 c k hck, h_up_x hck]
    · rw [hl, c18] at h1
      exact stop (by omega) h
/-- whether the k-th string's letters hold a letter -/
theorem y_ioc_G {k : Fin 11} {a2 a3 a4 l4 : Int32} {c8 : Int} (h4 : a4.toInt = x_strN.getD k.val 0) (hc : l4.toInt = c8) : ∀ (g : Nat) (l5 : Int32) (v : Int32) (s : hS) (j : Nat), GJ1_indexOfChar_4cfef_7 k a2 a3 a4 g l4 l5 n sl SH FI FL FR v s → l5.toInt = j → j ≤ 22 → s = (n, sl, SH, FI, FL, FR) ∧ (v.toInt < 0 ↔ ∀ i, j ≤ i → i < x_strN.getD k.val 0 → ((x_strB.getD k.val []).getD i 0).toInt ≠ c8) := by
  intro g
  induction g with
  | zero => intro l5 v s j h; exact h.elim
  | succ g ih =>
    intro l5 v s j h hl hj
    have hn : x_strN.getD k.val 0 ≤ 22 := by
      have : ∀ k : Fin 11, x_strN.getD k.val 0 ≤ 22 := by decide
      exact this k
    rcases h with ⟨h1, h⟩ | ⟨h1, h⟩
    · rw [hl, h4] at h1
      obtain ⟨-, h⟩ := h
      rw [show l5.toInt.toNat = j by omega, hc] at h
      rcases h with ⟨h2, h⟩ | ⟨h2, h⟩
      · obtain ⟨rfl, rfl⟩ := h
        exact ⟨rfl, fun e => by omega, fun e => absurd h2 (e j (Nat.le_refl _) (by omega))⟩
      · obtain ⟨w1, w2⟩ := ih (l5 + 1) v s (j + 1) h (by rw [i_add hl (by decide : ((1 : Int32)).toInt = 1) (by omega) (by omega)]; omega) (by omega)
        refine ⟨w1, w2.trans ⟨fun e i a b => ?_, fun e i a b => e i (by omega) b⟩⟩
        by_cases e2 : i = j
        · subst e2; exact h2
        · exact e i (by omega) b
    · rw [hl, h4] at h1
      obtain ⟨rfl, rfl⟩ := h
      exact ⟨rfl, fun _ i a b => by omega, fun _ => by decide⟩
theorem y_signs_in : ∀ c : Fin 256, (t_s1 (c.val : Int) = true ↔ ∃ i, i < 22 ∧ ((x_strB.getD 10 []).getD i 0).toInt = ((Int32.ofNat c.val).toInt8.toInt32).toInt) ∧ ((Int32.ofNat c.val).toUInt32 % 65536).toInt32 = Int32.ofNat c.val := by decide +kernel
theorem y_indexOf {a v : Int32} {C : Int} (h : RJ0_indexOf_0f7a4 (10 : Fin 11) ((a.toUInt32 % 65536).toInt32) n sl SH FI FL FR v s) (ha : a.toInt = C) (h0 : 0 ≤ C) (h255 : C ≤ 255) : s = (n, sl, SH, FI, FL, FR) ∧ (v.toInt < 0 ↔ t_s1 C = false) := by
  have ea : a = Int32.ofNat C.toNat := i_eqv (by rw [ha, i_lit (by omega)]; omega)
  have key := y_signs_in ⟨C.toNat, by omega⟩
  dsimp only at key
  rw [show ((C.toNat : Nat) : Int) = C by omega] at key
  rw [ea, key.2] at h
  obtain ⟨v0, n0, sl0, SH0, FI0, FL0, FR0, hc, rfl, rfl⟩ := h
  rcases hc with ⟨-, hc⟩ | ⟨-, hc⟩
  · exact hc.elim
  · obtain ⟨v3, n3, sl3, SH3, FI3, FL3, FR3, hd, rfl, h⟩ := hc
    cases h
    have e1 : (fJ1_canEncode_9a6ad (Int32.ofNat C.toNat) SH FI FL FR).toInt = 1 := by
      unfold fJ1_canEncode_9a6ad
      have c255 : ((255 : Int32)).toInt = 255 := by decide
      rw [i_lit (by omega), c255, if_neg (by omega), if_neg (by omega)]
      decide
    have e2 : fJ9_max_7cf53 0 0 SH FI FL FR = 0 := by unfold fJ9_max_7cf53; decide
    have e3 : fJ9_min_7cf53 (fJ0_length_8abf5 (10 : Fin 11) SH FI FL FR) (Int32.ofNat (x_strN.getD (10 : Fin 11).val 0)) SH FI FL FR = 22 := by unfold fJ9_min_7cf53 fJ0_length_8abf5; decide
    rcases hd with ⟨h1, hd⟩ | ⟨h1, hd⟩
    · rw [e1] at h1
      exact absurd h1 (by decide)
    · rw [e2, e3] at hd
      rcases hd with ⟨h2, hd⟩ | ⟨h2, hd⟩
      · obtain ⟨v5, n5, sl5, SH5, FI5, FL5, FR5, ⟨g, he⟩, rfl, h⟩ := hd
        cases h
        obtain ⟨w1, w2⟩ := y_ioc_G (k := (10 : Fin 11)) (a4 := 22) (by decide) rfl g 0 _ _ 0 he (by decide) (by omega)
        refine ⟨w1, w2.trans ⟨fun e => ?_, fun e i _ hi hx => ?_⟩⟩
        · cases hb : t_s1 C with
          | false => rfl
          | true =>
            obtain ⟨i, hi, hx⟩ := key.1.mp hb
            exact absurd hx (e i (by omega) hi)
        · have := key.1.mpr ⟨i, hi, hx⟩
          rw [e] at this
          cases this
      · exact absurd (by decide) h2
end YN
