/-! THE CLASS'S RUNS with FRAME's base. -/
/-- the inner run is no more than the outer one may do -/
theorem kI_k {FI F2 : Nat → Nat → Int32} {FL L2 : Nat → Nat → Int64} {FR R2 : Nat → Nat → Option Nat} (h : kzI FI FL FR F2 L2 R2) : kz FI FL FR F2 L2 R2 := ⟨fun c hc => h.1 c (by omega), fun c hc => h.2 c (by omega)⟩
theorem cv_kI {FI F2 : Nat → Nat → Int32} {FL L2 : Nat → Nat → Int64} {FR R2 : Nat → Nat → Option Nat} {SH : Nat → Nat × Nat} {s : ms_S} (hr : rg SH) (hv : cv FI FL FR SH s) (k : kzI FI FL FR F2 L2 R2) : cv F2 L2 R2 SH s := by
  obtain ⟨v1, v2, v3, v4, v5, v6, v7, v8, v9, v10⟩ := hv
  have e0 := kzI_rows k hr
  have a : ∀ c, c < 49 ∨ 69 < c → F2 c = FI c ∧ L2 c = FL c ∧ R2 c = FR c := k.1
  exact ⟨by rw [(a 48 (by omega)).1]; exact v1, v2, by rw [(a 70 (by omega)).2.1]; exact v3, chd_fr v4 e0 (a 71 (by omega)).1 (a 71 (by omega)).2.1 (a 71 (by omega)).2.2, by rw [(a 72 (by omega)).1]; exact v5, v6, by rw [(a 72 (by omega)).1]; exact v7, v8, v9, lv_mono (fun i q hi _ hq => cq_fr hq e0 (a _ (by omega)).1 (a _ (by omega)).2.1 (a _ (by omega)).2.2) v10⟩
theorem th_kI {FI F2 : Nat → Nat → Int32} {FL L2 : Nat → Nat → Int64} {FR R2 : Nat → Nat → Option Nat} (h : th FR ∧ thI FR) (k : kz FI FL FR F2 L2 R2) : th R2 ∧ thI R2 := by
  refine ⟨th_k h.1 k, ?_⟩
  unfold thI
  rw [k.2 52 (by first | decide | (simp; done) | (simp [ms_0]; done)), k.2 53 (by first | decide | (simp; done) | (simp [ms_0]; done))]
  exact h.2
theorem bs_tg {E : ms_E} {s : ms_S} (h : s.2.2 = []) (hok : ms_ok s.2.1) (h1 : s.2.1.1 ≠ 1) : ms_bs E s = (if (ms_tg s).1 = 2 then .inr (ms_rg E (ms_tg s).2.1.toInt.toNat) else if (ms_tg s).1 = 0 ∨ (ms_tg s).1 = 4 then .inl 11 else .inr (ms_tg s).2.1) := by
  unfold ms_bs ms_tg
  rw [if_neg (fun e => e h)]
  rcases hok with q | q | q | q | q
  · obtain ⟨S, H, P⟩ := s
    (try dsimp only at q ⊢)
    rw [if_neg (show ¬ H.1 = 2 by omega), if_neg (show ¬ H.1 = 3 by omega), if_pos q.1, if_pos q.1]
    cases S with
    | nil => rfl
    | cons t R => rfl
  · exact absurd q.1 h1
  · have q := q.1
    rw [if_neg (show ¬ s.2.1.1 = 0 by omega), if_neg (show ¬ s.2.1.1 = 0 by omega), if_pos q, if_pos q]
  · have q := q.1
    rw [if_neg (show ¬ s.2.1.1 = 2 by omega), if_pos q, if_neg (show ¬ s.2.1.1 = 0 by omega), if_neg (show ¬ s.2.1.1 = 2 by omega), if_neg (show ¬ (s.2.1.1 = 0 ∨ s.2.1.1 = 4) by omega)]
  · have q := q.1
    rw [if_neg (show ¬ s.2.1.1 = 2 by omega), if_neg (show ¬ s.2.1.1 = 3 by omega), if_neg (show ¬ s.2.1.1 = 0 by omega), if_neg (show ¬ s.2.1.1 = 0 by omega), if_neg (show ¬ s.2.1.1 = 2 by omega), if_pos (Or.inr q)]
section CB
variable {n sl : Nat} {SH : Nat → Nat × Nat} {FI F1 : Nat → Nat → Int32} {FL L1 : Nat → Nat → Int64} {FR R1 : Nat → Nat → Option Nat} {o f : Nat} {a3 a4 v c : Int32} {st : hS} {s : ms_S} {E : ms_E}
/-- FRAME's base -/
theorem c_bas (hS : h_S n SH) (ht : th FR ∧ thI FR) (hE : cE FI FL FR SH E) (hv : cv FI FL FR SH s) (hu : cu FI f) (h4 : a3.toInt = o) (ho8 : o ≤ 8) (h : RX9_base (FI 48 6) (FI 48 7) a3 n sl SH FI FL FR v st) : (ms_fr E = -1 ∧ v.toInt = 11 ∧ st = (n, sl, SH, FI, FL, FR)) ∨ (ms_fr E ≠ -1 ∧ ∃ q, ms_R E 1 o (ms_ex E (ms_fr E).toNat) 0 f ([], ms_0, []) q ∧ ∃ F2 L2 R2, st = (n, sl, SH, F2, L2, R2) ∧ kz FI FL FR F2 L2 R2 ∧ match q with
    | .inl e => v.toInt = e ∧ e ≠ 0
    | .inr y => (∃ e, ms_bs E y.2 = .inl e ∧ v.toInt = e ∧ e ≠ 0) ∨ (∃ b, ms_bs E y.2 = .inr b ∧ v.toInt = 0 ∧ L2 48 15 = b ∧ (∀ k, k ≠ 15 → L2 48 k = FL 48 k) ∧ cv F2 L2 R2 SH s ∧ cu F2 y.1 ∧ y.1 ≤ f ∧ F2 48 6 = FI 48 6)) := by
  have hr := rg_of hS
  obtain ⟨f1, f2, f3⟩ := hE.2.2.2.1
  obtain ⟨u1, u2, u3⟩ := id hu
  have h := P_n h (fun e => by cases e)
  rw [f1, show (Int32.ofNat (SH 26).2).toInt = 16 by rw [hS.2 26 (by first | decide | (simp; done) | (simp [ms_0]; done))]; decide +kernel] at h
  rcases h with ⟨h0, e1, e⟩ | ⟨h0, h⟩
  · exact Or.inl ⟨by omega, by rw [e1]; (first | decide | (simp; done) | (simp [ms_0]; done)), e⟩
  refine Or.inr ⟨by omega, ?_⟩
  have h := P_p h (by omega)
  obtain ⟨-, u3', n3, sl3, SH3, FI3, FL3, FR3, hrs, c5, ec5, v5, n5, sl5, SH5, FI5, FL5, FR5, hpf, h⟩ := h
  obtain ⟨F3, L3, e3, k3, v3, w3⟩ := c_resetI (f := f) hS ht.2 u1 u2 u3 hrs
  cases e3
  have e36 : FI3 49 6 = FI 48 6 := by
    obtain ⟨x1, x2, x3, x4, x5, x6, x7, ⟨-, y1⟩, z1, z2, z3, z4, z5, z6, z7, hcl, -, y2⟩ := hrs
    cases y1
    obtain ⟨p1, p2, p3, p4, p5, p6, p7, ⟨p8, p9, -, p10, p11⟩, p12, p13, p14, p15, p16, p17, p18, p19, p20, ⟨-, p21⟩, -, p22⟩ := hcl
    cases p11
    rw [ht.2.1] at p9
    cases p9
    rw [p10, ht.2.2 0 (by first | decide | (simp; done) | (simp [ms_0]; done))] at p13
    cases p13
    cases p21
    cases p22
    cases y2
    rw [h_up_nc (by first | decide | (simp; done) | (simp [ms_0]; done)), h_up_nc (by first | decide | (simp; done) | (simp [ms_0]; done)), h_up_nc (by first | decide | (simp; done) | (simp [ms_0]; done)), h_up_nc (by first | decide | (simp; done) | (simp [ms_0]; done)), h_up_nc (by first | decide | (simp; done) | (simp [ms_0]; done)), h_up_nc (by first | decide | (simp; done) | (simp [ms_0]; done)), h_up_nc (by first | decide | (simp; done) | (simp [ms_0]; done)), h_up_nc (by first | decide | (simp; done) | (simp [ms_0]; done)), h_up_ne (by first | decide | (simp; done) | (simp [ms_0]; done)), h_up_ne (by first | decide | (simp; done) | (simp [ms_0]; done)), h_up_ne (by first | decide | (simp; done) | (simp [ms_0]; done)), h_up_eq]
  have E3 := cE_kI hE hr k3
  obtain ⟨r2, x1, x2, x3, x4⟩ := E3.2.2.1 (ms_fr E).toNat (by omega)
  have efr : (FI 23 4).toInt.toNat = (ms_fr E).toNat := by rw [f1]
  try rw [efr] at ec5
  try rw [efr] at hpf
  rw [x1] at ec5 hpf
  cases ec5
  obtain ⟨g, hpf⟩ := hpf
  obtain ⟨q, hq, hcx⟩ := c_runI hS g _ 0 o f (ms_ex E (ms_fr E).toNat) ([], ms_0, []) _ _ _ v5 FI3 FL3 FR _ ht.2 E3 x4 (by omega) (by omega) (by first | decide | (simp; done) | (simp [ms_0]; done)) (by rw [x2, i_lit (by omega)]; omega) h4 ho8 v3 w3 hpf
  refine ⟨q, hq, ?_⟩
  -- behind the inner run
  have t88 : ∀ {F4 : Nat → Nat → Int32} {L4 : Nat → Nat → Int64} {R4 : Nat → Nat → Option Nat} {w : Int32}, w.toInt ≠ 0 → kzI FI FL FR F4 L4 R4 → RX9_base_88 (FI 48 6) (FI 48 7) a3 w n sl SH F4 L4 R4 v st → v = w ∧ ∃ F2 L2 R2, st = (n, sl, SH, F2, L2, R2) ∧ kz FI FL FR F2 L2 R2 := by
    intro F4 L4 R4 w hw k4 h
    have h := P_n h hw
    exact ⟨h.1, _, _, _, h.2, kz_i (kz_i (kI_k k4) (by first | decide | (simp; done) | (simp [ms_0]; done))) (by first | decide | (simp; done) | (simp [ms_0]; done))⟩
  match q, hq, hcx with
  | .inl e9, hq, ⟨y1, y2, F4, L4, R4, y3, y4⟩ =>
    cases y3
    have h := P_n h (by rw [y1]; exact y2)
    obtain ⟨z1, F2, L2, R2, z2, z3⟩ := t88 (by rw [y1]; exact y2) (kzI_tr k3 y4) h
    exact ⟨F2, L2, R2, z2, z3, by rw [z1]; exact y1, y2⟩
  | .inr y, hq, ⟨y1, F4, L4, R4, y3, y4, y5, y6, y7, y8⟩ =>
    cases y3
    have h := P_p h y1
    obtain ⟨v7, n7, sl7, SH7, FI7, FL7, FR7, hse, h⟩ := h
    have k5 := kzI_tr k3 y4
    have tI5 : thI FR5 := thI_k (thI_k ht.2 k3) y4
    obtain ⟨F6, L6, R6, z1, z2, z3, z4⟩ := c_settleI hS tI5 y5 hse
    cases z1
    have k7 := kzI_tr k5 z2
    have tI7 : thI FR7 := thI_k tI5 z2
    have hh1 : y.2.2.1.1 ≠ 1 := (ms_hz (fun k hk => by obtain ⟨rr, -, -, zz, -⟩ := hE.2.2.1 k hk; exact zz) f3 hq x3 sz_0).1.1
    rcases z4 with ⟨m1, m2, m3⟩ | ⟨m1, m2, m3, m4, m5, m6⟩ | ⟨m1, m3, m4, m5⟩
    · obtain ⟨p1, F2, L2, R2, p2, p3⟩ := t88 (by rw [m3]; (first | decide | (simp; done) | (simp [ms_0]; done))) k7 h
      exact ⟨F2, L2, R2, p2, p3, Or.inl ⟨13, by unfold ms_bs; rw [if_pos m1, if_pos m2], by rw [p1]; exact m3, by first | decide | (simp; done) | (simp [ms_0]; done)⟩⟩
    all_goals
      have h := P_p h m3
      obtain ⟨w8, n8, sl8, SH8, FI8, FL8, FR8, htb, e8, e⟩ := h
      obtain ⟨c1, ec1, w9, n9, sl9, SH9, FI9, FL9, FR9, ⟨c2, ec2, -, ev9, e9⟩, c3, ec3, htb⟩ := htb
      cases ec1
      cases ec3
      cases e9
      rw [tI7.1] at ec2
      cases ec2
      rw [tI7.2 0 (by first | decide | (simp; done) | (simp [ms_0]; done))] at ev9
      subst ev9
    · -- pieces: no base
      have hp : 0 < (FI7 52 1).toInt := by
        rw [m4, y5.2.2.2.2.1]
        cases hy : y.2.2.2 with
        | nil => exact absurd hy m1
        | cons a b => simp only [List.length_cons]; omega
      have htb := P_p htb (by rw [h_up_nc (by first | decide | (simp; done) | (simp [ms_0]; done)), h_up_nc (by first | decide | (simp; done) | (simp [ms_0]; done))]; exact hp)
      rw [htb.2] at e
      exact ⟨_, _, _, e, kz_i (kz_i (kI_k k7) (by first | decide | (simp; done) | (simp [ms_0]; done))) (by first | decide | (simp; done) | (simp [ms_0]; done)), Or.inl ⟨11, by unfold ms_bs; rw [if_pos m1, if_neg m2], by rw [e8, htb.1]; (first | decide | (simp; done) | (simp [ms_0]; done)), by first | decide | (simp; done) | (simp [ms_0]; done)⟩⟩
    · have hp : ¬ 0 < (FI7 52 1).toInt := by omega
      have htb := P_n htb (by rw [h_up_nc (by first | decide | (simp; done) | (simp [ms_0]; done)), h_up_nc (by first | decide | (simp; done) | (simp [ms_0]; done))]; exact hp)
      have hb := bs_tg (E := E) m1 y5.2.2.2.1.1.2.2.1 hh1
      obtain ⟨t1, t2, t3, t4⟩ := m5.1
      have cvf : cv (h_up (h_up FI7 48 7 (FI7 49 7)) 48 8 (fJ9_max_7cf53 (FI7 48 8) (FI7 49 8) SH (h_up FI7 48 7 (FI7 49 7)) FL7 FR7)) FL7 FR7 SH s := cv_f (cv_f (cv_kI hr hv k7) hr (by first | decide | (simp; done) | (simp [ms_0]; done))) hr (by first | decide | (simp; done) | (simp [ms_0]; done))
      have cuf : cu (h_up (h_up FI7 48 7 (FI7 49 7)) 48 8 (fJ9_max_7cf53 (FI7 48 8) (FI7 49 8) SH (h_up FI7 48 7 (FI7 49 7)) FL7 FR7)) y.1 := by
        have a6 : FI7 48 6 = FI 48 6 := by rw [(k7.1 48 (by omega)).1]
        have b6 : FI7 49 6 = FI 48 6 := by rw [z3, y8, e36]
        have b7 : FI7 49 7 = FI5 49 7 := by rw [z3]
        obtain ⟨g1, g2, g3⟩ := y6
        rw [y8, e36] at g1 g3
        refine ⟨?_, ?_, ?_⟩
        · rw [h_up_ne (by first | decide | (simp; done) | (simp [ms_0]; done)), h_up_ne (by first | decide | (simp; done) | (simp [ms_0]; done)), h_up_ne (by first | decide | (simp; done) | (simp [ms_0]; done)), h_up_eq, a6, b7]; exact g1
        · rw [h_up_ne (by first | decide | (simp; done) | (simp [ms_0]; done)), h_up_eq, b7]; exact g2
        · rw [h_up_ne (by first | decide | (simp; done) | (simp [ms_0]; done)), h_up_ne (by first | decide | (simp; done) | (simp [ms_0]; done)), a6]; exact g3
      have kzf : kz FI FL FR (h_up (h_up FI7 48 7 (FI7 49 7)) 48 8 (fJ9_max_7cf53 (FI7 48 8) (FI7 49 8) SH (h_up FI7 48 7 (FI7 49 7)) FL7 FR7)) FL7 FR7 := kz_i (kz_i (kI_k k7) (by first | decide | (simp; done) | (simp [ms_0]; done))) (by first | decide | (simp; done) | (simp [ms_0]; done))
      have r54 : ∀ k, (h_up (h_up FI7 48 7 (FI7 49 7)) 48 8 (fJ9_max_7cf53 (FI7 48 8) (FI7 49 8) SH (h_up FI7 48 7 (FI7 49 7)) FL7 FR7)) 54 k = FI7 54 k := fun k => by rw [h_up_nc (by first | decide | (simp; done) | (simp [ms_0]; done)), h_up_nc (by first | decide | (simp; done) | (simp [ms_0]; done))]
      have e6 : (h_up (h_up FI7 48 7 (FI7 49 7)) 48 8 (fJ9_max_7cf53 (FI7 48 8) (FI7 49 8) SH (h_up FI7 48 7 (FI7 49 7)) FL7 FR7)) 48 6 = FI 48 6 := by rw [h_up_ne (by first | decide | (simp; done) | (simp [ms_0]; done)), h_up_ne (by first | decide | (simp; done) | (simp [ms_0]; done)), (k7.1 48 (by omega)).1]
      have E7 : cE (h_up (h_up FI7 48 7 (FI7 49 7)) 48 8 (fJ9_max_7cf53 (FI7 48 8) (FI7 49 8) SH (h_up FI7 48 7 (FI7 49 7)) FL7 FR7)) FL7 FR7 SH E := cE_k hE hr kzf
      generalize h_up (h_up FI7 48 7 (FI7 49 7)) 48 8 (fJ9_max_7cf53 (FI7 48 8) (FI7 49 8) SH (h_up FI7 48 7 (FI7 49 7)) FL7 FR7) = FF at htb e8 e cvf cuf kzf r54 e6 E7
      have L48 : ∀ k, FL7 48 k = FL 48 k := fun k => by rw [(k7.1 48 (by omega)).2.1]
      obtain ⟨d1, ed1, htb⟩ := htb
      cases ed1
      rw [r54, t1] at htb
      rcases htb with ⟨i0, i1, i2⟩ | ⟨i0, htb⟩
      · rw [i2] at e
        refine ⟨_, _, _, e, kzf, Or.inl ⟨11, ?_, by rw [e8, i1]; (first | decide | (simp; done) | (simp [ms_0]; done)), by first | decide | (simp; done) | (simp [ms_0]; done)⟩⟩
        rw [hb, if_neg (fun e9 => by rw [i0] at e9; exact absurd e9 (by decide)), if_pos (Or.inl i0)]
      obtain ⟨d1, ed1, htb⟩ := htb
      cases ed1
      rw [r54, t1, show ((4 : Int32)).toInt = 4 by first | decide | (simp; done) | (simp [ms_0]; done)] at htb
      rcases htb with ⟨i4, i1, i2⟩ | ⟨i4, htb⟩
      · rw [i2] at e
        refine ⟨_, _, _, e, kzf, Or.inl ⟨11, ?_, by rw [e8, i1]; (first | decide | (simp; done) | (simp [ms_0]; done)), by first | decide | (simp; done) | (simp [ms_0]; done)⟩⟩
        rw [hb, if_neg (fun e9 => by rw [i4] at e9; exact absurd e9 (by decide)), if_pos (Or.inr i4)]
      obtain ⟨d1, ed1, htb⟩ := htb
      cases ed1
      rw [r54, t1, show ((2 : Int32)).toInt = 2 by first | decide | (simp; done) | (simp [ms_0]; done)] at htb
      have done : ∀ {b : Int64}, ms_bs E y.2 = .inr b → w8 = 0 → (n8, sl8, SH8, FI8, FL8, FR8) = (n, sl, SH, FF, h_up FL7 48 15 b, FR7) → ∃ F2 L2 R2, st = (n, sl, SH, F2, L2, R2) ∧ kz FI FL FR F2 L2 R2 ∧ ((∃ e, ms_bs E y.2 = .inl e ∧ v.toInt = e ∧ e ≠ 0) ∨ (∃ b, ms_bs E y.2 = .inr b ∧ v.toInt = 0 ∧ L2 48 15 = b ∧ (∀ k, k ≠ 15 → L2 48 k = FL 48 k) ∧ cv F2 L2 R2 SH s ∧ cu F2 y.1 ∧ y.1 ≤ f ∧ F2 48 6 = FI 48 6)) := by
        intro b j1 j2 j3
        rw [j3] at e
        exact ⟨_, _, _, e, kz_l kzf (by first | decide | (simp; done) | (simp [ms_0]; done)), Or.inr ⟨b, j1, by rw [e8, j2]; (first | decide | (simp; done) | (simp [ms_0]; done)), h_up_eq, fun k hk => by rw [h_up_ne hk]; exact L48 k, cv_g cvf, cuf, y7, e6⟩⟩
      rcases htb with ⟨i2, htb⟩ | ⟨i2, htb⟩
      · obtain ⟨d1, ed1, i1, i3⟩ := htb
        cases ed1
        have k2 : 0 ≤ (ms_tg y.2).2.1.toInt ∧ (ms_tg y.2).2.1.toInt ≤ 31 := by
          rcases t3 with q | q | q | q | q
          · exfalso; have := q.1; omega
          · exfalso; have := q.1; omega
          · exact q.2.2
          · exfalso; have := q.1; omega
          · exfalso; have := q.1; omega
        rw [t2, c_reg hS E7 k2.1 k2.2] at i3
        exact done (by rw [hb, if_pos i2]) i1 i3
      · obtain ⟨d1, ed1, i1, i3⟩ := htb
        cases ed1
        rw [t2] at i3
        exact done (by rw [hb, if_neg i2, if_neg (fun e => e.elim i0 i4)]) i1 i3
theorem c_base (hS : h_S n SH) (ht : th FR ∧ thI FR) (hE : cE FI FL FR SH E) (hv : cv FI FL FR SH s) (hu : cu FI f) (h4 : a4.toInt = o) (ho8 : o ≤ 8) (hc : c.toInt = 145) (h : RX9_ask c a4 n sl SH FI FL FR v st) : ((0 = 1 ∨ ms_fr E = -1) ∧ v.toInt = 11 ∧ ∃ F2 L2 R2, st = (n, sl, SH, F2, L2, R2) ∧ kz FI FL FR F2 L2 R2) ∨ (¬ (0 = 1 ∨ ms_fr E = -1) ∧ ∃ q, ms_R E 1 o (ms_ex E (ms_fr E).toNat) 0 f ([], ms_0, []) q ∧ bq E n sl SH FI FL FR v st (FL 48 12) s f q) := by
  have h := P_p (P_n (P_n h (by omega)) (by omega)) hc
  obtain ⟨v6, n6, sl6, SH6, FI6, FL6, FR6, hb, h⟩ := h
  rcases c_bas hS ht hE hv hu h4 ho8 hb with ⟨q1, q2, q3⟩ | ⟨q1, q, q2, F2, L2, R2, q3, q4, q5⟩
  · cases q3
    have h := P_n h (by rw [q2]; (first | decide | (simp; done) | (simp [ms_0]; done)))
    exact Or.inl ⟨Or.inr q1, by rw [h.1]; exact q2, _, _, _, h.2, kz_rf⟩
  · cases q3
    refine Or.inr ⟨fun e => e.elim (by first | decide | (simp; done) | (simp [ms_0]; done)) q1, q, q2, ?_⟩
    match q, q2, q5 with
    | .inl e, q2, ⟨y1, y2⟩ =>
      have h := P_n h (by rw [y1]; exact y2)
      exact ⟨by rw [h.1]; exact y1, y2, _, _, _, h.2, q4⟩
    | .inr y, q2, Or.inl ⟨e, y1, y2, y3⟩ =>
      have h := P_n h (by rw [y2]; exact y3)
      exact Or.inl ⟨e, y1, by rw [h.1]; exact y2, y3, _, _, _, h.2, q4⟩
    | .inr y, q2, Or.inr ⟨b, y1, y2, y3, y4, y5, y6, y7, y8⟩ =>
      refine Or.inr ⟨b, y1, ?_⟩
      have h := P_p h y2
      rw [y3] at h
      have h := c_pu hS y5 h
      rw [cv_ps] at h
      by_cases hl : s.1.length = 128
      · rw [if_pos hl] at h
        obtain ⟨z1, z2, F3, L3, R3, z3, z4⟩ := h
        exact Or.inl ⟨hl, z1, F3, L3, R3, z3, kz_tr q4 z4⟩
      · rw [if_neg hl] at h
        obtain ⟨z1, F3, L3, R3, z3, z4, z5, z6, z7, z8, z9, z10⟩ := h
        exact Or.inr ⟨hl, z1, F3, L3, R3, z3, kz_tr q4 z4, z5, cu_fr y6 z6 z7, y7, z6.trans y8⟩
end CB
section CR
variable {n sl : Nat} {SH : Nat → Nat × Nat} {E : ms_E}
/-- the loop of one row of bytes -/
theorem c_loop {g0 r A o : Nat} {bs : List Int32} {a2 a3 a4 : Int32} (hS0 : h_S n SH) (hbl : bs.length ≤ 100000) (hA : A ≤ 100000) (h2 : a2.toInt = A) (h3 : a3.toInt = ((A + bs.length : Nat) : Int)) (h4 : a4.toInt = o) (ho8 : o ≤ 8)
    (IH : ∀ g, g < g0 → ∀ (r A o f : Nat) (bs : List Int32) (s : ms_S) (a2 a3 a4 v : Int32) (FI : Nat → Nat → Int32) (FL : Nat → Nat → Int64) (FR : Nat → Nat → Option Nat) (st : hS), (fun R => th R ∧ thI R) FR → cE FI FL FR SH E → bk FI SH r A bs → bs.length ≤ 100000 → A ≤ 100000 → a2.toInt = A → a3.toInt = ((A + bs.length : Nat) : Int) → a4.toInt = o → o ≤ 8 → cv FI FL FR SH s → cu FI f → QX9 g 0 (some r) a2 a3 a4 0 n sl SH FI FL FR v st → ∃ q, ms_R E 0 o bs 0 f s q ∧ cx n sl SH FI FL FR v st f q) : ∀ (g2 p k f : Nat) (s : ms_S) (l5 l6 v : Int32) (FI : Nat → Nat → Int32) (FL : Nat → Nat → Int64) (FR : Nat → Nat → Option Nat) (st : hS), l5.toInt = ((A + p : Nat) : Int) → p ≤ bs.length → l6.toInt = k → k + f ≤ 1000 → (fun R => th R ∧ thI R) FR → cE FI FL FR SH E → bk FI SH r A bs → cv FI FL FR SH s → cu FI f → GX9_perform_6 (fun a1 a2 a3 a4 n sl SH FI FL FR => QX9 g0 0 a1 a2 a3 a4 0 n sl SH FI FL FR) (fun a1 a2 a3 a4 n sl SH FI FL FR => QX9 g0 1 a1 a2 a3 a4 0 n sl SH FI FL FR) (fun a1 a2 n sl SH FI FL FR => QX9 g0 2 none a2 0 0 a1 n sl SH FI FL FR) (some r) a2 a3 a4 g2 l5 l6 n sl SH FI FL FR v st → ∃ q, ms_R E 0 o bs p f s q ∧ cx n sl SH FI FL FR v st f q := by
  intro g2
  induction g2 with
  | zero => intro p k f s l5 l6 v FI FL FR st _ _ _ _ _ _ _ _ _ h; exact h.elim
  | succ g2 ih =>
    intro p k f s l5 l6 v FI FL FR st h5 hp h6 hkf ht hE hb hv hu h
    have hr := rg_of hS0
    have b2 := hb.2.1
    have b3 := hb.2.2.1
    have h := P_n h (by rw [show ((1000 : Int32)).toInt = 1000 by first | decide | (simp; done) | (simp [ms_0]; done)]; omega)
    have h := P_n h (by omega)
    rcases h with ⟨h0, h⟩ | ⟨h0, e1, e⟩
    rotate_left
    · exact ⟨.inr (f, s), ms_R_end (by omega), by rw [e1]; (first | decide | (simp; done) | (simp [ms_0]; done)), _, _, _, e, kz_rf, hv, hu, Nat.le_refl _, rfl⟩
    obtain ⟨q, eq, h⟩ := h
    cases eq
    have h := P_p h (by rw [i_lit (by omega)]; omega)
    obtain ⟨v5, n5, sl5, SH5, FI5, FL5, FR5, hst, h⟩ := h
    cases g0 with
    | zero => exact hst.elim
    | succ g1 =>
      have stp := cs_step (o := o) hS0 ht.1 hE hb hbl hA h5 (by omega) h3 hv hu
        (fun {F1 L1 v st f1 kk} E1 V1 U1 k0 hc => by
          cases g1 with
          | zero => exact hc.elim
          | succ g3 =>
            have hc : RX9_call (fun a1 a2 a3 a4 n sl SH FI FL FR => QX9 g3 0 a1 a2 a3 a4 0 n sl SH FI FL FR) (fun a1 a2 a3 a4 n sl SH FI FL FR => QX9 g3 1 a1 a2 a3 a4 0 n sl SH FI FL FR) (fun a1 a2 n sl SH FI FL FR => QX9 g3 2 none a2 0 0 a1 n sl SH FI FL FR) kk a4 n sl SH F1 L1 FR v st := hc
            have hc := P_n hc (by rw [show ((0 : Int64)).toInt = 0 by first | decide | (simp; done) | (simp [ms_0]; done)]; omega)
            rw [show ((Int32.ofNat (SH 26).2).toInt64).toInt = 16 by rw [hS0.2 26 (by first | decide | (simp; done) | (simp [ms_0]; done))]; decide +kernel, show ((8 : Int32)).toInt = 8 by first | decide | (simp; done) | (simp [ms_0]; done), h4] at hc
            rcases hc with ⟨q1, hc⟩ | ⟨q1, e1, e⟩
            rotate_left
            · exact Or.inl ⟨Or.inl (by omega), by rw [e1]; (first | decide | (simp; done) | (simp [ms_0]; done)), _, _, _, e, kz_rf⟩
            rcases hc with ⟨q2, hc⟩ | ⟨q2, e1, e⟩
            rotate_left
            · exact Or.inl ⟨Or.inr (by omega), by rw [e1]; (first | decide | (simp; done) | (simp [ms_0]; done)), _, _, _, e, kz_rf⟩
            refine Or.inr ⟨by omega, ?_⟩
            obtain ⟨-, c4, ec4, v4, n4, sl4, SH4, FI4, FL4, FR4, hm, e1, e⟩ := hc
            obtain ⟨r2, x1, x2, x3, x4⟩ := E1.2.2.1 kk.toInt.toNat (by omega)
            have ek : (kk.toInt32).toInt.toNat = kk.toInt.toNat := by rw [l_2i (A := kk.toInt) rfl (by omega) (by omega)]
            rw [ek, x1] at ec4 hm
            cases ec4
            rw [e1, e]
            exact IH g3 (by omega) _ 0 (o + 1) f1 (ms_ex E kk.toInt.toNat) s _ _ _ v4 F1 L1 FR _ ht E1 x4 (by omega) (by omega) (by first | decide | (simp; done) | (simp [ms_0]; done)) (by rw [x2, i_lit (by omega)]; omega) (by rw [i_add h4 (by first | decide | (simp; done) | (simp [ms_0]; done) : ((1 : Int32)).toInt = 1) (by omega) (by omega)]; omega) (by omega) V1 U1 hm)
        (fun {F1 L1 v c st f1} E1 V1 U1 hc ha => c_base hS0 ht E1 V1 U1 h4 ho8 hc ha)
        hst
      rcases stp with ⟨e9, w1, w2, w3, F2, L2, R2, w4, w5⟩ | ⟨w1, F2, L2, R2, s2, f2, T, w4, w5, w6, w7, w8, w9, w10, w11, w12⟩
      · cases w4
        have h := P_n h (by rw [w1]; exact w2)
        have h := P_n h (by rw [w1]; exact w2)
        exact ⟨.inl e9, w3, by rw [h.1]; exact w1, w2, _, _, _, h.2, kz_i w5 (by first | decide | (simp; done) | (simp [ms_0]; done))⟩
      · cases w4
        have h := P_p h w1
        have out : ∀ _ : ¬ (0 ≤ T ∧ T ≤ bs.length), RX9_perform_65 (GX9_perform_6 (fun a1 a2 a3 a4 n sl SH FI FL FR => QX9 (g1 + 1) 0 a1 a2 a3 a4 0 n sl SH FI FL FR) (fun a1 a2 a3 a4 n sl SH FI FL FR => QX9 (g1 + 1) 1 a1 a2 a3 a4 0 n sl SH FI FL FR) (fun a1 a2 n sl SH FI FL FR => QX9 (g1 + 1) 2 none a2 0 0 a1 n sl SH FI FL FR) (some r) a2 a3 a4 g2) (fun a1 a2 a3 a4 n sl SH FI FL FR => QX9 (g1 + 1) 0 a1 a2 a3 a4 0 n sl SH FI FL FR) (fun a1 a2 a3 a4 n sl SH FI FL FR => QX9 (g1 + 1) 1 a1 a2 a3 a4 0 n sl SH FI FL FR) (fun a1 a2 n sl SH FI FL FR => QX9 (g1 + 1) 2 none a2 0 0 a1 n sl SH FI FL FR) (some r) a2 a3 a4 l5 l6 n sl SH FI5 FL5 FR5 v st → ∃ q, ms_R E 0 o bs p f s q ∧ cx n sl SH FI FL FR v st f q := by
          intro hT h
          have h := P_n h (by first | decide | (simp; done) | (simp [ms_0]; done))
          exact ⟨.inl 7, w12 hT, by rw [h.1]; (first | decide | (simp; done) | (simp [ms_0]; done)), by first | decide | (simp; done) | (simp [ms_0]; done), _, _, _, h.2, kz_i w5 (by first | decide | (simp; done) | (simp [ms_0]; done))⟩
        rw [w10, h2, h3] at h
        rcases h with ⟨q1, h⟩ | ⟨q1, h⟩
        · exact out (by omega) h
        rcases h with ⟨q2, h⟩ | ⟨q2, h⟩
        · exact out (by omega) h
        have h := P_p h w1
        have hT : 0 ≤ T ∧ T ≤ bs.length := by omega
        obtain ⟨q, y1, y2⟩ := ih T.toNat (k + 1) f2 s2 (FI5 48 11) (l6 + (1 : Int32)) v FI5 FL5 FR5 st (by rw [w10]; omega) (by omega) (by rw [i_add h6 (by first | decide | (simp; done) | (simp [ms_0]; done) : ((1 : Int32)).toInt = 1) (by omega) (by omega)]; omega) (by omega) (th_kI ht w5) (cE_k hE hr w5) (bk_fr hb (kz_rows w5 hr r hb.1)) w6 w7 h
        exact ⟨q, w11 hT q y1, cx_tr w5 (by omega) w9 y2⟩
theorem c_run (hS0 : h_S n SH) : ∀ (g r A o f : Nat) (bs : List Int32) (s : ms_S) (a2 a3 a4 v : Int32) (FI : Nat → Nat → Int32) (FL : Nat → Nat → Int64) (FR : Nat → Nat → Option Nat) (st : hS), (fun R => th R ∧ thI R) FR → cE FI FL FR SH E → bk FI SH r A bs → bs.length ≤ 100000 → A ≤ 100000 → a2.toInt = A → a3.toInt = ((A + bs.length : Nat) : Int) → a4.toInt = o → o ≤ 8 → cv FI FL FR SH s → cu FI f → QX9 g 0 (some r) a2 a3 a4 0 n sl SH FI FL FR v st → ∃ q, ms_R E 0 o bs 0 f s q ∧ cx n sl SH FI FL FR v st f q := by
  intro g
  induction g using Nat.strongRecOn with
  | ind g IH =>
    intro r A o f bs s a2 a3 a4 v FI FL FR st ht hE hb hbl hA h2 h3 h4 ho hv hu h
    cases g with
    | zero => exact h.elim
    | succ g =>
      obtain ⟨g2, h⟩ := h
      have u := hu
      exact c_loop hS0 hbl hA h2 h3 h4 ho (fun g3 hg3 => IH g3 (by omega)) g2 0 0 f s a2 0 v FI FL FR st (by rw [h2]; omega) (by omega) (by first | decide | (simp; done) | (simp [ms_0]; done)) (by unfold cu at u; omega) ht hE hb hv hu h
end CR
