/-! THE CLASS'S MEANINGS of expressions. -/
section CBZ
variable {n sl : Nat} {SH : Nat → Nat × Nat} {FI F1 : Nat → Nat → Int32} {FL L1 : Nat → Nat → Int64} {FR R1 : Nat → Nat → Option Nat} {o f : Nat} {a3 a4 v c : Int32} {st : hS} {E : ms_E}
theorem c_bas2 {a1 a2 : Int32} (hS : h_S n SH) (ht : th FR ∧ thI FR) (hE : cE FI FL FR SH E) (u1 : a1.toInt - a2.toInt = f) (u2 : 0 ≤ a2.toInt) (u3 : a1.toInt ≤ 1000) (h4 : a3.toInt = o) (ho8 : o ≤ 8) (h : RX9_base a1 a2 a3 n sl SH FI FL FR v st) : (ms_fr E = -1 ∧ v.toInt = 11 ∧ st = (n, sl, SH, FI, FL, FR)) ∨ (ms_fr E ≠ -1 ∧ ∃ q, ms_R E 1 o (ms_ex E (ms_fr E).toNat) 0 f ([], ms_0, []) q ∧ ∃ F2 L2 R2, st = (n, sl, SH, F2, L2, R2) ∧ kz FI FL FR F2 L2 R2 ∧ match q with
    | .inl e => v.toInt = e ∧ e ≠ 0
    | .inr y => (∃ e, ms_bs E y.2 = .inl e ∧ v.toInt = e ∧ e ≠ 0) ∨ (∃ b, ms_bs E y.2 = .inr b ∧ v.toInt = 0 ∧ L2 48 15 = b)) := by
  have hr := rg_of hS
  obtain ⟨f1, f2, f3⟩ := hE.2.2.2.1
  have h := P_n h (fun e => by cases e)
  rw [f1, show (Int32.ofNat (SH 26).2).toInt = 16 by rw [hS.2 26 (by first | decide | (simp; done) | (simp [ms_0]; done))]; decide +kernel] at h
  rcases h with ⟨h0, e1, e⟩ | ⟨h0, h⟩
  · exact Or.inl ⟨by omega, by rw [e1]; (first | decide | (simp; done) | (simp [ms_0]; done)), e⟩
  refine Or.inr ⟨by omega, ?_⟩
  have h := P_p h (by omega)
  obtain ⟨-, u3', n3, sl3, SH3, FI3, FL3, FR3, hrs, c5, ec5, v5, n5, sl5, SH5, FI5, FL5, FR5, hpf, h⟩ := h
  obtain ⟨F3, L3, e3, k3, v3, w3⟩ := c_resetI (f := f) hS ht.2 u1 u2 u3 hrs
  cases e3
  have E3 := cE_kI hE hr k3
  obtain ⟨r2, x1, x2, x3, x4⟩ := E3.2.2.1 (ms_fr E).toNat (by omega)
  have efr : (FI 23 4).toInt.toNat = (ms_fr E).toNat := by rw [f1]
  try rw [efr] at ec5
  try rw [efr] at hpf
  rw [x1] at ec5 hpf
  cases ec5
  obtain ⟨g, hpf⟩ := hpf
  obtain ⟨q, hq, hcx⟩ := c_runI hS g _ 0 o f (ms_ex E (ms_fr E).toNat) ([], ms_0, []) _ _ _ v5 FI3 FL3 FR _ ht.2 E3 x4 (by omega) (by omega) (by first | decide | (simp; done) | (simp [ms_0]; done)) (by rw [x2, i_lit (by omega)]; omega) h4 ho8 v3 w3 hpf
  refine ⟨q, hq, ?_⟩
  -- behind the inner run
  have t88 : ∀ {F4 : Nat → Nat → Int32} {L4 : Nat → Nat → Int64} {R4 : Nat → Nat → Option Nat} {w : Int32}, w.toInt ≠ 0 → kzI FI FL FR F4 L4 R4 → RX9_base_88 a1 a2 a3 w n sl SH F4 L4 R4 v st → v = w ∧ ∃ F2 L2 R2, st = (n, sl, SH, F2, L2, R2) ∧ kz FI FL FR F2 L2 R2 := by
    intro F4 L4 R4 w hw k4 h
    have h := P_n h hw
    exact ⟨h.1, _, _, _, h.2, kz_i (kz_i (kI_k k4) (by first | decide | (simp; done) | (simp [ms_0]; done))) (by first | decide | (simp; done) | (simp [ms_0]; done))⟩
  match q, hq, hcx with
  | .inl e9, hq, ⟨y1, y2, F4, L4, R4, y3, y4⟩ =>
    cases y3
    have h := P_n h (by rw [y1]; exact y2)
    obtain ⟨z1, F2, L2, R2, z2, z3⟩ := t88 (by rw [y1]; exact y2) (kzI_tr k3 y4) h
    exact ⟨F2, L2, R2, z2, z3, by rw [z1]; exact y1, y2⟩
  | .inr y, hq, ⟨y1, F4, L4, R4, y3, y4, y5, y6, y7, y8⟩ =>
    cases y3
    have h := P_p h y1
    obtain ⟨v7, n7, sl7, SH7, FI7, FL7, FR7, hse, h⟩ := h
    have k5 := kzI_tr k3 y4
    have tI5 : thI FR5 := thI_k (thI_k ht.2 k3) y4
    obtain ⟨F6, L6, R6, z1, z2, z3, z4⟩ := c_settleI hS tI5 y5 hse
    cases z1
    have k7 := kzI_tr k5 z2
    have tI7 : thI FR7 := thI_k tI5 z2
    have hh1 : y.2.2.1.1 ≠ 1 := (ms_hz (fun k hk => by obtain ⟨rr, -, -, zz, -⟩ := hE.2.2.1 k hk; exact zz) f3 hq x3 sz_0).1.1
    rcases z4 with ⟨m1, m2, m3⟩ | ⟨m1, m2, m3, m4, m5, m6⟩ | ⟨m1, m3, m4, m5⟩
    · obtain ⟨p1, F2, L2, R2, p2, p3⟩ := t88 (by rw [m3]; (first | decide | (simp; done) | (simp [ms_0]; done))) k7 h
      exact ⟨F2, L2, R2, p2, p3, Or.inl ⟨13, by unfold ms_bs; rw [if_pos m1, if_pos m2], by rw [p1]; exact m3, by first | decide | (simp; done) | (simp [ms_0]; done)⟩⟩
    all_goals
      have h := P_p h m3
      obtain ⟨w8, n8, sl8, SH8, FI8, FL8, FR8, htb, e8, e⟩ := h
      obtain ⟨c1, ec1, w9, n9, sl9, SH9, FI9, FL9, FR9, ⟨c2, ec2, -, ev9, e9⟩, c3, ec3, htb⟩ := htb
      cases ec1
      cases ec3
      cases e9
      rw [tI7.1] at ec2
      cases ec2
      rw [tI7.2 0 (by first | decide | (simp; done) | (simp [ms_0]; done))] at ev9
      subst ev9
    · -- pieces: no base
      have hp : 0 < (FI7 52 1).toInt := by
        rw [m4, y5.2.2.2.2.1]
        cases hy : y.2.2.2 with
        | nil => exact absurd hy m1
        | cons a b => simp only [List.length_cons]; omega
      have htb := P_p htb (by rw [h_up_nc (by first | decide | (simp; done) | (simp [ms_0]; done)), h_up_nc (by first | decide | (simp; done) | (simp [ms_0]; done))]; exact hp)
      rw [htb.2] at e
      exact ⟨_, _, _, e, kz_i (kz_i (kI_k k7) (by first | decide | (simp; done) | (simp [ms_0]; done))) (by first | decide | (simp; done) | (simp [ms_0]; done)), Or.inl ⟨11, by unfold ms_bs; rw [if_pos m1, if_neg m2], by rw [e8, htb.1]; (first | decide | (simp; done) | (simp [ms_0]; done)), by first | decide | (simp; done) | (simp [ms_0]; done)⟩⟩
    · have hp : ¬ 0 < (FI7 52 1).toInt := by omega
      have htb := P_n htb (by rw [h_up_nc (by first | decide | (simp; done) | (simp [ms_0]; done)), h_up_nc (by first | decide | (simp; done) | (simp [ms_0]; done))]; exact hp)
      have hb := bs_tg (E := E) m1 y5.2.2.2.1.1.2.2.1 hh1
      obtain ⟨t1, t2, t3, t4⟩ := m5.1
      have kzf : kz FI FL FR (h_up (h_up FI7 48 7 (FI7 49 7)) 48 8 (fJ9_max_7cf53 (FI7 48 8) (FI7 49 8) SH (h_up FI7 48 7 (FI7 49 7)) FL7 FR7)) FL7 FR7 := kz_i (kz_i (kI_k k7) (by first | decide | (simp; done) | (simp [ms_0]; done))) (by first | decide | (simp; done) | (simp [ms_0]; done))
      have r54 : ∀ k, (h_up (h_up FI7 48 7 (FI7 49 7)) 48 8 (fJ9_max_7cf53 (FI7 48 8) (FI7 49 8) SH (h_up FI7 48 7 (FI7 49 7)) FL7 FR7)) 54 k = FI7 54 k := fun k => by rw [h_up_nc (by first | decide | (simp; done) | (simp [ms_0]; done)), h_up_nc (by first | decide | (simp; done) | (simp [ms_0]; done))]
      have E7 : cE (h_up (h_up FI7 48 7 (FI7 49 7)) 48 8 (fJ9_max_7cf53 (FI7 48 8) (FI7 49 8) SH (h_up FI7 48 7 (FI7 49 7)) FL7 FR7)) FL7 FR7 SH E := cE_k hE hr kzf
      generalize h_up (h_up FI7 48 7 (FI7 49 7)) 48 8 (fJ9_max_7cf53 (FI7 48 8) (FI7 49 8) SH (h_up FI7 48 7 (FI7 49 7)) FL7 FR7) = FF at htb e8 e kzf r54 E7
      obtain ⟨d1, ed1, htb⟩ := htb
      cases ed1
      rw [r54, t1] at htb
      rcases htb with ⟨i0, i1, i2⟩ | ⟨i0, htb⟩
      · rw [i2] at e
        refine ⟨_, _, _, e, kzf, Or.inl ⟨11, ?_, by rw [e8, i1]; (first | decide | (simp; done) | (simp [ms_0]; done)), by first | decide | (simp; done) | (simp [ms_0]; done)⟩⟩
        rw [hb, if_neg (fun e9 => by rw [i0] at e9; exact absurd e9 (by decide)), if_pos (Or.inl i0)]
      obtain ⟨d1, ed1, htb⟩ := htb
      cases ed1
      rw [r54, t1, show ((4 : Int32)).toInt = 4 by first | decide | (simp; done) | (simp [ms_0]; done)] at htb
      rcases htb with ⟨i4, i1, i2⟩ | ⟨i4, htb⟩
      · rw [i2] at e
        refine ⟨_, _, _, e, kzf, Or.inl ⟨11, ?_, by rw [e8, i1]; (first | decide | (simp; done) | (simp [ms_0]; done)), by first | decide | (simp; done) | (simp [ms_0]; done)⟩⟩
        rw [hb, if_neg (fun e9 => by rw [i4] at e9; exact absurd e9 (by decide)), if_pos (Or.inr i4)]
      obtain ⟨d1, ed1, htb⟩ := htb
      cases ed1
      rw [r54, t1, show ((2 : Int32)).toInt = 2 by first | decide | (simp; done) | (simp [ms_0]; done)] at htb
      have done : ∀ {b : Int64}, ms_bs E y.2 = .inr b → w8 = 0 → (n8, sl8, SH8, FI8, FL8, FR8) = (n, sl, SH, FF, h_up FL7 48 15 b, FR7) → ∃ F2 L2 R2, st = (n, sl, SH, F2, L2, R2) ∧ kz FI FL FR F2 L2 R2 ∧ ((∃ e, ms_bs E y.2 = .inl e ∧ v.toInt = e ∧ e ≠ 0) ∨ (∃ b, ms_bs E y.2 = .inr b ∧ v.toInt = 0 ∧ L2 48 15 = b)) := by
        intro b j1 j2 j3
        rw [j3] at e
        exact ⟨_, _, _, e, kz_l kzf (by first | decide | (simp; done) | (simp [ms_0]; done)), Or.inr ⟨b, j1, by rw [e8, j2]; (first | decide | (simp; done) | (simp [ms_0]; done)), h_up_eq⟩⟩
      rcases htb with ⟨i2, htb⟩ | ⟨i2, htb⟩
      · obtain ⟨d1, ed1, i1, i3⟩ := htb
        cases ed1
        have k2 : 0 ≤ (ms_tg y.2).2.1.toInt ∧ (ms_tg y.2).2.1.toInt ≤ 31 := by
          rcases t3 with q | q | q | q | q
          · exfalso; have := q.1; omega
          · exfalso; have := q.1; omega
          · exact q.2.2
          · exfalso; have := q.1; omega
          · exfalso; have := q.1; omega
        rw [t2, c_reg hS E7 k2.1 k2.2] at i3
        exact done (by rw [hb, if_pos i2]) i1 i3
      · obtain ⟨d1, ed1, i1, i3⟩ := htb
        cases ed1
        rw [t2] at i3
        exact done (by rw [hb, if_neg i2, if_neg (fun e => e.elim i0 i4)]) i1 i3
end CBZ
/-- what FRAME's base is, for means -/
def x_fb (E : ms_E) (fb : xX) : Prop := (ms_fr E = -1 → fb = .inl 11) ∧ (ms_fr E ≠ -1 → ∀ q, ms_R E 1 0 (ms_ex E (ms_fr E).toNat) 0 1000 ([], ms_0, []) q → fb = match q with
  | .inl e => .inl e
  | .inr y => ms_bs E y.2)
theorem n_nx_ag3 {FI F2 : Nat → Nat → Int32} {FL L2 : Nat → Nat → Int64} {FR R2 : Nat → Nat → Option Nat} {c : Nat} (h : ∀ c, 176 ≤ c → F2 c = FI c ∧ L2 c = FL c ∧ R2 c = FR c) (hc : 176 ≤ c) : n_nx F2 L2 R2 c = n_nx FI FL FR c := by
  unfold n_nx
  rw [(h c hc).1, (h c hc).2.2]
  by_cases h1 : (FI c 0).toInt = 37 ∨ (FI c 0).toInt = 11
  · rw [if_pos h1, if_pos h1]
    cases FR c 6 with
    | none => rfl
    | some e =>
      (try dsimp only)
      by_cases he : 176 ≤ e
      · rw [(h e he).1, (h e he).2.1]
      · rw [if_neg (fun x => he x.1), if_neg (fun x => he x.1)]
  · rw [if_neg h1, if_neg h1]
theorem n_cd_ag3 {FI F2 : Nat → Nat → Int32} {FL L2 : Nat → Nat → Int64} {FR R2 : Nat → Nat → Option Nat} (h : ∀ c, 176 ≤ c → F2 c = FI c ∧ L2 c = FL c ∧ R2 c = FR c) : ∀ (f m : Nat) (o : Option Nat) (d : Int), n_cd F2 L2 R2 f m o d = n_cd FI FL FR f m o d := by
  intro f
  induction f with
  | zero => intro m o d; rfl
  | succ f ih =>
    intro m o d
    cases o with
    | none => rfl
    | some c =>
      show n_st F2 L2 R2 (n_cd F2 L2 R2 f) m c d = n_st FI FL FR (n_cd FI FL FR f) m c d
      have e : n_cd F2 L2 R2 f = n_cd FI FL FR f := by
        funext m o d
        exact ih m o d
      rw [e]
      unfold n_st
      by_cases hc : c < 176
      · rw [if_pos (Or.inl hc), if_pos (Or.inl hc)]
      · rw [n_nx_ag3 h (by omega), (h c (by omega)).1, (h c (by omega)).2.1, (h c (by omega)).2.2]
        cases hn : n_nx FI FL FR c with
        | none => rfl
        | some e =>
          (try dsimp only)
          rw [(h e (n_nx_ge hn)).1, (h e (n_nx_ge hn)).2.1, (h e (n_nx_ge hn)).2.2]
theorem n_op_ok (k : Int) : 26 ≤ n_op k ∧ n_op k ≤ 46 ∧ n_op k ≠ 31 ∧ n_op k ≠ 32 ∧ n_op k ≠ 35 ∧ n_op k ≠ 40 := by
  unfold n_op
  repeat' split
  all_goals omega
/-- what a sign ahead of one does -/
def xun (E : ms_E) (k w : Int) (x : xX) : xX := if k = 6 then (if w = 8 then xe1 E 6 0 x else xe1 E 148 w x) else if k = 14 then xe1 E 155 0 x else if k = 45 then xe1 E 31 0 x else if k = 126 then xe1 E 32 0 x else x
theorem xun_f {E : ms_E} {k w e : Int} : xun E k w (.inl e) = .inl e := by
  unfold xun
  repeat' split
  all_goals rfl
theorem ce_xun {E : ms_E} {fb x : xX} {c : List Int} {k w : Int} (h : ce E fb c x) : ce E fb (c ++ n_un k w) (xun E k w x) := by
  unfold n_un xun
  by_cases k6 : k = 6
  · rw [if_pos k6, if_pos k6]
    by_cases w8 : w = 8
    · rw [if_pos w8, if_pos w8]
      exact ce_un (Or.inl rfl) h
    · rw [if_neg w8, if_neg w8]
      exact ce_rd h
  rw [if_neg k6, if_neg k6]
  by_cases k14 : k = 14
  · rw [if_pos k14, if_pos k14]
    exact ce_un (by first | decide | (simp; done) | (simp [ms_0]; done)) h
  rw [if_neg k14, if_neg k14]
  by_cases k45 : k = 45
  · rw [if_pos k45, if_pos k45]
    exact ce_un (by first | decide | (simp; done) | (simp [ms_0]; done)) h
  rw [if_neg k45, if_neg k45]
  by_cases k9 : k = 126
  · rw [if_pos k9, if_pos k9]
    exact ce_un (by first | decide | (simp; done) | (simp [ms_0]; done)) h
  · rw [if_neg k9, if_neg k9, List.append_nil]
    exact h
/-- what meanings leave alone -/
def vk (FI : Nat → Nat → Int32) (FL : Nat → Nat → Int64) (FR : Nat → Nat → Option Nat) (F2 : Nat → Nat → Int32) (L2 : Nat → Nat → Int64) (R2 : Nat → Nat → Option Nat) : Prop := (∀ c, (c < 48 ∨ 90 < c) → F2 c = FI c ∧ L2 c = FL c ∧ R2 c = FR c) ∧ (∀ k, k ≠ 4 → F2 90 k = FI 90 k) ∧ L2 90 = FL 90 ∧ R2 90 = FR 90 ∧ th R2 ∧ thI R2
/-- the answer of an expression in the class -/
def vx (n sl : Nat) (SH : Nat → Nat × Nat) (FI : Nat → Nat → Int32) (FL : Nat → Nat → Int64) (FR : Nat → Nat → Option Nat) (v : Int64) (st : hS) (x : xX) : Prop := ∃ F2 L2 R2, st = (n, sl, SH, F2, L2, R2) ∧ vk FI FL FR F2 L2 R2 ∧ match x with
  | .inl e => (F2 90 4).toInt = e ∧ e ≠ 0
  | .inr t => v = t ∧ (F2 90 4).toInt = 0
section CVV
variable {n sl : Nat} {SH : Nat → Nat × Nat} {FI F2 F3 : Nat → Nat → Int32} {FL L2 L3 : Nat → Nat → Int64} {FR R2 R3 : Nat → Nat → Option Nat} {v : Int64} {st : hS} {E : ms_E} {fb x : xX}
theorem vk_rf (ht : th FR ∧ thI FR) : vk FI FL FR FI FL FR := ⟨fun _ _ => ⟨rfl, rfl, rfl⟩, fun _ _ => rfl, rfl, rfl, ht⟩
theorem vk_tr (h : vk FI FL FR F2 L2 R2) (g : vk F2 L2 R2 F3 L3 R3) : vk FI FL FR F3 L3 R3 := ⟨fun c hc => ⟨(g.1 c hc).1.trans (h.1 c hc).1, (g.1 c hc).2.1.trans (h.1 c hc).2.1, (g.1 c hc).2.2.trans (h.1 c hc).2.2⟩, fun k hk => (g.2.1 k hk).trans (h.2.1 k hk), g.2.2.1.trans h.2.2.1, g.2.2.2.1.trans h.2.2.2.1, g.2.2.2.2⟩
theorem vk_kz (ht : th FR ∧ thI FR) (h : kz FI FL FR F2 L2 R2) : vk FI FL FR F2 L2 R2 := ⟨fun c hc => h.1 c (by omega), fun k _ => by rw [(h.1 90 (by omega)).1], (h.1 90 (by omega)).2.1, (h.1 90 (by omega)).2.2, th_kI ht h⟩
theorem vk_dyn (h : vk FI FL FR F2 L2 R2) : ∀ c, 176 ≤ c → F2 c = FI c ∧ L2 c = FL c ∧ R2 c = FR c := fun c hc => h.1 c (by omega)
theorem rg_t : rg SH := fun r hr => by
  have := hr.2
  omega
theorem cE_vk (hE : cE FI FL FR SH E) (h : vk FI FL FR F2 L2 R2) : cE F2 L2 R2 SH E := cE_fr hE rg_t (fun c hc => h.1 c (by omega))
theorem vx_up (h : vk FI FL FR F2 L2 R2) (g : vx n sl SH F2 L2 R2 v st x) : vx n sl SH FI FL FR v st x := by
  obtain ⟨F3, L3, R3, e, k, m⟩ := g
  exact ⟨F3, L3, R3, e, vk_tr h k, m⟩
theorem c_fail {a1 : Int32} {e : Int} (ht : th FR ∧ thI FR) (h0 : (FI 90 4).toInt = 0) (ha : a1.toInt = e) (he : e ≠ 0) (h : RX2_fail a1 n sl SH FI FL FR v st) : ∃ F2, st = (n, sl, SH, F2, FL, FR) ∧ vk FI FL FR F2 FL FR ∧ (F2 90 4).toInt = e := by
  have h := P_p h h0
  exact ⟨_, h.2, ⟨fun c hc => ⟨h_up_nc (by omega), rfl, rfl⟩, fun k hk => h_up_ne hk, rfl, rfl, ht⟩, by rw [h_up_eq]; exact ha⟩
theorem c_failx {a1 : Int32} {e : Int} (ht : th FR ∧ thI FR) (h0 : (FI 90 4).toInt = 0) (ha : a1.toInt = e) (he : e ≠ 0) (h : P_bi (RX2_fail a1 n sl SH FI FL FR) (fun v9 n9 sl9 SH9 FI9 FL9 FR9 => P_ret v9 (n9, sl9, SH9, FI9, FL9, FR9)) v st) : vx n sl SH FI FL FR v st (.inl e) := by
  obtain ⟨v9, n9, sl9, SH9, FI9, FL9, FR9, hf, e1, e2⟩ := h
  obtain ⟨F2, y1, y2, y3⟩ := c_fail ht h0 ha he hf
  cases y1
  exact ⟨_, _, _, e2, y2, y3, he⟩
theorem vx_ret {t : Int64} (ht : th FR ∧ thI FR) (h0 : (FI 90 4).toInt = 0) (h : P_ret t (n, sl, SH, FI, FL, FR) v st) : vx n sl SH FI FL FR v st (.inr t) := ⟨_, _, _, h.2, vk_rf ht, h.1, h0⟩
/-- what stands ahead of one -/
theorem c_unary {c : Nat} {t : Int64} (hS : h_S n SH) (hE : cE FI FL FR SH E) (ht : th FR ∧ thI FR) (h0 : (FI 90 4).toInt = 0) (hw : (FI c 0).toInt = 6 → 1 ≤ (FL c 1).toInt ∧ (FL c 1).toInt ≤ 8) (h : RX2_unaryValue (some c) t n sl SH FI FL FR v st) : vx n sl SH FI FL FR v st (xun E (FI c 0).toInt (FL c 1).toInt (.inr t)) := by
  obtain ⟨c1, e1, h⟩ := h
  cases e1
  unfold xun
  rcases h with ⟨k6, h⟩ | ⟨k6, h⟩
  · have k6 : (FI c 0).toInt = 6 := k6
    rw [if_pos k6]
    obtain ⟨w1, w2⟩ := hw k6
    obtain ⟨c3, e3, h⟩ := h
    cases e3
    have ew : ((FL c 1).toInt32).toInt = (((FL c 1).toInt.toNat : Nat) : Int) := by rw [l_2i (A := (FL c 1).toInt) rfl (by omega) (by omega)]; omega
    have hh := c_has (x := t) (FI := FI) (FL := FL) (FR := FR) hS ew (by omega)
    have e148 : (if (FL c 1).toInt = 8 then xe1 E 6 0 (.inr t) else xe1 E 148 (FL c 1).toInt (.inr t)) = (if t.toInt < 0 ∨ 4096 - (FL c 1).toInt < t.toInt then .inl 5 else .inr (ms_rd E t.toInt.toNat (FL c 1).toInt.toNat) : xX) := by
      by_cases h8 : (FL c 1).toInt = 8
      · rw [if_pos h8, h8]
        rfl
      · rw [if_neg h8]
        rfl
    rw [e148]
    rcases h with ⟨k5, h⟩ | ⟨k5, h⟩
    · have q := hh.mp k5
      rw [if_pos (by omega)]
      exact c_failx ht h0 (by first | decide | (simp; done) | (simp [ms_0]; done)) (by first | decide | (simp; done) | (simp [ms_0]; done)) h
    · have q : ¬ (t.toInt < 0 ∨ 4096 - (((FL c 1).toInt.toNat : Nat) : Int) < t.toInt) := fun e => k5 (hh.mpr e)
      rw [if_neg (by omega)]
      obtain ⟨v9, n9, sl9, SH9, FI9, FL9, FR9, hb, h9⟩ := h
      obtain ⟨y1, y2⟩ := c_bytes hS hE ew (by omega) (by omega) (by omega) hb
      cases y2
      rw [y1] at h9
      exact vx_ret ht h0 h9
  have k6 : ¬ (FI c 0).toInt = 6 := k6
  rw [if_neg k6]
  rcases h with ⟨k14, h⟩ | ⟨k14, h⟩
  · have k14 : (FI c 0).toInt = 14 := k14
    rw [if_pos k14]
    show vx n sl SH FI FL FR v st (match ms_tl E with
      | none => .inl 11
      | some v => .inr (v + t))
    rcases hE.2.2.2.2.2.2.2 with ⟨q1, q2⟩ | ⟨q1, q2⟩
    · rw [q2]
      exact c_failx ht h0 (by first | decide | (simp; done) | (simp [ms_0]; done)) (by first | decide | (simp; done) | (simp [ms_0]; done)) (P_p h q1)
    · rw [q2]
      exact vx_ret ht h0 (P_n h q1)
  have k14 : ¬ (FI c 0).toInt = 14 := k14
  rw [if_neg k14]
  rcases h with ⟨k45, h⟩ | ⟨k45, h⟩
  · have k45 : (FI c 0).toInt = 45 := k45
    rw [if_pos k45]
    exact vx_ret ht h0 h
  have k45 : ¬ (FI c 0).toInt = 45 := k45
  rw [if_neg k45]
  rcases h with ⟨k9, h⟩ | ⟨k9, h⟩
  · have k9 : (FI c 0).toInt = 126 := k9
    rw [if_pos k9]
    exact vx_ret ht h0 h
  · have k9 : ¬ (FI c 0).toInt = 126 := k9
    rw [if_neg k9]
    exact vx_ret ht h0 h
/-- behind a fault nothing happens -/
theorem c_fail_f {a1 : Int32} (h0 : (FI 90 4).toInt ≠ 0) (h : RX2_fail a1 n sl SH FI FL FR v st) : st = (n, sl, SH, FI, FL, FR) := (P_n h h0).2
theorem c_unary_f {c : Nat} {t : Int64} (hS : h_S n SH) (hE : cE FI FL FR SH E) (h0 : (FI 90 4).toInt ≠ 0) (hw : (FI c 0).toInt = 6 → 1 ≤ (FL c 1).toInt ∧ (FL c 1).toInt ≤ 8) (h : RX2_unaryValue (some c) t n sl SH FI FL FR v st) : st = (n, sl, SH, FI, FL, FR) := by
  obtain ⟨c1, e1, h⟩ := h
  cases e1
  rcases h with ⟨k6, h⟩ | ⟨k6, h⟩
  · have k6 : (FI c 0).toInt = 6 := k6
    obtain ⟨w1, w2⟩ := hw k6
    obtain ⟨c3, e3, h⟩ := h
    cases e3
    have ew : ((FL c 1).toInt32).toInt = (((FL c 1).toInt.toNat : Nat) : Int) := by rw [l_2i (A := (FL c 1).toInt) rfl (by omega) (by omega)]; omega
    have hh := c_has (x := t) (FI := FI) (FL := FL) (FR := FR) hS ew (by omega)
    rcases h with ⟨k5, h⟩ | ⟨k5, h⟩
    · obtain ⟨v9, n9, sl9, SH9, FI9, FL9, FR9, hb, -, h9⟩ := h
      rw [h9]
      exact c_fail_f h0 hb
    · have q : ¬ (t.toInt < 0 ∨ 4096 - (((FL c 1).toInt.toNat : Nat) : Int) < t.toInt) := fun e => k5 (hh.mpr e)
      obtain ⟨v9, n9, sl9, SH9, FI9, FL9, FR9, hb, -, h9⟩ := h
      rw [h9]
      exact (c_bytes hS hE ew (by omega) (by omega) (by omega) hb).2
  rcases h with ⟨k14, h⟩ | ⟨k14, h⟩
  · rcases h with ⟨-, h⟩ | ⟨-, h⟩
    · obtain ⟨v9, n9, sl9, SH9, FI9, FL9, FR9, hb, -, h9⟩ := h
      rw [h9]
      exact c_fail_f h0 hb
    · exact h.2
  rcases h with ⟨k45, h⟩ | ⟨k45, h⟩
  · exact h.2
  rcases h with ⟨k9, h⟩ | ⟨k9, h⟩
  · exact h.2
  · exact h.2
theorem c_value_f {g : Nat} {o : Option Nat} {a2 : Int32} (h0 : (FI 90 4).toInt ≠ 0) (h : QX2 g 0 o a2 n sl SH FI FL FR v st) : st = (n, sl, SH, FI, FL, FR) := by
  cases g with
  | zero => exact h.elim
  | succ g =>
    rcases h with ⟨-, h⟩ | ⟨-, h⟩
    · exact h.2
    · exact (P_n h h0).2
/-- FRAME's base -/
theorem c_fbx (hS : h_S n SH) (hE : cE FI FL FR SH E) (ht : th FR ∧ thI FR) (h0 : (FI 90 4).toInt = 0) (hf : x_fb E fb) (h : P_bi (RX9_base ((1000 : Int32)) ((0 : Int32)) ((0 : Int32)) n sl SH FI FL FR) (fun v7 n7 sl7 SH7 FI7 FL7 FR7 => P_if (v7.toInt = 0) (P_ret (FL7 48 15) (n7, sl7, SH7, FI7, FL7, FR7)) (P_bi (RX2_fail v7 n7 sl7 SH7 FI7 FL7 FR7) (fun v9 n9 sl9 SH9 FI9 FL9 FR9 => P_ret v9 (n9, sl9, SH9, FI9, FL9, FR9)))) v st) : vx n sl SH FI FL FR v st fb := by
  obtain ⟨v7, n7, sl7, SH7, FI7, FL7, FR7, hb, h⟩ := h
  rcases c_bas2 (o := 0) (f := 1000) hS ht hE (by first | decide | (simp; done) | (simp [ms_0]; done)) (by first | decide | (simp; done) | (simp [ms_0]; done)) (by first | decide | (simp; done) | (simp [ms_0]; done)) (by first | decide | (simp; done) | (simp [ms_0]; done)) (by first | decide | (simp; done) | (simp [ms_0]; done)) hb with ⟨q1, q2, q3⟩ | ⟨q1, q, hq, F2, L2, R2, e2, k2, m⟩
  · cases q3
    rw [hf.1 q1]
    exact c_failx ht h0 q2 (by first | decide | (simp; done) | (simp [ms_0]; done)) (P_n h (by rw [q2]; (first | decide | (simp; done) | (simp [ms_0]; done))))
  · cases e2
    have hx := hf.2 q1 q hq
    have kk := vk_kz ht k2
    have h07 : (FI7 90 4).toInt = 0 := by rw [(k2.1 90 (by omega)).1]; exact h0
    match q, hx, m with
    | .inl e, hx, ⟨m1, m2⟩ =>
      rw [hx]
      exact vx_up kk (c_failx kk.2.2.2.2 h07 m1 m2 (P_n h (by rw [m1]; exact m2)))
    | .inr y, hx, Or.inl ⟨e, m1, m2, m3⟩ =>
      rw [hx]
      (try dsimp only)
      rw [m1]
      exact vx_up kk (c_failx kk.2.2.2.2 h07 m2 m3 (P_n h (by rw [m2]; exact m3)))
    | .inr y, hx, Or.inr ⟨b, m1, m2, m3⟩ =>
      rw [hx]
      (try dsimp only)
      rw [m1]
      have h := P_p h m2
      rw [m3] at h
      exact vx_up kk (vx_ret kk.2.2.2.2 h07 h)
end CVV
