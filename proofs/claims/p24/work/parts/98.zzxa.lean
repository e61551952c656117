/-! THE CLASS'S RUNS AND SEARCHES, for the desk. -/
/-- what runs leave alone -/
def kc (FI : Nat → Nat → Int32) (FL : Nat → Nat → Int64) (FR : Nat → Nat → Option Nat) (F2 : Nat → Nat → Int32) (L2 : Nat → Nat → Int64) (R2 : Nat → Nat → Option Nat) : Prop := ∀ c, (c = 0 ∨ c = 2 ∨ (18 < c ∧ c < 48 ∧ c ≠ 21) ∨ 109 < c) → F2 c = FI c ∧ L2 c = FL c ∧ R2 c = FR c
/-- an answer, in the class -/
def cz (F : Nat → Nat → Int32) (L : Nat → Nat → Int64) (R : Nat → Nat → Option Nat) (SH : Nat → Nat × Nat) (Q0 : ms_Q) (v : Int32) : Int ⊕ ms_Q → Prop
  | .inl e => v.toInt = e ∧ e ≠ 0 ∧ crx F L R SH 1 3 Q0
  | .inr Q => v.toInt = 0 ∧ crx F L R SH 1 3 Q
section CZ
variable {n sl : Nat} {SH : Nat → Nat × Nat} {FI F2 F3 : Nat → Nat → Int32} {FL L2 L3 : Nat → Nat → Int64} {FR R2 R3 : Nat → Nat → Option Nat} {v : Int32} {u : Unit} {st : hS} {E : ms_E} {Q0 : ms_Q}
theorem kc_rf : kc FI FL FR FI FL FR := fun _ _ => ⟨rfl, rfl, rfl⟩
theorem kc_tr (h : kc FI FL FR F2 L2 R2) (g : kc F2 L2 R2 F3 L3 R3) : kc FI FL FR F3 L3 R3 := fun c hc => ⟨(g c hc).1.trans (h c hc).1, (g c hc).2.1.trans (h c hc).2.1, (g c hc).2.2.trans (h c hc).2.2⟩
theorem kc_kz (h : kz FI FL FR F2 L2 R2) : kc FI FL FR F2 L2 R2 := fun c hc => h.1 c (by omega)
theorem kc_k1 (h : k1 FI FL FR F2 L2 R2) : kc FI FL FR F2 L2 R2 := fun c hc => h.1 c (by omega)
theorem kc_21 (h : ∀ c, c ≠ 21 → F2 c = FI c) : kc FI FL FR F2 FL FR := fun c hc => ⟨h c (by omega), rfl, rfl⟩
theorem c_tell {a1 a2 a3 a4 : Int32} (h : RX11_tell a1 a2 a3 a4 n sl SH FI FL FR u st) : ∃ F2, st = (n, sl, SH, F2, FL, FR) ∧ ∀ c, c ≠ 21 → F2 c = FI c := by
  obtain ⟨-, h⟩ := h
  rcases h with ⟨-, -, -, -, -, e⟩ | ⟨-, -, -, -, -, e⟩
  · exact ⟨_, e, fun c hc => by rw [h_up_nc hc, h_up_nc hc, h_up_nc hc, h_up_nc hc]⟩
  · exact ⟨_, e, fun c hc => by rw [h_up_nc hc, h_up_nc hc, h_up_nc hc, h_up_nc hc]⟩
theorem crx_21 {Q : ms_Q} (hQ : crx FI FL FR SH 1 3 Q) (h : ∀ c, c ≠ 21 → F2 c = FI c) : crx F2 FL FR SH 1 3 Q := crx_fr hQ (fun r hr => h r (by have := hr.2; omega)) (h 1 (by first | decide | (simp; done) | (simp [ms_0]; done))) (fun i hi => ⟨h (3 + i) (by omega), rfl, rfl⟩)
theorem c_rb {r A f : Nat} {bs : List Int32} {a2 a3 a4 : Int32} (hS : h_S n SH) (ht : th FR ∧ thI FR) (t1 : tx FR 1 2 3) (hE : cE FI FL FR SH E) (hb : bk FI SH r A bs) (hbl : bs.length ≤ 100000) (hA : A ≤ 100000) (h2 : a2.toInt = A) (h3 : a3.toInt = ((A + bs.length : Nat) : Int)) (h4 : a4.toInt = f) (hf : f ≤ 1000) (hQ : crx FI FL FR SH 1 3 Q0) (h : RX11_runBytes (some r) a2 a3 a4 n sl SH FI FL FR v st) : (∀ e, ms_R E 0 0 bs 0 f ([], ms_0, []) (.inl e) → e ≠ 0) ∧ ∃ a, ms_G E bs f a ∧ ∃ F2 L2 R2, st = (n, sl, SH, F2, L2, R2) ∧ kc FI FL FR F2 L2 R2 ∧ cz F2 L2 R2 SH Q0 v a := by
  have hr := rg_of hS
  obtain ⟨v0, n0, sl0, SH0, FI0, FL0, FR0, hst, h⟩ := h
  obtain ⟨hne, a, hG, F2, L2, R2, e2, k2, hm⟩ := c_start hS ht hE hb hbl hA h2 h3 h4 hf hst
  cases e2
  refine ⟨hne, a, hG, ?_⟩
  have Q2 : crx FI0 FL0 FR0 SH 1 3 Q0 := crx_fr hQ (kz_rows k2 hr) (k2.1 1 (by omega)).1 (fun i hi => k2.1 (3 + i) (by omega))
  rcases hm with ⟨e9, rfl, m1, m2⟩ | ⟨Q, rfl, m1, m2⟩
  · have h := P_n h (by rw [m1]; exact m2)
    obtain ⟨u4, n4, sl4, SH4, FI4, FL4, FR4, htl, e1, e⟩ := h
    obtain ⟨F5, y1, y2⟩ := c_tell htl
    cases y1
    exact ⟨_, _, _, e, kc_tr (kc_kz k2) (kc_21 y2), by rw [e1]; exact m1, m2, crx_21 Q2 y2⟩
  · have h := P_p h m1
    obtain ⟨u3, n3, sl3, SH3, FI3, FL3, FR3, htk, u4, n4, sl4, SH4, FI4, FL4, FR4, htl, e1, e⟩ := h
    obtain ⟨F3, L3, R3, z1, z2, z3⟩ := c_rt hS (by first | decide | (simp; done) | (simp [ms_0]; done)) (by unfold tx; rw [(k2.1 1 (by omega)).2.2, (k2.1 2 (by omega)).2.2]; exact t1) (th_k ht.1 k2) m2 htk
    cases z1
    obtain ⟨F5, y1, y2⟩ := c_tell htl
    cases y1
    exact ⟨_, _, _, e, kc_tr (kc_kz k2) (kc_tr (kc_k1 z2) (kc_21 y2)), by rw [e1]; exact m1, crx_21 z3 y2⟩
theorem j_bw {a b : Int64} : (fX11_isBelow a b SH FI FL FR).toInt = 0 ↔ ¬ ms_bw a b := by
  unfold fX11_isBelow ms_bw
  by_cases h : (a + ((-9223372036854775808 : Int64))).toInt < (b + ((-9223372036854775808 : Int64))).toInt
  · rw [if_pos h]; exact ⟨fun e => absurd e (by first | decide | (simp; done) | (simp [ms_0]; done)), fun e => absurd h e⟩
  · rw [if_neg h]; exact ⟨fun _ => h, fun _ => by first | decide | (simp; done) | (simp [ms_0]; done)⟩
/-- what a search of the class has done -/
def csr (n sl : Nat) (SH : Nat → Nat × Nat) (FI : Nat → Nat → Int32) (FL : Nat → Nat → Int64) (FR : Nat → Nat → Option Nat) (E : ms_E) (Q0 : ms_Q) (f : Nat) (bs : List Int32) (pc B : Int64) (p : Nat) (v : Int32) (st : hS) : Prop := (∀ L, ms_SR bs pc B p (.inr (some L)) → ∀ e, ms_R E 0 0 L 0 f ([], ms_0, []) (.inl e) → e ≠ 0) ∧ ∃ a, ms_F E bs pc B p f a ∧ ∃ F2 L2 R2, st = (n, sl, SH, F2, L2, R2) ∧ kc FI FL FR F2 L2 R2 ∧ cz F2 L2 R2 SH Q0 v a
theorem csr_up {f p p2 : Nat} {bs : List Int32} {pc B B2 : Int64} (up : ∀ r, ms_SR bs pc B2 p2 r → ms_SR bs pc B p r) (h : csr n sl SH FI FL FR E Q0 f bs pc B2 p2 v st) : csr n sl SH FI FL FR E Q0 f bs pc B p v st := by
  obtain ⟨hn, a, ⟨r, r1, r2⟩, z⟩ := h
  refine ⟨fun L hL => hn L ?_, a, ⟨r, up r r1, r2⟩, z⟩
  have := ms_SR_u hL (up r r1)
  rw [this]
  exact r1
theorem csr_1 {f p : Nat} {bs : List Int32} {pc B : Int64} {l9 : Int32} (hs : ms_SR bs pc B p (.inl 1)) (hQ : crx FI FL FR SH 1 3 Q0) (h : P_bi (RX11_endless l9 n sl SH FI FL FR) (fun v5 n5 sl5 SH5 FI5 FL5 FR5 => P_ret v5 (n5, sl5, SH5, FI5, FL5, FR5)) v st) : csr n sl SH FI FL FR E Q0 f bs pc B p v st := by
  obtain ⟨v1, n1, sl1, SH1, FI1, FL1, FR1, ⟨u2, n2, sl2, SH2, FI2, FL2, FR2, htl, e2, e3⟩, e1, e⟩ := h
  obtain ⟨F5, y1, y2⟩ := c_tell htl
  cases y1
  cases e3
  refine ⟨fun L hL => ?_, .inl 1, ⟨.inl 1, hs, rfl⟩, _, _, _, e, kc_21 y2, by rw [e1, e2]; (first | decide | (simp; done) | (simp [ms_0]; done)), by first | decide | (simp; done) | (simp [ms_0]; done), crx_21 hQ y2⟩
  have := ms_SR_u hL hs
  cases this
theorem csr_0 {f p : Nat} {bs : List Int32} {pc B : Int64} (hS : h_S n SH) (t1 : tx FR 1 2 3) (hs : ms_SR bs pc B p (.inr none)) (h : P_bi (RX8_clear 1 n sl SH FI FL FR) (fun _ n1 sl1 SH1 FI1 FL1 FR1 => P_bi (RX11_tell ((0 : Int32)) ((-1 : Int32)) ((0 : Int32)) ((0 : Int32)) n1 sl1 SH1 FI1 FL1 FR1) (fun _ n2 sl2 SH2 FI2 FL2 FR2 => P_ret ((0 : Int32)) (n2, sl2, SH2, FI2, FL2, FR2))) v st) : csr n sl SH FI FL FR E Q0 f bs pc B p v st := by
  obtain ⟨u1, n1, sl1, SH1, FI1, FL1, FR1, hcl, u2, n2, sl2, SH2, FI2, FL2, FR2, htl, e1, e⟩ := h
  obtain ⟨F3, L3, z1, z2, z3⟩ := c_clear hS t1 hcl
  cases z1
  obtain ⟨F5, y1, y2⟩ := c_tell htl
  cases y1
  refine ⟨fun L hL => ?_, .inr (false, [(ms_0, 0, 0)]), ⟨.inr none, hs, rfl⟩, _, _, _, e, kc_tr (kc_k1 z2) (kc_21 y2), by rw [e1]; (first | decide | (simp; done) | (simp [ms_0]; done)), crx_21 z3 y2⟩
  have := ms_SR_u hL hs
  cases this
theorem c_s9 {r f : Nat} {bs : List Int32} {a2 a3 : Int64} {a4 : Int32} (hS0 : h_S n SH) (ht : th FR ∧ thI FR) (t1 : tx FR 1 2 3) (hE : cE FI FL FR SH E) (hb : bk FI SH r 0 bs) (hsz : (SH r).2 = bs.length) (hbl : bs.length ≤ 600) (h4 : a4.toInt = f) (hf : f ≤ 1000) (hQ : crx FI FL FR SH 1 3 Q0) : ∀ (g p k : Nat) (B : Int64) (l9 l10 v : Int32) (st : hS), l9.toInt = p → p ≤ bs.length → l10.toInt = k → 16 * k ≤ p → GX11_search_9 (some r) a2 a3 a4 g B l9 l10 n sl SH FI FL FR v st → csr n sl SH FI FL FR E Q0 f bs a3 B p v st := by
  intro g
  induction g with
  | zero => intro p k B l9 l10 v st _ _ _ _ h; exact h.elim
  | succ g ih =>
    intro p k B l9 l10 v st hp hpl hk hkp h
    have e16 : (l9 + (16 : Int32)).toInt = ((p + 16 : Nat) : Int) := by rw [i_add hp (by first | decide | (simp; done) | (simp [ms_0]; done) : ((16 : Int32)).toInt = 16) (by omega) (by omega)]; omega
    have e18 : (l9 + (18 : Int32)).toInt = ((p + 18 : Nat) : Int) := by rw [i_add hp (by first | decide | (simp; done) | (simp [ms_0]; done) : ((18 : Int32)).toInt = 18) (by omega) (by omega)]; omega
    have e8 : (l9 + (8 : Int32)).toInt = ((0 + (p + 8) : Nat) : Int) := by rw [i_add hp (by first | decide | (simp; done) | (simp [ms_0]; done) : ((8 : Int32)).toInt = 8) (by omega) (by omega)]; omega
    have ek : (l10 + (1 : Int32)).toInt = ((k + 1 : Nat) : Int) := by rw [i_add hk (by first | decide | (simp; done) | (simp [ms_0]; done) : ((1 : Int32)).toInt = 1) (by omega) (by omega)]; omega
    have h := P_n h (by rw [hk, show ((37 : Int32)).toInt = 37 by first | decide | (simp; done) | (simp [ms_0]; done)]; omega)
    obtain ⟨c4, ec4, h⟩ := h
    cases ec4
    have el : (Int32.ofNat (SH r).2 - l9).toInt = (bs.length : Int) - p := by rw [hsz, i_sub (i_lit (by omega)) hp (by omega) (by omega)]
    rcases h with ⟨h0, h⟩ | ⟨h0, h⟩
    · rw [el, show ((16 : Int32)).toInt = 16 by first | decide | (simp; done) | (simp [ms_0]; done)] at h0
      exact csr_1 (sr_a (by omega)) hQ h
    rw [el, show ((16 : Int32)).toInt = 16 by first | decide | (simp; done) | (simp [ms_0]; done)] at h0
    have k0 : ¬ bs.length < p + 16 := by omega
    obtain ⟨v2, n2, sl2, SH2, FI2, FL2, FR2, hn2, v3, n3, sl3, SH3, FI3, FL3, FR3, hn3, h⟩ := h
    obtain ⟨w2, y2⟩ := cn_num (p := p) (k := 8) (bk_0 hb) (by rw [hp]; omega) (by first | decide | (simp; done) | (simp [ms_0]; done)) (by first | decide | (simp; done) | (simp [ms_0]; done)) (by omega) hn2
    cases y2
    obtain ⟨w3, y3⟩ := cn_num (p := p + 8) (k := 8) (bk_0 hb) e8 (by first | decide | (simp; done) | (simp [ms_0]; done)) (by first | decide | (simp; done) | (simp [ms_0]; done)) (by omega) hn3
    cases y3
    have t2 : v2.toInt = (ms_nb bs p 8).toInt := by rw [w2]; rfl
    have t3 : v3.toInt = (ms_nb bs (p + 8) 8).toInt := by rw [w3]; rfl
    have go : ¬ ((ms_nb bs p 8).toInt = 0 ∧ (ms_nb bs (p + 8) 8).toInt = 0) → RX11_search_77 (GX11_search_9 (some r) a2 a3 a4 g) (some r) a2 a3 a4 B l9 l10 (Int32.ofNat (SH r).2 - l9) v2 v3 n sl SH FI FL FR v st → csr n sl SH FI FL FR E Q0 f bs a3 B p v st := by
      intro k1 h
      rw [w2, w3] at h
      rcases h with ⟨q1, h⟩ | ⟨q1, h⟩
      · have q1 : (ms_nb bs p 8).toInt = -1 := q1
        exact csr_up (fun r9 hr9 => sr_c k0 k1 q1 hr9) (ih (p + 16) (k + 1) (ms_nb bs (p + 8) 8) _ _ v st e16 (by omega) ek (by omega) h)
      have q1 : ¬ (ms_nb bs p 8).toInt = -1 := q1
      rcases h with ⟨q2, h⟩ | ⟨q2, h⟩
      · rw [el, show ((18 : Int32)).toInt = 18 by first | decide | (simp; done) | (simp [ms_0]; done)] at q2
        exact csr_1 (sr_d k0 k1 q1 (by omega)) hQ h
      rw [el, show ((18 : Int32)).toInt = 18 by first | decide | (simp; done) | (simp [ms_0]; done)] at q2
      have k2 : ¬ bs.length < p + 18 := by omega
      obtain ⟨v4, n4, sl4, SH4, FI4, FL4, FR4, hn4, h⟩ := h
      obtain ⟨w4, y4⟩ := cn_num (p := p + 16) (k := 2) (bk_0 hb) (by rw [e16]; omega) (by first | decide | (simp; done) | (simp [ms_0]; done)) (by first | decide | (simp; done) | (simp [ms_0]; done)) (by omega) hn4
      cases y4
      have hz := ms_n16 (p := p + 16) (bk_bt hb) (by omega)
      have w4 : v4 = ms_nb bs (p + 16) 2 := w4
      rw [w4] at h
      have ez : ((ms_nb bs (p + 16) 2).toInt32).toInt = (((ms_nb bs (p + 16) 2).toInt.toNat : Nat) : Int) := by rw [l_2i (A := (ms_nb bs (p + 16) 2).toInt) rfl (by omega) (by omega)]; omega
      generalize hzz : (ms_nb bs (p + 16) 2).toInt.toNat = z at ez
      have hz2 : z ≤ 65535 := by omega
      have el18 : (Int32.ofNat (SH r).2 - l9 - (18 : Int32)).toInt = (bs.length : Int) - p - 18 := by rw [i_sub el (by first | decide | (simp; done) | (simp [ms_0]; done) : ((18 : Int32)).toInt = 18) (by omega) (by omega)]
      have e18z : (l9 + (18 : Int32) + (ms_nb bs (p + 16) 2).toInt32).toInt = ((p + 18 + z : Nat) : Int) := by rw [i_add e18 ez (by omega) (by omega)]; omega
      have on : ∀ _ : ¬ (bs.length < p + 18 + z), ¬ (¬ ms_bw a3 (B + ms_nb bs p 8) ∧ ms_bw a3 (B + ms_nb bs (p + 8) 8)) → GX11_search_9 (some r) a2 a3 a4 g B (l9 + (18 : Int32) + (ms_nb bs (p + 16) 2).toInt32) (l10 + (1 : Int32)) n sl SH FI FL FR v st → csr n sl SH FI FL FR E Q0 f bs a3 B p v st := by
        intro k3 k4 h
        exact csr_up (fun r9 hr9 => sr_g k0 k1 q1 k2 (by rw [hzz]; exact k3) k4 (by rw [hzz]; exact hr9)) (ih (p + 18 + z) (k + 1) B _ _ v st e18z (by omega) ek (by omega) h)
      rcases h with ⟨q3, h⟩ | ⟨q3, h⟩
      · rw [el18, ez] at q3
        exact csr_1 (sr_e k0 k1 q1 k2 (by rw [hzz]; omega)) hQ h
      rw [el18, ez] at q3
      have k3 : ¬ bs.length < p + 18 + z := by omega
      rcases h with ⟨q4, h⟩ | ⟨q4, h⟩
      · have q4 := j_bw.mp q4
        rcases h with ⟨q5, h⟩ | ⟨q5, h⟩
        · have q5 := j_bw.mp q5
          exact on k3 (fun e => q5 e.2) h
        · have q5 : ms_bw a3 (B + ms_nb bs (p + 8) 8) := Decidable.not_not.mp (fun e => q5 (j_bw.mpr e))
          obtain ⟨v9, n9, sl9, SH9, FI9, FL9, FR9, hru, e1, e⟩ := h
          have sub := bk_sub (q := p + 18) (k := z) hb (by omega)
          have ln : ((bs.drop (p + 18)).take z).length = z := ms_ln (by omega)
          have hf9 := sr_f k0 k1 q1 k2 (by rw [hzz]; exact k3) q4 q5
          rw [hzz] at hf9
          obtain ⟨hn, a, hG, F2, L2, R2, e2, x, m⟩ := c_rb hS0 ht t1 hE sub (by omega) (by omega) (by rw [e18]; omega) (by rw [e18z, ln]; omega) h4 hf hQ hru
          cases e2
          refine ⟨fun L hL => ?_, a, ⟨_, hf9, hG⟩, _, _, _, e, x, by rw [e1]; exact m⟩
          have := ms_SR_u hL hf9
          cases this
          exact hn
      · have q4 : ms_bw a3 (B + ms_nb bs p 8) := Decidable.not_not.mp (fun e => q4 (j_bw.mpr e))
        exact on k3 (fun e => e.1 q4) h
    rcases h with ⟨q1, h⟩ | ⟨q1, h⟩
    · rcases h with ⟨q2, h⟩ | ⟨q2, h⟩
      · exact csr_0 hS0 t1 (sr_b k0 (by rw [← t2]; exact q1) (by rw [← t3]; exact q2)) h
      · exact go (fun e => q2 (by rw [t3]; exact e.2)) h
    · exact go (fun e => q1 (by rw [t2]; exact e.1)) h
theorem c_search {r f : Nat} {bs : List Int32} {a2 a3 : Int64} {a4 : Int32} (hS : h_S n SH) (ht : th FR ∧ thI FR) (t1 : tx FR 1 2 3) (hE : cE FI FL FR SH E) (hb : bk FI SH r 0 bs) (hsz : (SH r).2 = bs.length) (hbl : bs.length ≤ 600) (h4 : a4.toInt = f) (hf : f ≤ 1000) (hQ : crx FI FL FR SH 1 3 Q0) (h : RX11_search (some r) a2 a3 a4 n sl SH FI FL FR v st) : csr n sl SH FI FL FR E Q0 f bs a3 a2 0 v st := by
  obtain ⟨g, h⟩ := h
  exact c_s9 hS ht t1 hE hb hsz hbl h4 hf hQ g 0 0 a2 _ _ v st (by first | decide | (simp; done) | (simp [ms_0]; done)) (by omega) (by first | decide | (simp; done) | (simp [ms_0]; done)) (by omega) h
end CZ
