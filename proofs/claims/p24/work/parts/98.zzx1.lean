/-! THE CLASS'S RUN: what its cells tell of a run's state. -/
/-- a thing in a Part -/
def ct (FI : Nat → Nat → Int32) (FL : Nat → Nat → Int64) (FR : Nat → Nat → Option Nat) (SH : Nat → Nat × Nat) (q : Nat) (H : ms_H) : Prop := (FI q 0).toInt = H.1 ∧ FL q 1 = H.2.1 ∧ ms_ok H ∧ (H.1 = 4 → ∃ r A : Nat, FR q 4 = some r ∧ (FI q 5).toInt = (A : Int) ∧ bk FI SH r A H.2.2)
def chd (FI : Nat → Nat → Int32) (FL : Nat → Nat → Int64) (FR : Nat → Nat → Option Nat) (SH : Nat → Nat × Nat) (q : Nat) (H : ms_H) : Prop := ct FI FL FR SH q H ∧ FI q 2 = 0 ∧ FI q 3 = 0
def cq (FI : Nat → Nat → Int32) (FL : Nat → Nat → Int64) (FR : Nat → Nat → Option Nat) (SH : Nat → Nat × Nat) (q : Nat) (p : ms_P) : Prop := ct FI FL FR SH q p.1 ∧ (FI q 2).toInt = p.2.1 ∧ (FI q 3).toInt = p.2.2 ∧ 0 ≤ p.2.1 ∧ p.2.1 ≤ 4096 ∧ 0 ≤ p.2.2 ∧ p.2.2 ≤ 4096
/-- rows of bytes lie outside the runners -/
def rg (SH : Nat → Nat × Nat) : Prop := ∀ r, rw0 SH r → r < 48 ∨ 109 < r
theorem rg_of {n : Nat} {SH : Nat → Nat × Nat} (_ : h_S n SH) : rg SH := fun r hr => by
  have := hr.2
  omega
section CT
variable {FI F2 : Nat → Nat → Int32} {FL L2 : Nat → Nat → Int64} {FR R2 : Nat → Nat → Option Nat} {SH : Nat → Nat × Nat} {q q2 : Nat} {H : ms_H} {p : ms_P}
theorem ct_cp (h : ct FI FL FR SH q H) (e0 : ∀ r, rw0 SH r → F2 r = FI r) (e1 : F2 q2 0 = FI q 0) (e2 : L2 q2 1 = FL q 1) (e3 : R2 q2 4 = FR q 4) (e4 : F2 q2 5 = FI q 5) : ct F2 L2 R2 SH q2 H := by
  unfold ct
  rw [e1, e2, e3, e4]
  refine ⟨h.1, h.2.1, h.2.2.1, fun h4 => ?_⟩
  obtain ⟨r, A, a1, a2, a3⟩ := h.2.2.2 h4
  exact ⟨r, A, a1, a2, bk_fr a3 (e0 r a3.1)⟩
theorem ct_fr (h : ct FI FL FR SH q H) (e0 : ∀ r, rw0 SH r → F2 r = FI r) (e1 : F2 q = FI q) (e2 : L2 q = FL q) (e3 : R2 q = FR q) : ct F2 L2 R2 SH q H := ct_cp h e0 (by rw [e1]) (by rw [e2]) (by rw [e3]) (by rw [e1])
theorem chd_fr (h : chd FI FL FR SH q H) (e0 : ∀ r, rw0 SH r → F2 r = FI r) (e1 : F2 q = FI q) (e2 : L2 q = FL q) (e3 : R2 q = FR q) : chd F2 L2 R2 SH q H := ⟨ct_fr h.1 e0 e1 e2 e3, by rw [e1]; exact h.2.1, by rw [e1]; exact h.2.2⟩
theorem cq_fr (h : cq FI FL FR SH q p) (e0 : ∀ r, rw0 SH r → F2 r = FI r) (e1 : F2 q = FI q) (e2 : L2 q = FL q) (e3 : R2 q = FR q) : cq F2 L2 R2 SH q p := by
  unfold cq
  rw [e1]
  exact ⟨ct_fr h.1 e0 e1 e2 e3, h.2⟩
end CT
/-- what operations ask for, in the class's cells -/
def cE (FI : Nat → Nat → Int32) (FL : Nat → Nat → Int64) (FR : Nat → Nat → Option Nat) (SH : Nat → Nat × Nat) (E : ms_E) : Prop := (∀ i, i < 32 → FL 24 i = ms_rg E i) ∧ (∀ i, i < 4096 → FI 25 i = ms_mm E i ∧ 0 ≤ (ms_mm E i).toInt ∧ (ms_mm E i).toInt ≤ 255) ∧ (∀ k, k < 16 → ∃ r, FR 26 k = some r ∧ (SH r).2 = (ms_ex E k).length ∧ (ms_ex E k).length ≤ 600 ∧ bk FI SH r 0 (ms_ex E k)) ∧ ((FI 23 4).toInt = ms_fr E ∧ -1 ≤ ms_fr E ∧ ms_fr E ≤ 15) ∧ ((FI 23 5).toInt = ms_cr E ∧ -1 ≤ ms_cr E ∧ ms_cr E ≤ 31) ∧ FL 23 6 = ms_co E ∧ (((FI 23 7).toInt = 0 ∧ ms_ob E = none) ∨ ((FI 23 7).toInt ≠ 0 ∧ ms_ob E = some (FL 23 8))) ∧ (((FI 23 9).toInt = 0 ∧ ms_tl E = none) ∨ ((FI 23 9).toInt ≠ 0 ∧ ms_tl E = some (FL 23 10)))
theorem cE_fr {FI F2 : Nat → Nat → Int32} {FL L2 : Nat → Nat → Int64} {FR R2 : Nat → Nat → Option Nat} {SH : Nat → Nat × Nat} {E : ms_E} (h : cE FI FL FR SH E) (hr : rg SH) (e1 : ∀ c, c < 48 ∨ 109 < c → F2 c = FI c ∧ L2 c = FL c ∧ R2 c = FR c) : cE F2 L2 R2 SH E := by
  obtain ⟨h1, h2, h3, h4, h5, h6, h7, h8⟩ := h
  have a := (e1 23 (by omega)).1
  have b := (e1 23 (by omega)).2.1
  refine ⟨by rw [(e1 24 (by omega)).2.1]; exact h1, by rw [(e1 25 (by omega)).1]; exact h2, fun k hk => ?_, by rw [a]; exact h4, by rw [a]; exact h5, by rw [b]; exact h6, by rw [a, b]; exact h7, by rw [a, b]; exact h8⟩
  obtain ⟨r, r1, r2, r3, r4⟩ := h3 k hk
  exact ⟨r, by rw [(e1 26 (by omega)).2.2]; exact r1, r2, r3, bk_fr r4 (e1 r (hr r r4.1)).1⟩
/-- the runner 49 -/
def cvI (FI : Nat → Nat → Int32) (FL : Nat → Nat → Int64) (FR : Nat → Nat → Option Nat) (SH : Nat → Nat × Nat) (s : ms_S) : Prop := (FI 49 5).toInt = s.1.length ∧ s.1.length ≤ 128 ∧ lv (fun i x => FL 50 i = x) s.1 ∧ chd FI FL FR SH 51 s.2.1 ∧ (FI 52 1).toInt = s.2.2.length ∧ s.2.2.length ≤ 16 ∧ (FI 52 2).toInt = ms_tb s.2.2 ∧ 0 ≤ ms_tb s.2.2 ∧ ms_tb s.2.2 ≤ 4096 ∧ lv (fun i q => cq FI FL FR SH (54 + i) q) s.2.2
/-- its fuel -/
def cuI (FI : Nat → Nat → Int32) (f : Nat) : Prop := (FI 49 6).toInt - (FI 49 7).toInt = f ∧ 0 ≤ (FI 49 7).toInt ∧ (FI 49 6).toInt ≤ 1000
/-- what it leaves alone -/
def kzI (FI : Nat → Nat → Int32) (FL : Nat → Nat → Int64) (FR : Nat → Nat → Option Nat) (F2 : Nat → Nat → Int32) (L2 : Nat → Nat → Int64) (R2 : Nat → Nat → Option Nat) : Prop := (∀ c, (c < 49 ∨ 69 < c) → F2 c = FI c ∧ L2 c = FL c ∧ R2 c = FR c) ∧ (∀ c, c ≠ 51 ∧ (c < 54 ∨ 69 < c) → R2 c = FR c)
section CVI
variable {n sl : Nat} {FI F2 F3 : Nat → Nat → Int32} {FL L2 L3 : Nat → Nat → Int64} {FR R2 R3 : Nat → Nat → Option Nat} {SH : Nat → Nat × Nat} {s : ms_S} {f : Nat} {v : Int32} {st : hS} {x : Int64}
theorem kzI_rf : kzI FI FL FR FI FL FR := ⟨fun _ _ => ⟨rfl, rfl, rfl⟩, fun _ _ => rfl⟩
theorem kzI_tr (h : kzI FI FL FR F2 L2 R2) (g : kzI F2 L2 R2 F3 L3 R3) : kzI FI FL FR F3 L3 R3 := ⟨fun c hc => ⟨(g.1 c hc).1.trans (h.1 c hc).1, (g.1 c hc).2.1.trans (h.1 c hc).2.1, (g.1 c hc).2.2.trans (h.1 c hc).2.2⟩, fun c hc => (g.2 c hc).trans (h.2 c hc)⟩
theorem kzI_i {c k : Nat} {y : Int32} (h : kzI FI FL FR F2 L2 R2) (hc : 49 ≤ c ∧ c ≤ 69) : kzI FI FL FR (h_up F2 c k y) L2 R2 := ⟨fun c2 h2 => ⟨by rw [h_up_nc (by omega)]; exact (h.1 c2 h2).1, (h.1 c2 h2).2⟩, h.2⟩
theorem kzI_l {c k : Nat} {y : Int64} (h : kzI FI FL FR F2 L2 R2) (hc : 49 ≤ c ∧ c ≤ 69) : kzI FI FL FR F2 (h_up L2 c k y) R2 := ⟨fun c2 h2 => ⟨(h.1 c2 h2).1, by rw [h_up_nc (by omega)]; exact (h.1 c2 h2).2.1, (h.1 c2 h2).2.2⟩, h.2⟩
theorem kzI_r {c k : Nat} {y : Option Nat} (h : kzI FI FL FR F2 L2 R2) (hc : 49 ≤ c ∧ c ≤ 69) (hp : ¬ (c ≠ 51 ∧ (c < 54 ∨ 69 < c))) : kzI FI FL FR F2 L2 (h_up R2 c k y) := ⟨fun c2 h2 => ⟨(h.1 c2 h2).1, (h.1 c2 h2).2.1, by rw [h_up_nc (by omega)]; exact (h.1 c2 h2).2.2⟩, fun c2 h2 => by rw [h_up_nc (by omega)]; exact h.2 c2 h2⟩
theorem kzI_rows (h : kzI FI FL FR F2 L2 R2) (hr : rg SH) : ∀ r, rw0 SH r → F2 r = FI r := fun r h1 => (h.1 r (by have := hr r h1; omega)).1
theorem cE_kI {E : ms_E} (h : cE FI FL FR SH E) (hr : rg SH) (k : kzI FI FL FR F2 L2 R2) : cE F2 L2 R2 SH E := cE_fr h hr (fun c hc => k.1 c (by omega))
/-- fields of the runner that do not matter -/
theorem cvI_f {k : Nat} {y : Int32} (h : cvI FI FL FR SH s) (hr : rg SH) (hk : k ≠ 5) : cvI (h_up FI 49 k y) FL FR SH s := by
  obtain ⟨h1, h2, h3, h4, h5, h6, h7, h8, h9, h10⟩ := h
  have e0 : ∀ r, rw0 SH r → (h_up FI 49 k y) r = FI r := fun r h1 => h_up_nc (by have := hr r h1; omega)
  exact ⟨by rw [h_up_ne (Ne.symm hk)]; exact h1, h2, h3, chd_fr h4 e0 (h_up_nc (by first | decide | simp)) rfl rfl, by rw [h_up_nc (by first | decide | simp)]; exact h5, h6, by rw [h_up_nc (by first | decide | simp)]; exact h7, h8, h9, lv_mono (fun i p hi _ hp => cq_fr hp e0 (h_up_nc (by omega)) rfl rfl) h10⟩
theorem cvI_g {k : Nat} {y : Int64} (h : cvI FI FL FR SH s) : cvI FI (h_up FL 49 k y) FR SH s := by
  obtain ⟨h1, h2, h3, h4, h5, h6, h7, h8, h9, h10⟩ := h
  exact ⟨h1, h2, by rw [h_up_nc (by first | decide | simp)]; exact h3, chd_fr h4 (fun _ _ => rfl) rfl (h_up_nc (by first | decide | simp)) rfl, h5, h6, h7, h8, h9, lv_mono (fun i p hi _ hp => cq_fr hp (fun _ _ => rfl) rfl (h_up_nc (by omega)) rfl) h10⟩
theorem cvI_st {S : List Int64} {y : Int32} {L2 : Nat → Nat → Int64} (h : cvI FI FL FR SH s) (hr : rg SH) (e1 : y.toInt = S.length) (e2 : S.length ≤ 128) (e3 : ∀ r, r ≠ 50 → L2 r = FL r) (e4 : lv (fun i x => L2 50 i = x) S) : cvI (h_up FI 49 5 y) L2 FR SH (S, s.2) := by
  obtain ⟨h1, h2, h3, h4, h5, h6, h7, h8, h9, h10⟩ := h
  have e0 : ∀ r, rw0 SH r → (h_up FI 49 5 y) r = FI r := fun r h1 => h_up_nc (by have := hr r h1; omega)
  exact ⟨by rw [h_up_eq]; exact e1, e2, e4, chd_fr h4 e0 (h_up_nc (by first | decide | simp)) (e3 _ (by first | decide | simp)) rfl, by rw [h_up_nc (by first | decide | simp)]; exact h5, h6, by rw [h_up_nc (by first | decide | simp)]; exact h7, h8, h9, lv_mono (fun i p hi _ hp => cq_fr hp e0 (h_up_nc (by omega)) (e3 _ (by omega)) rfl) h10⟩
/-- a runner's answer: a fault, or its new state -/
def crI (n sl : Nat) (SH : Nat → Nat × Nat) (FI : Nat → Nat → Int32) (FL : Nat → Nat → Int64) (FR : Nat → Nat → Option Nat) (v : Int32) (st : hS) : Int ⊕ ms_S → Prop
  | .inl e => v.toInt = e ∧ e ≠ 0 ∧ ∃ F2 L2 R2, st = (n, sl, SH, F2, L2, R2) ∧ kzI FI FL FR F2 L2 R2
  | .inr s2 => v.toInt = 0 ∧ ∃ F2 L2 R2, st = (n, sl, SH, F2, L2, R2) ∧ kzI FI FL FR F2 L2 R2 ∧ cvI F2 L2 R2 SH s2 ∧ F2 49 6 = FI 49 6 ∧ F2 49 7 = FI 49 7 ∧ F2 49 10 = FI 49 10 ∧ L2 49 12 = FL 49 12 ∧ L2 49 13 = FL 49 13
theorem c_pushI (hS : h_S n SH) (hv : cvI FI FL FR SH s) (h : RX9_pushI x n sl SH FI FL FR v st) : crI n sl SH FI FL FR v st (if s.1.length = 128 then .inl 4 else .inr (x :: s.1, s.2)) := by
  have hr := rg_of hS
  have hsz := hv.1
  have hln := hv.2.1
  unfold RX9_pushI at h
  rw [show (Int32.ofNat (SH 50).2).toInt = 128 by rw [hS.2 50 (by first | decide | simp)]; decide +kernel, hsz] at h
  rcases h with ⟨h0, -, e1, e⟩ | ⟨h0, e1, e⟩
  · rw [if_neg (by omega)]
    refine ⟨by rw [e1]; decide, _, _, _, e, kzI_i (kzI_i (kzI_l kzI_rf (by first | decide | simp)) (by first | decide | simp)) (by first | decide | simp), ?_, ?_, ?_, ?_, ?_, ?_⟩
    · refine cvI_f (cvI_st (S := x :: s.1) hv hr ?_ (by simp only [List.length_cons]; omega) (fun r h1 => h_up_nc h1) ⟨?_, ?_⟩) hr (by first | decide | simp)
      · rw [i_add hsz (by first | decide | simp : ((1 : Int32)).toInt = 1) (by omega) (by omega)]
        simp only [List.length_cons]
        omega
      · show h_up FL 50 (s.1.length : Int).toNat x 50 s.1.length = x
        rw [Int.toNat_natCast, h_up_eq]
      · rw [Int.toNat_natCast]
        exact lv_mono (fun i y hi _ hy => by rw [h_up_ne (by omega)]; exact hy) hv.2.2.1
    · rw [h_up_ne (by first | decide | simp), h_up_ne (by first | decide | simp)]
    · rw [h_up_ne (by first | decide | simp), h_up_ne (by first | decide | simp)]
    · rw [h_up_ne (by first | decide | simp), h_up_ne (by first | decide | simp)]
    · rw [h_up_nc (by first | decide | simp)]
    · rw [h_up_nc (by first | decide | simp)]
  · rw [if_pos (by omega)]
    exact ⟨by rw [e1]; decide, by first | decide | simp, _, _, _, e, kzI_rf⟩
theorem c_popI {t : Int64} {R : List Int64} {w : Int64} (hS : h_S n SH) (hs : s.1 = t :: R) (hv : cvI FI FL FR SH s) (h : RX9_popI n sl SH FI FL FR w st) : w = t ∧ ∃ F2, st = (n, sl, SH, F2, FL, FR) ∧ F2 = h_up FI 49 5 (FI 49 5 - (1 : Int32)) ∧ kzI FI FL FR F2 FL FR ∧ cvI F2 FL FR SH (R, s.2) := by
  have hr := rg_of hS
  obtain ⟨S, sr⟩ := s
  (try dsimp only at hs)
  subst hs
  have hsz := hv.1
  have hln := hv.2.1
  simp only [List.length_cons] at hsz hln
  have e1 : (FI 49 5 - (1 : Int32)).toInt = (R.length : Int) := by rw [i_sub hsz (by first | decide | simp : ((1 : Int32)).toInt = 1) (by omega) (by omega)]; omega
  have h := P_p h (by rw [hsz]; omega)
  have h := P_n h (by rw [show (Int32.ofNat (SH 50).2).toInt = 128 by rw [hS.2 50 (by first | decide | simp)]; decide +kernel, hsz]; omega)
  obtain ⟨-, e2, e⟩ := h
  rw [e1, Int.toNat_natCast] at e2
  exact ⟨e2.trans hv.2.2.1.1, _, e, rfl, kzI_i kzI_rf (by first | decide | simp), cvI_st hv hr e1 (by omega) (fun _ _ => rfl) hv.2.2.1.2⟩
theorem c_belowI {i : Int32} {k : Nat} {y : Int64} (hS : h_S n SH) (hv : cvI FI FL FR SH s) (hi : i.toInt = k) (hy : s.1[k]? = some y) : fX9_belowI i SH FI FL FR = y := by
  have hsz := hv.1
  have hln := hv.2.1
  have hk := (List.getElem?_eq_some_iff.mp hy).1
  have e1 : ((FI 49 5 - (1 : Int32)) - i).toInt = ((s.1.length - 1 - k : Nat) : Int) := by rw [i_sub (i_sub hsz (by first | decide | simp : ((1 : Int32)).toInt = 1) (by omega) (by omega)) hi (by omega) (by omega)]; omega
  unfold fX9_belowI
  rw [show (Int32.ofNat (SH 50).2).toInt = 128 by rw [hS.2 50 (by first | decide | simp)]; decide +kernel, e1, if_neg (by omega), if_pos (by omega), Int.toNat_natCast]
  exact lv_get hv.2.2.1 hy
end CVI
/-- the runner 48 -/
def cv (FI : Nat → Nat → Int32) (FL : Nat → Nat → Int64) (FR : Nat → Nat → Option Nat) (SH : Nat → Nat × Nat) (s : ms_S) : Prop := (FI 48 5).toInt = s.1.length ∧ s.1.length ≤ 128 ∧ lv (fun i x => FL 70 i = x) s.1 ∧ chd FI FL FR SH 71 s.2.1 ∧ (FI 72 1).toInt = s.2.2.length ∧ s.2.2.length ≤ 16 ∧ (FI 72 2).toInt = ms_tb s.2.2 ∧ 0 ≤ ms_tb s.2.2 ∧ ms_tb s.2.2 ≤ 4096 ∧ lv (fun i q => cq FI FL FR SH (74 + i) q) s.2.2
/-- its fuel -/
def cu (FI : Nat → Nat → Int32) (f : Nat) : Prop := (FI 48 6).toInt - (FI 48 7).toInt = f ∧ 0 ≤ (FI 48 7).toInt ∧ (FI 48 6).toInt ≤ 1000
/-- what it leaves alone -/
def kz (FI : Nat → Nat → Int32) (FL : Nat → Nat → Int64) (FR : Nat → Nat → Option Nat) (F2 : Nat → Nat → Int32) (L2 : Nat → Nat → Int64) (R2 : Nat → Nat → Option Nat) : Prop := (∀ c, (c < 48 ∨ 89 < c) → F2 c = FI c ∧ L2 c = FL c ∧ R2 c = FR c) ∧ (∀ c, c ≠ 71 ∧ (c < 74 ∨ 89 < c) ∧ c ≠ 51 ∧ (c < 54 ∨ 69 < c) → R2 c = FR c)
section CV
variable {n sl : Nat} {FI F2 F3 : Nat → Nat → Int32} {FL L2 L3 : Nat → Nat → Int64} {FR R2 R3 : Nat → Nat → Option Nat} {SH : Nat → Nat × Nat} {s : ms_S} {f : Nat} {v : Int32} {st : hS} {x : Int64}
theorem kz_rf : kz FI FL FR FI FL FR := ⟨fun _ _ => ⟨rfl, rfl, rfl⟩, fun _ _ => rfl⟩
theorem kz_tr (h : kz FI FL FR F2 L2 R2) (g : kz F2 L2 R2 F3 L3 R3) : kz FI FL FR F3 L3 R3 := ⟨fun c hc => ⟨(g.1 c hc).1.trans (h.1 c hc).1, (g.1 c hc).2.1.trans (h.1 c hc).2.1, (g.1 c hc).2.2.trans (h.1 c hc).2.2⟩, fun c hc => (g.2 c hc).trans (h.2 c hc)⟩
theorem kz_i {c k : Nat} {y : Int32} (h : kz FI FL FR F2 L2 R2) (hc : 48 ≤ c ∧ c ≤ 89) : kz FI FL FR (h_up F2 c k y) L2 R2 := ⟨fun c2 h2 => ⟨by rw [h_up_nc (by omega)]; exact (h.1 c2 h2).1, (h.1 c2 h2).2⟩, h.2⟩
theorem kz_l {c k : Nat} {y : Int64} (h : kz FI FL FR F2 L2 R2) (hc : 48 ≤ c ∧ c ≤ 89) : kz FI FL FR F2 (h_up L2 c k y) R2 := ⟨fun c2 h2 => ⟨(h.1 c2 h2).1, by rw [h_up_nc (by omega)]; exact (h.1 c2 h2).2.1, (h.1 c2 h2).2.2⟩, h.2⟩
theorem kz_r {c k : Nat} {y : Option Nat} (h : kz FI FL FR F2 L2 R2) (hc : 48 ≤ c ∧ c ≤ 89) (hp : ¬ (c ≠ 71 ∧ (c < 74 ∨ 89 < c) ∧ c ≠ 51 ∧ (c < 54 ∨ 69 < c))) : kz FI FL FR F2 L2 (h_up R2 c k y) := ⟨fun c2 h2 => ⟨(h.1 c2 h2).1, (h.1 c2 h2).2.1, by rw [h_up_nc (by omega)]; exact (h.1 c2 h2).2.2⟩, fun c2 h2 => by rw [h_up_nc (by omega)]; exact h.2 c2 h2⟩
theorem kz_rows (h : kz FI FL FR F2 L2 R2) (hr : rg SH) : ∀ r, rw0 SH r → F2 r = FI r := fun r h1 => (h.1 r (by have := hr r h1; omega)).1
theorem cE_k {E : ms_E} (h : cE FI FL FR SH E) (hr : rg SH) (k : kz FI FL FR F2 L2 R2) : cE F2 L2 R2 SH E := cE_fr h hr (fun c hc => k.1 c (by omega))
/-- fields of the runner that do not matter -/
theorem cv_f {k : Nat} {y : Int32} (h : cv FI FL FR SH s) (hr : rg SH) (hk : k ≠ 5) : cv (h_up FI 48 k y) FL FR SH s := by
  obtain ⟨h1, h2, h3, h4, h5, h6, h7, h8, h9, h10⟩ := h
  have e0 : ∀ r, rw0 SH r → (h_up FI 48 k y) r = FI r := fun r h1 => h_up_nc (by have := hr r h1; omega)
  exact ⟨by rw [h_up_ne (Ne.symm hk)]; exact h1, h2, h3, chd_fr h4 e0 (h_up_nc (by first | decide | simp)) rfl rfl, by rw [h_up_nc (by first | decide | simp)]; exact h5, h6, by rw [h_up_nc (by first | decide | simp)]; exact h7, h8, h9, lv_mono (fun i p hi _ hp => cq_fr hp e0 (h_up_nc (by omega)) rfl rfl) h10⟩
theorem cv_g {k : Nat} {y : Int64} (h : cv FI FL FR SH s) : cv FI (h_up FL 48 k y) FR SH s := by
  obtain ⟨h1, h2, h3, h4, h5, h6, h7, h8, h9, h10⟩ := h
  exact ⟨h1, h2, by rw [h_up_nc (by first | decide | simp)]; exact h3, chd_fr h4 (fun _ _ => rfl) rfl (h_up_nc (by first | decide | simp)) rfl, h5, h6, h7, h8, h9, lv_mono (fun i p hi _ hp => cq_fr hp (fun _ _ => rfl) rfl (h_up_nc (by omega)) rfl) h10⟩
theorem cv_st {S : List Int64} {y : Int32} {L2 : Nat → Nat → Int64} (h : cv FI FL FR SH s) (hr : rg SH) (e1 : y.toInt = S.length) (e2 : S.length ≤ 128) (e3 : ∀ r, r ≠ 70 → L2 r = FL r) (e4 : lv (fun i x => L2 70 i = x) S) : cv (h_up FI 48 5 y) L2 FR SH (S, s.2) := by
  obtain ⟨h1, h2, h3, h4, h5, h6, h7, h8, h9, h10⟩ := h
  have e0 : ∀ r, rw0 SH r → (h_up FI 48 5 y) r = FI r := fun r h1 => h_up_nc (by have := hr r h1; omega)
  exact ⟨by rw [h_up_eq]; exact e1, e2, e4, chd_fr h4 e0 (h_up_nc (by first | decide | simp)) (e3 _ (by first | decide | simp)) rfl, by rw [h_up_nc (by first | decide | simp)]; exact h5, h6, by rw [h_up_nc (by first | decide | simp)]; exact h7, h8, h9, lv_mono (fun i p hi _ hp => cq_fr hp e0 (h_up_nc (by omega)) (e3 _ (by omega)) rfl) h10⟩
/-- a runner's answer: a fault, or its new state -/
def cr (n sl : Nat) (SH : Nat → Nat × Nat) (FI : Nat → Nat → Int32) (FL : Nat → Nat → Int64) (FR : Nat → Nat → Option Nat) (v : Int32) (st : hS) : Int ⊕ ms_S → Prop
  | .inl e => v.toInt = e ∧ e ≠ 0 ∧ ∃ F2 L2 R2, st = (n, sl, SH, F2, L2, R2) ∧ kz FI FL FR F2 L2 R2
  | .inr s2 => v.toInt = 0 ∧ ∃ F2 L2 R2, st = (n, sl, SH, F2, L2, R2) ∧ kz FI FL FR F2 L2 R2 ∧ cv F2 L2 R2 SH s2 ∧ F2 48 6 = FI 48 6 ∧ F2 48 7 = FI 48 7 ∧ F2 48 10 = FI 48 10 ∧ L2 48 12 = FL 48 12 ∧ L2 48 13 = FL 48 13
theorem c_push (hS : h_S n SH) (hv : cv FI FL FR SH s) (h : RX9_push x n sl SH FI FL FR v st) : cr n sl SH FI FL FR v st (if s.1.length = 128 then .inl 4 else .inr (x :: s.1, s.2)) := by
  have hr := rg_of hS
  have hsz := hv.1
  have hln := hv.2.1
  unfold RX9_push at h
  rw [show (Int32.ofNat (SH 70).2).toInt = 128 by rw [hS.2 70 (by first | decide | simp)]; decide +kernel, hsz] at h
  rcases h with ⟨h0, -, e1, e⟩ | ⟨h0, e1, e⟩
  · rw [if_neg (by omega)]
    refine ⟨by rw [e1]; decide, _, _, _, e, kz_i (kz_i (kz_l kz_rf (by first | decide | simp)) (by first | decide | simp)) (by first | decide | simp), ?_, ?_, ?_, ?_, ?_, ?_⟩
    · refine cv_f (cv_st (S := x :: s.1) hv hr ?_ (by simp only [List.length_cons]; omega) (fun r h1 => h_up_nc h1) ⟨?_, ?_⟩) hr (by first | decide | simp)
      · rw [i_add hsz (by first | decide | simp : ((1 : Int32)).toInt = 1) (by omega) (by omega)]
        simp only [List.length_cons]
        omega
      · show h_up FL 70 (s.1.length : Int).toNat x 70 s.1.length = x
        rw [Int.toNat_natCast, h_up_eq]
      · rw [Int.toNat_natCast]
        exact lv_mono (fun i y hi _ hy => by rw [h_up_ne (by omega)]; exact hy) hv.2.2.1
    · rw [h_up_ne (by first | decide | simp), h_up_ne (by first | decide | simp)]
    · rw [h_up_ne (by first | decide | simp), h_up_ne (by first | decide | simp)]
    · rw [h_up_ne (by first | decide | simp), h_up_ne (by first | decide | simp)]
    · rw [h_up_nc (by first | decide | simp)]
    · rw [h_up_nc (by first | decide | simp)]
  · rw [if_pos (by omega)]
    exact ⟨by rw [e1]; decide, by first | decide | simp, _, _, _, e, kz_rf⟩
theorem c_pop {t : Int64} {R : List Int64} {w : Int64} (hS : h_S n SH) (hs : s.1 = t :: R) (hv : cv FI FL FR SH s) (h : RX9_pop n sl SH FI FL FR w st) : w = t ∧ ∃ F2, st = (n, sl, SH, F2, FL, FR) ∧ F2 = h_up FI 48 5 (FI 48 5 - (1 : Int32)) ∧ kz FI FL FR F2 FL FR ∧ cv F2 FL FR SH (R, s.2) := by
  have hr := rg_of hS
  obtain ⟨S, sr⟩ := s
  (try dsimp only at hs)
  subst hs
  have hsz := hv.1
  have hln := hv.2.1
  simp only [List.length_cons] at hsz hln
  have e1 : (FI 48 5 - (1 : Int32)).toInt = (R.length : Int) := by rw [i_sub hsz (by first | decide | simp : ((1 : Int32)).toInt = 1) (by omega) (by omega)]; omega
  have h := P_p h (by rw [hsz]; omega)
  have h := P_n h (by rw [show (Int32.ofNat (SH 70).2).toInt = 128 by rw [hS.2 70 (by first | decide | simp)]; decide +kernel, hsz]; omega)
  obtain ⟨-, e2, e⟩ := h
  rw [e1, Int.toNat_natCast] at e2
  exact ⟨e2.trans hv.2.2.1.1, _, e, rfl, kz_i kz_rf (by first | decide | simp), cv_st hv hr e1 (by omega) (fun _ _ => rfl) hv.2.2.1.2⟩
theorem c_below {i : Int32} {k : Nat} {y : Int64} (hS : h_S n SH) (hv : cv FI FL FR SH s) (hi : i.toInt = k) (hy : s.1[k]? = some y) : fX9_below i SH FI FL FR = y := by
  have hsz := hv.1
  have hln := hv.2.1
  have hk := (List.getElem?_eq_some_iff.mp hy).1
  have e1 : ((FI 48 5 - (1 : Int32)) - i).toInt = ((s.1.length - 1 - k : Nat) : Int) := by rw [i_sub (i_sub hsz (by first | decide | simp : ((1 : Int32)).toInt = 1) (by omega) (by omega)) hi (by omega) (by omega)]; omega
  unfold fX9_below
  rw [show (Int32.ofNat (SH 70).2).toInt = 128 by rw [hS.2 70 (by first | decide | simp)]; decide +kernel, e1, if_neg (by omega), if_pos (by omega), Int.toNat_natCast]
  exact lv_get hv.2.2.1 hy
end CV
