section
/-! THE CLASS'S STEPS AND RUNS. -/
theorem ck_do {E : ms_E} {l o : Nat} {bs : List Int32} {c : Int} {x : ms_O} {s : ms_S} (h : ms_ck c x s ≠ 0) : ms_do E l o bs c x s = .inl (ms_ck c x s) := by
  unfold ms_ck at h ⊢
  unfold ms_do
  by_cases h1 : s.2.1.1 ≠ 0 ∧ ¬ (c = 147 ∨ c = 157 ∨ c = 150 ∨ c = 47 ∨ c = 152 ∨ c = 153)
  · rw [if_pos h1, if_pos h1]
  rw [if_neg h1] at h ⊢
  rw [if_neg h1]
  by_cases h2 : (c = 144 ∨ c = 146) ∧ (x.1.toInt < 0 ∨ 31 < x.1.toInt)
  · rw [if_pos h2, if_pos h2]
  rw [if_neg h2] at h ⊢
  rw [if_neg h2]
  by_cases h3 : c = 148 ∧ (x.1.toInt < 1 ∨ 8 < x.1.toInt)
  · rw [if_pos h3, if_pos h3]
  rw [if_neg h3] at h ⊢
  rw [if_neg h3]
  unfold ms_d2
  by_cases h4 : c = 147 ∨ c = 157
  · rw [if_pos h4]
    cases h5 : ms_pc c x.1 x.2.1 s with
    | none =>
      rw [if_pos ⟨h4, rfl⟩]
    | some s2 =>
      rw [h5] at h
      rw [if_neg (fun e => by cases e.2), wt_p h4] at h
      exact absurd h (by rw [if_neg (by omega)]; simp)
  · rw [if_neg h4]
    have h5 : ¬ ((c = 147 ∨ c = 157) ∧ ms_pc c x.1 x.2.1 s = none) := fun e => h4 e.1
    rw [if_neg h5] at h ⊢
    by_cases h6 : (s.1.length : Int) < ms_wt c x.1
    · rw [if_pos h6, if_pos h6]
    · rw [if_neg h6] at h
      exact absurd rfl h
theorem ck_0 {c : Int} {x : ms_O} {s : ms_S} (h : ms_ck c x s = 0) : ¬ (s.2.1.1 ≠ 0 ∧ ¬ (c = 147 ∨ c = 157 ∨ c = 150 ∨ c = 47 ∨ c = 152 ∨ c = 153)) ∧ ¬ ((c = 144 ∨ c = 146) ∧ (x.1.toInt < 0 ∨ 31 < x.1.toInt)) ∧ ¬ (c = 148 ∧ (x.1.toInt < 1 ∨ 8 < x.1.toInt)) ∧ ¬ ((c = 147 ∨ c = 157) ∧ ms_pc c x.1 x.2.1 s = none) ∧ ¬ ((s.1.length : Int) < ms_wt c x.1) := by
  unfold ms_ck at h
  by_cases h1 : s.2.1.1 ≠ 0 ∧ ¬ (c = 147 ∨ c = 157 ∨ c = 150 ∨ c = 47 ∨ c = 152 ∨ c = 153)
  · rw [if_pos h1] at h; exact absurd h (by first | decide | (simp; done) | (simp [ms_0]; done))
  rw [if_neg h1] at h
  by_cases h2 : (c = 144 ∨ c = 146) ∧ (x.1.toInt < 0 ∨ 31 < x.1.toInt)
  · rw [if_pos h2] at h; exact absurd h (by first | decide | (simp; done) | (simp [ms_0]; done))
  rw [if_neg h2] at h
  by_cases h3 : c = 148 ∧ (x.1.toInt < 1 ∨ 8 < x.1.toInt)
  · rw [if_pos h3] at h; exact absurd h (by first | decide | (simp; done) | (simp [ms_0]; done))
  rw [if_neg h3] at h
  by_cases h4 : (c = 147 ∨ c = 157) ∧ ms_pc c x.1 x.2.1 s = none
  · rw [if_pos h4] at h; exact absurd h (by first | decide | (simp; done) | (simp [ms_0]; done))
  rw [if_neg h4] at h
  by_cases h6 : (s.1.length : Int) < ms_wt c x.1
  · rw [if_pos h6] at h; exact absurd h (by first | decide | (simp; done) | (simp [ms_0]; done))
  exact ⟨h1, h2, h3, h4, h6⟩
theorem ms_one_i {E : ms_E} {l o p : Nat} {bs : List Int32} {s : ms_S} {b : Int32} {x : ms_O} (hb : bs[p]? = some b) (hx : ms_op b.toInt bs (p + 1) = .inr x) : ms_one E l o bs p s = ms_do E l o bs b.toInt x s := by
  unfold ms_one
  rw [hb]
  (try dsimp only)
  rw [hx]
theorem ms_one_e {E : ms_E} {l o p : Nat} {bs : List Int32} {s : ms_S} {b : Int32} {e : Int} (hb : bs[p]? = some b) (hx : ms_op b.toInt bs (p + 1) = .inl e) : ms_one E l o bs p s = .inl e := by
  unfold ms_one
  rw [hb]
  (try dsimp only)
  rw [hx]
theorem do_2 {E : ms_E} {l o : Nat} {bs : List Int32} {c : Int} {x : ms_O} {s : ms_S} (h : ms_ck c x s = 0) : ms_do E l o bs c x s = ms_d2 E l o bs c x s := by
  obtain ⟨h1, h2, h3, -, -⟩ := ck_0 h
  unfold ms_do
  rw [if_neg h1, if_neg h2, if_neg h3]
theorem do_3 {E : ms_E} {l o : Nat} {bs : List Int32} {c : Int} {x : ms_O} {s : ms_S} (h : ms_ck c x s = 0) (hc : ¬ (c = 147 ∨ c = 157)) : ms_do E l o bs c x s = ms_d3 E l o bs c x s := by
  rw [do_2 h]
  obtain ⟨-, -, -, -, h5⟩ := ck_0 h
  unfold ms_d2
  rw [if_neg hc, if_neg h5]
section CXI
variable {n sl : Nat} {SH : Nat → Nat × Nat} {FI F1 : Nat → Nat → Int32} {FL L1 : Nat → Nat → Int64} {FR R1 : Nat → Nat → Option Nat} {r A p o f : Nat} {bs : List Int32} {a2 a3 a4 v : Int32} {st : hS} {s : ms_S} {E : ms_E}
theorem kzI_fj {K K2 : List Nat} (h : fj 49 K FI F1) (h2 : fj 49 K2 FL L1) : kzI FI FL FR F1 L1 FR := ⟨fun c hc => ⟨fj_row h (by omega), fj_row h2 (by omega), rfl⟩, fun _ _ => rfl⟩
theorem cvI_fj {K K2 : List Nat} (hr : rg SH) (h : fj 49 K FI F1) (h5 : 5 ∉ K) (h2 : fj 49 K2 FL L1) (hv : cvI FI FL FR SH s) : cvI F1 L1 FR SH s := by
  obtain ⟨v1, v2, v3, v4, v5, v6, v7, v8, v9, v10⟩ := hv
  have e0 : ∀ r, rw0 SH r → F1 r = FI r := fun r h1 => fj_row h (by have := hr r h1; omega)
  exact ⟨by rw [fj_at h h5]; exact v1, v2, by rw [fj_row h2 (by first | decide | (simp; done) | (simp [ms_0]; done))]; exact v3, chd_fr v4 e0 (fj_row h (by first | decide | (simp; done) | (simp [ms_0]; done))) (fj_row h2 (by first | decide | (simp; done) | (simp [ms_0]; done))) rfl, by rw [fj_row h (by first | decide | (simp; done) | (simp [ms_0]; done))]; exact v5, v6, by rw [fj_row h (by first | decide | (simp; done) | (simp [ms_0]; done))]; exact v7, v8, v9, lv_mono (fun i q hi _ hq => cq_fr hq e0 (fj_row h (by omega)) (fj_row h2 (by omega)) rfl) v10⟩
/-- a run's answer -/
def cxI (n sl : Nat) (SH : Nat → Nat × Nat) (FI : Nat → Nat → Int32) (FL : Nat → Nat → Int64) (FR : Nat → Nat → Option Nat) (v : Int32) (st : hS) (f : Nat) : Int ⊕ (Nat × ms_S) → Prop
  | .inl e => v.toInt = e ∧ e ≠ 0 ∧ ∃ F2 L2 R2, st = (n, sl, SH, F2, L2, R2) ∧ kzI FI FL FR F2 L2 R2
  | .inr y => v.toInt = 0 ∧ ∃ F2 L2 R2, st = (n, sl, SH, F2, L2, R2) ∧ kzI FI FL FR F2 L2 R2 ∧ cvI F2 L2 R2 SH y.2 ∧ cuI F2 y.1 ∧ y.1 ≤ f ∧ F2 49 6 = FI 49 6
theorem cxI_tr {q : Int ⊕ (Nat × ms_S)} {f2 : Nat} (k : kzI FI FL FR F1 L1 R1) (hf : f2 ≤ f) (e6 : F1 49 6 = FI 49 6) (h : cxI n sl SH F1 L1 R1 v st f2 q) : cxI n sl SH FI FL FR v st f q := by
  match q, h with
  | .inl e, ⟨h1, h2, F2, L2, R2, h3, h4⟩ => exact ⟨h1, h2, F2, L2, R2, h3, kzI_tr k h4⟩
  | .inr y, ⟨h1, F2, L2, R2, h3, h4, h5, h6, h7, h8⟩ => exact ⟨h1, F2, L2, R2, h3, kzI_tr k h4, h5, h6, by omega, h8.trans e6⟩
/-- what FRAME's base has left -/
def bqI (E : ms_E) (n sl : Nat) (SH : Nat → Nat × Nat) (FI : Nat → Nat → Int32) (FL : Nat → Nat → Int64) (FR : Nat → Nat → Option Nat) (v : Int32) (st : hS) (a : Int64) (s : ms_S) (f : Nat) : Int ⊕ (Nat × ms_S) → Prop
  | .inl e => v.toInt = e ∧ e ≠ 0 ∧ ∃ F2 L2 R2, st = (n, sl, SH, F2, L2, R2) ∧ kzI FI FL FR F2 L2 R2
  | .inr y => (∃ e, ms_bs E y.2 = .inl e ∧ v.toInt = e ∧ e ≠ 0 ∧ ∃ F2 L2 R2, st = (n, sl, SH, F2, L2, R2) ∧ kzI FI FL FR F2 L2 R2) ∨ (∃ b, ms_bs E y.2 = .inr b ∧ ((s.1.length = 128 ∧ v.toInt = 4 ∧ ∃ F2 L2 R2, st = (n, sl, SH, F2, L2, R2) ∧ kzI FI FL FR F2 L2 R2) ∨ (s.1.length ≠ 128 ∧ v.toInt = 0 ∧ ∃ F2 L2 R2, st = (n, sl, SH, F2, L2, R2) ∧ kzI FI FL FR F2 L2 R2 ∧ cvI F2 L2 R2 SH ((b + a) :: s.1, s.2) ∧ cuI F2 y.1 ∧ y.1 ≤ f ∧ F2 49 6 = FI 49 6)))
/-- a step's answer -/
def csI (E : ms_E) (A o p : Nat) (bs : List Int32) (n sl : Nat) (SH : Nat → Nat × Nat) (FI : Nat → Nat → Int32) (FL : Nat → Nat → Int64) (FR : Nat → Nat → Option Nat) (v : Int32) (st : hS) (s : ms_S) (f : Nat) : Prop := (∃ e, v.toInt = e ∧ e ≠ 0 ∧ ms_R E 1 o bs p f s (.inl e) ∧ ∃ F2 L2 R2, st = (n, sl, SH, F2, L2, R2) ∧ kzI FI FL FR F2 L2 R2) ∨ (v.toInt = 0 ∧ ∃ F2 L2 R2 s2 f2, ∃ T : Int, st = (n, sl, SH, F2, L2, R2) ∧ kzI FI FL FR F2 L2 R2 ∧ cvI F2 L2 R2 SH s2 ∧ cuI F2 f2 ∧ f2 < f ∧ F2 49 6 = FI 49 6 ∧ (F2 49 11).toInt = (A : Int) + T ∧ ((0 ≤ T ∧ T ≤ bs.length) → ∀ r, ms_R E 1 o bs T.toNat f2 s2 r → ms_R E 1 o bs p f s r) ∧ (¬ (0 ≤ T ∧ T ≤ bs.length) → ms_R E 1 o bs p f s (.inl 7)))
theorem cuI_fr (h : cuI FI f) (e6 : F1 49 6 = FI 49 6) (e7 : F1 49 7 = FI 49 7) : cuI F1 f := by
  unfold cuI
  rw [e6, e7]
  exact h
theorem cs_stepI {MP : Option Nat → Int32 → Int32 → Int32 → Nat → Nat → (Nat → Nat × Nat) → (Nat → Nat → Int32) → (Nat → Nat → Int64) → (Nat → Nat → Option Nat) → Int32 → hS → Prop} {MS : Option Nat → Int32 → Int32 → Int32 → Nat → Nat → (Nat → Nat × Nat) → (Nat → Nat → Int32) → (Nat → Nat → Int64) → (Nat → Nat → Option Nat) → Int32 → hS → Prop} {MC : Int64 → Int32 → Nat → Nat → (Nat → Nat × Nat) → (Nat → Nat → Int32) → (Nat → Nat → Int64) → (Nat → Nat → Option Nat) → Int32 → hS → Prop} (hS0 : h_S n SH) (ht : thI FR) (hE : cE FI FL FR SH E) (hb : bk FI SH r A bs) (hbl : bs.length ≤ 100000) (hA : A ≤ 100000) (h5 : a2.toInt = ((A + p : Nat) : Int)) (hp : p < bs.length) (h3 : a3.toInt = ((A + bs.length : Nat) : Int)) (hv : cvI FI FL FR SH s) (hu : cuI FI f)
    (hMC : ∀ {F1 : Nat → Nat → Int32} {L1 : Nat → Nat → Int64} {v : Int32} {st : hS} {f1 : Nat} {k : Int64}, cE F1 L1 FR SH E → cvI F1 L1 FR SH s → cuI F1 f1 → 0 ≤ k.toInt → MC k a4 n sl SH F1 L1 FR v st → ((15 < k.toInt ∨ o = 8) ∧ v.toInt = 8 ∧ ∃ F2 L2 R2, st = (n, sl, SH, F2, L2, R2) ∧ kzI F1 L1 FR F2 L2 R2) ∨ (¬ (15 < k.toInt ∨ o = 8) ∧ ∃ q, ms_R E 1 (o + 1) (ms_ex E k.toInt.toNat) 0 f1 s q ∧ cxI n sl SH F1 L1 FR v st f1 q))
    (hB : ∀ {F1 : Nat → Nat → Int32} {L1 : Nat → Nat → Int64} {v c : Int32} {st : hS} {f1 : Nat}, cE F1 L1 FR SH E → cvI F1 L1 FR SH s → cuI F1 f1 → c.toInt = 145 → RX9_askI c a4 n sl SH F1 L1 FR v st → ((1 = 1 ∨ ms_fr E = -1) ∧ v.toInt = 11 ∧ ∃ F2 L2 R2, st = (n, sl, SH, F2, L2, R2) ∧ kzI F1 L1 FR F2 L2 R2) ∨ (¬ (1 = 1 ∨ ms_fr E = -1) ∧ ∃ q, ms_R E 1 o (ms_ex E (ms_fr E).toNat) 0 f1 ([], ms_0, []) q ∧ bqI E n sl SH F1 L1 FR v st (L1 49 12) s f1 q))
    (h : RX9_stepI MP MS MC (some r) a2 a3 a4 n sl SH FI FL FR v st) : csI E A o p bs n sl SH FI FL FR v st s f := by
  have hr := rg_of hS0
  have b2 := hb.2.1
  have b3 := hb.2.2.1
  obtain ⟨u1, u2, u3⟩ := hu
  have hrC : r ≠ 49 := by have := hr r hb.1; omega
  obtain ⟨b, hb0⟩ := ms_ex_i (bs := bs) (i := p) hp
  obtain ⟨fb1, fb2, fb3⟩ := hb.2.2.2 p b hb0
  rcases h with ⟨h0, h⟩ | ⟨h0, e1, e⟩
  rotate_left
  · exact Or.inl ⟨12, by rw [e1]; (first | decide | (simp; done) | (simp [ms_0]; done)), by first | decide | (simp; done) | (simp [ms_0]; done), ms_R_12 (by omega) (by omega), _, _, _, e, kzI_rf⟩
  have hf0 : f ≠ 0 := by omega
  obtain ⟨c3, ec3, -, v4, n4, sl4, SH4, FI4, FL4, FR4, hsh, v5, n5, sl5, SH5, FI5, FL5, FR5, hop, h⟩ := h
  cases ec3
  have eb : (h_up FI 49 7 (FI 49 7 + (1 : Int32))) r a2.toInt.toNat = b := by rw [h_up_nc hrC, show a2.toInt.toNat = A + p by omega]; exact fb1
  rw [eb] at hsh h
  obtain ⟨ew, e4⟩ := c_shape fb2 fb3 hsh
  cases e4
  have jA : fj 49 [7, 10] FI (h_up (h_up FI 49 7 (FI 49 7 + (1 : Int32))) 49 10 (a2 + (1 : Int32))) := fj_up (fj_up fj_rf (by first | decide | (simp; done) | (simp [ms_0]; done))) (by first | decide | (simp; done) | (simp [ms_0]; done))
  have hnA : ((h_up (h_up FI 49 7 (FI 49 7 + (1 : Int32))) 49 10 (a2 + (1 : Int32))) 49 10).toInt = ((A + (p + 1) : Nat) : Int) := by
    rw [h_up_eq, i_add h5 (by first | decide | (simp; done) | (simp [ms_0]; done) : ((1 : Int32)).toInt = 1) (by omega) (by omega)]
    omega
  have e7A : ((h_up (h_up FI 49 7 (FI 49 7 + (1 : Int32))) 49 10 (a2 + (1 : Int32))) 49 7).toInt = (FI 49 7).toInt + 1 := by
    rw [h_up_ne (by first | decide | (simp; done) | (simp [ms_0]; done)), h_up_eq]
    exact i_add rfl (by first | decide | (simp; done) | (simp [ms_0]; done)) (by omega) (by omega)
  generalize h_up (h_up FI 49 7 (FI 49 7 + (1 : Int32))) 49 10 (a2 + (1 : Int32)) = FA at hop jA hnA e7A
  obtain ⟨F5, L5, e5, j5, l5, c5⟩ := co_opI (c := b) hrC h3 (bk_fr hb (fj_row jA hrC)) hnA (by omega) ew hop
  cases e5
  have j6 : fj 49 [7, 10] FI FI5 := fj_tr jA (fj_le j5 (by first | decide | (simp; done) | (simp [ms_0]; done)))
  have k6 : kzI FI FL FR FI5 FL5 FR := kzI_fj j6 l5
  have v6 : cvI FI5 FL5 FR SH s := cvI_fj hr j6 (by first | decide | (simp; done) | (simp [ms_0]; done)) l5 hv
  have E6 : cE FI5 FL5 FR SH E := cE_kI hE hr k6
  have u6 : cuI FI5 (f - 1) := by
    refine ⟨?_, ?_, ?_⟩
    · rw [fj_at j6 (by first | decide | (simp; done) | (simp [ms_0]; done)), fj_at j5 (by first | decide | (simp; done) | (simp [ms_0]; done)), e7A]; omega
    · rw [fj_at j5 (by first | decide | (simp; done) | (simp [ms_0]; done)), e7A]; omega
    · rw [fj_at j6 (by first | decide | (simp; done) | (simp [ms_0]; done))]; exact u3
  cases hx : ms_op b.toInt bs (p + 1) with
  | inl e9 =>
    rw [hx] at c5
    obtain ⟨c51, c52⟩ := c5
    have h := P_n h (by rw [c51]; exact c52)
    have h := P_n h (by rw [c51]; exact c52)
    exact Or.inl ⟨e9, by rw [h.1]; exact c51, c52, ms_R_e (by omega) hf0 (ms_one_e hb0 hx), _, _, _, h.2, k6⟩
  | inr x =>
    rw [hx] at c5
    obtain ⟨c51, c52, c53, c54, c55, c56⟩ := c5
    have h := P_p h c51
    have hkn : ms_kn b.toInt = true := by
      cases hk : ms_kn b.toInt with
      | true => rfl
      | false =>
        unfold ms_op at hx
        rw [if_pos hk] at hx
        cases hx
    obtain ⟨v7, n7, sl7, SH7, FI7, FL7, FR7, hck, h⟩ := h
    have s157 : b.toInt = 157 → FL5 49 13 = x.2.1 := fun e => c53 (Or.inr (by rw [e]; (first | decide | (simp; done) | (simp [ms_0]; done))))
    obtain ⟨ck1, ck2⟩ := c_checkI v6 c52 s157 (fun e => by rw [e] at hx; exact md_21 (bk_by hb) hx) hck
    cases ck2
    by_cases hc0 : ms_ck b.toInt x s = 0
    rotate_left
    · have h := P_n h (by rw [ck1]; exact hc0)
      exact Or.inl ⟨ms_ck b.toInt x s, by rw [h.1]; exact ck1, hc0, ms_R_e (by omega) hf0 ((ms_one_i hb0 hx).trans (ck_do hc0)), _, _, _, h.2, k6⟩
    have h := P_p h (by rw [ck1]; exact hc0)
    obtain ⟨q9, q14, q10, q13, q3⟩ := ck_0 hc0
    have hnx : x.2.2.1 ≤ bs.length := c56
    have one : ms_one E 1 o bs p s = ms_do E 1 o bs b.toInt x s := ms_one_i hb0 hx
    -- on behind the operation
    have fin : ∀ {s2 : ms_S} {F2 : Nat → Nat → Int32} {L2 : Nat → Nat → Int64} {R2 : Nat → Nat → Option Nat} {f2 : Nat}, v.toInt = 0 → st = (n, sl, SH, h_up F2 49 11 (FI5 49 10), L2, R2) → kzI FI5 FL5 FR F2 L2 R2 → cvI F2 L2 R2 SH s2 → cuI F2 f2 → f2 < f → F2 49 6 = FI5 49 6 → (∀ q, ms_R E 1 o bs x.2.2.1 f2 s2 q → ms_R E 1 o bs p f s q) → csI E A o p bs n sl SH FI FL FR v st s f := by
      intro s2 F2 L2 R2 f2 g1 g2 g3 g4 g5 g6 g66 g7
      refine Or.inr ⟨g1, _, _, _, s2, f2, (x.2.2.1 : Int), g2, kzI_i (kzI_tr k6 g3) (by first | decide | (simp; done) | (simp [ms_0]; done)), cvI_f g4 hr (by first | decide | (simp; done) | (simp [ms_0]; done)), cuI_fr g5 (h_up_ne (by first | decide | (simp; done) | (simp [ms_0]; done))) (h_up_ne (by first | decide | (simp; done) | (simp [ms_0]; done))), g6, by rw [h_up_ne (by first | decide | (simp; done) | (simp [ms_0]; done)), g66, fj_at j6 (by first | decide | (simp; done) | (simp [ms_0]; done))], ?_, fun _ q hq => g7 q ?_, fun e => absurd ⟨by omega, by omega⟩ e⟩
      · rw [h_up_eq, c55]
        omega
      · rw [Int.toNat_natCast] at hq
        exact hq
    -- jumps
    have jmp : ∀ {s2 : ms_S} {F2 : Nat → Nat → Int32} {L2 : Nat → Nat → Int64} {R2 : Nat → Nat → Option Nat} {y : Int32}, v.toInt = 0 → st = (n, sl, SH, h_up F2 49 11 y, L2, R2) → (b.toInt = 47 ∨ b.toInt = 40) → y = FI5 49 10 + x.1.toInt32 → kzI FI5 FL5 FR F2 L2 R2 → cvI F2 L2 R2 SH s2 → cuI F2 (f - 1) → F2 49 6 = FI5 49 6 → ms_one E 1 o bs p s = ms_jp bs x.2.2.1 x.1 s2 → csI E A o p bs n sl SH FI FL FR v st s f := by
      intro s2 F2 L2 R2 y g1 g2 gj gy g3 g4 g5 g66 g7
      obtain ⟨j1, j2⟩ := md_jp gj hx
      refine Or.inr ⟨g1, _, _, _, s2, f - 1, (x.2.2.1 : Int) + x.1.toInt, g2, kzI_i (kzI_tr k6 g3) (by first | decide | (simp; done) | (simp [ms_0]; done)), cvI_f g4 hr (by first | decide | (simp; done) | (simp [ms_0]; done)), cuI_fr g5 (h_up_ne (by first | decide | (simp; done) | (simp [ms_0]; done))) (h_up_ne (by first | decide | (simp; done) | (simp [ms_0]; done))), by omega, by rw [h_up_ne (by first | decide | (simp; done) | (simp [ms_0]; done)), g66, fj_at j6 (by first | decide | (simp; done) | (simp [ms_0]; done))], ?_, fun e q hq => ?_, fun e => ?_⟩
      · rw [h_up_eq, gy, i_add c55 (l_2i rfl (by omega) (by omega)) (by omega) (by omega)]
        omega
      · refine ms_R_go (x := (((x.2.2.1 : Int) + x.1.toInt).toNat, s2)) (by omega) hf0 ?_ hq
        rw [g7]
        unfold ms_jp
        rw [if_neg (by omega)]
      · refine ms_R_e (by omega) hf0 ?_
        rw [g7]
        unfold ms_jp
        rw [if_pos (by omega)]
    rw [show ((47 : Int32)).toInt = 47 by first | decide | (simp; done) | (simp [ms_0]; done), show ((40 : Int32)).toInt = 40 by first | decide | (simp; done) | (simp [ms_0]; done), show ((152 : Int32)).toInt = 152 by first | decide | (simp; done) | (simp [ms_0]; done), show ((153 : Int32)).toInt = 153 by first | decide | (simp; done) | (simp [ms_0]; done)] at h
    rcases h with ⟨g47, h⟩ | ⟨g47, h⟩
    · have h := P_p h (by rw [show ((47 : Int32)).toInt = 47 by first | decide | (simp; done) | (simp [ms_0]; done)]; exact g47)
      exact jmp (by rw [h.1]; (first | decide | (simp; done) | (simp [ms_0]; done))) h.2 (Or.inl g47) (by rw [c52]) kzI_rf v6 u6 rfl (by rw [one, do_3 hc0 (by omega)]; unfold ms_d3; rw [if_pos g47])
    rcases h with ⟨g40, h⟩ | ⟨g40, h⟩
    · have h := P_n h (by rw [show ((47 : Int32)).toInt = 47 by first | decide | (simp; done) | (simp [ms_0]; done)]; exact g47)
      rw [wt_1 (by omega)] at q3
      obtain ⟨t, R, hs⟩ := sh_1 q3
      obtain ⟨F2, k1, k2, k3, k4, h⟩ := c_ppI hS0 hs v6 h
      have d3 : ms_one E 1 o bs p s = (if t.toInt = 0 then .inr (.inl (x.2.2.1, (R, s.2))) else ms_jp bs x.2.2.1 x.1 (R, s.2)) := by
        rw [one, do_3 hc0 (by omega)]
        unfold ms_d3
        rw [if_neg g47, if_pos g40, hs]
      have u7 := cuI_fr u6 (k3 6 (by first | decide | (simp; done) | (simp [ms_0]; done))) (k3 7 (by first | decide | (simp; done) | (simp [ms_0]; done)))
      rw [show ((0 : Int64)).toInt = 0 by first | decide | (simp; done) | (simp [ms_0]; done)] at h
      rcases h with ⟨t0, e1, e⟩ | ⟨t0, e1, e⟩
      · rw [if_pos t0] at d3
        exact fin (by rw [e1]; (first | decide | (simp; done) | (simp [ms_0]; done))) e k1 k2 u7 (by omega) (k3 6 (by first | decide | (simp; done) | (simp [ms_0]; done))) (fun q hq => ms_R_go (x := (x.2.2.1, (R, s.2))) (by omega) hf0 d3 hq)
      · rw [if_neg t0] at d3
        exact jmp (by rw [e1]; (first | decide | (simp; done) | (simp [ms_0]; done))) e (Or.inr g40) (by rw [c52]) k1 k2 u7 (k3 6 (by first | decide | (simp; done) | (simp [ms_0]; done))) d3
    have call : ∀ _ : b.toInt = 152 ∨ b.toInt = 153, P_bi (MC (FL5 49 12) a4 n sl SH FI5 FL5 FR) (fun v9 n9 sl9 SH9 FI9 FL9 FR9 => P_ret v9 (n9, sl9, SH9, h_up FI9 49 11 (FI5 49 10), FL9, FR9)) v st → csI E A o p bs n sl SH FI FL FR v st s f := by
      intro hc h
      obtain ⟨v9, n9, sl9, SH9, FI9, FL9, FR9, h, e1, e⟩ := h
      rw [c52] at h
      have k0 : 0 ≤ x.1.toInt := by
        rcases hc with hc | hc
        · rw [hc] at hx; exact md_152 (bk_by hb) hx
        · rw [hc] at hx; exact md_153 (bk_by hb) hx
      have d3 : ms_one E 1 o bs p s = (if 15 < x.1.toInt ∨ o = 8 then .inl 8 else .inr (.inr (.inl (x.1.toInt.toNat, x.2.2.1)))) := by
        rw [one, do_3 hc0 (by omega)]
        unfold ms_d3
        rw [if_neg g47, if_neg g40, if_pos hc]
      rcases hMC E6 v6 u6 k0 h with ⟨q, e2, F2, L2, R2, e3, kk⟩ | ⟨q, y, hy, hc1⟩
      · rw [if_pos q] at d3
        cases e3
        exact Or.inl ⟨8, by rw [e1]; exact e2, by first | decide | (simp; done) | (simp [ms_0]; done), ms_R_e (by omega) hf0 d3, _, _, _, e, kzI_i (kzI_tr k6 kk) (by first | decide | (simp; done) | (simp [ms_0]; done))⟩
      · rw [if_neg q] at d3
        match y, hy, hc1 with
        | .inl e9, hy, ⟨e2, e3, F2, L2, R2, e4, kk⟩ =>
          cases e4
          exact Or.inl ⟨e9, by rw [e1]; exact e2, e3, ms_R_ce (by omega) hf0 d3 hy, _, _, _, e, kzI_i (kzI_tr k6 kk) (by first | decide | (simp; done) | (simp [ms_0]; done))⟩
        | .inr z, hy, ⟨e2, F2, L2, R2, e4, kk, vv, uu, ff, f6⟩ =>
          cases e4
          exact fin (by rw [e1]; exact e2) e kk vv uu (by omega) f6 (fun q hq => ms_R_c (by omega) hf0 d3 hy hq)
    rcases h with ⟨g152, h⟩ | ⟨g152, h⟩
    · exact call (Or.inl g152) h
    rcases h with ⟨g153, h⟩ | ⟨g153, h⟩
    · exact call (Or.inr g153) h
    obtain ⟨v9, n9, sl9, SH9, FI9, FL9, FR9, h, e1, e⟩ := h
    have res : ∀ {w : Int ⊕ ms_S}, crI n sl SH FI5 FL5 FR v9 (n9, sl9, SH9, FI9, FL9, FR9) w → (∀ e9, w = .inl e9 → ms_one E 1 o bs p s = .inl e9) → (∀ s2, w = .inr s2 → ms_one E 1 o bs p s = .inr (.inl (x.2.2.1, s2))) → csI E A o p bs n sl SH FI FL FR v st s f := by
      intro w hw w1 w2
      match w, hw, w1, w2 with
      | .inl e9, ⟨e2, e3, F2, L2, R2, e4, kk⟩, w1, _ =>
        cases e4
        exact Or.inl ⟨e9, by rw [e1]; exact e2, e3, ms_R_e (by omega) hf0 (w1 e9 rfl), _, _, _, e, kzI_i (kzI_tr k6 kk) (by first | decide | (simp; done) | (simp [ms_0]; done))⟩
      | .inr s2, ⟨e2, F2, L2, R2, e4, kk, vv, x6, x7, x10, x12, x13⟩, _, w2 =>
        cases e4
        exact fin (by rw [e1]; exact e2) e kk vv (cuI_fr u6 x6 x7) (by omega) x6 (fun q hq => ms_R_go (x := (x.2.2.1, s2)) (by omega) hf0 (w2 s2 rfl) hq)
    by_cases gp : b.toInt = 147 ∨ b.toInt = 157
    · have h := c_o227I (by omega) h
      cases hpc : ms_pc b.toInt x.1 x.2.1 s with
      | none => exact absurd ⟨gp, hpc⟩ q13
      | some s2 =>
        have npc : ¬ (s.2.2.length = 16 ∨ x.1.toInt < 0 ∨ (if b.toInt = 157 then 4096 else 512) < x.1.toInt ∨ (b.toInt = 157 ∧ (x.2.1.toInt < 0 ∨ 4096 < x.2.1.toInt)) ∨ 4096 < ms_tb s.2.2 + (if b.toInt = 157 then x.1.toInt else 8 * x.1.toInt)) := fun e => by
          rw [pc_n.mpr e] at hpc
          cases hpc
        have es2 : s2 = ([], ms_0, (ms_tg s, (if b.toInt = 157 then x.1.toInt else 8 * x.1.toInt), (if b.toInt = 157 then x.2.1.toInt else 0)) :: s.2.2) := by
          unfold ms_pc at hpc
          rw [if_neg npc] at hpc
          exact (Option.some.inj hpc).symm
        have hlp := v6.2.2.2.2.2.1
        have w2 : ∀ s3, (.inr s2 : Int ⊕ ms_S) = .inr s3 → ms_one E 1 o bs p s = .inr (.inl (x.2.2.1, s3)) := by
          intro s3 e9
          cases e9
          rw [one, do_2 hc0]
          unfold ms_d2
          rw [if_pos gp, hpc]
        refine res (w := .inr s2) ?_ (fun e9 e => by cases e) w2
        have h : RX9_operateI_241 b (some r) a4 n sl SH FI5 FL5 FR v9 (n9, sl9, SH9, FI9, FL9, FR9) := by
          rcases h with ⟨-, h⟩ | ⟨q, h⟩
          · exact h
          · exact P_p h (by rw [show ((147 : Int32)).toInt = 147 by first | decide | (simp; done) | (simp [ms_0]; done)] at q; rw [show ((157 : Int32)).toInt = 157 by first | decide | (simp; done) | (simp [ms_0]; done)]; omega)
        rcases h with ⟨g147, h⟩ | ⟨g147, h⟩
        · rw [show ((147 : Int32)).toInt = 147 by first | decide | (simp; done) | (simp [ms_0]; done)] at g147
          rw [if_neg (show ¬ b.toInt = 157 by omega), if_neg (show ¬ b.toInt = 157 by omega)] at npc es2
          try rw [if_neg (show ¬ b.toInt = 157 by omega)] at es2
          obtain ⟨z1, z2, z3, z4, z5, z6, z7, hh, y1, y2⟩ := h
          rw [y1, y2, es2]
          exact c_addI hS0 ht v6 (by omega) (by rw [c52, i_mul (l_2i rfl (by omega) (by omega)) (by first | decide | (simp; done) | (simp [ms_0]; done) : ((8 : Int32)).toInt = 8) (by omega) (by omega)]; omega) (by first | decide | (simp; done) | (simp [ms_0]; done)) (by omega) (by first | decide | (simp; done) | (simp [ms_0]; done)) (by omega) hh
        · rw [show ((147 : Int32)).toInt = 147 by first | decide | (simp; done) | (simp [ms_0]; done)] at g147
          have g157 : b.toInt = 157 := by omega
          rw [if_pos g157, if_pos g157] at npc es2
          try rw [if_pos g157] at es2
          obtain ⟨z1, z2, z3, z4, z5, z6, z7, hh, y1, y2⟩ := h
          rw [y1, y2, es2]
          rw [c52, s157 g157] at hh
          exact c_addI hS0 ht v6 (by omega) (l_2i rfl (by omega) (by omega)) (l_2i rfl (by omega) (by omega)) (by omega) (by omega) (by omega) hh
    by_cases g145 : b.toInt = 145
    · have h := c_oaskI (by omega) (by omega) h
      have d3 : ms_one E 1 o bs p s = (if 1 = 1 ∨ ms_fr E = -1 then .inl 11 else .inr (.inr (.inr (x.1, x.2.2.1)))) := by
        rw [one, do_3 hc0 gp]
        unfold ms_d3
        rw [if_neg g47, if_neg g40, if_neg (by omega), if_pos g145]
      rcases hB E6 v6 u6 g145 h with ⟨q, e2, F2, L2, R2, e3, kk⟩ | ⟨q, y, hy, hc1⟩
      · rw [if_pos q] at d3
        cases e3
        exact Or.inl ⟨11, by rw [e1]; exact e2, by first | decide | (simp; done) | (simp [ms_0]; done), ms_R_e (by omega) hf0 d3, _, _, _, e, kzI_i (kzI_tr k6 kk) (by first | decide | (simp; done) | (simp [ms_0]; done))⟩
      · rw [if_neg q] at d3
        rw [c52] at hc1
        match y, hy, hc1 with
        | .inl e9, hy, ⟨e2, e3, F2, L2, R2, e4, kk⟩ =>
          cases e4
          exact Or.inl ⟨e9, by rw [e1]; exact e2, e3, ms_R_be (by omega) hf0 d3 hy, _, _, _, e, kzI_i (kzI_tr k6 kk) (by first | decide | (simp; done) | (simp [ms_0]; done))⟩
        | .inr z, hy, Or.inl ⟨e9, e0, e2, e3, F2, L2, R2, e4, kk⟩ =>
          cases e4
          exact Or.inl ⟨e9, by rw [e1]; exact e2, e3, ms_R_bf (by omega) hf0 d3 hy e0, _, _, _, e, kzI_i (kzI_tr k6 kk) (by first | decide | (simp; done) | (simp [ms_0]; done))⟩
        | .inr z, hy, Or.inr ⟨b9, e0, Or.inl ⟨e2, e3, F2, L2, R2, e4, kk⟩⟩ =>
          cases e4
          exact Or.inl ⟨4, by rw [e1]; exact e3, by first | decide | (simp; done) | (simp [ms_0]; done), ms_R_b4 (by omega) hf0 d3 hy e0 e2, _, _, _, e, kzI_i (kzI_tr k6 kk) (by first | decide | (simp; done) | (simp [ms_0]; done))⟩
        | .inr z, hy, Or.inr ⟨b9, e0, Or.inr ⟨e2, e3, F2, L2, R2, e4, kk, vv, uu, ff, x10⟩⟩ =>
          cases e4
          exact fin (by rw [e1]; exact e3) e kk vv uu (by omega) x10 (fun q hq => ms_R_b (by omega) hf0 d3 hy e0 e2 hq)
    have hox := c_oxI (x := x) hS0 E6 v6 hkn c52 (fun e => c53 (Or.inl (by rw [e]; (first | decide | (simp; done) | (simp [ms_0]; done))))) (fun e => by
      obtain ⟨w1, w2, w3⟩ := c54 (by rw [e]; (first | decide | (simp; done) | (simp [ms_0]; done)))
      rw [e] at hx
      obtain ⟨q9, k9, y1, y2, y3, y4⟩ := md_158 hx
      refine ⟨r, A + q9, rfl, by rw [w3]; omega, by rw [y4]; exact bk_sub (bk_fr hb (fj_row j6 hrC)) y3, by rw [y4, ms_ln y3]; exact y1, ?_, by omega⟩
      rw [y4, ms_ln y3]
      omega) (fun e => by rw [e] at hx; exact md_21 (bk_by hb) hx) q3 q14 q10 (fun e => Classical.byContradiction (fun w => q9 ⟨e, by omega⟩)) (by omega) h
    have d3 : ms_one E 1 o bs p s = ms_d4 x.2.2.1 s (ms_x E b.toInt x.1 x.2.1 x.2.2.2 s.1 s.2.1) := by
      rw [one, do_3 hc0 gp]
      unfold ms_d3
      rw [if_neg g47, if_neg g40, if_neg (by omega), if_neg g145]
    refine res hox (fun e9 e => ?_) (fun s2 e => ?_)
    · rw [d3]
      generalize ms_x E b.toInt x.1 x.2.1 x.2.2.2 s.1 s.2.1 = z at e
      match z, e with
      | .inl e8, e => cases e; rfl
    · rw [d3]
      generalize ms_x E b.toInt x.1 x.2.1 x.2.2.2 s.1 s.2.1 = z at e
      match z, e with
      | .inr y, e => cases e; rfl
end CXI
section CX
variable {n sl : Nat} {SH : Nat → Nat × Nat} {FI F1 : Nat → Nat → Int32} {FL L1 : Nat → Nat → Int64} {FR R1 : Nat → Nat → Option Nat} {r A p o f : Nat} {bs : List Int32} {a2 a3 a4 v : Int32} {st : hS} {s : ms_S} {E : ms_E}
theorem kz_fj {K K2 : List Nat} (h : fj 48 K FI F1) (h2 : fj 48 K2 FL L1) : kz FI FL FR F1 L1 FR := ⟨fun c hc => ⟨fj_row h (by omega), fj_row h2 (by omega), rfl⟩, fun _ _ => rfl⟩
theorem cv_fj {K K2 : List Nat} (hr : rg SH) (h : fj 48 K FI F1) (h5 : 5 ∉ K) (h2 : fj 48 K2 FL L1) (hv : cv FI FL FR SH s) : cv F1 L1 FR SH s := by
  obtain ⟨v1, v2, v3, v4, v5, v6, v7, v8, v9, v10⟩ := hv
  have e0 : ∀ r, rw0 SH r → F1 r = FI r := fun r h1 => fj_row h (by have := hr r h1; omega)
  exact ⟨by rw [fj_at h h5]; exact v1, v2, by rw [fj_row h2 (by first | decide | (simp; done) | (simp [ms_0]; done))]; exact v3, chd_fr v4 e0 (fj_row h (by first | decide | (simp; done) | (simp [ms_0]; done))) (fj_row h2 (by first | decide | (simp; done) | (simp [ms_0]; done))) rfl, by rw [fj_row h (by first | decide | (simp; done) | (simp [ms_0]; done))]; exact v5, v6, by rw [fj_row h (by first | decide | (simp; done) | (simp [ms_0]; done))]; exact v7, v8, v9, lv_mono (fun i q hi _ hq => cq_fr hq e0 (fj_row h (by omega)) (fj_row h2 (by omega)) rfl) v10⟩
/-- a run's answer -/
def cx (n sl : Nat) (SH : Nat → Nat × Nat) (FI : Nat → Nat → Int32) (FL : Nat → Nat → Int64) (FR : Nat → Nat → Option Nat) (v : Int32) (st : hS) (f : Nat) : Int ⊕ (Nat × ms_S) → Prop
  | .inl e => v.toInt = e ∧ e ≠ 0 ∧ ∃ F2 L2 R2, st = (n, sl, SH, F2, L2, R2) ∧ kz FI FL FR F2 L2 R2
  | .inr y => v.toInt = 0 ∧ ∃ F2 L2 R2, st = (n, sl, SH, F2, L2, R2) ∧ kz FI FL FR F2 L2 R2 ∧ cv F2 L2 R2 SH y.2 ∧ cu F2 y.1 ∧ y.1 ≤ f ∧ F2 48 6 = FI 48 6
theorem cx_tr {q : Int ⊕ (Nat × ms_S)} {f2 : Nat} (k : kz FI FL FR F1 L1 R1) (hf : f2 ≤ f) (e6 : F1 48 6 = FI 48 6) (h : cx n sl SH F1 L1 R1 v st f2 q) : cx n sl SH FI FL FR v st f q := by
  match q, h with
  | .inl e, ⟨h1, h2, F2, L2, R2, h3, h4⟩ => exact ⟨h1, h2, F2, L2, R2, h3, kz_tr k h4⟩
  | .inr y, ⟨h1, F2, L2, R2, h3, h4, h5, h6, h7, h8⟩ => exact ⟨h1, F2, L2, R2, h3, kz_tr k h4, h5, h6, by omega, h8.trans e6⟩
/-- what FRAME's base has left -/
def bq (E : ms_E) (n sl : Nat) (SH : Nat → Nat × Nat) (FI : Nat → Nat → Int32) (FL : Nat → Nat → Int64) (FR : Nat → Nat → Option Nat) (v : Int32) (st : hS) (a : Int64) (s : ms_S) (f : Nat) : Int ⊕ (Nat × ms_S) → Prop
  | .inl e => v.toInt = e ∧ e ≠ 0 ∧ ∃ F2 L2 R2, st = (n, sl, SH, F2, L2, R2) ∧ kz FI FL FR F2 L2 R2
  | .inr y => (∃ e, ms_bs E y.2 = .inl e ∧ v.toInt = e ∧ e ≠ 0 ∧ ∃ F2 L2 R2, st = (n, sl, SH, F2, L2, R2) ∧ kz FI FL FR F2 L2 R2) ∨ (∃ b, ms_bs E y.2 = .inr b ∧ ((s.1.length = 128 ∧ v.toInt = 4 ∧ ∃ F2 L2 R2, st = (n, sl, SH, F2, L2, R2) ∧ kz FI FL FR F2 L2 R2) ∨ (s.1.length ≠ 128 ∧ v.toInt = 0 ∧ ∃ F2 L2 R2, st = (n, sl, SH, F2, L2, R2) ∧ kz FI FL FR F2 L2 R2 ∧ cv F2 L2 R2 SH ((b + a) :: s.1, s.2) ∧ cu F2 y.1 ∧ y.1 ≤ f ∧ F2 48 6 = FI 48 6)))
/-- a step's answer -/
def cs (E : ms_E) (A o p : Nat) (bs : List Int32) (n sl : Nat) (SH : Nat → Nat × Nat) (FI : Nat → Nat → Int32) (FL : Nat → Nat → Int64) (FR : Nat → Nat → Option Nat) (v : Int32) (st : hS) (s : ms_S) (f : Nat) : Prop := (∃ e, v.toInt = e ∧ e ≠ 0 ∧ ms_R E 0 o bs p f s (.inl e) ∧ ∃ F2 L2 R2, st = (n, sl, SH, F2, L2, R2) ∧ kz FI FL FR F2 L2 R2) ∨ (v.toInt = 0 ∧ ∃ F2 L2 R2 s2 f2, ∃ T : Int, st = (n, sl, SH, F2, L2, R2) ∧ kz FI FL FR F2 L2 R2 ∧ cv F2 L2 R2 SH s2 ∧ cu F2 f2 ∧ f2 < f ∧ F2 48 6 = FI 48 6 ∧ (F2 48 11).toInt = (A : Int) + T ∧ ((0 ≤ T ∧ T ≤ bs.length) → ∀ r, ms_R E 0 o bs T.toNat f2 s2 r → ms_R E 0 o bs p f s r) ∧ (¬ (0 ≤ T ∧ T ≤ bs.length) → ms_R E 0 o bs p f s (.inl 7)))
theorem cu_fr (h : cu FI f) (e6 : F1 48 6 = FI 48 6) (e7 : F1 48 7 = FI 48 7) : cu F1 f := by
  unfold cu
  rw [e6, e7]
  exact h
theorem cs_step {MP : Option Nat → Int32 → Int32 → Int32 → Nat → Nat → (Nat → Nat × Nat) → (Nat → Nat → Int32) → (Nat → Nat → Int64) → (Nat → Nat → Option Nat) → Int32 → hS → Prop} {MS : Option Nat → Int32 → Int32 → Int32 → Nat → Nat → (Nat → Nat × Nat) → (Nat → Nat → Int32) → (Nat → Nat → Int64) → (Nat → Nat → Option Nat) → Int32 → hS → Prop} {MC : Int64 → Int32 → Nat → Nat → (Nat → Nat × Nat) → (Nat → Nat → Int32) → (Nat → Nat → Int64) → (Nat → Nat → Option Nat) → Int32 → hS → Prop} (hS0 : h_S n SH) (ht : th FR) (hE : cE FI FL FR SH E) (hb : bk FI SH r A bs) (hbl : bs.length ≤ 100000) (hA : A ≤ 100000) (h5 : a2.toInt = ((A + p : Nat) : Int)) (hp : p < bs.length) (h3 : a3.toInt = ((A + bs.length : Nat) : Int)) (hv : cv FI FL FR SH s) (hu : cu FI f)
    (hMC : ∀ {F1 : Nat → Nat → Int32} {L1 : Nat → Nat → Int64} {v : Int32} {st : hS} {f1 : Nat} {k : Int64}, cE F1 L1 FR SH E → cv F1 L1 FR SH s → cu F1 f1 → 0 ≤ k.toInt → MC k a4 n sl SH F1 L1 FR v st → ((15 < k.toInt ∨ o = 8) ∧ v.toInt = 8 ∧ ∃ F2 L2 R2, st = (n, sl, SH, F2, L2, R2) ∧ kz F1 L1 FR F2 L2 R2) ∨ (¬ (15 < k.toInt ∨ o = 8) ∧ ∃ q, ms_R E 0 (o + 1) (ms_ex E k.toInt.toNat) 0 f1 s q ∧ cx n sl SH F1 L1 FR v st f1 q))
    (hB : ∀ {F1 : Nat → Nat → Int32} {L1 : Nat → Nat → Int64} {v c : Int32} {st : hS} {f1 : Nat}, cE F1 L1 FR SH E → cv F1 L1 FR SH s → cu F1 f1 → c.toInt = 145 → RX9_ask c a4 n sl SH F1 L1 FR v st → ((0 = 1 ∨ ms_fr E = -1) ∧ v.toInt = 11 ∧ ∃ F2 L2 R2, st = (n, sl, SH, F2, L2, R2) ∧ kz F1 L1 FR F2 L2 R2) ∨ (¬ (0 = 1 ∨ ms_fr E = -1) ∧ ∃ q, ms_R E 1 o (ms_ex E (ms_fr E).toNat) 0 f1 ([], ms_0, []) q ∧ bq E n sl SH F1 L1 FR v st (L1 48 12) s f1 q))
    (h : RX9_step MP MS MC (some r) a2 a3 a4 n sl SH FI FL FR v st) : cs E A o p bs n sl SH FI FL FR v st s f := by
  have hr := rg_of hS0
  have b2 := hb.2.1
  have b3 := hb.2.2.1
  obtain ⟨u1, u2, u3⟩ := hu
  have hrC : r ≠ 48 := by have := hr r hb.1; omega
  obtain ⟨b, hb0⟩ := ms_ex_i (bs := bs) (i := p) hp
  obtain ⟨fb1, fb2, fb3⟩ := hb.2.2.2 p b hb0
  rcases h with ⟨h0, h⟩ | ⟨h0, e1, e⟩
  rotate_left
  · exact Or.inl ⟨12, by rw [e1]; (first | decide | (simp; done) | (simp [ms_0]; done)), by first | decide | (simp; done) | (simp [ms_0]; done), ms_R_12 (by omega) (by omega), _, _, _, e, kz_rf⟩
  have hf0 : f ≠ 0 := by omega
  obtain ⟨c3, ec3, -, v4, n4, sl4, SH4, FI4, FL4, FR4, hsh, v5, n5, sl5, SH5, FI5, FL5, FR5, hop, h⟩ := h
  cases ec3
  have eb : (h_up FI 48 7 (FI 48 7 + (1 : Int32))) r a2.toInt.toNat = b := by rw [h_up_nc hrC, show a2.toInt.toNat = A + p by omega]; exact fb1
  rw [eb] at hsh h
  obtain ⟨ew, e4⟩ := c_shape fb2 fb3 hsh
  cases e4
  have jA : fj 48 [7, 10] FI (h_up (h_up FI 48 7 (FI 48 7 + (1 : Int32))) 48 10 (a2 + (1 : Int32))) := fj_up (fj_up fj_rf (by first | decide | (simp; done) | (simp [ms_0]; done))) (by first | decide | (simp; done) | (simp [ms_0]; done))
  have hnA : ((h_up (h_up FI 48 7 (FI 48 7 + (1 : Int32))) 48 10 (a2 + (1 : Int32))) 48 10).toInt = ((A + (p + 1) : Nat) : Int) := by
    rw [h_up_eq, i_add h5 (by first | decide | (simp; done) | (simp [ms_0]; done) : ((1 : Int32)).toInt = 1) (by omega) (by omega)]
    omega
  have e7A : ((h_up (h_up FI 48 7 (FI 48 7 + (1 : Int32))) 48 10 (a2 + (1 : Int32))) 48 7).toInt = (FI 48 7).toInt + 1 := by
    rw [h_up_ne (by first | decide | (simp; done) | (simp [ms_0]; done)), h_up_eq]
    exact i_add rfl (by first | decide | (simp; done) | (simp [ms_0]; done)) (by omega) (by omega)
  generalize h_up (h_up FI 48 7 (FI 48 7 + (1 : Int32))) 48 10 (a2 + (1 : Int32)) = FA at hop jA hnA e7A
  obtain ⟨F5, L5, e5, j5, l5, c5⟩ := co_op (c := b) hrC h3 (bk_fr hb (fj_row jA hrC)) hnA (by omega) ew hop
  cases e5
  have j6 : fj 48 [7, 10] FI FI5 := fj_tr jA (fj_le j5 (by first | decide | (simp; done) | (simp [ms_0]; done)))
  have k6 : kz FI FL FR FI5 FL5 FR := kz_fj j6 l5
  have v6 : cv FI5 FL5 FR SH s := cv_fj hr j6 (by first | decide | (simp; done) | (simp [ms_0]; done)) l5 hv
  have E6 : cE FI5 FL5 FR SH E := cE_k hE hr k6
  have u6 : cu FI5 (f - 1) := by
    refine ⟨?_, ?_, ?_⟩
    · rw [fj_at j6 (by first | decide | (simp; done) | (simp [ms_0]; done)), fj_at j5 (by first | decide | (simp; done) | (simp [ms_0]; done)), e7A]; omega
    · rw [fj_at j5 (by first | decide | (simp; done) | (simp [ms_0]; done)), e7A]; omega
    · rw [fj_at j6 (by first | decide | (simp; done) | (simp [ms_0]; done))]; exact u3
  cases hx : ms_op b.toInt bs (p + 1) with
  | inl e9 =>
    rw [hx] at c5
    obtain ⟨c51, c52⟩ := c5
    have h := P_n h (by rw [c51]; exact c52)
    have h := P_n h (by rw [c51]; exact c52)
    exact Or.inl ⟨e9, by rw [h.1]; exact c51, c52, ms_R_e (by omega) hf0 (ms_one_e hb0 hx), _, _, _, h.2, k6⟩
  | inr x =>
    rw [hx] at c5
    obtain ⟨c51, c52, c53, c54, c55, c56⟩ := c5
    have h := P_p h c51
    have hkn : ms_kn b.toInt = true := by
      cases hk : ms_kn b.toInt with
      | true => rfl
      | false =>
        unfold ms_op at hx
        rw [if_pos hk] at hx
        cases hx
    obtain ⟨v7, n7, sl7, SH7, FI7, FL7, FR7, hck, h⟩ := h
    have s157 : b.toInt = 157 → FL5 48 13 = x.2.1 := fun e => c53 (Or.inr (by rw [e]; (first | decide | (simp; done) | (simp [ms_0]; done))))
    obtain ⟨ck1, ck2⟩ := c_check v6 c52 s157 (fun e => by rw [e] at hx; exact md_21 (bk_by hb) hx) hck
    cases ck2
    by_cases hc0 : ms_ck b.toInt x s = 0
    rotate_left
    · have h := P_n h (by rw [ck1]; exact hc0)
      exact Or.inl ⟨ms_ck b.toInt x s, by rw [h.1]; exact ck1, hc0, ms_R_e (by omega) hf0 ((ms_one_i hb0 hx).trans (ck_do hc0)), _, _, _, h.2, k6⟩
    have h := P_p h (by rw [ck1]; exact hc0)
    obtain ⟨q9, q14, q10, q13, q3⟩ := ck_0 hc0
    have hnx : x.2.2.1 ≤ bs.length := c56
    have one : ms_one E 0 o bs p s = ms_do E 0 o bs b.toInt x s := ms_one_i hb0 hx
    -- on behind the operation
    have fin : ∀ {s2 : ms_S} {F2 : Nat → Nat → Int32} {L2 : Nat → Nat → Int64} {R2 : Nat → Nat → Option Nat} {f2 : Nat}, v.toInt = 0 → st = (n, sl, SH, h_up F2 48 11 (FI5 48 10), L2, R2) → kz FI5 FL5 FR F2 L2 R2 → cv F2 L2 R2 SH s2 → cu F2 f2 → f2 < f → F2 48 6 = FI5 48 6 → (∀ q, ms_R E 0 o bs x.2.2.1 f2 s2 q → ms_R E 0 o bs p f s q) → cs E A o p bs n sl SH FI FL FR v st s f := by
      intro s2 F2 L2 R2 f2 g1 g2 g3 g4 g5 g6 g66 g7
      refine Or.inr ⟨g1, _, _, _, s2, f2, (x.2.2.1 : Int), g2, kz_i (kz_tr k6 g3) (by first | decide | (simp; done) | (simp [ms_0]; done)), cv_f g4 hr (by first | decide | (simp; done) | (simp [ms_0]; done)), cu_fr g5 (h_up_ne (by first | decide | (simp; done) | (simp [ms_0]; done))) (h_up_ne (by first | decide | (simp; done) | (simp [ms_0]; done))), g6, by rw [h_up_ne (by first | decide | (simp; done) | (simp [ms_0]; done)), g66, fj_at j6 (by first | decide | (simp; done) | (simp [ms_0]; done))], ?_, fun _ q hq => g7 q ?_, fun e => absurd ⟨by omega, by omega⟩ e⟩
      · rw [h_up_eq, c55]
        omega
      · rw [Int.toNat_natCast] at hq
        exact hq
    -- jumps
    have jmp : ∀ {s2 : ms_S} {F2 : Nat → Nat → Int32} {L2 : Nat → Nat → Int64} {R2 : Nat → Nat → Option Nat} {y : Int32}, v.toInt = 0 → st = (n, sl, SH, h_up F2 48 11 y, L2, R2) → (b.toInt = 47 ∨ b.toInt = 40) → y = FI5 48 10 + x.1.toInt32 → kz FI5 FL5 FR F2 L2 R2 → cv F2 L2 R2 SH s2 → cu F2 (f - 1) → F2 48 6 = FI5 48 6 → ms_one E 0 o bs p s = ms_jp bs x.2.2.1 x.1 s2 → cs E A o p bs n sl SH FI FL FR v st s f := by
      intro s2 F2 L2 R2 y g1 g2 gj gy g3 g4 g5 g66 g7
      obtain ⟨j1, j2⟩ := md_jp gj hx
      refine Or.inr ⟨g1, _, _, _, s2, f - 1, (x.2.2.1 : Int) + x.1.toInt, g2, kz_i (kz_tr k6 g3) (by first | decide | (simp; done) | (simp [ms_0]; done)), cv_f g4 hr (by first | decide | (simp; done) | (simp [ms_0]; done)), cu_fr g5 (h_up_ne (by first | decide | (simp; done) | (simp [ms_0]; done))) (h_up_ne (by first | decide | (simp; done) | (simp [ms_0]; done))), by omega, by rw [h_up_ne (by first | decide | (simp; done) | (simp [ms_0]; done)), g66, fj_at j6 (by first | decide | (simp; done) | (simp [ms_0]; done))], ?_, fun e q hq => ?_, fun e => ?_⟩
      · rw [h_up_eq, gy, i_add c55 (l_2i rfl (by omega) (by omega)) (by omega) (by omega)]
        omega
      · refine ms_R_go (x := (((x.2.2.1 : Int) + x.1.toInt).toNat, s2)) (by omega) hf0 ?_ hq
        rw [g7]
        unfold ms_jp
        rw [if_neg (by omega)]
      · refine ms_R_e (by omega) hf0 ?_
        rw [g7]
        unfold ms_jp
        rw [if_pos (by omega)]
    rw [show ((47 : Int32)).toInt = 47 by first | decide | (simp; done) | (simp [ms_0]; done), show ((40 : Int32)).toInt = 40 by first | decide | (simp; done) | (simp [ms_0]; done), show ((152 : Int32)).toInt = 152 by first | decide | (simp; done) | (simp [ms_0]; done), show ((153 : Int32)).toInt = 153 by first | decide | (simp; done) | (simp [ms_0]; done)] at h
    rcases h with ⟨g47, h⟩ | ⟨g47, h⟩
    · have h := P_p h (by rw [show ((47 : Int32)).toInt = 47 by first | decide | (simp; done) | (simp [ms_0]; done)]; exact g47)
      exact jmp (by rw [h.1]; (first | decide | (simp; done) | (simp [ms_0]; done))) h.2 (Or.inl g47) (by rw [c52]) kz_rf v6 u6 rfl (by rw [one, do_3 hc0 (by omega)]; unfold ms_d3; rw [if_pos g47])
    rcases h with ⟨g40, h⟩ | ⟨g40, h⟩
    · have h := P_n h (by rw [show ((47 : Int32)).toInt = 47 by first | decide | (simp; done) | (simp [ms_0]; done)]; exact g47)
      rw [wt_1 (by omega)] at q3
      obtain ⟨t, R, hs⟩ := sh_1 q3
      obtain ⟨F2, k1, k2, k3, k4, h⟩ := c_pp hS0 hs v6 h
      have d3 : ms_one E 0 o bs p s = (if t.toInt = 0 then .inr (.inl (x.2.2.1, (R, s.2))) else ms_jp bs x.2.2.1 x.1 (R, s.2)) := by
        rw [one, do_3 hc0 (by omega)]
        unfold ms_d3
        rw [if_neg g47, if_pos g40, hs]
      have u7 := cu_fr u6 (k3 6 (by first | decide | (simp; done) | (simp [ms_0]; done))) (k3 7 (by first | decide | (simp; done) | (simp [ms_0]; done)))
      rw [show ((0 : Int64)).toInt = 0 by first | decide | (simp; done) | (simp [ms_0]; done)] at h
      rcases h with ⟨t0, e1, e⟩ | ⟨t0, e1, e⟩
      · rw [if_pos t0] at d3
        exact fin (by rw [e1]; (first | decide | (simp; done) | (simp [ms_0]; done))) e k1 k2 u7 (by omega) (k3 6 (by first | decide | (simp; done) | (simp [ms_0]; done))) (fun q hq => ms_R_go (x := (x.2.2.1, (R, s.2))) (by omega) hf0 d3 hq)
      · rw [if_neg t0] at d3
        exact jmp (by rw [e1]; (first | decide | (simp; done) | (simp [ms_0]; done))) e (Or.inr g40) (by rw [c52]) k1 k2 u7 (k3 6 (by first | decide | (simp; done) | (simp [ms_0]; done))) d3
    have call : ∀ _ : b.toInt = 152 ∨ b.toInt = 153, P_bi (MC (FL5 48 12) a4 n sl SH FI5 FL5 FR) (fun v9 n9 sl9 SH9 FI9 FL9 FR9 => P_ret v9 (n9, sl9, SH9, h_up FI9 48 11 (FI5 48 10), FL9, FR9)) v st → cs E A o p bs n sl SH FI FL FR v st s f := by
      intro hc h
      obtain ⟨v9, n9, sl9, SH9, FI9, FL9, FR9, h, e1, e⟩ := h
      rw [c52] at h
      have k0 : 0 ≤ x.1.toInt := by
        rcases hc with hc | hc
        · rw [hc] at hx; exact md_152 (bk_by hb) hx
        · rw [hc] at hx; exact md_153 (bk_by hb) hx
      have d3 : ms_one E 0 o bs p s = (if 15 < x.1.toInt ∨ o = 8 then .inl 8 else .inr (.inr (.inl (x.1.toInt.toNat, x.2.2.1)))) := by
        rw [one, do_3 hc0 (by omega)]
        unfold ms_d3
        rw [if_neg g47, if_neg g40, if_pos hc]
      rcases hMC E6 v6 u6 k0 h with ⟨q, e2, F2, L2, R2, e3, kk⟩ | ⟨q, y, hy, hc1⟩
      · rw [if_pos q] at d3
        cases e3
        exact Or.inl ⟨8, by rw [e1]; exact e2, by first | decide | (simp; done) | (simp [ms_0]; done), ms_R_e (by omega) hf0 d3, _, _, _, e, kz_i (kz_tr k6 kk) (by first | decide | (simp; done) | (simp [ms_0]; done))⟩
      · rw [if_neg q] at d3
        match y, hy, hc1 with
        | .inl e9, hy, ⟨e2, e3, F2, L2, R2, e4, kk⟩ =>
          cases e4
          exact Or.inl ⟨e9, by rw [e1]; exact e2, e3, ms_R_ce (by omega) hf0 d3 hy, _, _, _, e, kz_i (kz_tr k6 kk) (by first | decide | (simp; done) | (simp [ms_0]; done))⟩
        | .inr z, hy, ⟨e2, F2, L2, R2, e4, kk, vv, uu, ff, f6⟩ =>
          cases e4
          exact fin (by rw [e1]; exact e2) e kk vv uu (by omega) f6 (fun q hq => ms_R_c (by omega) hf0 d3 hy hq)
    rcases h with ⟨g152, h⟩ | ⟨g152, h⟩
    · exact call (Or.inl g152) h
    rcases h with ⟨g153, h⟩ | ⟨g153, h⟩
    · exact call (Or.inr g153) h
    obtain ⟨v9, n9, sl9, SH9, FI9, FL9, FR9, h, e1, e⟩ := h
    have res : ∀ {w : Int ⊕ ms_S}, cr n sl SH FI5 FL5 FR v9 (n9, sl9, SH9, FI9, FL9, FR9) w → (∀ e9, w = .inl e9 → ms_one E 0 o bs p s = .inl e9) → (∀ s2, w = .inr s2 → ms_one E 0 o bs p s = .inr (.inl (x.2.2.1, s2))) → cs E A o p bs n sl SH FI FL FR v st s f := by
      intro w hw w1 w2
      match w, hw, w1, w2 with
      | .inl e9, ⟨e2, e3, F2, L2, R2, e4, kk⟩, w1, _ =>
        cases e4
        exact Or.inl ⟨e9, by rw [e1]; exact e2, e3, ms_R_e (by omega) hf0 (w1 e9 rfl), _, _, _, e, kz_i (kz_tr k6 kk) (by first | decide | (simp; done) | (simp [ms_0]; done))⟩
      | .inr s2, ⟨e2, F2, L2, R2, e4, kk, vv, x6, x7, x10, x12, x13⟩, _, w2 =>
        cases e4
        exact fin (by rw [e1]; exact e2) e kk vv (cu_fr u6 x6 x7) (by omega) x6 (fun q hq => ms_R_go (x := (x.2.2.1, s2)) (by omega) hf0 (w2 s2 rfl) hq)
    by_cases gp : b.toInt = 147 ∨ b.toInt = 157
    · have h := c_o227 (by omega) h
      cases hpc : ms_pc b.toInt x.1 x.2.1 s with
      | none => exact absurd ⟨gp, hpc⟩ q13
      | some s2 =>
        have npc : ¬ (s.2.2.length = 16 ∨ x.1.toInt < 0 ∨ (if b.toInt = 157 then 4096 else 512) < x.1.toInt ∨ (b.toInt = 157 ∧ (x.2.1.toInt < 0 ∨ 4096 < x.2.1.toInt)) ∨ 4096 < ms_tb s.2.2 + (if b.toInt = 157 then x.1.toInt else 8 * x.1.toInt)) := fun e => by
          rw [pc_n.mpr e] at hpc
          cases hpc
        have es2 : s2 = ([], ms_0, (ms_tg s, (if b.toInt = 157 then x.1.toInt else 8 * x.1.toInt), (if b.toInt = 157 then x.2.1.toInt else 0)) :: s.2.2) := by
          unfold ms_pc at hpc
          rw [if_neg npc] at hpc
          exact (Option.some.inj hpc).symm
        have hlp := v6.2.2.2.2.2.1
        have w2 : ∀ s3, (.inr s2 : Int ⊕ ms_S) = .inr s3 → ms_one E 0 o bs p s = .inr (.inl (x.2.2.1, s3)) := by
          intro s3 e9
          cases e9
          rw [one, do_2 hc0]
          unfold ms_d2
          rw [if_pos gp, hpc]
        refine res (w := .inr s2) ?_ (fun e9 e => by cases e) w2
        have h : RX9_operate_241 b (some r) a4 n sl SH FI5 FL5 FR v9 (n9, sl9, SH9, FI9, FL9, FR9) := by
          rcases h with ⟨-, h⟩ | ⟨q, h⟩
          · exact h
          · exact P_p h (by rw [show ((147 : Int32)).toInt = 147 by first | decide | (simp; done) | (simp [ms_0]; done)] at q; rw [show ((157 : Int32)).toInt = 157 by first | decide | (simp; done) | (simp [ms_0]; done)]; omega)
        rcases h with ⟨g147, h⟩ | ⟨g147, h⟩
        · rw [show ((147 : Int32)).toInt = 147 by first | decide | (simp; done) | (simp [ms_0]; done)] at g147
          rw [if_neg (show ¬ b.toInt = 157 by omega), if_neg (show ¬ b.toInt = 157 by omega)] at npc es2
          try rw [if_neg (show ¬ b.toInt = 157 by omega)] at es2
          obtain ⟨z1, z2, z3, z4, z5, z6, z7, hh, y1, y2⟩ := h
          rw [y1, y2, es2]
          exact c_add hS0 ht v6 (by omega) (by rw [c52, i_mul (l_2i rfl (by omega) (by omega)) (by first | decide | (simp; done) | (simp [ms_0]; done) : ((8 : Int32)).toInt = 8) (by omega) (by omega)]; omega) (by first | decide | (simp; done) | (simp [ms_0]; done)) (by omega) (by first | decide | (simp; done) | (simp [ms_0]; done)) (by omega) hh
        · rw [show ((147 : Int32)).toInt = 147 by first | decide | (simp; done) | (simp [ms_0]; done)] at g147
          have g157 : b.toInt = 157 := by omega
          rw [if_pos g157, if_pos g157] at npc es2
          try rw [if_pos g157] at es2
          obtain ⟨z1, z2, z3, z4, z5, z6, z7, hh, y1, y2⟩ := h
          rw [y1, y2, es2]
          rw [c52, s157 g157] at hh
          exact c_add hS0 ht v6 (by omega) (l_2i rfl (by omega) (by omega)) (l_2i rfl (by omega) (by omega)) (by omega) (by omega) (by omega) hh
    by_cases g145 : b.toInt = 145
    · have h := c_oask (by omega) (by omega) h
      have d3 : ms_one E 0 o bs p s = (if 0 = 1 ∨ ms_fr E = -1 then .inl 11 else .inr (.inr (.inr (x.1, x.2.2.1)))) := by
        rw [one, do_3 hc0 gp]
        unfold ms_d3
        rw [if_neg g47, if_neg g40, if_neg (by omega), if_pos g145]
      rcases hB E6 v6 u6 g145 h with ⟨q, e2, F2, L2, R2, e3, kk⟩ | ⟨q, y, hy, hc1⟩
      · rw [if_pos q] at d3
        cases e3
        exact Or.inl ⟨11, by rw [e1]; exact e2, by first | decide | (simp; done) | (simp [ms_0]; done), ms_R_e (by omega) hf0 d3, _, _, _, e, kz_i (kz_tr k6 kk) (by first | decide | (simp; done) | (simp [ms_0]; done))⟩
      · rw [if_neg q] at d3
        rw [c52] at hc1
        match y, hy, hc1 with
        | .inl e9, hy, ⟨e2, e3, F2, L2, R2, e4, kk⟩ =>
          cases e4
          exact Or.inl ⟨e9, by rw [e1]; exact e2, e3, ms_R_be (by omega) hf0 d3 hy, _, _, _, e, kz_i (kz_tr k6 kk) (by first | decide | (simp; done) | (simp [ms_0]; done))⟩
        | .inr z, hy, Or.inl ⟨e9, e0, e2, e3, F2, L2, R2, e4, kk⟩ =>
          cases e4
          exact Or.inl ⟨e9, by rw [e1]; exact e2, e3, ms_R_bf (by omega) hf0 d3 hy e0, _, _, _, e, kz_i (kz_tr k6 kk) (by first | decide | (simp; done) | (simp [ms_0]; done))⟩
        | .inr z, hy, Or.inr ⟨b9, e0, Or.inl ⟨e2, e3, F2, L2, R2, e4, kk⟩⟩ =>
          cases e4
          exact Or.inl ⟨4, by rw [e1]; exact e3, by first | decide | (simp; done) | (simp [ms_0]; done), ms_R_b4 (by omega) hf0 d3 hy e0 e2, _, _, _, e, kz_i (kz_tr k6 kk) (by first | decide | (simp; done) | (simp [ms_0]; done))⟩
        | .inr z, hy, Or.inr ⟨b9, e0, Or.inr ⟨e2, e3, F2, L2, R2, e4, kk, vv, uu, ff, x10⟩⟩ =>
          cases e4
          exact fin (by rw [e1]; exact e3) e kk vv uu (by omega) x10 (fun q hq => ms_R_b (by omega) hf0 d3 hy e0 e2 hq)
    have hox := c_ox (x := x) hS0 E6 v6 hkn c52 (fun e => c53 (Or.inl (by rw [e]; (first | decide | (simp; done) | (simp [ms_0]; done))))) (fun e => by
      obtain ⟨w1, w2, w3⟩ := c54 (by rw [e]; (first | decide | (simp; done) | (simp [ms_0]; done)))
      rw [e] at hx
      obtain ⟨q9, k9, y1, y2, y3, y4⟩ := md_158 hx
      refine ⟨r, A + q9, rfl, by rw [w3]; omega, by rw [y4]; exact bk_sub (bk_fr hb (fj_row j6 hrC)) y3, by rw [y4, ms_ln y3]; exact y1, ?_, by omega⟩
      rw [y4, ms_ln y3]
      omega) (fun e => by rw [e] at hx; exact md_21 (bk_by hb) hx) q3 q14 q10 (fun e => Classical.byContradiction (fun w => q9 ⟨e, by omega⟩)) (by omega) h
    have d3 : ms_one E 0 o bs p s = ms_d4 x.2.2.1 s (ms_x E b.toInt x.1 x.2.1 x.2.2.2 s.1 s.2.1) := by
      rw [one, do_3 hc0 gp]
      unfold ms_d3
      rw [if_neg g47, if_neg g40, if_neg (by omega), if_neg g145]
    refine res hox (fun e9 e => ?_) (fun s2 e => ?_)
    · rw [d3]
      generalize ms_x E b.toInt x.1 x.2.1 x.2.2.2 s.1 s.2.1 = z at e
      match z, e with
      | .inl e8, e => cases e; rfl
    · rw [d3]
      generalize ms_x E b.toInt x.1 x.2.1 x.2.2.2 s.1 s.2.1 = z at e
      match z, e with
      | .inr y, e => cases e; rfl
end CX
end
section
/-! THE CLASS'S RUNS. -/
section CRI
variable {n sl : Nat} {SH : Nat → Nat × Nat} {E : ms_E}
/-- the loop of one row of bytes -/
theorem c_loopI {g0 r A o : Nat} {bs : List Int32} {a2 a3 a4 : Int32} (hS0 : h_S n SH) (hbl : bs.length ≤ 100000) (hA : A ≤ 100000) (h2 : a2.toInt = A) (h3 : a3.toInt = ((A + bs.length : Nat) : Int)) (h4 : a4.toInt = o) (ho8 : o ≤ 8)
    (IH : ∀ g, g < g0 → ∀ (r A o f : Nat) (bs : List Int32) (s : ms_S) (a2 a3 a4 v : Int32) (FI : Nat → Nat → Int32) (FL : Nat → Nat → Int64) (FR : Nat → Nat → Option Nat) (st : hS), thI FR → cE FI FL FR SH E → bk FI SH r A bs → bs.length ≤ 100000 → A ≤ 100000 → a2.toInt = A → a3.toInt = ((A + bs.length : Nat) : Int) → a4.toInt = o → o ≤ 8 → cvI FI FL FR SH s → cuI FI f → QX9I g 0 (some r) a2 a3 a4 0 n sl SH FI FL FR v st → ∃ q, ms_R E 1 o bs 0 f s q ∧ cxI n sl SH FI FL FR v st f q) : ∀ (g2 p k f : Nat) (s : ms_S) (l5 l6 v : Int32) (FI : Nat → Nat → Int32) (FL : Nat → Nat → Int64) (FR : Nat → Nat → Option Nat) (st : hS), l5.toInt = ((A + p : Nat) : Int) → p ≤ bs.length → l6.toInt = k → k + f ≤ 1000 → thI FR → cE FI FL FR SH E → bk FI SH r A bs → cvI FI FL FR SH s → cuI FI f → GX9_performI_6 (fun a1 a2 a3 a4 n sl SH FI FL FR => QX9I g0 0 a1 a2 a3 a4 0 n sl SH FI FL FR) (fun a1 a2 a3 a4 n sl SH FI FL FR => QX9I g0 1 a1 a2 a3 a4 0 n sl SH FI FL FR) (fun a1 a2 n sl SH FI FL FR => QX9I g0 2 none a2 0 0 a1 n sl SH FI FL FR) (some r) a2 a3 a4 g2 l5 l6 n sl SH FI FL FR v st → ∃ q, ms_R E 1 o bs p f s q ∧ cxI n sl SH FI FL FR v st f q := by
  intro g2
  induction g2 with
  | zero => intro p k f s l5 l6 v FI FL FR st _ _ _ _ _ _ _ _ _ h; exact h.elim
  | succ g2 ih =>
    intro p k f s l5 l6 v FI FL FR st h5 hp h6 hkf ht hE hb hv hu h
    have hr := rg_of hS0
    have b2 := hb.2.1
    have b3 := hb.2.2.1
    have h := P_n h (by rw [show ((1000 : Int32)).toInt = 1000 by first | decide | (simp; done) | (simp [ms_0]; done)]; omega)
    have h := P_n h (by omega)
    rcases h with ⟨h0, h⟩ | ⟨h0, e1, e⟩
    rotate_left
    · exact ⟨.inr (f, s), ms_R_end (by omega), by rw [e1]; (first | decide | (simp; done) | (simp [ms_0]; done)), _, _, _, e, kzI_rf, hv, hu, Nat.le_refl _, rfl⟩
    obtain ⟨q, eq, h⟩ := h
    cases eq
    have h := P_p h (by rw [i_lit (by omega)]; omega)
    obtain ⟨v5, n5, sl5, SH5, FI5, FL5, FR5, hst, h⟩ := h
    cases g0 with
    | zero => exact hst.elim
    | succ g1 =>
      have stp := cs_stepI (o := o) hS0 ht hE hb hbl hA h5 (by omega) h3 hv hu
        (fun {F1 L1 v st f1 kk} E1 V1 U1 k0 hc => by
          cases g1 with
          | zero => exact hc.elim
          | succ g3 =>
            have hc : RX9_callI (fun a1 a2 a3 a4 n sl SH FI FL FR => QX9I g3 0 a1 a2 a3 a4 0 n sl SH FI FL FR) (fun a1 a2 a3 a4 n sl SH FI FL FR => QX9I g3 1 a1 a2 a3 a4 0 n sl SH FI FL FR) (fun a1 a2 n sl SH FI FL FR => QX9I g3 2 none a2 0 0 a1 n sl SH FI FL FR) kk a4 n sl SH F1 L1 FR v st := hc
            have hc := P_n hc (by rw [show ((0 : Int64)).toInt = 0 by first | decide | (simp; done) | (simp [ms_0]; done)]; omega)
            rw [show ((Int32.ofNat (SH 26).2).toInt64).toInt = 16 by rw [hS0.2 26 (by first | decide | (simp; done) | (simp [ms_0]; done))]; decide +kernel, show ((8 : Int32)).toInt = 8 by first | decide | (simp; done) | (simp [ms_0]; done), h4] at hc
            rcases hc with ⟨q1, hc⟩ | ⟨q1, e1, e⟩
            rotate_left
            · exact Or.inl ⟨Or.inl (by omega), by rw [e1]; (first | decide | (simp; done) | (simp [ms_0]; done)), _, _, _, e, kzI_rf⟩
            rcases hc with ⟨q2, hc⟩ | ⟨q2, e1, e⟩
            rotate_left
            · exact Or.inl ⟨Or.inr (by omega), by rw [e1]; (first | decide | (simp; done) | (simp [ms_0]; done)), _, _, _, e, kzI_rf⟩
            refine Or.inr ⟨by omega, ?_⟩
            obtain ⟨-, c4, ec4, v4, n4, sl4, SH4, FI4, FL4, FR4, hm, e1, e⟩ := hc
            obtain ⟨r2, x1, x2, x3, x4⟩ := E1.2.2.1 kk.toInt.toNat (by omega)
            have ek : (kk.toInt32).toInt.toNat = kk.toInt.toNat := by rw [l_2i (A := kk.toInt) rfl (by omega) (by omega)]
            rw [ek, x1] at ec4 hm
            cases ec4
            rw [e1, e]
            exact IH g3 (by omega) _ 0 (o + 1) f1 (ms_ex E kk.toInt.toNat) s _ _ _ v4 F1 L1 FR _ ht E1 x4 (by omega) (by omega) (by first | decide | (simp; done) | (simp [ms_0]; done)) (by rw [x2, i_lit (by omega)]; omega) (by rw [i_add h4 (by first | decide | (simp; done) | (simp [ms_0]; done) : ((1 : Int32)).toInt = 1) (by omega) (by omega)]; omega) (by omega) V1 U1 hm)
        (fun {F1 L1 v c st f1} E1 V1 U1 hc ha => Or.inl ⟨Or.inl rfl, by
          have ha := P_p (P_n (P_n ha (by omega)) (by omega)) hc
          obtain ⟨v6, n6, sl6, SH6, FI6, FL6, FR6, hb6, ha⟩ := ha
          have hb6 := P_p hb6 rfl
          obtain ⟨e1, e2⟩ := hb6
          cases e2
          have ha := P_n ha (by rw [e1]; (first | decide | (simp; done) | (simp [ms_0]; done)))
          exact ⟨by rw [ha.1, e1]; (first | decide | (simp; done) | (simp [ms_0]; done)), _, _, _, ha.2, kzI_rf⟩⟩)
        hst
      rcases stp with ⟨e9, w1, w2, w3, F2, L2, R2, w4, w5⟩ | ⟨w1, F2, L2, R2, s2, f2, T, w4, w5, w6, w7, w8, w9, w10, w11, w12⟩
      · cases w4
        have h := P_n h (by rw [w1]; exact w2)
        have h := P_n h (by rw [w1]; exact w2)
        exact ⟨.inl e9, w3, by rw [h.1]; exact w1, w2, _, _, _, h.2, kzI_i w5 (by first | decide | (simp; done) | (simp [ms_0]; done))⟩
      · cases w4
        have h := P_p h w1
        have out : ∀ _ : ¬ (0 ≤ T ∧ T ≤ bs.length), RX9_performI_65 (GX9_performI_6 (fun a1 a2 a3 a4 n sl SH FI FL FR => QX9I (g1 + 1) 0 a1 a2 a3 a4 0 n sl SH FI FL FR) (fun a1 a2 a3 a4 n sl SH FI FL FR => QX9I (g1 + 1) 1 a1 a2 a3 a4 0 n sl SH FI FL FR) (fun a1 a2 n sl SH FI FL FR => QX9I (g1 + 1) 2 none a2 0 0 a1 n sl SH FI FL FR) (some r) a2 a3 a4 g2) (fun a1 a2 a3 a4 n sl SH FI FL FR => QX9I (g1 + 1) 0 a1 a2 a3 a4 0 n sl SH FI FL FR) (fun a1 a2 a3 a4 n sl SH FI FL FR => QX9I (g1 + 1) 1 a1 a2 a3 a4 0 n sl SH FI FL FR) (fun a1 a2 n sl SH FI FL FR => QX9I (g1 + 1) 2 none a2 0 0 a1 n sl SH FI FL FR) (some r) a2 a3 a4 l5 l6 n sl SH FI5 FL5 FR5 v st → ∃ q, ms_R E 1 o bs p f s q ∧ cxI n sl SH FI FL FR v st f q := by
          intro hT h
          have h := P_n h (by first | decide | (simp; done) | (simp [ms_0]; done))
          exact ⟨.inl 7, w12 hT, by rw [h.1]; (first | decide | (simp; done) | (simp [ms_0]; done)), by first | decide | (simp; done) | (simp [ms_0]; done), _, _, _, h.2, kzI_i w5 (by first | decide | (simp; done) | (simp [ms_0]; done))⟩
        rw [w10, h2, h3] at h
        rcases h with ⟨q1, h⟩ | ⟨q1, h⟩
        · exact out (by omega) h
        rcases h with ⟨q2, h⟩ | ⟨q2, h⟩
        · exact out (by omega) h
        have h := P_p h w1
        have hT : 0 ≤ T ∧ T ≤ bs.length := by omega
        obtain ⟨q, y1, y2⟩ := ih T.toNat (k + 1) f2 s2 (FI5 49 11) (l6 + (1 : Int32)) v FI5 FL5 FR5 st (by rw [w10]; omega) (by omega) (by rw [i_add h6 (by first | decide | (simp; done) | (simp [ms_0]; done) : ((1 : Int32)).toInt = 1) (by omega) (by omega)]; omega) (by omega) (thI_k ht w5) (cE_kI hE hr w5) (bk_fr hb (kzI_rows w5 hr r hb.1)) w6 w7 h
        exact ⟨q, w11 hT q y1, cxI_tr w5 (by omega) w9 y2⟩
theorem c_runI (hS0 : h_S n SH) : ∀ (g r A o f : Nat) (bs : List Int32) (s : ms_S) (a2 a3 a4 v : Int32) (FI : Nat → Nat → Int32) (FL : Nat → Nat → Int64) (FR : Nat → Nat → Option Nat) (st : hS), thI FR → cE FI FL FR SH E → bk FI SH r A bs → bs.length ≤ 100000 → A ≤ 100000 → a2.toInt = A → a3.toInt = ((A + bs.length : Nat) : Int) → a4.toInt = o → o ≤ 8 → cvI FI FL FR SH s → cuI FI f → QX9I g 0 (some r) a2 a3 a4 0 n sl SH FI FL FR v st → ∃ q, ms_R E 1 o bs 0 f s q ∧ cxI n sl SH FI FL FR v st f q := by
  intro g
  induction g using Nat.strongRecOn with
  | ind g IH =>
    intro r A o f bs s a2 a3 a4 v FI FL FR st ht hE hb hbl hA h2 h3 h4 ho hv hu h
    cases g with
    | zero => exact h.elim
    | succ g =>
      obtain ⟨g2, h⟩ := h
      have u := hu
      exact c_loopI hS0 hbl hA h2 h3 h4 ho (fun g3 hg3 => IH g3 (by omega)) g2 0 0 f s a2 0 v FI FL FR st (by rw [h2]; omega) (by omega) (by first | decide | (simp; done) | (simp [ms_0]; done)) (by unfold cuI at u; omega) ht hE hb hv hu h
end CRI
end
section
/-! THE CLASS'S RUNS with FRAME's base. -/
/-- the inner run is no more than the outer one may do -/
theorem kI_k {FI F2 : Nat → Nat → Int32} {FL L2 : Nat → Nat → Int64} {FR R2 : Nat → Nat → Option Nat} (h : kzI FI FL FR F2 L2 R2) : kz FI FL FR F2 L2 R2 := ⟨fun c hc => h.1 c (by omega), fun c hc => h.2 c (by omega)⟩
theorem cv_kI {FI F2 : Nat → Nat → Int32} {FL L2 : Nat → Nat → Int64} {FR R2 : Nat → Nat → Option Nat} {SH : Nat → Nat × Nat} {s : ms_S} (hr : rg SH) (hv : cv FI FL FR SH s) (k : kzI FI FL FR F2 L2 R2) : cv F2 L2 R2 SH s := by
  obtain ⟨v1, v2, v3, v4, v5, v6, v7, v8, v9, v10⟩ := hv
  have e0 := kzI_rows k hr
  have a : ∀ c, c < 49 ∨ 69 < c → F2 c = FI c ∧ L2 c = FL c ∧ R2 c = FR c := k.1
  exact ⟨by rw [(a 48 (by omega)).1]; exact v1, v2, by rw [(a 70 (by omega)).2.1]; exact v3, chd_fr v4 e0 (a 71 (by omega)).1 (a 71 (by omega)).2.1 (a 71 (by omega)).2.2, by rw [(a 72 (by omega)).1]; exact v5, v6, by rw [(a 72 (by omega)).1]; exact v7, v8, v9, lv_mono (fun i q hi _ hq => cq_fr hq e0 (a _ (by omega)).1 (a _ (by omega)).2.1 (a _ (by omega)).2.2) v10⟩
theorem th_kI {FI F2 : Nat → Nat → Int32} {FL L2 : Nat → Nat → Int64} {FR R2 : Nat → Nat → Option Nat} (h : th FR ∧ thI FR) (k : kz FI FL FR F2 L2 R2) : th R2 ∧ thI R2 := by
  refine ⟨th_k h.1 k, ?_⟩
  unfold thI
  rw [k.2 52 (by first | decide | (simp; done) | (simp [ms_0]; done)), k.2 53 (by first | decide | (simp; done) | (simp [ms_0]; done))]
  exact h.2
theorem bs_tg {E : ms_E} {s : ms_S} (h : s.2.2 = []) (hok : ms_ok s.2.1) (h1 : s.2.1.1 ≠ 1) : ms_bs E s = (if (ms_tg s).1 = 2 then .inr (ms_rg E (ms_tg s).2.1.toInt.toNat) else if (ms_tg s).1 = 0 ∨ (ms_tg s).1 = 4 then .inl 11 else .inr (ms_tg s).2.1) := by
  unfold ms_bs ms_tg
  rw [if_neg (fun e => e h)]
  rcases hok with q | q | q | q | q
  · obtain ⟨S, H, P⟩ := s
    (try dsimp only at q ⊢)
    rw [if_neg (show ¬ H.1 = 2 by omega), if_neg (show ¬ H.1 = 3 by omega), if_pos q.1, if_pos q.1]
    cases S with
    | nil => rfl
    | cons t R => rfl
  · exact absurd q.1 h1
  · have q := q.1
    rw [if_neg (show ¬ s.2.1.1 = 0 by omega), if_neg (show ¬ s.2.1.1 = 0 by omega), if_pos q, if_pos q]
  · have q := q.1
    rw [if_neg (show ¬ s.2.1.1 = 2 by omega), if_pos q, if_neg (show ¬ s.2.1.1 = 0 by omega), if_neg (show ¬ s.2.1.1 = 2 by omega), if_neg (show ¬ (s.2.1.1 = 0 ∨ s.2.1.1 = 4) by omega)]
  · have q := q.1
    rw [if_neg (show ¬ s.2.1.1 = 2 by omega), if_neg (show ¬ s.2.1.1 = 3 by omega), if_neg (show ¬ s.2.1.1 = 0 by omega), if_neg (show ¬ s.2.1.1 = 0 by omega), if_neg (show ¬ s.2.1.1 = 2 by omega), if_pos (Or.inr q)]
section CB
variable {n sl : Nat} {SH : Nat → Nat × Nat} {FI F1 : Nat → Nat → Int32} {FL L1 : Nat → Nat → Int64} {FR R1 : Nat → Nat → Option Nat} {o f : Nat} {a3 a4 v c : Int32} {st : hS} {s : ms_S} {E : ms_E}
/-- FRAME's base -/
theorem c_bas (hS : h_S n SH) (ht : th FR ∧ thI FR) (hE : cE FI FL FR SH E) (hv : cv FI FL FR SH s) (hu : cu FI f) (h4 : a3.toInt = o) (ho8 : o ≤ 8) (h : RX9_base (FI 48 6) (FI 48 7) a3 n sl SH FI FL FR v st) : (ms_fr E = -1 ∧ v.toInt = 11 ∧ st = (n, sl, SH, FI, FL, FR)) ∨ (ms_fr E ≠ -1 ∧ ∃ q, ms_R E 1 o (ms_ex E (ms_fr E).toNat) 0 f ([], ms_0, []) q ∧ ∃ F2 L2 R2, st = (n, sl, SH, F2, L2, R2) ∧ kz FI FL FR F2 L2 R2 ∧ match q with
    | .inl e => v.toInt = e ∧ e ≠ 0
    | .inr y => (∃ e, ms_bs E y.2 = .inl e ∧ v.toInt = e ∧ e ≠ 0) ∨ (∃ b, ms_bs E y.2 = .inr b ∧ v.toInt = 0 ∧ L2 48 15 = b ∧ (∀ k, k ≠ 15 → L2 48 k = FL 48 k) ∧ cv F2 L2 R2 SH s ∧ cu F2 y.1 ∧ y.1 ≤ f ∧ F2 48 6 = FI 48 6)) := by
  have hr := rg_of hS
  obtain ⟨f1, f2, f3⟩ := hE.2.2.2.1
  obtain ⟨u1, u2, u3⟩ := id hu
  have h := P_n h (fun e => by cases e)
  rw [f1, show (Int32.ofNat (SH 26).2).toInt = 16 by rw [hS.2 26 (by first | decide | (simp; done) | (simp [ms_0]; done))]; decide +kernel] at h
  rcases h with ⟨h0, e1, e⟩ | ⟨h0, h⟩
  · exact Or.inl ⟨by omega, by rw [e1]; (first | decide | (simp; done) | (simp [ms_0]; done)), e⟩
  refine Or.inr ⟨by omega, ?_⟩
  have h := P_p h (by omega)
  obtain ⟨-, u3', n3, sl3, SH3, FI3, FL3, FR3, hrs, c5, ec5, v5, n5, sl5, SH5, FI5, FL5, FR5, hpf, h⟩ := h
  obtain ⟨F3, L3, e3, k3, v3, w3⟩ := c_resetI (f := f) hS ht.2 u1 u2 u3 hrs
  cases e3
  have e36 : FI3 49 6 = FI 48 6 := by
    obtain ⟨x1, x2, x3, x4, x5, x6, x7, ⟨-, y1⟩, z1, z2, z3, z4, z5, z6, z7, hcl, -, y2⟩ := hrs
    cases y1
    obtain ⟨p1, p2, p3, p4, p5, p6, p7, ⟨p8, p9, -, p10, p11⟩, p12, p13, p14, p15, p16, p17, p18, p19, p20, ⟨-, p21⟩, -, p22⟩ := hcl
    cases p11
    rw [ht.2.1] at p9
    cases p9
    rw [p10, ht.2.2 0 (by first | decide | (simp; done) | (simp [ms_0]; done))] at p13
    cases p13
    cases p21
    cases p22
    cases y2
    rw [h_up_nc (by first | decide | (simp; done) | (simp [ms_0]; done)), h_up_nc (by first | decide | (simp; done) | (simp [ms_0]; done)), h_up_nc (by first | decide | (simp; done) | (simp [ms_0]; done)), h_up_nc (by first | decide | (simp; done) | (simp [ms_0]; done)), h_up_nc (by first | decide | (simp; done) | (simp [ms_0]; done)), h_up_nc (by first | decide | (simp; done) | (simp [ms_0]; done)), h_up_nc (by first | decide | (simp; done) | (simp [ms_0]; done)), h_up_nc (by first | decide | (simp; done) | (simp [ms_0]; done)), h_up_ne (by first | decide | (simp; done) | (simp [ms_0]; done)), h_up_ne (by first | decide | (simp; done) | (simp [ms_0]; done)), h_up_ne (by first | decide | (simp; done) | (simp [ms_0]; done)), h_up_eq]
  have E3 := cE_kI hE hr k3
  obtain ⟨r2, x1, x2, x3, x4⟩ := E3.2.2.1 (ms_fr E).toNat (by omega)
  have efr : (FI 23 4).toInt.toNat = (ms_fr E).toNat := by rw [f1]
  try rw [efr] at ec5
  try rw [efr] at hpf
  rw [x1] at ec5 hpf
  cases ec5
  obtain ⟨g, hpf⟩ := hpf
  obtain ⟨q, hq, hcx⟩ := c_runI hS g _ 0 o f (ms_ex E (ms_fr E).toNat) ([], ms_0, []) _ _ _ v5 FI3 FL3 FR _ ht.2 E3 x4 (by omega) (by omega) (by first | decide | (simp; done) | (simp [ms_0]; done)) (by rw [x2, i_lit (by omega)]; omega) h4 ho8 v3 w3 hpf
  refine ⟨q, hq, ?_⟩
  -- behind the inner run
  have t88 : ∀ {F4 : Nat → Nat → Int32} {L4 : Nat → Nat → Int64} {R4 : Nat → Nat → Option Nat} {w : Int32}, w.toInt ≠ 0 → kzI FI FL FR F4 L4 R4 → RX9_base_88 (FI 48 6) (FI 48 7) a3 w n sl SH F4 L4 R4 v st → v = w ∧ ∃ F2 L2 R2, st = (n, sl, SH, F2, L2, R2) ∧ kz FI FL FR F2 L2 R2 := by
    intro F4 L4 R4 w hw k4 h
    have h := P_n h hw
    exact ⟨h.1, _, _, _, h.2, kz_i (kz_i (kI_k k4) (by first | decide | (simp; done) | (simp [ms_0]; done))) (by first | decide | (simp; done) | (simp [ms_0]; done))⟩
  match q, hq, hcx with
  | .inl e9, hq, ⟨y1, y2, F4, L4, R4, y3, y4⟩ =>
    cases y3
    have h := P_n h (by rw [y1]; exact y2)
    obtain ⟨z1, F2, L2, R2, z2, z3⟩ := t88 (by rw [y1]; exact y2) (kzI_tr k3 y4) h
    exact ⟨F2, L2, R2, z2, z3, by rw [z1]; exact y1, y2⟩
  | .inr y, hq, ⟨y1, F4, L4, R4, y3, y4, y5, y6, y7, y8⟩ =>
    cases y3
    have h := P_p h y1
    obtain ⟨v7, n7, sl7, SH7, FI7, FL7, FR7, hse, h⟩ := h
    have k5 := kzI_tr k3 y4
    have tI5 : thI FR5 := thI_k (thI_k ht.2 k3) y4
    obtain ⟨F6, L6, R6, z1, z2, z3, z4⟩ := c_settleI hS tI5 y5 hse
    cases z1
    have k7 := kzI_tr k5 z2
    have tI7 : thI FR7 := thI_k tI5 z2
    have hh1 : y.2.2.1.1 ≠ 1 := (ms_hz (fun k hk => by obtain ⟨rr, -, -, zz, -⟩ := hE.2.2.1 k hk; exact zz) f3 hq x3 sz_0).1.1
    rcases z4 with ⟨m1, m2, m3⟩ | ⟨m1, m2, m3, m4, m5, m6⟩ | ⟨m1, m3, m4, m5⟩
    · obtain ⟨p1, F2, L2, R2, p2, p3⟩ := t88 (by rw [m3]; (first | decide | (simp; done) | (simp [ms_0]; done))) k7 h
      exact ⟨F2, L2, R2, p2, p3, Or.inl ⟨13, by unfold ms_bs; rw [if_pos m1, if_pos m2], by rw [p1]; exact m3, by first | decide | (simp; done) | (simp [ms_0]; done)⟩⟩
    all_goals
      have h := P_p h m3
      obtain ⟨w8, n8, sl8, SH8, FI8, FL8, FR8, htb, e8, e⟩ := h
      obtain ⟨c1, ec1, w9, n9, sl9, SH9, FI9, FL9, FR9, ⟨c2, ec2, -, ev9, e9⟩, c3, ec3, htb⟩ := htb
      cases ec1
      cases ec3
      cases e9
      rw [tI7.1] at ec2
      cases ec2
      rw [tI7.2 0 (by first | decide | (simp; done) | (simp [ms_0]; done))] at ev9
      subst ev9
    · -- pieces: no base
      have hp : 0 < (FI7 52 1).toInt := by
        rw [m4, y5.2.2.2.2.1]
        cases hy : y.2.2.2 with
        | nil => exact absurd hy m1
        | cons a b => simp only [List.length_cons]; omega
      have htb := P_p htb (by rw [h_up_nc (by first | decide | (simp; done) | (simp [ms_0]; done)), h_up_nc (by first | decide | (simp; done) | (simp [ms_0]; done))]; exact hp)
      rw [htb.2] at e
      exact ⟨_, _, _, e, kz_i (kz_i (kI_k k7) (by first | decide | (simp; done) | (simp [ms_0]; done))) (by first | decide | (simp; done) | (simp [ms_0]; done)), Or.inl ⟨11, by unfold ms_bs; rw [if_pos m1, if_neg m2], by rw [e8, htb.1]; (first | decide | (simp; done) | (simp [ms_0]; done)), by first | decide | (simp; done) | (simp [ms_0]; done)⟩⟩
    · have hp : ¬ 0 < (FI7 52 1).toInt := by omega
      have htb := P_n htb (by rw [h_up_nc (by first | decide | (simp; done) | (simp [ms_0]; done)), h_up_nc (by first | decide | (simp; done) | (simp [ms_0]; done))]; exact hp)
      have hb := bs_tg (E := E) m1 y5.2.2.2.1.1.2.2.1 hh1
      obtain ⟨t1, t2, t3, t4⟩ := m5.1
      have cvf : cv (h_up (h_up FI7 48 7 (FI7 49 7)) 48 8 (fJ9_max_7cf53 (FI7 48 8) (FI7 49 8) SH (h_up FI7 48 7 (FI7 49 7)) FL7 FR7)) FL7 FR7 SH s := cv_f (cv_f (cv_kI hr hv k7) hr (by first | decide | (simp; done) | (simp [ms_0]; done))) hr (by first | decide | (simp; done) | (simp [ms_0]; done))
      have cuf : cu (h_up (h_up FI7 48 7 (FI7 49 7)) 48 8 (fJ9_max_7cf53 (FI7 48 8) (FI7 49 8) SH (h_up FI7 48 7 (FI7 49 7)) FL7 FR7)) y.1 := by
        have a6 : FI7 48 6 = FI 48 6 := by rw [(k7.1 48 (by omega)).1]
        have b6 : FI7 49 6 = FI 48 6 := by rw [z3, y8, e36]
        have b7 : FI7 49 7 = FI5 49 7 := by rw [z3]
        obtain ⟨g1, g2, g3⟩ := y6
        rw [y8, e36] at g1 g3
        refine ⟨?_, ?_, ?_⟩
        · rw [h_up_ne (by first | decide | (simp; done) | (simp [ms_0]; done)), h_up_ne (by first | decide | (simp; done) | (simp [ms_0]; done)), h_up_ne (by first | decide | (simp; done) | (simp [ms_0]; done)), h_up_eq, a6, b7]; exact g1
        · rw [h_up_ne (by first | decide | (simp; done) | (simp [ms_0]; done)), h_up_eq, b7]; exact g2
        · rw [h_up_ne (by first | decide | (simp; done) | (simp [ms_0]; done)), h_up_ne (by first | decide | (simp; done) | (simp [ms_0]; done)), a6]; exact g3
      have kzf : kz FI FL FR (h_up (h_up FI7 48 7 (FI7 49 7)) 48 8 (fJ9_max_7cf53 (FI7 48 8) (FI7 49 8) SH (h_up FI7 48 7 (FI7 49 7)) FL7 FR7)) FL7 FR7 := kz_i (kz_i (kI_k k7) (by first | decide | (simp; done) | (simp [ms_0]; done))) (by first | decide | (simp; done) | (simp [ms_0]; done))
      have r54 : ∀ k, (h_up (h_up FI7 48 7 (FI7 49 7)) 48 8 (fJ9_max_7cf53 (FI7 48 8) (FI7 49 8) SH (h_up FI7 48 7 (FI7 49 7)) FL7 FR7)) 54 k = FI7 54 k := fun k => by rw [h_up_nc (by first | decide | (simp; done) | (simp [ms_0]; done)), h_up_nc (by first | decide | (simp; done) | (simp [ms_0]; done))]
      have e6 : (h_up (h_up FI7 48 7 (FI7 49 7)) 48 8 (fJ9_max_7cf53 (FI7 48 8) (FI7 49 8) SH (h_up FI7 48 7 (FI7 49 7)) FL7 FR7)) 48 6 = FI 48 6 := by rw [h_up_ne (by first | decide | (simp; done) | (simp [ms_0]; done)), h_up_ne (by first | decide | (simp; done) | (simp [ms_0]; done)), (k7.1 48 (by omega)).1]
      have E7 : cE (h_up (h_up FI7 48 7 (FI7 49 7)) 48 8 (fJ9_max_7cf53 (FI7 48 8) (FI7 49 8) SH (h_up FI7 48 7 (FI7 49 7)) FL7 FR7)) FL7 FR7 SH E := cE_k hE hr kzf
      generalize h_up (h_up FI7 48 7 (FI7 49 7)) 48 8 (fJ9_max_7cf53 (FI7 48 8) (FI7 49 8) SH (h_up FI7 48 7 (FI7 49 7)) FL7 FR7) = FF at htb e8 e cvf cuf kzf r54 e6 E7
      have L48 : ∀ k, FL7 48 k = FL 48 k := fun k => by rw [(k7.1 48 (by omega)).2.1]
      obtain ⟨d1, ed1, htb⟩ := htb
      cases ed1
      rw [r54, t1] at htb
      rcases htb with ⟨i0, i1, i2⟩ | ⟨i0, htb⟩
      · rw [i2] at e
        refine ⟨_, _, _, e, kzf, Or.inl ⟨11, ?_, by rw [e8, i1]; (first | decide | (simp; done) | (simp [ms_0]; done)), by first | decide | (simp; done) | (simp [ms_0]; done)⟩⟩
        rw [hb, if_neg (fun e9 => by rw [i0] at e9; exact absurd e9 (by decide)), if_pos (Or.inl i0)]
      obtain ⟨d1, ed1, htb⟩ := htb
      cases ed1
      rw [r54, t1, show ((4 : Int32)).toInt = 4 by first | decide | (simp; done) | (simp [ms_0]; done)] at htb
      rcases htb with ⟨i4, i1, i2⟩ | ⟨i4, htb⟩
      · rw [i2] at e
        refine ⟨_, _, _, e, kzf, Or.inl ⟨11, ?_, by rw [e8, i1]; (first | decide | (simp; done) | (simp [ms_0]; done)), by first | decide | (simp; done) | (simp [ms_0]; done)⟩⟩
        rw [hb, if_neg (fun e9 => by rw [i4] at e9; exact absurd e9 (by decide)), if_pos (Or.inr i4)]
      obtain ⟨d1, ed1, htb⟩ := htb
      cases ed1
      rw [r54, t1, show ((2 : Int32)).toInt = 2 by first | decide | (simp; done) | (simp [ms_0]; done)] at htb
      have done : ∀ {b : Int64}, ms_bs E y.2 = .inr b → w8 = 0 → (n8, sl8, SH8, FI8, FL8, FR8) = (n, sl, SH, FF, h_up FL7 48 15 b, FR7) → ∃ F2 L2 R2, st = (n, sl, SH, F2, L2, R2) ∧ kz FI FL FR F2 L2 R2 ∧ ((∃ e, ms_bs E y.2 = .inl e ∧ v.toInt = e ∧ e ≠ 0) ∨ (∃ b, ms_bs E y.2 = .inr b ∧ v.toInt = 0 ∧ L2 48 15 = b ∧ (∀ k, k ≠ 15 → L2 48 k = FL 48 k) ∧ cv F2 L2 R2 SH s ∧ cu F2 y.1 ∧ y.1 ≤ f ∧ F2 48 6 = FI 48 6)) := by
        intro b j1 j2 j3
        rw [j3] at e
        exact ⟨_, _, _, e, kz_l kzf (by first | decide | (simp; done) | (simp [ms_0]; done)), Or.inr ⟨b, j1, by rw [e8, j2]; (first | decide | (simp; done) | (simp [ms_0]; done)), h_up_eq, fun k hk => by rw [h_up_ne hk]; exact L48 k, cv_g cvf, cuf, y7, e6⟩⟩
      rcases htb with ⟨i2, htb⟩ | ⟨i2, htb⟩
      · obtain ⟨d1, ed1, i1, i3⟩ := htb
        cases ed1
        have k2 : 0 ≤ (ms_tg y.2).2.1.toInt ∧ (ms_tg y.2).2.1.toInt ≤ 31 := by
          rcases t3 with q | q | q | q | q
          · exfalso; have := q.1; omega
          · exfalso; have := q.1; omega
          · exact q.2.2
          · exfalso; have := q.1; omega
          · exfalso; have := q.1; omega
        rw [t2, c_reg hS E7 k2.1 k2.2] at i3
        exact done (by rw [hb, if_pos i2]) i1 i3
      · obtain ⟨d1, ed1, i1, i3⟩ := htb
        cases ed1
        rw [t2] at i3
        exact done (by rw [hb, if_neg i2, if_neg (fun e => e.elim i0 i4)]) i1 i3
theorem c_base (hS : h_S n SH) (ht : th FR ∧ thI FR) (hE : cE FI FL FR SH E) (hv : cv FI FL FR SH s) (hu : cu FI f) (h4 : a4.toInt = o) (ho8 : o ≤ 8) (hc : c.toInt = 145) (h : RX9_ask c a4 n sl SH FI FL FR v st) : ((0 = 1 ∨ ms_fr E = -1) ∧ v.toInt = 11 ∧ ∃ F2 L2 R2, st = (n, sl, SH, F2, L2, R2) ∧ kz FI FL FR F2 L2 R2) ∨ (¬ (0 = 1 ∨ ms_fr E = -1) ∧ ∃ q, ms_R E 1 o (ms_ex E (ms_fr E).toNat) 0 f ([], ms_0, []) q ∧ bq E n sl SH FI FL FR v st (FL 48 12) s f q) := by
  have h := P_p (P_n (P_n h (by omega)) (by omega)) hc
  obtain ⟨v6, n6, sl6, SH6, FI6, FL6, FR6, hb, h⟩ := h
  rcases c_bas hS ht hE hv hu h4 ho8 hb with ⟨q1, q2, q3⟩ | ⟨q1, q, q2, F2, L2, R2, q3, q4, q5⟩
  · cases q3
    have h := P_n h (by rw [q2]; (first | decide | (simp; done) | (simp [ms_0]; done)))
    exact Or.inl ⟨Or.inr q1, by rw [h.1]; exact q2, _, _, _, h.2, kz_rf⟩
  · cases q3
    refine Or.inr ⟨fun e => e.elim (by first | decide | (simp; done) | (simp [ms_0]; done)) q1, q, q2, ?_⟩
    match q, q2, q5 with
    | .inl e, q2, ⟨y1, y2⟩ =>
      have h := P_n h (by rw [y1]; exact y2)
      exact ⟨by rw [h.1]; exact y1, y2, _, _, _, h.2, q4⟩
    | .inr y, q2, Or.inl ⟨e, y1, y2, y3⟩ =>
      have h := P_n h (by rw [y2]; exact y3)
      exact Or.inl ⟨e, y1, by rw [h.1]; exact y2, y3, _, _, _, h.2, q4⟩
    | .inr y, q2, Or.inr ⟨b, y1, y2, y3, y4, y5, y6, y7, y8⟩ =>
      refine Or.inr ⟨b, y1, ?_⟩
      have h := P_p h y2
      rw [y3] at h
      have h := c_pu hS y5 h
      rw [cv_ps] at h
      by_cases hl : s.1.length = 128
      · rw [if_pos hl] at h
        obtain ⟨z1, z2, F3, L3, R3, z3, z4⟩ := h
        exact Or.inl ⟨hl, z1, F3, L3, R3, z3, kz_tr q4 z4⟩
      · rw [if_neg hl] at h
        obtain ⟨z1, F3, L3, R3, z3, z4, z5, z6, z7, z8, z9, z10⟩ := h
        exact Or.inr ⟨hl, z1, F3, L3, R3, z3, kz_tr q4 z4, z5, cu_fr y6 z6 z7, y7, z6.trans y8⟩
end CB
section CR
variable {n sl : Nat} {SH : Nat → Nat × Nat} {E : ms_E}
/-- the loop of one row of bytes -/
theorem c_loop {g0 r A o : Nat} {bs : List Int32} {a2 a3 a4 : Int32} (hS0 : h_S n SH) (hbl : bs.length ≤ 100000) (hA : A ≤ 100000) (h2 : a2.toInt = A) (h3 : a3.toInt = ((A + bs.length : Nat) : Int)) (h4 : a4.toInt = o) (ho8 : o ≤ 8)
    (IH : ∀ g, g < g0 → ∀ (r A o f : Nat) (bs : List Int32) (s : ms_S) (a2 a3 a4 v : Int32) (FI : Nat → Nat → Int32) (FL : Nat → Nat → Int64) (FR : Nat → Nat → Option Nat) (st : hS), (fun R => th R ∧ thI R) FR → cE FI FL FR SH E → bk FI SH r A bs → bs.length ≤ 100000 → A ≤ 100000 → a2.toInt = A → a3.toInt = ((A + bs.length : Nat) : Int) → a4.toInt = o → o ≤ 8 → cv FI FL FR SH s → cu FI f → QX9 g 0 (some r) a2 a3 a4 0 n sl SH FI FL FR v st → ∃ q, ms_R E 0 o bs 0 f s q ∧ cx n sl SH FI FL FR v st f q) : ∀ (g2 p k f : Nat) (s : ms_S) (l5 l6 v : Int32) (FI : Nat → Nat → Int32) (FL : Nat → Nat → Int64) (FR : Nat → Nat → Option Nat) (st : hS), l5.toInt = ((A + p : Nat) : Int) → p ≤ bs.length → l6.toInt = k → k + f ≤ 1000 → (fun R => th R ∧ thI R) FR → cE FI FL FR SH E → bk FI SH r A bs → cv FI FL FR SH s → cu FI f → GX9_perform_6 (fun a1 a2 a3 a4 n sl SH FI FL FR => QX9 g0 0 a1 a2 a3 a4 0 n sl SH FI FL FR) (fun a1 a2 a3 a4 n sl SH FI FL FR => QX9 g0 1 a1 a2 a3 a4 0 n sl SH FI FL FR) (fun a1 a2 n sl SH FI FL FR => QX9 g0 2 none a2 0 0 a1 n sl SH FI FL FR) (some r) a2 a3 a4 g2 l5 l6 n sl SH FI FL FR v st → ∃ q, ms_R E 0 o bs p f s q ∧ cx n sl SH FI FL FR v st f q := by
  intro g2
  induction g2 with
  | zero => intro p k f s l5 l6 v FI FL FR st _ _ _ _ _ _ _ _ _ h; exact h.elim
  | succ g2 ih =>
    intro p k f s l5 l6 v FI FL FR st h5 hp h6 hkf ht hE hb hv hu h
    have hr := rg_of hS0
    have b2 := hb.2.1
    have b3 := hb.2.2.1
    have h := P_n h (by rw [show ((1000 : Int32)).toInt = 1000 by first | decide | (simp; done) | (simp [ms_0]; done)]; omega)
    have h := P_n h (by omega)
    rcases h with ⟨h0, h⟩ | ⟨h0, e1, e⟩
    rotate_left
    · exact ⟨.inr (f, s), ms_R_end (by omega), by rw [e1]; (first | decide | (simp; done) | (simp [ms_0]; done)), _, _, _, e, kz_rf, hv, hu, Nat.le_refl _, rfl⟩
    obtain ⟨q, eq, h⟩ := h
    cases eq
    have h := P_p h (by rw [i_lit (by omega)]; omega)
    obtain ⟨v5, n5, sl5, SH5, FI5, FL5, FR5, hst, h⟩ := h
    cases g0 with
    | zero => exact hst.elim
    | succ g1 =>
      have stp := cs_step (o := o) hS0 ht.1 hE hb hbl hA h5 (by omega) h3 hv hu
        (fun {F1 L1 v st f1 kk} E1 V1 U1 k0 hc => by
          cases g1 with
          | zero => exact hc.elim
          | succ g3 =>
            have hc : RX9_call (fun a1 a2 a3 a4 n sl SH FI FL FR => QX9 g3 0 a1 a2 a3 a4 0 n sl SH FI FL FR) (fun a1 a2 a3 a4 n sl SH FI FL FR => QX9 g3 1 a1 a2 a3 a4 0 n sl SH FI FL FR) (fun a1 a2 n sl SH FI FL FR => QX9 g3 2 none a2 0 0 a1 n sl SH FI FL FR) kk a4 n sl SH F1 L1 FR v st := hc
            have hc := P_n hc (by rw [show ((0 : Int64)).toInt = 0 by first | decide | (simp; done) | (simp [ms_0]; done)]; omega)
            rw [show ((Int32.ofNat (SH 26).2).toInt64).toInt = 16 by rw [hS0.2 26 (by first | decide | (simp; done) | (simp [ms_0]; done))]; decide +kernel, show ((8 : Int32)).toInt = 8 by first | decide | (simp; done) | (simp [ms_0]; done), h4] at hc
            rcases hc with ⟨q1, hc⟩ | ⟨q1, e1, e⟩
            rotate_left
            · exact Or.inl ⟨Or.inl (by omega), by rw [e1]; (first | decide | (simp; done) | (simp [ms_0]; done)), _, _, _, e, kz_rf⟩
            rcases hc with ⟨q2, hc⟩ | ⟨q2, e1, e⟩
            rotate_left
            · exact Or.inl ⟨Or.inr (by omega), by rw [e1]; (first | decide | (simp; done) | (simp [ms_0]; done)), _, _, _, e, kz_rf⟩
            refine Or.inr ⟨by omega, ?_⟩
            obtain ⟨-, c4, ec4, v4, n4, sl4, SH4, FI4, FL4, FR4, hm, e1, e⟩ := hc
            obtain ⟨r2, x1, x2, x3, x4⟩ := E1.2.2.1 kk.toInt.toNat (by omega)
            have ek : (kk.toInt32).toInt.toNat = kk.toInt.toNat := by rw [l_2i (A := kk.toInt) rfl (by omega) (by omega)]
            rw [ek, x1] at ec4 hm
            cases ec4
            rw [e1, e]
            exact IH g3 (by omega) _ 0 (o + 1) f1 (ms_ex E kk.toInt.toNat) s _ _ _ v4 F1 L1 FR _ ht E1 x4 (by omega) (by omega) (by first | decide | (simp; done) | (simp [ms_0]; done)) (by rw [x2, i_lit (by omega)]; omega) (by rw [i_add h4 (by first | decide | (simp; done) | (simp [ms_0]; done) : ((1 : Int32)).toInt = 1) (by omega) (by omega)]; omega) (by omega) V1 U1 hm)
        (fun {F1 L1 v c st f1} E1 V1 U1 hc ha => c_base hS0 ht E1 V1 U1 h4 ho8 hc ha)
        hst
      rcases stp with ⟨e9, w1, w2, w3, F2, L2, R2, w4, w5⟩ | ⟨w1, F2, L2, R2, s2, f2, T, w4, w5, w6, w7, w8, w9, w10, w11, w12⟩
      · cases w4
        have h := P_n h (by rw [w1]; exact w2)
        have h := P_n h (by rw [w1]; exact w2)
        exact ⟨.inl e9, w3, by rw [h.1]; exact w1, w2, _, _, _, h.2, kz_i w5 (by first | decide | (simp; done) | (simp [ms_0]; done))⟩
      · cases w4
        have h := P_p h w1
        have out : ∀ _ : ¬ (0 ≤ T ∧ T ≤ bs.length), RX9_perform_65 (GX9_perform_6 (fun a1 a2 a3 a4 n sl SH FI FL FR => QX9 (g1 + 1) 0 a1 a2 a3 a4 0 n sl SH FI FL FR) (fun a1 a2 a3 a4 n sl SH FI FL FR => QX9 (g1 + 1) 1 a1 a2 a3 a4 0 n sl SH FI FL FR) (fun a1 a2 n sl SH FI FL FR => QX9 (g1 + 1) 2 none a2 0 0 a1 n sl SH FI FL FR) (some r) a2 a3 a4 g2) (fun a1 a2 a3 a4 n sl SH FI FL FR => QX9 (g1 + 1) 0 a1 a2 a3 a4 0 n sl SH FI FL FR) (fun a1 a2 a3 a4 n sl SH FI FL FR => QX9 (g1 + 1) 1 a1 a2 a3 a4 0 n sl SH FI FL FR) (fun a1 a2 n sl SH FI FL FR => QX9 (g1 + 1) 2 none a2 0 0 a1 n sl SH FI FL FR) (some r) a2 a3 a4 l5 l6 n sl SH FI5 FL5 FR5 v st → ∃ q, ms_R E 0 o bs p f s q ∧ cx n sl SH FI FL FR v st f q := by
          intro hT h
          have h := P_n h (by first | decide | (simp; done) | (simp [ms_0]; done))
          exact ⟨.inl 7, w12 hT, by rw [h.1]; (first | decide | (simp; done) | (simp [ms_0]; done)), by first | decide | (simp; done) | (simp [ms_0]; done), _, _, _, h.2, kz_i w5 (by first | decide | (simp; done) | (simp [ms_0]; done))⟩
        rw [w10, h2, h3] at h
        rcases h with ⟨q1, h⟩ | ⟨q1, h⟩
        · exact out (by omega) h
        rcases h with ⟨q2, h⟩ | ⟨q2, h⟩
        · exact out (by omega) h
        have h := P_p h w1
        have hT : 0 ≤ T ∧ T ≤ bs.length := by omega
        obtain ⟨q, y1, y2⟩ := ih T.toNat (k + 1) f2 s2 (FI5 48 11) (l6 + (1 : Int32)) v FI5 FL5 FR5 st (by rw [w10]; omega) (by omega) (by rw [i_add h6 (by first | decide | (simp; done) | (simp [ms_0]; done) : ((1 : Int32)).toInt = 1) (by omega) (by omega)]; omega) (by omega) (th_kI ht w5) (cE_k hE hr w5) (bk_fr hb (kz_rows w5 hr r hb.1)) w6 w7 h
        exact ⟨q, w11 hT q y1, cx_tr w5 (by omega) w9 y2⟩
theorem c_run (hS0 : h_S n SH) : ∀ (g r A o f : Nat) (bs : List Int32) (s : ms_S) (a2 a3 a4 v : Int32) (FI : Nat → Nat → Int32) (FL : Nat → Nat → Int64) (FR : Nat → Nat → Option Nat) (st : hS), (fun R => th R ∧ thI R) FR → cE FI FL FR SH E → bk FI SH r A bs → bs.length ≤ 100000 → A ≤ 100000 → a2.toInt = A → a3.toInt = ((A + bs.length : Nat) : Int) → a4.toInt = o → o ≤ 8 → cv FI FL FR SH s → cu FI f → QX9 g 0 (some r) a2 a3 a4 0 n sl SH FI FL FR v st → ∃ q, ms_R E 0 o bs 0 f s q ∧ cx n sl SH FI FL FR v st f q := by
  intro g
  induction g using Nat.strongRecOn with
  | ind g IH =>
    intro r A o f bs s a2 a3 a4 v FI FL FR st ht hE hb hbl hA h2 h3 h4 ho hv hu h
    cases g with
    | zero => exact h.elim
    | succ g =>
      obtain ⟨g2, h⟩ := h
      have u := hu
      exact c_loop hS0 hbl hA h2 h3 h4 ho (fun g3 hg3 => IH g3 (by omega)) g2 0 0 f s a2 0 v FI FL FR st (by rw [h2]; omega) (by omega) (by first | decide | (simp; done) | (simp [ms_0]; done)) (by unfold cu at u; omega) ht hE hb hv hu h
end CR
end
section
/-! THE CLASS'S RESULTS. -/
/-- a Result in cell c: its things in t, its parts at b and behind -/
def tx (FR : Nat → Nat → Option Nat) (c t b : Nat) : Prop := FR c 0 = some t ∧ ∀ i, i < 16 → FR t i = some (b + i)
theorem tx_1 {FR : Nat → Nat → Option Nat} (h : h_FR FR) : tx FR 1 2 3 := by
  refine ⟨h (1, 0, 2) (by decide +kernel), fun i hi => ?_⟩
  have key : ∀ i : Nat, i < 16 → (2, i, 3 + i) ∈ hf_L := by decide +kernel
  exact h (2, i, 3 + i) (key i hi)
def crx (FI : Nat → Nat → Int32) (FL : Nat → Nat → Int64) (FR : Nat → Nat → Option Nat) (SH : Nat → Nat × Nat) (c b : Nat) (Q : ms_Q) : Prop := (Q.1 = false → (FI c 1).toInt = 0) ∧ (Q.1 = true → (FI c 1).toInt = Q.2.length) ∧ (1 ≤ Q.2.length ∧ Q.2.length ≤ 16) ∧ (Q.1 = false → Q.2.length = 1) ∧ lv (fun i p => cq FI FL FR SH (b + i) p) Q.2
/-- the desk's own result alone has changed -/
def k1 (FI : Nat → Nat → Int32) (FL : Nat → Nat → Int64) (FR : Nat → Nat → Option Nat) (F2 : Nat → Nat → Int32) (L2 : Nat → Nat → Int64) (R2 : Nat → Nat → Option Nat) : Prop := (∀ c, (c = 0 ∨ c = 2 ∨ 18 < c) → F2 c = FI c ∧ L2 c = FL c ∧ R2 c = FR c) ∧ R2 1 = FR 1
theorem lx_i {α : Type} {L : List α} {i : Nat} (h : i < L.length) : ∃ b, L[i]? = some b := ⟨_, List.getElem?_eq_getElem h⟩
section CRX
variable {n sl : Nat} {SH : Nat → Nat × Nat} {FI F2 F3 : Nat → Nat → Int32} {FL L2 L3 : Nat → Nat → Int64} {FR R2 R3 : Nat → Nat → Option Nat} {v : Int32} {u : Unit} {st : hS} {E : ms_E} {Q : ms_Q} {c b : Nat}
theorem k1_rf : k1 FI FL FR FI FL FR := ⟨fun _ _ => ⟨rfl, rfl, rfl⟩, rfl⟩
theorem k1_tr (h : k1 FI FL FR F2 L2 R2) (g : k1 F2 L2 R2 F3 L3 R3) : k1 FI FL FR F3 L3 R3 := ⟨fun c hc => ⟨(g.1 c hc).1.trans (h.1 c hc).1, (g.1 c hc).2.1.trans (h.1 c hc).2.1, (g.1 c hc).2.2.trans (h.1 c hc).2.2⟩, g.2.trans h.2⟩
theorem crx_n (h : crx FI FL FR SH c b Q) : (fX8_count c SH FI FL FR).toInt = Q.2.length := by
  obtain ⟨h1, h2, h3, h4, -⟩ := h
  unfold fX8_count
  cases hq : Q.1 with
  | false =>
    rw [if_pos (h1 hq), h4 hq]
    decide
  | true =>
    have e := h2 hq
    rw [if_neg (by omega)]
    exact e
theorem crx_fr (h : crx FI FL FR SH c b Q) (e0 : ∀ r, rw0 SH r → F2 r = FI r) (e1 : F2 c = FI c) (e2 : ∀ i, i < 16 → F2 (b + i) = FI (b + i) ∧ L2 (b + i) = FL (b + i) ∧ R2 (b + i) = FR (b + i)) : crx F2 L2 R2 SH c b Q := by
  obtain ⟨h1, h2, h3, h4, h5⟩ := h
  exact ⟨by rw [e1]; exact h1, by rw [e1]; exact h2, h3, h4, lv_mono (fun i p hi _ hp => cq_fr hp e0 (e2 i (by omega)).1 (e2 i (by omega)).2.1 (e2 i (by omega)).2.2) h5⟩
/-- a Part takes what another has -/
theorem c_tk {q s0 : Nat} {p : ms_P} (hr : ∀ r, rw0 SH r → r ≠ q) (hq : q ≠ s0) (hc : cq FI FL FR SH s0 p) (h : RX5_take q (some s0) n sl SH FI FL FR u st) : ∃ F2 L2 R2, st = (n, sl, SH, F2, L2, R2) ∧ (∀ r, r ≠ q → F2 r = FI r ∧ L2 r = FL r ∧ R2 r = FR r) ∧ cq F2 L2 R2 SH q p := by
  obtain ⟨c1, e1, c2, e2, c3, e3, c4, e4, c5, e5, c6, e6, -, e⟩ := h
  cases e1; cases e2; cases e3; cases e4; cases e5; cases e6
  have a1 : (h_up FI q 0 (FI s0 0)) s0 = FI s0 := h_up_nc (Ne.symm hq)
  have a2 : (h_up (h_up FI q 0 (FI s0 0)) q 2 ((h_up FI q 0 (FI s0 0)) s0 2)) s0 = FI s0 := by rw [h_up_nc (Ne.symm hq), a1]
  have a3 : (h_up (h_up (h_up FI q 0 (FI s0 0)) q 2 ((h_up FI q 0 (FI s0 0)) s0 2)) q 3 ((h_up (h_up FI q 0 (FI s0 0)) q 2 ((h_up FI q 0 (FI s0 0)) s0 2)) s0 3)) s0 = FI s0 := by rw [h_up_nc (Ne.symm hq), a2]
  rw [a3, a2, a1] at e
  refine ⟨_, _, _, e, fun r h1 => ⟨by rw [h_up_nc h1, h_up_nc h1, h_up_nc h1, h_up_nc h1], h_up_nc h1, h_up_nc h1⟩, ct_cp hc.1 (fun r h1 => ?_) ?_ h_up_eq h_up_eq h_up_eq, ?_, ?_, hc.2.2.2⟩
  · have h9 := hr r h1
    rw [h_up_nc h9, h_up_nc h9, h_up_nc h9, h_up_nc h9]
  · rw [h_up_ne (by first | decide | (simp; done) | (simp [ms_0]; done)), h_up_ne (by first | decide | (simp; done) | (simp [ms_0]; done)), h_up_ne (by first | decide | (simp; done) | (simp [ms_0]; done)), h_up_eq]
  · rw [h_up_ne (by first | decide | (simp; done) | (simp [ms_0]; done)), h_up_ne (by first | decide | (simp; done) | (simp [ms_0]; done)), h_up_eq]
    exact hc.2.1
  · rw [h_up_ne (by first | decide | (simp; done) | (simp [ms_0]; done)), h_up_eq]
    exact hc.2.2.1
end CRX
section CRT
variable {n sl : Nat} {SH : Nat → Nat × Nat} {u : Unit} {st : hS} {E : ms_E} {Q : ms_Q}
theorem c_rt18 {s t b : Nat} (hs : 48 ≤ s ∧ 48 ≤ t ∧ 48 ≤ b) (h16 : (SH 2).2 = 16) : ∀ (g i : Nat) (l2 : Int32) (FI : Nat → Nat → Int32) (FL : Nat → Nat → Int64) (FR : Nat → Nat → Option Nat), l2.toInt = i → i ≤ Q.2.length → tx FR 1 2 3 → tx FR s t b → crx FI FL FR SH s b Q → (∀ j p, j < i → Q.2[Q.2.length - 1 - j]? = some p → cq FI FL FR SH (3 + j) p) → GX8_take_18 1 (some s) g l2 n sl SH FI FL FR u st → ∃ F2 L2 R2, st = (n, sl, SH, F2, L2, R2) ∧ k1 FI FL FR F2 L2 R2 ∧ F2 1 = FI 1 ∧ lv (fun i p => cq F2 L2 R2 SH (3 + i) p) Q.2 := by
  intro g
  induction g with
  | zero => intro i l2 FI FL FR _ _ _ _ _ _ h; exact h.elim
  | succ g ih =>
    intro i l2 FI FL FR hi hil t1 t2 hQ hd h
    have hn := crx_n hQ
    have h16' := hQ.2.2.1
    obtain ⟨c1, ec1, v1, n1, sl1, SH1, FI1, FL1, FR1, ⟨ev, es⟩, h⟩ := h
    cases ec1
    cases es
    rw [ev, hn] at h
    rcases h with ⟨h0, h⟩ | ⟨h0, -, e⟩
    · rw [hi] at h0
      obtain ⟨c4, ec4, h⟩ := h
      rw [t1.1] at ec4
      cases ec4
      have h := P_p h (by rw [hi, h16]; show (i : Int) < ((16 : Int32)).toInt; rw [show ((16 : Int32)).toInt = 16 by first | decide | (simp; done) | (simp [ms_0]; done)]; omega)
      obtain ⟨c6, ec6, -, c7, ec7, c8, ec8, -, c9, ec9, u9, n9, sl9, SH9, FI9, FL9, FR9, htk, h⟩ := h
      rw [t1.1] at ec6
      cases ec6
      cases ec7
      rw [t2.1] at ec8
      cases ec8
      have el : l2.toInt.toNat = i := by omega
      rw [el, t1.2 i (by omega)] at ec9
      cases ec9
      rw [el, t2.2 i (by omega)] at htk
      obtain ⟨p, hp0⟩ := lx_i (L := Q.2) (i := Q.2.length - 1 - i) (by omega)
      have hc := lv_get hQ.2.2.2.2 hp0
      (try dsimp only at hc)
      rw [show Q.2.length - 1 - (Q.2.length - 1 - i) = i by omega] at hc
      obtain ⟨F2, L2, R2, e2, f2, q2⟩ := c_tk (q := 3 + i) (s0 := b + i) (fun r hr => by have := hr.2; omega) (by omega) hc htk
      cases e2
      have e0 : ∀ r, rw0 SH r → FI9 r = FI r := fun r hr => (f2 r (by have := hr.2; omega)).1
      have kk : k1 FI FL FR FI9 FL9 FR9 := ⟨fun c hc => f2 c (by omega), (f2 1 (by omega)).2.2⟩
      obtain ⟨F3, L3, R3, e3, k3, j3, l3⟩ := ih (i + 1) _ FI9 FL9 FR9 (by rw [i_add hi (by first | decide | (simp; done) | (simp [ms_0]; done) : ((1 : Int32)).toInt = 1) (by omega) (by omega)]; omega) (by omega) (by unfold tx; rw [(f2 1 (by omega)).2.2, (f2 2 (by omega)).2.2]; exact t1) (by unfold tx; rw [(f2 s (by omega)).2.2, (f2 t (by omega)).2.2]; exact t2) (crx_fr hQ e0 (f2 s (by omega)).1 (fun j hj => f2 (b + j) (by omega))) (fun j p9 hj hp => by
        by_cases ej : j = i
        · subst ej
          rw [hp0] at hp
          cases hp
          exact q2
        · exact cq_fr (hd j p9 (by omega) hp) e0 (f2 (3 + j) (by omega)).1 (f2 (3 + j) (by omega)).2.1 (f2 (3 + j) (by omega)).2.2) h
      exact ⟨F3, L3, R3, e3, k1_tr kk k3, by rw [j3, (f2 1 (by omega)).1], l3⟩
    · rw [hi] at h0
      refine ⟨_, _, _, e, k1_rf, rfl, lv_of (fun k x hx => ?_)⟩
      have hk := (List.getElem?_eq_some_iff.mp hx).1
      exact hd (Q.2.length - 1 - k) x (by omega) (by rw [show Q.2.length - 1 - (Q.2.length - 1 - k) = k by omega]; exact hx)
variable {FI : Nat → Nat → Int32} {FL : Nat → Nat → Int64} {FR : Nat → Nat → Option Nat} {v : Int32}
theorem c_rt {s t b : Nat} (hS : h_S n SH) (hs : 48 ≤ s ∧ 48 ≤ t ∧ 48 ≤ b) (t1 : tx FR 1 2 3) (t2 : tx FR s t b) (hQ : crx FI FL FR SH s b Q) (h : RX8_take 1 (some s) n sl SH FI FL FR u st) : ∃ F2 L2 R2, st = (n, sl, SH, F2, L2, R2) ∧ k1 FI FL FR F2 L2 R2 ∧ crx F2 L2 R2 SH 1 3 Q := by
  obtain ⟨c1, e1, c3, e3, g, h⟩ := h
  cases e1
  cases e3
  have ef : ∀ c, c ≠ 1 → (h_up (h_up FI 1 1 (FI s 1)) 1 2 ((h_up FI 1 1 (FI s 1)) s 2)) c = FI c := fun c hc => by rw [h_up_nc hc, h_up_nc hc]
  have e11 : (h_up (h_up FI 1 1 (FI s 1)) 1 2 ((h_up FI 1 1 (FI s 1)) s 2)) 1 1 = FI s 1 := by rw [h_up_ne (by first | decide | (simp; done) | (simp [ms_0]; done)), h_up_eq]
  generalize h_up (h_up FI 1 1 (FI s 1)) 1 2 ((h_up FI 1 1 (FI s 1)) s 2) = FB at h ef e11
  have hQB : crx FB FL FR SH s b Q := crx_fr hQ (fun r hr => ef r (by have := hr.2; omega)) (ef s (by omega)) (fun i _ => ⟨ef (b + i) (by omega), rfl, rfl⟩)
  obtain ⟨F2, L2, R2, z1, z2, z3, z4⟩ := c_rt18 hs (by rw [hS.2 2 (by first | decide | (simp; done) | (simp [ms_0]; done))]; decide +kernel) g 0 _ FB FL FR (by first | decide | (simp; done) | (simp [ms_0]; done)) (by omega) t1 t2 hQB (fun j p hj => by omega) h
  refine ⟨F2, L2, R2, z1, ⟨fun c hc => ⟨by rw [(z2.1 c hc).1, ef c (by omega)], (z2.1 c hc).2⟩, z2.2⟩, fun e => ?_, fun e => ?_, hQ.2.2.1, hQ.2.2.2.1, z4⟩
  · rw [z3, e11]; exact hQ.1 e
  · rw [z3, e11]; exact hQ.2.1 e
/-- the desk's result becomes empty -/
theorem c_clear (hS : h_S n SH) (t1 : tx FR 1 2 3) (h : RX8_clear 1 n sl SH FI FL FR u st) : ∃ F2 L2, st = (n, sl, SH, F2, L2, FR) ∧ k1 FI FL FR F2 L2 FR ∧ crx F2 L2 FR SH 1 3 (false, [(ms_0, 0, 0)]) := by
  obtain ⟨v2, n3, sl3, SH3, FI3, FL3, FR3, ⟨c1, ec1, -, ev, e3⟩, c4, ec4, u5, n5, sl5, SH5, FI5, FL5, FR5, ⟨-, e5⟩, -, e2⟩ := h
  cases e3
  rw [t1.1] at ec1
  cases ec1
  rw [ev, t1.2 0 (by first | decide | (simp; done) | (simp [ms_0]; done))] at ec4
  cases ec4
  cases e5
  refine ⟨_, _, e2, ⟨fun c hc => ⟨?_, ?_, rfl⟩, rfl⟩, ⟨fun _ => ?_, fun e => (by cases e), ⟨by first | decide | (simp; done) | (simp [ms_0]; done), by first | decide | (simp; done) | (simp [ms_0]; done)⟩, fun _ => rfl, ⟨⟨?_, ?_, Or.inl ⟨rfl, rfl⟩, fun e => absurd e (by first | decide | (simp; done) | (simp [ms_0]; done))⟩, ?_, ?_, by first | decide | (simp; done) | (simp [ms_0]; done), by first | decide | (simp; done) | (simp [ms_0]; done), by first | decide | (simp; done) | (simp [ms_0]; done), by first | decide | (simp; done) | (simp [ms_0]; done)⟩, trivial⟩⟩
  · rw [h_up_nc (by omega), h_up_nc (by omega), h_up_nc (by omega), h_up_nc (by omega), h_up_nc (by omega)]
  · rw [h_up_nc (by omega)]
  · rw [h_up_nc (by first | decide | (simp; done) | (simp [ms_0]; done)), h_up_nc (by first | decide | (simp; done) | (simp [ms_0]; done)), h_up_nc (by first | decide | (simp; done) | (simp [ms_0]; done)), h_up_ne (by first | decide | (simp; done) | (simp [ms_0]; done)), h_up_eq]; (first | decide | (simp; done) | (simp [ms_0]; done))
  · show Int32.toInt (h_up (h_up (h_up _ (3 + 0) 0 _) (3 + 0) 2 _) (3 + 0) 3 _ (3 + 0) 0) = 0
    rw [h_up_ne (by first | decide | (simp; done) | (simp [ms_0]; done)), h_up_ne (by first | decide | (simp; done) | (simp [ms_0]; done)), h_up_eq]; (first | decide | (simp; done) | (simp [ms_0]; done))
  · show h_up FL (3 + 0) 1 _ (3 + 0) 1 = 0
    rw [h_up_eq]
  · show Int32.toInt (h_up (h_up (h_up _ (3 + 0) 0 _) (3 + 0) 2 _) (3 + 0) 3 _ (3 + 0) 2) = 0
    rw [h_up_ne (by first | decide | (simp; done) | (simp [ms_0]; done)), h_up_eq]; (first | decide | (simp; done) | (simp [ms_0]; done))
  · show Int32.toInt (h_up (h_up (h_up _ (3 + 0) 0 _) (3 + 0) 2 _) (3 + 0) 3 _ (3 + 0) 3) = 0
    rw [h_up_eq]; (first | decide | (simp; done) | (simp [ms_0]; done))
/-- a run from its beginning -/
theorem c_start {r A f : Nat} {bs : List Int32} {a2 a3 a4 : Int32} (hS : h_S n SH) (ht : th FR ∧ thI FR) (hE : cE FI FL FR SH E) (hb : bk FI SH r A bs) (hbl : bs.length ≤ 100000) (hA : A ≤ 100000) (h2 : a2.toInt = A) (h3 : a3.toInt = ((A + bs.length : Nat) : Int)) (h4 : a4.toInt = f) (hf : f ≤ 1000) (h : RX9_start (some r) a2 a3 a4 n sl SH FI FL FR v st) : (∀ e, ms_R E 0 0 bs 0 f ([], ms_0, []) (.inl e) → e ≠ 0) ∧ ∃ a, ms_G E bs f a ∧ ∃ F2 L2 R2, st = (n, sl, SH, F2, L2, R2) ∧ kz FI FL FR F2 L2 R2 ∧ ((∃ e, a = .inl e ∧ v.toInt = e ∧ e ≠ 0) ∨ (∃ Q, a = .inr Q ∧ v.toInt = 0 ∧ crx F2 L2 R2 SH 72 74 Q)) := by
  have hr := rg_of hS
  obtain ⟨u0, n0, sl0, SH0, FI0, FL0, FR0, hrs, v1, n1, sl1, SH1, FI1, FL1, FR1, ⟨g, hpf⟩, h⟩ := h
  obtain ⟨F0, L0, e0, k0, cv0, cu0⟩ := c_reset (f := f) hS ht.1 (by rw [h4, show ((0 : Int32)).toInt = 0 by first | decide | (simp; done) | (simp [ms_0]; done)]; omega) (by first | decide | (simp; done) | (simp [ms_0]; done)) (by rw [h4]; omega) hrs
  cases e0
  obtain ⟨q, hq, hx⟩ := c_run hS g r A 0 f bs ([], ms_0, []) a2 a3 _ v1 FI0 FL0 FR _ ht (cE_k hE hr k0) (bk_fr hb (kz_rows k0 hr r hb.1)) hbl hA h2 h3 (by first | decide | (simp; done) | (simp [ms_0]; done)) (by first | decide | (simp; done) | (simp [ms_0]; done)) cv0 cu0 hpf
  match q, hq, hx with
  | .inl e9, hq, ⟨w1, w2, F2, L2, R2, w4, w5⟩ =>
    cases w4
    refine ⟨fun e he => ?_, .inl e9, ⟨_, hq, rfl⟩, ?_⟩
    · have := ms_R_u he hq
      cases this
      exact w2
    · have h := P_n h (by rw [w1]; exact w2)
      exact ⟨_, _, _, h.2, kz_tr k0 w5, Or.inl ⟨e9, rfl, by rw [h.1]; exact w1, w2⟩⟩
  | .inr y, hq, ⟨w1, F2, L2, R2, w4, w5, w6, w7, w8, w9⟩ =>
    cases w4
    refine ⟨fun e he => ?_, ms_fin y.2, ⟨_, hq, rfl⟩, ?_⟩
    · have := ms_R_u he hq
      cases this
    have h := P_p h w1
    obtain ⟨v3, n3, sl3, SH3, FI3, FL3, FR3, hse, e1, e⟩ := h
    obtain ⟨F4, L4, R4, y1, y2, y3, y4⟩ := c_settle hS (th_k (th_k ht.1 k0) w5) w6 hse
    cases y1
    have kk : kz FI FL FR (h_up FI3 48 9 (a3 - a2)) FL3 FR3 := kz_i (kz_tr k0 (kz_tr w5 y2)) (by first | decide | (simp; done) | (simp [ms_0]; done))
    have rows : ∀ r, rw0 SH r → (h_up FI3 48 9 (a3 - a2)) r = FI3 r := fun r hr => h_up_nc (by have := hr.2; omega)
    refine ⟨_, _, _, e, kk, ?_⟩
    rcases y4 with ⟨m1, m2, m3⟩ | ⟨m1, m2, m3, m4, m5, m6⟩ | ⟨m1, m2, m3, m4⟩
    · refine Or.inl ⟨13, ?_, by rw [e1]; exact m3, by first | decide | (simp; done) | (simp [ms_0]; done)⟩
      unfold ms_fin
      rw [if_pos m1, if_pos m2]
    · refine Or.inr ⟨(true, y.2.2.2), ?_, by rw [e1]; exact m3, crx_fr (FI := FI3) (FL := FL3) (FR := FR3) ?_ rows (h_up_nc (by first | decide | (simp; done) | (simp [ms_0]; done))) (fun i hi => ⟨h_up_nc (by omega), rfl, rfl⟩)⟩
      · unfold ms_fin
        rw [if_pos m1, if_neg m2]
      · subst m4; subst m5; subst m6
        obtain ⟨v1', v2', v3', v4', v5', v6', v7', v8', v9', v10'⟩ := w6
        refine ⟨fun e => (by cases e), fun _ => v5', ⟨?_, v6'⟩, fun e => (by cases e), v10'⟩
        cases hy : y.2.2.2 with
        | nil => exact absurd hy m1
        | cons a9 r9 => show 1 ≤ (a9 :: r9).length; rw [List.length_cons]; omega
    · refine Or.inr ⟨(false, [(ms_tg y.2, 0, 0)]), ?_, by rw [e1]; exact m2, crx_fr (FI := FI3) (FL := FL3) (FR := FR3) ?_ rows (h_up_nc (by first | decide | (simp; done) | (simp [ms_0]; done))) (fun i hi => ⟨h_up_nc (by omega), rfl, rfl⟩)⟩
      · unfold ms_fin
        rw [if_neg (fun e => e m1)]
      · exact ⟨fun _ => m3, fun e => (by cases e), ⟨by first | decide | (simp; done) | (simp [ms_0]; done), by first | decide | (simp; done) | (simp [ms_0]; done)⟩, fun _ => rfl, m4, trivial⟩
end CRT
end
section
/-! THE CLASS'S RUNS AND SEARCHES, for the desk. -/
/-- what runs leave alone -/
def kc (FI : Nat → Nat → Int32) (FL : Nat → Nat → Int64) (FR : Nat → Nat → Option Nat) (F2 : Nat → Nat → Int32) (L2 : Nat → Nat → Int64) (R2 : Nat → Nat → Option Nat) : Prop := ∀ c, (c = 0 ∨ c = 2 ∨ (18 < c ∧ c < 48 ∧ c ≠ 21) ∨ 109 < c) → F2 c = FI c ∧ L2 c = FL c ∧ R2 c = FR c
/-- an answer, in the class -/
def cz (F : Nat → Nat → Int32) (L : Nat → Nat → Int64) (R : Nat → Nat → Option Nat) (SH : Nat → Nat × Nat) (Q0 : ms_Q) (v : Int32) : Int ⊕ ms_Q → Prop
  | .inl e => v.toInt = e ∧ e ≠ 0 ∧ crx F L R SH 1 3 Q0
  | .inr Q => v.toInt = 0 ∧ crx F L R SH 1 3 Q
section CZ
variable {n sl : Nat} {SH : Nat → Nat × Nat} {FI F2 F3 : Nat → Nat → Int32} {FL L2 L3 : Nat → Nat → Int64} {FR R2 R3 : Nat → Nat → Option Nat} {v : Int32} {u : Unit} {st : hS} {E : ms_E} {Q0 : ms_Q}
theorem kc_rf : kc FI FL FR FI FL FR := fun _ _ => ⟨rfl, rfl, rfl⟩
theorem kc_tr (h : kc FI FL FR F2 L2 R2) (g : kc F2 L2 R2 F3 L3 R3) : kc FI FL FR F3 L3 R3 := fun c hc => ⟨(g c hc).1.trans (h c hc).1, (g c hc).2.1.trans (h c hc).2.1, (g c hc).2.2.trans (h c hc).2.2⟩
theorem kc_kz (h : kz FI FL FR F2 L2 R2) : kc FI FL FR F2 L2 R2 := fun c hc => h.1 c (by omega)
theorem kc_k1 (h : k1 FI FL FR F2 L2 R2) : kc FI FL FR F2 L2 R2 := fun c hc => h.1 c (by omega)
theorem kc_21 (h : ∀ c, c ≠ 21 → F2 c = FI c) : kc FI FL FR F2 FL FR := fun c hc => ⟨h c (by omega), rfl, rfl⟩
theorem c_tell {a1 a2 a3 a4 : Int32} (h : RX11_tell a1 a2 a3 a4 n sl SH FI FL FR u st) : ∃ F2, st = (n, sl, SH, F2, FL, FR) ∧ ∀ c, c ≠ 21 → F2 c = FI c := by
  obtain ⟨-, h⟩ := h
  rcases h with ⟨-, -, -, -, -, e⟩ | ⟨-, -, -, -, -, e⟩
  · exact ⟨_, e, fun c hc => by rw [h_up_nc hc, h_up_nc hc, h_up_nc hc, h_up_nc hc]⟩
  · exact ⟨_, e, fun c hc => by rw [h_up_nc hc, h_up_nc hc, h_up_nc hc, h_up_nc hc]⟩
theorem crx_21 {Q : ms_Q} (hQ : crx FI FL FR SH 1 3 Q) (h : ∀ c, c ≠ 21 → F2 c = FI c) : crx F2 FL FR SH 1 3 Q := crx_fr hQ (fun r hr => h r (by have := hr.2; omega)) (h 1 (by first | decide | (simp; done) | (simp [ms_0]; done))) (fun i hi => ⟨h (3 + i) (by omega), rfl, rfl⟩)
theorem c_rb {r A f : Nat} {bs : List Int32} {a2 a3 a4 : Int32} (hS : h_S n SH) (ht : th FR ∧ thI FR) (t1 : tx FR 1 2 3) (hE : cE FI FL FR SH E) (hb : bk FI SH r A bs) (hbl : bs.length ≤ 100000) (hA : A ≤ 100000) (h2 : a2.toInt = A) (h3 : a3.toInt = ((A + bs.length : Nat) : Int)) (h4 : a4.toInt = f) (hf : f ≤ 1000) (hQ : crx FI FL FR SH 1 3 Q0) (h : RX11_runBytes (some r) a2 a3 a4 n sl SH FI FL FR v st) : (∀ e, ms_R E 0 0 bs 0 f ([], ms_0, []) (.inl e) → e ≠ 0) ∧ ∃ a, ms_G E bs f a ∧ ∃ F2 L2 R2, st = (n, sl, SH, F2, L2, R2) ∧ kc FI FL FR F2 L2 R2 ∧ cz F2 L2 R2 SH Q0 v a := by
  have hr := rg_of hS
  obtain ⟨v0, n0, sl0, SH0, FI0, FL0, FR0, hst, h⟩ := h
  obtain ⟨hne, a, hG, F2, L2, R2, e2, k2, hm⟩ := c_start hS ht hE hb hbl hA h2 h3 h4 hf hst
  cases e2
  refine ⟨hne, a, hG, ?_⟩
  have Q2 : crx FI0 FL0 FR0 SH 1 3 Q0 := crx_fr hQ (kz_rows k2 hr) (k2.1 1 (by omega)).1 (fun i hi => k2.1 (3 + i) (by omega))
  rcases hm with ⟨e9, rfl, m1, m2⟩ | ⟨Q, rfl, m1, m2⟩
  · have h := P_n h (by rw [m1]; exact m2)
    obtain ⟨u4, n4, sl4, SH4, FI4, FL4, FR4, htl, e1, e⟩ := h
    obtain ⟨F5, y1, y2⟩ := c_tell htl
    cases y1
    exact ⟨_, _, _, e, kc_tr (kc_kz k2) (kc_21 y2), by rw [e1]; exact m1, m2, crx_21 Q2 y2⟩
  · have h := P_p h m1
    obtain ⟨u3, n3, sl3, SH3, FI3, FL3, FR3, htk, u4, n4, sl4, SH4, FI4, FL4, FR4, htl, e1, e⟩ := h
    obtain ⟨F3, L3, R3, z1, z2, z3⟩ := c_rt hS (by first | decide | (simp; done) | (simp [ms_0]; done)) (by unfold tx; rw [(k2.1 1 (by omega)).2.2, (k2.1 2 (by omega)).2.2]; exact t1) (th_k ht.1 k2) m2 htk
    cases z1
    obtain ⟨F5, y1, y2⟩ := c_tell htl
    cases y1
    exact ⟨_, _, _, e, kc_tr (kc_kz k2) (kc_tr (kc_k1 z2) (kc_21 y2)), by rw [e1]; exact m1, crx_21 z3 y2⟩
theorem j_bw {a b : Int64} : (fX11_isBelow a b SH FI FL FR).toInt = 0 ↔ ¬ ms_bw a b := by
  unfold fX11_isBelow ms_bw
  by_cases h : (a + ((-9223372036854775808 : Int64))).toInt < (b + ((-9223372036854775808 : Int64))).toInt
  · rw [if_pos h]; exact ⟨fun e => absurd e (by first | decide | (simp; done) | (simp [ms_0]; done)), fun e => absurd h e⟩
  · rw [if_neg h]; exact ⟨fun _ => h, fun _ => by first | decide | (simp; done) | (simp [ms_0]; done)⟩
/-- what a search of the class has done -/
def csr (n sl : Nat) (SH : Nat → Nat × Nat) (FI : Nat → Nat → Int32) (FL : Nat → Nat → Int64) (FR : Nat → Nat → Option Nat) (E : ms_E) (Q0 : ms_Q) (f : Nat) (bs : List Int32) (pc B : Int64) (p : Nat) (v : Int32) (st : hS) : Prop := (∀ L, ms_SR bs pc B p (.inr (some L)) → ∀ e, ms_R E 0 0 L 0 f ([], ms_0, []) (.inl e) → e ≠ 0) ∧ ∃ a, ms_F E bs pc B p f a ∧ ∃ F2 L2 R2, st = (n, sl, SH, F2, L2, R2) ∧ kc FI FL FR F2 L2 R2 ∧ cz F2 L2 R2 SH Q0 v a
theorem csr_up {f p p2 : Nat} {bs : List Int32} {pc B B2 : Int64} (up : ∀ r, ms_SR bs pc B2 p2 r → ms_SR bs pc B p r) (h : csr n sl SH FI FL FR E Q0 f bs pc B2 p2 v st) : csr n sl SH FI FL FR E Q0 f bs pc B p v st := by
  obtain ⟨hn, a, ⟨r, r1, r2⟩, z⟩ := h
  refine ⟨fun L hL => hn L ?_, a, ⟨r, up r r1, r2⟩, z⟩
  have := ms_SR_u hL (up r r1)
  rw [this]
  exact r1
theorem csr_1 {f p : Nat} {bs : List Int32} {pc B : Int64} {l9 : Int32} (hs : ms_SR bs pc B p (.inl 1)) (hQ : crx FI FL FR SH 1 3 Q0) (h : P_bi (RX11_endless l9 n sl SH FI FL FR) (fun v5 n5 sl5 SH5 FI5 FL5 FR5 => P_ret v5 (n5, sl5, SH5, FI5, FL5, FR5)) v st) : csr n sl SH FI FL FR E Q0 f bs pc B p v st := by
  obtain ⟨v1, n1, sl1, SH1, FI1, FL1, FR1, ⟨u2, n2, sl2, SH2, FI2, FL2, FR2, htl, e2, e3⟩, e1, e⟩ := h
  obtain ⟨F5, y1, y2⟩ := c_tell htl
  cases y1
  cases e3
  refine ⟨fun L hL => ?_, .inl 1, ⟨.inl 1, hs, rfl⟩, _, _, _, e, kc_21 y2, by rw [e1, e2]; (first | decide | (simp; done) | (simp [ms_0]; done)), by first | decide | (simp; done) | (simp [ms_0]; done), crx_21 hQ y2⟩
  have := ms_SR_u hL hs
  cases this
theorem csr_0 {f p : Nat} {bs : List Int32} {pc B : Int64} (hS : h_S n SH) (t1 : tx FR 1 2 3) (hs : ms_SR bs pc B p (.inr none)) (h : P_bi (RX8_clear 1 n sl SH FI FL FR) (fun _ n1 sl1 SH1 FI1 FL1 FR1 => P_bi (RX11_tell ((0 : Int32)) ((-1 : Int32)) ((0 : Int32)) ((0 : Int32)) n1 sl1 SH1 FI1 FL1 FR1) (fun _ n2 sl2 SH2 FI2 FL2 FR2 => P_ret ((0 : Int32)) (n2, sl2, SH2, FI2, FL2, FR2))) v st) : csr n sl SH FI FL FR E Q0 f bs pc B p v st := by
  obtain ⟨u1, n1, sl1, SH1, FI1, FL1, FR1, hcl, u2, n2, sl2, SH2, FI2, FL2, FR2, htl, e1, e⟩ := h
  obtain ⟨F3, L3, z1, z2, z3⟩ := c_clear hS t1 hcl
  cases z1
  obtain ⟨F5, y1, y2⟩ := c_tell htl
  cases y1
  refine ⟨fun L hL => ?_, .inr (false, [(ms_0, 0, 0)]), ⟨.inr none, hs, rfl⟩, _, _, _, e, kc_tr (kc_k1 z2) (kc_21 y2), by rw [e1]; (first | decide | (simp; done) | (simp [ms_0]; done)), crx_21 z3 y2⟩
  have := ms_SR_u hL hs
  cases this
theorem c_s9 {r f : Nat} {bs : List Int32} {a2 a3 : Int64} {a4 : Int32} (hS0 : h_S n SH) (ht : th FR ∧ thI FR) (t1 : tx FR 1 2 3) (hE : cE FI FL FR SH E) (hb : bk FI SH r 0 bs) (hsz : (SH r).2 = bs.length) (hbl : bs.length ≤ 600) (h4 : a4.toInt = f) (hf : f ≤ 1000) (hQ : crx FI FL FR SH 1 3 Q0) : ∀ (g p k : Nat) (B : Int64) (l9 l10 v : Int32) (st : hS), l9.toInt = p → p ≤ bs.length → l10.toInt = k → 16 * k ≤ p → GX11_search_9 (some r) a2 a3 a4 g B l9 l10 n sl SH FI FL FR v st → csr n sl SH FI FL FR E Q0 f bs a3 B p v st := by
  intro g
  induction g with
  | zero => intro p k B l9 l10 v st _ _ _ _ h; exact h.elim
  | succ g ih =>
    intro p k B l9 l10 v st hp hpl hk hkp h
    have e16 : (l9 + (16 : Int32)).toInt = ((p + 16 : Nat) : Int) := by rw [i_add hp (by first | decide | (simp; done) | (simp [ms_0]; done) : ((16 : Int32)).toInt = 16) (by omega) (by omega)]; omega
    have e18 : (l9 + (18 : Int32)).toInt = ((p + 18 : Nat) : Int) := by rw [i_add hp (by first | decide | (simp; done) | (simp [ms_0]; done) : ((18 : Int32)).toInt = 18) (by omega) (by omega)]; omega
    have e8 : (l9 + (8 : Int32)).toInt = ((0 + (p + 8) : Nat) : Int) := by rw [i_add hp (by first | decide | (simp; done) | (simp [ms_0]; done) : ((8 : Int32)).toInt = 8) (by omega) (by omega)]; omega
    have ek : (l10 + (1 : Int32)).toInt = ((k + 1 : Nat) : Int) := by rw [i_add hk (by first | decide | (simp; done) | (simp [ms_0]; done) : ((1 : Int32)).toInt = 1) (by omega) (by omega)]; omega
    have h := P_n h (by rw [hk, show ((37 : Int32)).toInt = 37 by first | decide | (simp; done) | (simp [ms_0]; done)]; omega)
    obtain ⟨c4, ec4, h⟩ := h
    cases ec4
    have el : (Int32.ofNat (SH r).2 - l9).toInt = (bs.length : Int) - p := by rw [hsz, i_sub (i_lit (by omega)) hp (by omega) (by omega)]
    rcases h with ⟨h0, h⟩ | ⟨h0, h⟩
    · rw [el, show ((16 : Int32)).toInt = 16 by first | decide | (simp; done) | (simp [ms_0]; done)] at h0
      exact csr_1 (sr_a (by omega)) hQ h
    rw [el, show ((16 : Int32)).toInt = 16 by first | decide | (simp; done) | (simp [ms_0]; done)] at h0
    have k0 : ¬ bs.length < p + 16 := by omega
    obtain ⟨v2, n2, sl2, SH2, FI2, FL2, FR2, hn2, v3, n3, sl3, SH3, FI3, FL3, FR3, hn3, h⟩ := h
    obtain ⟨w2, y2⟩ := cn_num (p := p) (k := 8) (bk_0 hb) (by rw [hp]; omega) (by first | decide | (simp; done) | (simp [ms_0]; done)) (by first | decide | (simp; done) | (simp [ms_0]; done)) (by omega) hn2
    cases y2
    obtain ⟨w3, y3⟩ := cn_num (p := p + 8) (k := 8) (bk_0 hb) e8 (by first | decide | (simp; done) | (simp [ms_0]; done)) (by first | decide | (simp; done) | (simp [ms_0]; done)) (by omega) hn3
    cases y3
    have t2 : v2.toInt = (ms_nb bs p 8).toInt := by rw [w2]; rfl
    have t3 : v3.toInt = (ms_nb bs (p + 8) 8).toInt := by rw [w3]; rfl
    have go : ¬ ((ms_nb bs p 8).toInt = 0 ∧ (ms_nb bs (p + 8) 8).toInt = 0) → RX11_search_77 (GX11_search_9 (some r) a2 a3 a4 g) (some r) a2 a3 a4 B l9 l10 (Int32.ofNat (SH r).2 - l9) v2 v3 n sl SH FI FL FR v st → csr n sl SH FI FL FR E Q0 f bs a3 B p v st := by
      intro k1 h
      rw [w2, w3] at h
      rcases h with ⟨q1, h⟩ | ⟨q1, h⟩
      · have q1 : (ms_nb bs p 8).toInt = -1 := q1
        exact csr_up (fun r9 hr9 => sr_c k0 k1 q1 hr9) (ih (p + 16) (k + 1) (ms_nb bs (p + 8) 8) _ _ v st e16 (by omega) ek (by omega) h)
      have q1 : ¬ (ms_nb bs p 8).toInt = -1 := q1
      rcases h with ⟨q2, h⟩ | ⟨q2, h⟩
      · rw [el, show ((18 : Int32)).toInt = 18 by first | decide | (simp; done) | (simp [ms_0]; done)] at q2
        exact csr_1 (sr_d k0 k1 q1 (by omega)) hQ h
      rw [el, show ((18 : Int32)).toInt = 18 by first | decide | (simp; done) | (simp [ms_0]; done)] at q2
      have k2 : ¬ bs.length < p + 18 := by omega
      obtain ⟨v4, n4, sl4, SH4, FI4, FL4, FR4, hn4, h⟩ := h
      obtain ⟨w4, y4⟩ := cn_num (p := p + 16) (k := 2) (bk_0 hb) (by rw [e16]; omega) (by first | decide | (simp; done) | (simp [ms_0]; done)) (by first | decide | (simp; done) | (simp [ms_0]; done)) (by omega) hn4
      cases y4
      have hz := ms_n16 (p := p + 16) (bk_bt hb) (by omega)
      have w4 : v4 = ms_nb bs (p + 16) 2 := w4
      rw [w4] at h
      have ez : ((ms_nb bs (p + 16) 2).toInt32).toInt = (((ms_nb bs (p + 16) 2).toInt.toNat : Nat) : Int) := by rw [l_2i (A := (ms_nb bs (p + 16) 2).toInt) rfl (by omega) (by omega)]; omega
      generalize hzz : (ms_nb bs (p + 16) 2).toInt.toNat = z at ez
      have hz2 : z ≤ 65535 := by omega
      have el18 : (Int32.ofNat (SH r).2 - l9 - (18 : Int32)).toInt = (bs.length : Int) - p - 18 := by rw [i_sub el (by first | decide | (simp; done) | (simp [ms_0]; done) : ((18 : Int32)).toInt = 18) (by omega) (by omega)]
      have e18z : (l9 + (18 : Int32) + (ms_nb bs (p + 16) 2).toInt32).toInt = ((p + 18 + z : Nat) : Int) := by rw [i_add e18 ez (by omega) (by omega)]; omega
      have on : ∀ _ : ¬ (bs.length < p + 18 + z), ¬ (¬ ms_bw a3 (B + ms_nb bs p 8) ∧ ms_bw a3 (B + ms_nb bs (p + 8) 8)) → GX11_search_9 (some r) a2 a3 a4 g B (l9 + (18 : Int32) + (ms_nb bs (p + 16) 2).toInt32) (l10 + (1 : Int32)) n sl SH FI FL FR v st → csr n sl SH FI FL FR E Q0 f bs a3 B p v st := by
        intro k3 k4 h
        exact csr_up (fun r9 hr9 => sr_g k0 k1 q1 k2 (by rw [hzz]; exact k3) k4 (by rw [hzz]; exact hr9)) (ih (p + 18 + z) (k + 1) B _ _ v st e18z (by omega) ek (by omega) h)
      rcases h with ⟨q3, h⟩ | ⟨q3, h⟩
      · rw [el18, ez] at q3
        exact csr_1 (sr_e k0 k1 q1 k2 (by rw [hzz]; omega)) hQ h
      rw [el18, ez] at q3
      have k3 : ¬ bs.length < p + 18 + z := by omega
      rcases h with ⟨q4, h⟩ | ⟨q4, h⟩
      · have q4 := j_bw.mp q4
        rcases h with ⟨q5, h⟩ | ⟨q5, h⟩
        · have q5 := j_bw.mp q5
          exact on k3 (fun e => q5 e.2) h
        · have q5 : ms_bw a3 (B + ms_nb bs (p + 8) 8) := Decidable.not_not.mp (fun e => q5 (j_bw.mpr e))
          obtain ⟨v9, n9, sl9, SH9, FI9, FL9, FR9, hru, e1, e⟩ := h
          have sub := bk_sub (q := p + 18) (k := z) hb (by omega)
          have ln : ((bs.drop (p + 18)).take z).length = z := ms_ln (by omega)
          have hf9 := sr_f k0 k1 q1 k2 (by rw [hzz]; exact k3) q4 q5
          rw [hzz] at hf9
          obtain ⟨hn, a, hG, F2, L2, R2, e2, x, m⟩ := c_rb hS0 ht t1 hE sub (by omega) (by omega) (by rw [e18]; omega) (by rw [e18z, ln]; omega) h4 hf hQ hru
          cases e2
          refine ⟨fun L hL => ?_, a, ⟨_, hf9, hG⟩, _, _, _, e, x, by rw [e1]; exact m⟩
          have := ms_SR_u hL hf9
          cases this
          exact hn
      · have q4 : ms_bw a3 (B + ms_nb bs p 8) := Decidable.not_not.mp (fun e => q4 (j_bw.mpr e))
        exact on k3 (fun e => e.1 q4) h
    rcases h with ⟨q1, h⟩ | ⟨q1, h⟩
    · rcases h with ⟨q2, h⟩ | ⟨q2, h⟩
      · exact csr_0 hS0 t1 (sr_b k0 (by rw [← t2]; exact q1) (by rw [← t3]; exact q2)) h
      · exact go (fun e => q2 (by rw [t3]; exact e.2)) h
    · exact go (fun e => q1 (by rw [t2]; exact e.1)) h
theorem c_search {r f : Nat} {bs : List Int32} {a2 a3 : Int64} {a4 : Int32} (hS : h_S n SH) (ht : th FR ∧ thI FR) (t1 : tx FR 1 2 3) (hE : cE FI FL FR SH E) (hb : bk FI SH r 0 bs) (hsz : (SH r).2 = bs.length) (hbl : bs.length ≤ 600) (h4 : a4.toInt = f) (hf : f ≤ 1000) (hQ : crx FI FL FR SH 1 3 Q0) (h : RX11_search (some r) a2 a3 a4 n sl SH FI FL FR v st) : csr n sl SH FI FL FR E Q0 f bs a3 a2 0 v st := by
  obtain ⟨g, h⟩ := h
  exact c_s9 hS ht t1 hE hb hsz hbl h4 hf hQ g 0 0 a2 _ _ v st (by first | decide | (simp; done) | (simp [ms_0]; done)) (by omega) (by first | decide | (simp; done) | (simp [ms_0]; done)) (by omega) h
end CZ
end
