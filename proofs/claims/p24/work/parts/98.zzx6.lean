/-! THE CLASS'S STEPS AND RUNS. -/
theorem ck_do {E : ms_E} {l o : Nat} {bs : List Int32} {c : Int} {x : ms_O} {s : ms_S} (h : ms_ck c x s ≠ 0) : ms_do E l o bs c x s = .inl (ms_ck c x s) := by
  unfold ms_ck at h ⊢
  unfold ms_do
  by_cases h1 : s.2.1.1 ≠ 0 ∧ ¬ (c = 147 ∨ c = 157 ∨ c = 150 ∨ c = 47 ∨ c = 152 ∨ c = 153)
  · rw [if_pos h1, if_pos h1]
  rw [if_neg h1] at h ⊢
  rw [if_neg h1]
  by_cases h2 : (c = 144 ∨ c = 146) ∧ (x.1.toInt < 0 ∨ 31 < x.1.toInt)
  · rw [if_pos h2, if_pos h2]
  rw [if_neg h2] at h ⊢
  rw [if_neg h2]
  by_cases h3 : c = 148 ∧ (x.1.toInt < 1 ∨ 8 < x.1.toInt)
  · rw [if_pos h3, if_pos h3]
  rw [if_neg h3] at h ⊢
  rw [if_neg h3]
  unfold ms_d2
  by_cases h4 : c = 147 ∨ c = 157
  · rw [if_pos h4]
    cases h5 : ms_pc c x.1 x.2.1 s with
    | none =>
      rw [if_pos ⟨h4, rfl⟩]
    | some s2 =>
      rw [h5] at h
      rw [if_neg (fun e => by cases e.2), wt_p h4] at h
      exact absurd h (by rw [if_neg (by omega)]; simp)
  · rw [if_neg h4]
    have h5 : ¬ ((c = 147 ∨ c = 157) ∧ ms_pc c x.1 x.2.1 s = none) := fun e => h4 e.1
    rw [if_neg h5] at h ⊢
    by_cases h6 : (s.1.length : Int) < ms_wt c x.1
    · rw [if_pos h6, if_pos h6]
    · rw [if_neg h6] at h
      exact absurd rfl h
theorem ck_0 {c : Int} {x : ms_O} {s : ms_S} (h : ms_ck c x s = 0) : ¬ (s.2.1.1 ≠ 0 ∧ ¬ (c = 147 ∨ c = 157 ∨ c = 150 ∨ c = 47 ∨ c = 152 ∨ c = 153)) ∧ ¬ ((c = 144 ∨ c = 146) ∧ (x.1.toInt < 0 ∨ 31 < x.1.toInt)) ∧ ¬ (c = 148 ∧ (x.1.toInt < 1 ∨ 8 < x.1.toInt)) ∧ ¬ ((c = 147 ∨ c = 157) ∧ ms_pc c x.1 x.2.1 s = none) ∧ ¬ ((s.1.length : Int) < ms_wt c x.1) := by
  unfold ms_ck at h
  by_cases h1 : s.2.1.1 ≠ 0 ∧ ¬ (c = 147 ∨ c = 157 ∨ c = 150 ∨ c = 47 ∨ c = 152 ∨ c = 153)
  · rw [if_pos h1] at h; exact absurd h (by first | decide | (simp; done) | (simp [ms_0]; done))
  rw [if_neg h1] at h
  by_cases h2 : (c = 144 ∨ c = 146) ∧ (x.1.toInt < 0 ∨ 31 < x.1.toInt)
  · rw [if_pos h2] at h; exact absurd h (by first | decide | (simp; done) | (simp [ms_0]; done))
  rw [if_neg h2] at h
  by_cases h3 : c = 148 ∧ (x.1.toInt < 1 ∨ 8 < x.1.toInt)
  · rw [if_pos h3] at h; exact absurd h (by first | decide | (simp; done) | (simp [ms_0]; done))
  rw [if_neg h3] at h
  by_cases h4 : (c = 147 ∨ c = 157) ∧ ms_pc c x.1 x.2.1 s = none
  · rw [if_pos h4] at h; exact absurd h (by first | decide | (simp; done) | (simp [ms_0]; done))
  rw [if_neg h4] at h
  by_cases h6 : (s.1.length : Int) < ms_wt c x.1
  · rw [if_pos h6] at h; exact absurd h (by first | decide | (simp; done) | (simp [ms_0]; done))
  exact ⟨h1, h2, h3, h4, h6⟩
theorem ms_one_i {E : ms_E} {l o p : Nat} {bs : List Int32} {s : ms_S} {b : Int32} {x : ms_O} (hb : bs[p]? = some b) (hx : ms_op b.toInt bs (p + 1) = .inr x) : ms_one E l o bs p s = ms_do E l o bs b.toInt x s := by
  unfold ms_one
  rw [hb]
  (try dsimp only)
  rw [hx]
theorem ms_one_e {E : ms_E} {l o p : Nat} {bs : List Int32} {s : ms_S} {b : Int32} {e : Int} (hb : bs[p]? = some b) (hx : ms_op b.toInt bs (p + 1) = .inl e) : ms_one E l o bs p s = .inl e := by
  unfold ms_one
  rw [hb]
  (try dsimp only)
  rw [hx]
theorem do_2 {E : ms_E} {l o : Nat} {bs : List Int32} {c : Int} {x : ms_O} {s : ms_S} (h : ms_ck c x s = 0) : ms_do E l o bs c x s = ms_d2 E l o bs c x s := by
  obtain ⟨h1, h2, h3, -, -⟩ := ck_0 h
  unfold ms_do
  rw [if_neg h1, if_neg h2, if_neg h3]
theorem do_3 {E : ms_E} {l o : Nat} {bs : List Int32} {c : Int} {x : ms_O} {s : ms_S} (h : ms_ck c x s = 0) (hc : ¬ (c = 147 ∨ c = 157)) : ms_do E l o bs c x s = ms_d3 E l o bs c x s := by
  rw [do_2 h]
  obtain ⟨-, -, -, -, h5⟩ := ck_0 h
  unfold ms_d2
  rw [if_neg hc, if_neg h5]
section CXI
variable {n sl : Nat} {SH : Nat → Nat × Nat} {FI F1 : Nat → Nat → Int32} {FL L1 : Nat → Nat → Int64} {FR R1 : Nat → Nat → Option Nat} {r A p o f : Nat} {bs : List Int32} {a2 a3 a4 v : Int32} {st : hS} {s : ms_S} {E : ms_E}
theorem kzI_fj {K K2 : List Nat} (h : fj 49 K FI F1) (h2 : fj 49 K2 FL L1) : kzI FI FL FR F1 L1 FR := ⟨fun c hc => ⟨fj_row h (by omega), fj_row h2 (by omega), rfl⟩, fun _ _ => rfl⟩
theorem cvI_fj {K K2 : List Nat} (hr : rg SH) (h : fj 49 K FI F1) (h5 : 5 ∉ K) (h2 : fj 49 K2 FL L1) (hv : cvI FI FL FR SH s) : cvI F1 L1 FR SH s := by
  obtain ⟨v1, v2, v3, v4, v5, v6, v7, v8, v9, v10⟩ := hv
  have e0 : ∀ r, rw0 SH r → F1 r = FI r := fun r h1 => fj_row h (by have := hr r h1; omega)
  exact ⟨by rw [fj_at h h5]; exact v1, v2, by rw [fj_row h2 (by first | decide | (simp; done) | (simp [ms_0]; done))]; exact v3, chd_fr v4 e0 (fj_row h (by first | decide | (simp; done) | (simp [ms_0]; done))) (fj_row h2 (by first | decide | (simp; done) | (simp [ms_0]; done))) rfl, by rw [fj_row h (by first | decide | (simp; done) | (simp [ms_0]; done))]; exact v5, v6, by rw [fj_row h (by first | decide | (simp; done) | (simp [ms_0]; done))]; exact v7, v8, v9, lv_mono (fun i q hi _ hq => cq_fr hq e0 (fj_row h (by omega)) (fj_row h2 (by omega)) rfl) v10⟩
/-- a run's answer -/
def cxI (n sl : Nat) (SH : Nat → Nat × Nat) (FI : Nat → Nat → Int32) (FL : Nat → Nat → Int64) (FR : Nat → Nat → Option Nat) (v : Int32) (st : hS) (f : Nat) : Int ⊕ (Nat × ms_S) → Prop
  | .inl e => v.toInt = e ∧ e ≠ 0 ∧ ∃ F2 L2 R2, st = (n, sl, SH, F2, L2, R2) ∧ kzI FI FL FR F2 L2 R2
  | .inr y => v.toInt = 0 ∧ ∃ F2 L2 R2, st = (n, sl, SH, F2, L2, R2) ∧ kzI FI FL FR F2 L2 R2 ∧ cvI F2 L2 R2 SH y.2 ∧ cuI F2 y.1 ∧ y.1 ≤ f ∧ F2 49 6 = FI 49 6
theorem cxI_tr {q : Int ⊕ (Nat × ms_S)} {f2 : Nat} (k : kzI FI FL FR F1 L1 R1) (hf : f2 ≤ f) (e6 : F1 49 6 = FI 49 6) (h : cxI n sl SH F1 L1 R1 v st f2 q) : cxI n sl SH FI FL FR v st f q := by
  match q, h with
  | .inl e, ⟨h1, h2, F2, L2, R2, h3, h4⟩ => exact ⟨h1, h2, F2, L2, R2, h3, kzI_tr k h4⟩
  | .inr y, ⟨h1, F2, L2, R2, h3, h4, h5, h6, h7, h8⟩ => exact ⟨h1, F2, L2, R2, h3, kzI_tr k h4, h5, h6, by omega, h8.trans e6⟩
/-- what FRAME's base has left -/
def bqI (E : ms_E) (n sl : Nat) (SH : Nat → Nat × Nat) (FI : Nat → Nat → Int32) (FL : Nat → Nat → Int64) (FR : Nat → Nat → Option Nat) (v : Int32) (st : hS) (a : Int64) (s : ms_S) (f : Nat) : Int ⊕ (Nat × ms_S) → Prop
  | .inl e => v.toInt = e ∧ e ≠ 0 ∧ ∃ F2 L2 R2, st = (n, sl, SH, F2, L2, R2) ∧ kzI FI FL FR F2 L2 R2
  | .inr y => (∃ e, ms_bs E y.2 = .inl e ∧ v.toInt = e ∧ e ≠ 0 ∧ ∃ F2 L2 R2, st = (n, sl, SH, F2, L2, R2) ∧ kzI FI FL FR F2 L2 R2) ∨ (∃ b, ms_bs E y.2 = .inr b ∧ ((s.1.length = 128 ∧ v.toInt = 4 ∧ ∃ F2 L2 R2, st = (n, sl, SH, F2, L2, R2) ∧ kzI FI FL FR F2 L2 R2) ∨ (s.1.length ≠ 128 ∧ v.toInt = 0 ∧ ∃ F2 L2 R2, st = (n, sl, SH, F2, L2, R2) ∧ kzI FI FL FR F2 L2 R2 ∧ cvI F2 L2 R2 SH ((b + a) :: s.1, s.2) ∧ cuI F2 y.1 ∧ y.1 ≤ f ∧ F2 49 6 = FI 49 6)))
/-- a step's answer -/
def csI (E : ms_E) (A o p : Nat) (bs : List Int32) (n sl : Nat) (SH : Nat → Nat × Nat) (FI : Nat → Nat → Int32) (FL : Nat → Nat → Int64) (FR : Nat → Nat → Option Nat) (v : Int32) (st : hS) (s : ms_S) (f : Nat) : Prop := (∃ e, v.toInt = e ∧ e ≠ 0 ∧ ms_R E 1 o bs p f s (.inl e) ∧ ∃ F2 L2 R2, st = (n, sl, SH, F2, L2, R2) ∧ kzI FI FL FR F2 L2 R2) ∨ (v.toInt = 0 ∧ ∃ F2 L2 R2 s2 f2, ∃ T : Int, st = (n, sl, SH, F2, L2, R2) ∧ kzI FI FL FR F2 L2 R2 ∧ cvI F2 L2 R2 SH s2 ∧ cuI F2 f2 ∧ f2 < f ∧ F2 49 6 = FI 49 6 ∧ (F2 49 11).toInt = (A : Int) + T ∧ ((0 ≤ T ∧ T ≤ bs.length) → ∀ r, ms_R E 1 o bs T.toNat f2 s2 r → ms_R E 1 o bs p f s r) ∧ (¬ (0 ≤ T ∧ T ≤ bs.length) → ms_R E 1 o bs p f s (.inl 7)))
theorem cuI_fr (h : cuI FI f) (e6 : F1 49 6 = FI 49 6) (e7 : F1 49 7 = FI 49 7) : cuI F1 f := by
  unfold cuI
  rw [e6, e7]
  exact h
theorem cs_stepI {MP : Option Nat → Int32 → Int32 → Int32 → Nat → Nat → (Nat → Nat × Nat) → (Nat → Nat → Int32) → (Nat → Nat → Int64) → (Nat → Nat → Option Nat) → Int32 → hS → Prop} {MS : Option Nat → Int32 → Int32 → Int32 → Nat → Nat → (Nat → Nat × Nat) → (Nat → Nat → Int32) → (Nat → Nat → Int64) → (Nat → Nat → Option Nat) → Int32 → hS → Prop} {MC : Int64 → Int32 → Nat → Nat → (Nat → Nat × Nat) → (Nat → Nat → Int32) → (Nat → Nat → Int64) → (Nat → Nat → Option Nat) → Int32 → hS → Prop} (hS0 : h_S n SH) (ht : thI FR) (hE : cE FI FL FR SH E) (hb : bk FI SH r A bs) (hbl : bs.length ≤ 100000) (hA : A ≤ 100000) (h5 : a2.toInt = ((A + p : Nat) : Int)) (hp : p < bs.length) (h3 : a3.toInt = ((A + bs.length : Nat) : Int)) (hv : cvI FI FL FR SH s) (hu : cuI FI f)
    (hMC : ∀ {F1 : Nat → Nat → Int32} {L1 : Nat → Nat → Int64} {v : Int32} {st : hS} {f1 : Nat} {k : Int64}, cE F1 L1 FR SH E → cvI F1 L1 FR SH s → cuI F1 f1 → 0 ≤ k.toInt → MC k a4 n sl SH F1 L1 FR v st → ((15 < k.toInt ∨ o = 8) ∧ v.toInt = 8 ∧ ∃ F2 L2 R2, st = (n, sl, SH, F2, L2, R2) ∧ kzI F1 L1 FR F2 L2 R2) ∨ (¬ (15 < k.toInt ∨ o = 8) ∧ ∃ q, ms_R E 1 (o + 1) (ms_ex E k.toInt.toNat) 0 f1 s q ∧ cxI n sl SH F1 L1 FR v st f1 q))
    (hB : ∀ {F1 : Nat → Nat → Int32} {L1 : Nat → Nat → Int64} {v c : Int32} {st : hS} {f1 : Nat}, cE F1 L1 FR SH E → cvI F1 L1 FR SH s → cuI F1 f1 → c.toInt = 145 → RX9_askI c a4 n sl SH F1 L1 FR v st → ((1 = 1 ∨ ms_fr E = -1) ∧ v.toInt = 11 ∧ ∃ F2 L2 R2, st = (n, sl, SH, F2, L2, R2) ∧ kzI F1 L1 FR F2 L2 R2) ∨ (¬ (1 = 1 ∨ ms_fr E = -1) ∧ ∃ q, ms_R E 1 o (ms_ex E (ms_fr E).toNat) 0 f1 ([], ms_0, []) q ∧ bqI E n sl SH F1 L1 FR v st (L1 49 12) s f1 q))
    (h : RX9_stepI MP MS MC (some r) a2 a3 a4 n sl SH FI FL FR v st) : csI E A o p bs n sl SH FI FL FR v st s f := by
  have hr := rg_of hS0
  have b2 := hb.2.1
  have b3 := hb.2.2.1
  obtain ⟨u1, u2, u3⟩ := hu
  have hrC : r ≠ 49 := by have := hr r hb.1; omega
  obtain ⟨b, hb0⟩ := ms_ex_i (bs := bs) (i := p) hp
  obtain ⟨fb1, fb2, fb3⟩ := hb.2.2.2 p b hb0
  rcases h with ⟨h0, h⟩ | ⟨h0, e1, e⟩
  rotate_left
  · exact Or.inl ⟨12, by rw [e1]; (first | decide | (simp; done) | (simp [ms_0]; done)), by first | decide | (simp; done) | (simp [ms_0]; done), ms_R_12 (by omega) (by omega), _, _, _, e, kzI_rf⟩
  have hf0 : f ≠ 0 := by omega
  obtain ⟨c3, ec3, -, v4, n4, sl4, SH4, FI4, FL4, FR4, hsh, v5, n5, sl5, SH5, FI5, FL5, FR5, hop, h⟩ := h
  cases ec3
  have eb : (h_up FI 49 7 (FI 49 7 + (1 : Int32))) r a2.toInt.toNat = b := by rw [h_up_nc hrC, show a2.toInt.toNat = A + p by omega]; exact fb1
  rw [eb] at hsh h
  obtain ⟨ew, e4⟩ := c_shape fb2 fb3 hsh
  cases e4
  have jA : fj 49 [7, 10] FI (h_up (h_up FI 49 7 (FI 49 7 + (1 : Int32))) 49 10 (a2 + (1 : Int32))) := fj_up (fj_up fj_rf (by first | decide | (simp; done) | (simp [ms_0]; done))) (by first | decide | (simp; done) | (simp [ms_0]; done))
  have hnA : ((h_up (h_up FI 49 7 (FI 49 7 + (1 : Int32))) 49 10 (a2 + (1 : Int32))) 49 10).toInt = ((A + (p + 1) : Nat) : Int) := by
    rw [h_up_eq, i_add h5 (by first | decide | (simp; done) | (simp [ms_0]; done) : ((1 : Int32)).toInt = 1) (by omega) (by omega)]
    omega
  have e7A : ((h_up (h_up FI 49 7 (FI 49 7 + (1 : Int32))) 49 10 (a2 + (1 : Int32))) 49 7).toInt = (FI 49 7).toInt + 1 := by
    rw [h_up_ne (by first | decide | (simp; done) | (simp [ms_0]; done)), h_up_eq]
    exact i_add rfl (by first | decide | (simp; done) | (simp [ms_0]; done)) (by omega) (by omega)
  generalize h_up (h_up FI 49 7 (FI 49 7 + (1 : Int32))) 49 10 (a2 + (1 : Int32)) = FA at hop jA hnA e7A
  obtain ⟨F5, L5, e5, j5, l5, c5⟩ := co_opI (c := b) hrC h3 (bk_fr hb (fj_row jA hrC)) hnA (by omega) ew hop
  cases e5
  have j6 : fj 49 [7, 10] FI FI5 := fj_tr jA (fj_le j5 (by first | decide | (simp; done) | (simp [ms_0]; done)))
  have k6 : kzI FI FL FR FI5 FL5 FR := kzI_fj j6 l5
  have v6 : cvI FI5 FL5 FR SH s := cvI_fj hr j6 (by first | decide | (simp; done) | (simp [ms_0]; done)) l5 hv
  have E6 : cE FI5 FL5 FR SH E := cE_kI hE hr k6
  have u6 : cuI FI5 (f - 1) := by
    refine ⟨?_, ?_, ?_⟩
    · rw [fj_at j6 (by first | decide | (simp; done) | (simp [ms_0]; done)), fj_at j5 (by first | decide | (simp; done) | (simp [ms_0]; done)), e7A]; omega
    · rw [fj_at j5 (by first | decide | (simp; done) | (simp [ms_0]; done)), e7A]; omega
    · rw [fj_at j6 (by first | decide | (simp; done) | (simp [ms_0]; done))]; exact u3
  cases hx : ms_op b.toInt bs (p + 1) with
  | inl e9 =>
    rw [hx] at c5
    obtain ⟨c51, c52⟩ := c5
    have h := P_n h (by rw [c51]; exact c52)
    have h := P_n h (by rw [c51]; exact c52)
    exact Or.inl ⟨e9, by rw [h.1]; exact c51, c52, ms_R_e (by omega) hf0 (ms_one_e hb0 hx), _, _, _, h.2, k6⟩
  | inr x =>
    rw [hx] at c5
    obtain ⟨c51, c52, c53, c54, c55, c56⟩ := c5
    have h := P_p h c51
    have hkn : ms_kn b.toInt = true := by
      cases hk : ms_kn b.toInt with
      | true => rfl
      | false =>
        unfold ms_op at hx
        rw [if_pos hk] at hx
        cases hx
    obtain ⟨v7, n7, sl7, SH7, FI7, FL7, FR7, hck, h⟩ := h
    have s157 : b.toInt = 157 → FL5 49 13 = x.2.1 := fun e => c53 (Or.inr (by rw [e]; (first | decide | (simp; done) | (simp [ms_0]; done))))
    obtain ⟨ck1, ck2⟩ := c_checkI v6 c52 s157 (fun e => by rw [e] at hx; exact md_21 (bk_by hb) hx) hck
    cases ck2
    by_cases hc0 : ms_ck b.toInt x s = 0
    rotate_left
    · have h := P_n h (by rw [ck1]; exact hc0)
      exact Or.inl ⟨ms_ck b.toInt x s, by rw [h.1]; exact ck1, hc0, ms_R_e (by omega) hf0 ((ms_one_i hb0 hx).trans (ck_do hc0)), _, _, _, h.2, k6⟩
    have h := P_p h (by rw [ck1]; exact hc0)
    obtain ⟨q9, q14, q10, q13, q3⟩ := ck_0 hc0
    have hnx : x.2.2.1 ≤ bs.length := c56
    have one : ms_one E 1 o bs p s = ms_do E 1 o bs b.toInt x s := ms_one_i hb0 hx
    -- on behind the operation
    have fin : ∀ {s2 : ms_S} {F2 : Nat → Nat → Int32} {L2 : Nat → Nat → Int64} {R2 : Nat → Nat → Option Nat} {f2 : Nat}, v.toInt = 0 → st = (n, sl, SH, h_up F2 49 11 (FI5 49 10), L2, R2) → kzI FI5 FL5 FR F2 L2 R2 → cvI F2 L2 R2 SH s2 → cuI F2 f2 → f2 < f → F2 49 6 = FI5 49 6 → (∀ q, ms_R E 1 o bs x.2.2.1 f2 s2 q → ms_R E 1 o bs p f s q) → csI E A o p bs n sl SH FI FL FR v st s f := by
      intro s2 F2 L2 R2 f2 g1 g2 g3 g4 g5 g6 g66 g7
      refine Or.inr ⟨g1, _, _, _, s2, f2, (x.2.2.1 : Int), g2, kzI_i (kzI_tr k6 g3) (by first | decide | (simp; done) | (simp [ms_0]; done)), cvI_f g4 hr (by first | decide | (simp; done) | (simp [ms_0]; done)), cuI_fr g5 (h_up_ne (by first | decide | (simp; done) | (simp [ms_0]; done))) (h_up_ne (by first | decide | (simp; done) | (simp [ms_0]; done))), g6, by rw [h_up_ne (by first | decide | (simp; done) | (simp [ms_0]; done)), g66, fj_at j6 (by first | decide | (simp; done) | (simp [ms_0]; done))], ?_, fun _ q hq => g7 q ?_, fun e => absurd ⟨by omega, by omega⟩ e⟩
      · rw [h_up_eq, c55]
        omega
      · rw [Int.toNat_natCast] at hq
        exact hq
    -- jumps
    have jmp : ∀ {s2 : ms_S} {F2 : Nat → Nat → Int32} {L2 : Nat → Nat → Int64} {R2 : Nat → Nat → Option Nat} {y : Int32}, v.toInt = 0 → st = (n, sl, SH, h_up F2 49 11 y, L2, R2) → (b.toInt = 47 ∨ b.toInt = 40) → y = FI5 49 10 + x.1.toInt32 → kzI FI5 FL5 FR F2 L2 R2 → cvI F2 L2 R2 SH s2 → cuI F2 (f - 1) → F2 49 6 = FI5 49 6 → ms_one E 1 o bs p s = ms_jp bs x.2.2.1 x.1 s2 → csI E A o p bs n sl SH FI FL FR v st s f := by
      intro s2 F2 L2 R2 y g1 g2 gj gy g3 g4 g5 g66 g7
      obtain ⟨j1, j2⟩ := md_jp gj hx
      refine Or.inr ⟨g1, _, _, _, s2, f - 1, (x.2.2.1 : Int) + x.1.toInt, g2, kzI_i (kzI_tr k6 g3) (by first | decide | (simp; done) | (simp [ms_0]; done)), cvI_f g4 hr (by first | decide | (simp; done) | (simp [ms_0]; done)), cuI_fr g5 (h_up_ne (by first | decide | (simp; done) | (simp [ms_0]; done))) (h_up_ne (by first | decide | (simp; done) | (simp [ms_0]; done))), by omega, by rw [h_up_ne (by first | decide | (simp; done) | (simp [ms_0]; done)), g66, fj_at j6 (by first | decide | (simp; done) | (simp [ms_0]; done))], ?_, fun e q hq => ?_, fun e => ?_⟩
      · rw [h_up_eq, gy, i_add c55 (l_2i rfl (by omega) (by omega)) (by omega) (by omega)]
        omega
      · refine ms_R_go (x := (((x.2.2.1 : Int) + x.1.toInt).toNat, s2)) (by omega) hf0 ?_ hq
        rw [g7]
        unfold ms_jp
        rw [if_neg (by omega)]
      · refine ms_R_e (by omega) hf0 ?_
        rw [g7]
        unfold ms_jp
        rw [if_pos (by omega)]
    rw [show ((47 : Int32)).toInt = 47 by first | decide | (simp; done) | (simp [ms_0]; done), show ((40 : Int32)).toInt = 40 by first | decide | (simp; done) | (simp [ms_0]; done), show ((152 : Int32)).toInt = 152 by first | decide | (simp; done) | (simp [ms_0]; done), show ((153 : Int32)).toInt = 153 by first | decide | (simp; done) | (simp [ms_0]; done)] at h
    rcases h with ⟨g47, h⟩ | ⟨g47, h⟩
    · have h := P_p h (by rw [show ((47 : Int32)).toInt = 47 by first | decide | (simp; done) | (simp [ms_0]; done)]; exact g47)
      exact jmp (by rw [h.1]; (first | decide | (simp; done) | (simp [ms_0]; done))) h.2 (Or.inl g47) (by rw [c52]) kzI_rf v6 u6 rfl (by rw [one, do_3 hc0 (by omega)]; unfold ms_d3; rw [if_pos g47])
    rcases h with ⟨g40, h⟩ | ⟨g40, h⟩
    · have h := P_n h (by rw [show ((47 : Int32)).toInt = 47 by first | decide | (simp; done) | (simp [ms_0]; done)]; exact g47)
      rw [wt_1 (by omega)] at q3
      obtain ⟨t, R, hs⟩ := sh_1 q3
      obtain ⟨F2, k1, k2, k3, k4, h⟩ := c_ppI hS0 hs v6 h
      have d3 : ms_one E 1 o bs p s = (if t.toInt = 0 then .inr (.inl (x.2.2.1, (R, s.2))) else ms_jp bs x.2.2.1 x.1 (R, s.2)) := by
        rw [one, do_3 hc0 (by omega)]
        unfold ms_d3
        rw [if_neg g47, if_pos g40, hs]
      have u7 := cuI_fr u6 (k3 6 (by first | decide | (simp; done) | (simp [ms_0]; done))) (k3 7 (by first | decide | (simp; done) | (simp [ms_0]; done)))
      rw [show ((0 : Int64)).toInt = 0 by first | decide | (simp; done) | (simp [ms_0]; done)] at h
      rcases h with ⟨t0, e1, e⟩ | ⟨t0, e1, e⟩
      · rw [if_pos t0] at d3
        exact fin (by rw [e1]; (first | decide | (simp; done) | (simp [ms_0]; done))) e k1 k2 u7 (by omega) (k3 6 (by first | decide | (simp; done) | (simp [ms_0]; done))) (fun q hq => ms_R_go (x := (x.2.2.1, (R, s.2))) (by omega) hf0 d3 hq)
      · rw [if_neg t0] at d3
        exact jmp (by rw [e1]; (first | decide | (simp; done) | (simp [ms_0]; done))) e (Or.inr g40) (by rw [c52]) k1 k2 u7 (k3 6 (by first | decide | (simp; done) | (simp [ms_0]; done))) d3
    have call : ∀ _ : b.toInt = 152 ∨ b.toInt = 153, P_bi (MC (FL5 49 12) a4 n sl SH FI5 FL5 FR) (fun v9 n9 sl9 SH9 FI9 FL9 FR9 => P_ret v9 (n9, sl9, SH9, h_up FI9 49 11 (FI5 49 10), FL9, FR9)) v st → csI E A o p bs n sl SH FI FL FR v st s f := by
      intro hc h
      obtain ⟨v9, n9, sl9, SH9, FI9, FL9, FR9, h, e1, e⟩ := h
      rw [c52] at h
      have k0 : 0 ≤ x.1.toInt := by
        rcases hc with hc | hc
        · rw [hc] at hx; exact md_152 (bk_by hb) hx
        · rw [hc] at hx; exact md_153 (bk_by hb) hx
      have d3 : ms_one E 1 o bs p s = (if 15 < x.1.toInt ∨ o = 8 then .inl 8 else .inr (.inr (.inl (x.1.toInt.toNat, x.2.2.1)))) := by
        rw [one, do_3 hc0 (by omega)]
        unfold ms_d3
        rw [if_neg g47, if_neg g40, if_pos hc]
      rcases hMC E6 v6 u6 k0 h with ⟨q, e2, F2, L2, R2, e3, kk⟩ | ⟨q, y, hy, hc1⟩
      · rw [if_pos q] at d3
        cases e3
        exact Or.inl ⟨8, by rw [e1]; exact e2, by first | decide | (simp; done) | (simp [ms_0]; done), ms_R_e (by omega) hf0 d3, _, _, _, e, kzI_i (kzI_tr k6 kk) (by first | decide | (simp; done) | (simp [ms_0]; done))⟩
      · rw [if_neg q] at d3
        match y, hy, hc1 with
        | .inl e9, hy, ⟨e2, e3, F2, L2, R2, e4, kk⟩ =>
          cases e4
          exact Or.inl ⟨e9, by rw [e1]; exact e2, e3, ms_R_ce (by omega) hf0 d3 hy, _, _, _, e, kzI_i (kzI_tr k6 kk) (by first | decide | (simp; done) | (simp [ms_0]; done))⟩
        | .inr z, hy, ⟨e2, F2, L2, R2, e4, kk, vv, uu, ff, f6⟩ =>
          cases e4
          exact fin (by rw [e1]; exact e2) e kk vv uu (by omega) f6 (fun q hq => ms_R_c (by omega) hf0 d3 hy hq)
    rcases h with ⟨g152, h⟩ | ⟨g152, h⟩
    · exact call (Or.inl g152) h
    rcases h with ⟨g153, h⟩ | ⟨g153, h⟩
    · exact call (Or.inr g153) h
    obtain ⟨v9, n9, sl9, SH9, FI9, FL9, FR9, h, e1, e⟩ := h
    have res : ∀ {w : Int ⊕ ms_S}, crI n sl SH FI5 FL5 FR v9 (n9, sl9, SH9, FI9, FL9, FR9) w → (∀ e9, w = .inl e9 → ms_one E 1 o bs p s = .inl e9) → (∀ s2, w = .inr s2 → ms_one E 1 o bs p s = .inr (.inl (x.2.2.1, s2))) → csI E A o p bs n sl SH FI FL FR v st s f := by
      intro w hw w1 w2
      match w, hw, w1, w2 with
      | .inl e9, ⟨e2, e3, F2, L2, R2, e4, kk⟩, w1, _ =>
        cases e4
        exact Or.inl ⟨e9, by rw [e1]; exact e2, e3, ms_R_e (by omega) hf0 (w1 e9 rfl), _, _, _, e, kzI_i (kzI_tr k6 kk) (by first | decide | (simp; done) | (simp [ms_0]; done))⟩
      | .inr s2, ⟨e2, F2, L2, R2, e4, kk, vv, x6, x7, x10, x12, x13⟩, _, w2 =>
        cases e4
        exact fin (by rw [e1]; exact e2) e kk vv (cuI_fr u6 x6 x7) (by omega) x6 (fun q hq => ms_R_go (x := (x.2.2.1, s2)) (by omega) hf0 (w2 s2 rfl) hq)
    by_cases gp : b.toInt = 147 ∨ b.toInt = 157
    · have h := c_o227I (by omega) h
      cases hpc : ms_pc b.toInt x.1 x.2.1 s with
      | none => exact absurd ⟨gp, hpc⟩ q13
      | some s2 =>
        have npc : ¬ (s.2.2.length = 16 ∨ x.1.toInt < 0 ∨ (if b.toInt = 157 then 4096 else 512) < x.1.toInt ∨ (b.toInt = 157 ∧ (x.2.1.toInt < 0 ∨ 4096 < x.2.1.toInt)) ∨ 4096 < ms_tb s.2.2 + (if b.toInt = 157 then x.1.toInt else 8 * x.1.toInt)) := fun e => by
          rw [pc_n.mpr e] at hpc
          cases hpc
        have es2 : s2 = ([], ms_0, (ms_tg s, (if b.toInt = 157 then x.1.toInt else 8 * x.1.toInt), (if b.toInt = 157 then x.2.1.toInt else 0)) :: s.2.2) := by
          unfold ms_pc at hpc
          rw [if_neg npc] at hpc
          exact (Option.some.inj hpc).symm
        have hlp := v6.2.2.2.2.2.1
        have w2 : ∀ s3, (.inr s2 : Int ⊕ ms_S) = .inr s3 → ms_one E 1 o bs p s = .inr (.inl (x.2.2.1, s3)) := by
          intro s3 e9
          cases e9
          rw [one, do_2 hc0]
          unfold ms_d2
          rw [if_pos gp, hpc]
        refine res (w := .inr s2) ?_ (fun e9 e => by cases e) w2
        have h : RX9_operateI_241 b (some r) a4 n sl SH FI5 FL5 FR v9 (n9, sl9, SH9, FI9, FL9, FR9) := by
          rcases h with ⟨-, h⟩ | ⟨q, h⟩
          · exact h
          · exact P_p h (by rw [show ((147 : Int32)).toInt = 147 by first | decide | (simp; done) | (simp [ms_0]; done)] at q; rw [show ((157 : Int32)).toInt = 157 by first | decide | (simp; done) | (simp [ms_0]; done)]; omega)
        rcases h with ⟨g147, h⟩ | ⟨g147, h⟩
        · rw [show ((147 : Int32)).toInt = 147 by first | decide | (simp; done) | (simp [ms_0]; done)] at g147
          rw [if_neg (show ¬ b.toInt = 157 by omega), if_neg (show ¬ b.toInt = 157 by omega)] at npc es2
          try rw [if_neg (show ¬ b.toInt = 157 by omega)] at es2
          obtain ⟨z1, z2, z3, z4, z5, z6, z7, hh, y1, y2⟩ := h
          rw [y1, y2, es2]
          exact c_addI hS0 ht v6 (by omega) (by rw [c52, i_mul (l_2i rfl (by omega) (by omega)) (by first | decide | (simp; done) | (simp [ms_0]; done) : ((8 : Int32)).toInt = 8) (by omega) (by omega)]; omega) (by first | decide | (simp; done) | (simp [ms_0]; done)) (by omega) (by first | decide | (simp; done) | (simp [ms_0]; done)) (by omega) hh
        · rw [show ((147 : Int32)).toInt = 147 by first | decide | (simp; done) | (simp [ms_0]; done)] at g147
          have g157 : b.toInt = 157 := by omega
          rw [if_pos g157, if_pos g157] at npc es2
          try rw [if_pos g157] at es2
          obtain ⟨z1, z2, z3, z4, z5, z6, z7, hh, y1, y2⟩ := h
          rw [y1, y2, es2]
          rw [c52, s157 g157] at hh
          exact c_addI hS0 ht v6 (by omega) (l_2i rfl (by omega) (by omega)) (l_2i rfl (by omega) (by omega)) (by omega) (by omega) (by omega) hh
    by_cases g145 : b.toInt = 145
    · have h := c_oaskI (by omega) (by omega) h
      have d3 : ms_one E 1 o bs p s = (if 1 = 1 ∨ ms_fr E = -1 then .inl 11 else .inr (.inr (.inr (x.1, x.2.2.1)))) := by
        rw [one, do_3 hc0 gp]
        unfold ms_d3
        rw [if_neg g47, if_neg g40, if_neg (by omega), if_pos g145]
      rcases hB E6 v6 u6 g145 h with ⟨q, e2, F2, L2, R2, e3, kk⟩ | ⟨q, y, hy, hc1⟩
      · rw [if_pos q] at d3
        cases e3
        exact Or.inl ⟨11, by rw [e1]; exact e2, by first | decide | (simp; done) | (simp [ms_0]; done), ms_R_e (by omega) hf0 d3, _, _, _, e, kzI_i (kzI_tr k6 kk) (by first | decide | (simp; done) | (simp [ms_0]; done))⟩
      · rw [if_neg q] at d3
        rw [c52] at hc1
        match y, hy, hc1 with
        | .inl e9, hy, ⟨e2, e3, F2, L2, R2, e4, kk⟩ =>
          cases e4
          exact Or.inl ⟨e9, by rw [e1]; exact e2, e3, ms_R_be (by omega) hf0 d3 hy, _, _, _, e, kzI_i (kzI_tr k6 kk) (by first | decide | (simp; done) | (simp [ms_0]; done))⟩
        | .inr z, hy, Or.inl ⟨e9, e0, e2, e3, F2, L2, R2, e4, kk⟩ =>
          cases e4
          exact Or.inl ⟨e9, by rw [e1]; exact e2, e3, ms_R_bf (by omega) hf0 d3 hy e0, _, _, _, e, kzI_i (kzI_tr k6 kk) (by first | decide | (simp; done) | (simp [ms_0]; done))⟩
        | .inr z, hy, Or.inr ⟨b9, e0, Or.inl ⟨e2, e3, F2, L2, R2, e4, kk⟩⟩ =>
          cases e4
          exact Or.inl ⟨4, by rw [e1]; exact e3, by first | decide | (simp; done) | (simp [ms_0]; done), ms_R_b4 (by omega) hf0 d3 hy e0 e2, _, _, _, e, kzI_i (kzI_tr k6 kk) (by first | decide | (simp; done) | (simp [ms_0]; done))⟩
        | .inr z, hy, Or.inr ⟨b9, e0, Or.inr ⟨e2, e3, F2, L2, R2, e4, kk, vv, uu, ff, x10⟩⟩ =>
          cases e4
          exact fin (by rw [e1]; exact e3) e kk vv uu (by omega) x10 (fun q hq => ms_R_b (by omega) hf0 d3 hy e0 e2 hq)
    have hox := c_oxI (x := x) hS0 E6 v6 hkn c52 (fun e => c53 (Or.inl (by rw [e]; (first | decide | (simp; done) | (simp [ms_0]; done))))) (fun e => by
      obtain ⟨w1, w2, w3⟩ := c54 (by rw [e]; (first | decide | (simp; done) | (simp [ms_0]; done)))
      rw [e] at hx
      obtain ⟨q9, k9, y1, y2, y3, y4⟩ := md_158 hx
      refine ⟨r, A + q9, rfl, by rw [w3]; omega, by rw [y4]; exact bk_sub (bk_fr hb (fj_row j6 hrC)) y3, by rw [y4, ms_ln y3]; exact y1, ?_, by omega⟩
      rw [y4, ms_ln y3]
      omega) (fun e => by rw [e] at hx; exact md_21 (bk_by hb) hx) q3 q14 q10 (fun e => Classical.byContradiction (fun w => q9 ⟨e, by omega⟩)) (by omega) h
    have d3 : ms_one E 1 o bs p s = ms_d4 x.2.2.1 s (ms_x E b.toInt x.1 x.2.1 x.2.2.2 s.1 s.2.1) := by
      rw [one, do_3 hc0 gp]
      unfold ms_d3
      rw [if_neg g47, if_neg g40, if_neg (by omega), if_neg g145]
    refine res hox (fun e9 e => ?_) (fun s2 e => ?_)
    · rw [d3]
      generalize ms_x E b.toInt x.1 x.2.1 x.2.2.2 s.1 s.2.1 = z at e
      match z, e with
      | .inl e8, e => cases e; rfl
    · rw [d3]
      generalize ms_x E b.toInt x.1 x.2.1 x.2.2.2 s.1 s.2.1 = z at e
      match z, e with
      | .inr y, e => cases e; rfl
end CXI
section CX
variable {n sl : Nat} {SH : Nat → Nat × Nat} {FI F1 : Nat → Nat → Int32} {FL L1 : Nat → Nat → Int64} {FR R1 : Nat → Nat → Option Nat} {r A p o f : Nat} {bs : List Int32} {a2 a3 a4 v : Int32} {st : hS} {s : ms_S} {E : ms_E}
theorem kz_fj {K K2 : List Nat} (h : fj 48 K FI F1) (h2 : fj 48 K2 FL L1) : kz FI FL FR F1 L1 FR := ⟨fun c hc => ⟨fj_row h (by omega), fj_row h2 (by omega), rfl⟩, fun _ _ => rfl⟩
theorem cv_fj {K K2 : List Nat} (hr : rg SH) (h : fj 48 K FI F1) (h5 : 5 ∉ K) (h2 : fj 48 K2 FL L1) (hv : cv FI FL FR SH s) : cv F1 L1 FR SH s := by
  obtain ⟨v1, v2, v3, v4, v5, v6, v7, v8, v9, v10⟩ := hv
  have e0 : ∀ r, rw0 SH r → F1 r = FI r := fun r h1 => fj_row h (by have := hr r h1; omega)
  exact ⟨by rw [fj_at h h5]; exact v1, v2, by rw [fj_row h2 (by first | decide | (simp; done) | (simp [ms_0]; done))]; exact v3, chd_fr v4 e0 (fj_row h (by first | decide | (simp; done) | (simp [ms_0]; done))) (fj_row h2 (by first | decide | (simp; done) | (simp [ms_0]; done))) rfl, by rw [fj_row h (by first | decide | (simp; done) | (simp [ms_0]; done))]; exact v5, v6, by rw [fj_row h (by first | decide | (simp; done) | (simp [ms_0]; done))]; exact v7, v8, v9, lv_mono (fun i q hi _ hq => cq_fr hq e0 (fj_row h (by omega)) (fj_row h2 (by omega)) rfl) v10⟩
/-- a run's answer -/
def cx (n sl : Nat) (SH : Nat → Nat × Nat) (FI : Nat → Nat → Int32) (FL : Nat → Nat → Int64) (FR : Nat → Nat → Option Nat) (v : Int32) (st : hS) (f : Nat) : Int ⊕ (Nat × ms_S) → Prop
  | .inl e => v.toInt = e ∧ e ≠ 0 ∧ ∃ F2 L2 R2, st = (n, sl, SH, F2, L2, R2) ∧ kz FI FL FR F2 L2 R2
  | .inr y => v.toInt = 0 ∧ ∃ F2 L2 R2, st = (n, sl, SH, F2, L2, R2) ∧ kz FI FL FR F2 L2 R2 ∧ cv F2 L2 R2 SH y.2 ∧ cu F2 y.1 ∧ y.1 ≤ f ∧ F2 48 6 = FI 48 6
theorem cx_tr {q : Int ⊕ (Nat × ms_S)} {f2 : Nat} (k : kz FI FL FR F1 L1 R1) (hf : f2 ≤ f) (e6 : F1 48 6 = FI 48 6) (h : cx n sl SH F1 L1 R1 v st f2 q) : cx n sl SH FI FL FR v st f q := by
  match q, h with
  | .inl e, ⟨h1, h2, F2, L2, R2, h3, h4⟩ => exact ⟨h1, h2, F2, L2, R2, h3, kz_tr k h4⟩
  | .inr y, ⟨h1, F2, L2, R2, h3, h4, h5, h6, h7, h8⟩ => exact ⟨h1, F2, L2, R2, h3, kz_tr k h4, h5, h6, by omega, h8.trans e6⟩
/-- what FRAME's base has left -/
def bq (E : ms_E) (n sl : Nat) (SH : Nat → Nat × Nat) (FI : Nat → Nat → Int32) (FL : Nat → Nat → Int64) (FR : Nat → Nat → Option Nat) (v : Int32) (st : hS) (a : Int64) (s : ms_S) (f : Nat) : Int ⊕ (Nat × ms_S) → Prop
  | .inl e => v.toInt = e ∧ e ≠ 0 ∧ ∃ F2 L2 R2, st = (n, sl, SH, F2, L2, R2) ∧ kz FI FL FR F2 L2 R2
  | .inr y => (∃ e, ms_bs E y.2 = .inl e ∧ v.toInt = e ∧ e ≠ 0 ∧ ∃ F2 L2 R2, st = (n, sl, SH, F2, L2, R2) ∧ kz FI FL FR F2 L2 R2) ∨ (∃ b, ms_bs E y.2 = .inr b ∧ ((s.1.length = 128 ∧ v.toInt = 4 ∧ ∃ F2 L2 R2, st = (n, sl, SH, F2, L2, R2) ∧ kz FI FL FR F2 L2 R2) ∨ (s.1.length ≠ 128 ∧ v.toInt = 0 ∧ ∃ F2 L2 R2, st = (n, sl, SH, F2, L2, R2) ∧ kz FI FL FR F2 L2 R2 ∧ cv F2 L2 R2 SH ((b + a) :: s.1, s.2) ∧ cu F2 y.1 ∧ y.1 ≤ f ∧ F2 48 6 = FI 48 6)))
/-- a step's answer -/
def cs (E : ms_E) (A o p : Nat) (bs : List Int32) (n sl : Nat) (SH : Nat → Nat × Nat) (FI : Nat → Nat → Int32) (FL : Nat → Nat → Int64) (FR : Nat → Nat → Option Nat) (v : Int32) (st : hS) (s : ms_S) (f : Nat) : Prop := (∃ e, v.toInt = e ∧ e ≠ 0 ∧ ms_R E 0 o bs p f s (.inl e) ∧ ∃ F2 L2 R2, st = (n, sl, SH, F2, L2, R2) ∧ kz FI FL FR F2 L2 R2) ∨ (v.toInt = 0 ∧ ∃ F2 L2 R2 s2 f2, ∃ T : Int, st = (n, sl, SH, F2, L2, R2) ∧ kz FI FL FR F2 L2 R2 ∧ cv F2 L2 R2 SH s2 ∧ cu F2 f2 ∧ f2 < f ∧ F2 48 6 = FI 48 6 ∧ (F2 48 11).toInt = (A : Int) + T ∧ ((0 ≤ T ∧ T ≤ bs.length) → ∀ r, ms_R E 0 o bs T.toNat f2 s2 r → ms_R E 0 o bs p f s r) ∧ (¬ (0 ≤ T ∧ T ≤ bs.length) → ms_R E 0 o bs p f s (.inl 7)))
theorem cu_fr (h : cu FI f) (e6 : F1 48 6 = FI 48 6) (e7 : F1 48 7 = FI 48 7) : cu F1 f := by
  unfold cu
  rw [e6, e7]
  exact h
theorem cs_step {MP : Option Nat → Int32 → Int32 → Int32 → Nat → Nat → (Nat → Nat × Nat) → (Nat → Nat → Int32) → (Nat → Nat → Int64) → (Nat → Nat → Option Nat) → Int32 → hS → Prop} {MS : Option Nat → Int32 → Int32 → Int32 → Nat → Nat → (Nat → Nat × Nat) → (Nat → Nat → Int32) → (Nat → Nat → Int64) → (Nat → Nat → Option Nat) → Int32 → hS → Prop} {MC : Int64 → Int32 → Nat → Nat → (Nat → Nat × Nat) → (Nat → Nat → Int32) → (Nat → Nat → Int64) → (Nat → Nat → Option Nat) → Int32 → hS → Prop} (hS0 : h_S n SH) (ht : th FR) (hE : cE FI FL FR SH E) (hb : bk FI SH r A bs) (hbl : bs.length ≤ 100000) (hA : A ≤ 100000) (h5 : a2.toInt = ((A + p : Nat) : Int)) (hp : p < bs.length) (h3 : a3.toInt = ((A + bs.length : Nat) : Int)) (hv : cv FI FL FR SH s) (hu : cu FI f)
    (hMC : ∀ {F1 : Nat → Nat → Int32} {L1 : Nat → Nat → Int64} {v : Int32} {st : hS} {f1 : Nat} {k : Int64}, cE F1 L1 FR SH E → cv F1 L1 FR SH s → cu F1 f1 → 0 ≤ k.toInt → MC k a4 n sl SH F1 L1 FR v st → ((15 < k.toInt ∨ o = 8) ∧ v.toInt = 8 ∧ ∃ F2 L2 R2, st = (n, sl, SH, F2, L2, R2) ∧ kz F1 L1 FR F2 L2 R2) ∨ (¬ (15 < k.toInt ∨ o = 8) ∧ ∃ q, ms_R E 0 (o + 1) (ms_ex E k.toInt.toNat) 0 f1 s q ∧ cx n sl SH F1 L1 FR v st f1 q))
    (hB : ∀ {F1 : Nat → Nat → Int32} {L1 : Nat → Nat → Int64} {v c : Int32} {st : hS} {f1 : Nat}, cE F1 L1 FR SH E → cv F1 L1 FR SH s → cu F1 f1 → c.toInt = 145 → RX9_ask c a4 n sl SH F1 L1 FR v st → ((0 = 1 ∨ ms_fr E = -1) ∧ v.toInt = 11 ∧ ∃ F2 L2 R2, st = (n, sl, SH, F2, L2, R2) ∧ kz F1 L1 FR F2 L2 R2) ∨ (¬ (0 = 1 ∨ ms_fr E = -1) ∧ ∃ q, ms_R E 1 o (ms_ex E (ms_fr E).toNat) 0 f1 ([], ms_0, []) q ∧ bq E n sl SH F1 L1 FR v st (L1 48 12) s f1 q))
    (h : RX9_step MP MS MC (some r) a2 a3 a4 n sl SH FI FL FR v st) : cs E A o p bs n sl SH FI FL FR v st s f := by
  have hr := rg_of hS0
  have b2 := hb.2.1
  have b3 := hb.2.2.1
  obtain ⟨u1, u2, u3⟩ := hu
  have hrC : r ≠ 48 := by have := hr r hb.1; omega
  obtain ⟨b, hb0⟩ := ms_ex_i (bs := bs) (i := p) hp
  obtain ⟨fb1, fb2, fb3⟩ := hb.2.2.2 p b hb0
  rcases h with ⟨h0, h⟩ | ⟨h0, e1, e⟩
  rotate_left
  · exact Or.inl ⟨12, by rw [e1]; (first | decide | (simp; done) | (simp [ms_0]; done)), by first | decide | (simp; done) | (simp [ms_0]; done), ms_R_12 (by omega) (by omega), _, _, _, e, kz_rf⟩
  have hf0 : f ≠ 0 := by omega
  obtain ⟨c3, ec3, -, v4, n4, sl4, SH4, FI4, FL4, FR4, hsh, v5, n5, sl5, SH5, FI5, FL5, FR5, hop, h⟩ := h
  cases ec3
  have eb : (h_up FI 48 7 (FI 48 7 + (1 : Int32))) r a2.toInt.toNat = b := by rw [h_up_nc hrC, show a2.toInt.toNat = A + p by omega]; exact fb1
  rw [eb] at hsh h
  obtain ⟨ew, e4⟩ := c_shape fb2 fb3 hsh
  cases e4
  have jA : fj 48 [7, 10] FI (h_up (h_up FI 48 7 (FI 48 7 + (1 : Int32))) 48 10 (a2 + (1 : Int32))) := fj_up (fj_up fj_rf (by first | decide | (simp; done) | (simp [ms_0]; done))) (by first | decide | (simp; done) | (simp [ms_0]; done))
  have hnA : ((h_up (h_up FI 48 7 (FI 48 7 + (1 : Int32))) 48 10 (a2 + (1 : Int32))) 48 10).toInt = ((A + (p + 1) : Nat) : Int) := by
    rw [h_up_eq, i_add h5 (by first | decide | (simp; done) | (simp [ms_0]; done) : ((1 : Int32)).toInt = 1) (by omega) (by omega)]
    omega
  have e7A : ((h_up (h_up FI 48 7 (FI 48 7 + (1 : Int32))) 48 10 (a2 + (1 : Int32))) 48 7).toInt = (FI 48 7).toInt + 1 := by
    rw [h_up_ne (by first | decide | (simp; done) | (simp [ms_0]; done)), h_up_eq]
    exact i_add rfl (by first | decide | (simp; done) | (simp [ms_0]; done)) (by omega) (by omega)
  generalize h_up (h_up FI 48 7 (FI 48 7 + (1 : Int32))) 48 10 (a2 + (1 : Int32)) = FA at hop jA hnA e7A
  obtain ⟨F5, L5, e5, j5, l5, c5⟩ := co_op (c := b) hrC h3 (bk_fr hb (fj_row jA hrC)) hnA (by omega) ew hop
  cases e5
  have j6 : fj 48 [7, 10] FI FI5 := fj_tr jA (fj_le j5 (by first | decide | (simp; done) | (simp [ms_0]; done)))
  have k6 : kz FI FL FR FI5 FL5 FR := kz_fj j6 l5
  have v6 : cv FI5 FL5 FR SH s := cv_fj hr j6 (by first | decide | (simp; done) | (simp [ms_0]; done)) l5 hv
  have E6 : cE FI5 FL5 FR SH E := cE_k hE hr k6
  have u6 : cu FI5 (f - 1) := by
    refine ⟨?_, ?_, ?_⟩
    · rw [fj_at j6 (by first | decide | (simp; done) | (simp [ms_0]; done)), fj_at j5 (by first | decide | (simp; done) | (simp [ms_0]; done)), e7A]; omega
    · rw [fj_at j5 (by first | decide | (simp; done) | (simp [ms_0]; done)), e7A]; omega
    · rw [fj_at j6 (by first | decide | (simp; done) | (simp [ms_0]; done))]; exact u3
  cases hx : ms_op b.toInt bs (p + 1) with
  | inl e9 =>
    rw [hx] at c5
    obtain ⟨c51, c52⟩ := c5
    have h := P_n h (by rw [c51]; exact c52)
    have h := P_n h (by rw [c51]; exact c52)
    exact Or.inl ⟨e9, by rw [h.1]; exact c51, c52, ms_R_e (by omega) hf0 (ms_one_e hb0 hx), _, _, _, h.2, k6⟩
  | inr x =>
    rw [hx] at c5
    obtain ⟨c51, c52, c53, c54, c55, c56⟩ := c5
    have h := P_p h c51
    have hkn : ms_kn b.toInt = true := by
      cases hk : ms_kn b.toInt with
      | true => rfl
      | false =>
        unfold ms_op at hx
        rw [if_pos hk] at hx
        cases hx
    obtain ⟨v7, n7, sl7, SH7, FI7, FL7, FR7, hck, h⟩ := h
    have s157 : b.toInt = 157 → FL5 48 13 = x.2.1 := fun e => c53 (Or.inr (by rw [e]; (first | decide | (simp; done) | (simp [ms_0]; done))))
    obtain ⟨ck1, ck2⟩ := c_check v6 c52 s157 (fun e => by rw [e] at hx; exact md_21 (bk_by hb) hx) hck
    cases ck2
    by_cases hc0 : ms_ck b.toInt x s = 0
    rotate_left
    · have h := P_n h (by rw [ck1]; exact hc0)
      exact Or.inl ⟨ms_ck b.toInt x s, by rw [h.1]; exact ck1, hc0, ms_R_e (by omega) hf0 ((ms_one_i hb0 hx).trans (ck_do hc0)), _, _, _, h.2, k6⟩
    have h := P_p h (by rw [ck1]; exact hc0)
    obtain ⟨q9, q14, q10, q13, q3⟩ := ck_0 hc0
    have hnx : x.2.2.1 ≤ bs.length := c56
    have one : ms_one E 0 o bs p s = ms_do E 0 o bs b.toInt x s := ms_one_i hb0 hx
    -- on behind the operation
    have fin : ∀ {s2 : ms_S} {F2 : Nat → Nat → Int32} {L2 : Nat → Nat → Int64} {R2 : Nat → Nat → Option Nat} {f2 : Nat}, v.toInt = 0 → st = (n, sl, SH, h_up F2 48 11 (FI5 48 10), L2, R2) → kz FI5 FL5 FR F2 L2 R2 → cv F2 L2 R2 SH s2 → cu F2 f2 → f2 < f → F2 48 6 = FI5 48 6 → (∀ q, ms_R E 0 o bs x.2.2.1 f2 s2 q → ms_R E 0 o bs p f s q) → cs E A o p bs n sl SH FI FL FR v st s f := by
      intro s2 F2 L2 R2 f2 g1 g2 g3 g4 g5 g6 g66 g7
      refine Or.inr ⟨g1, _, _, _, s2, f2, (x.2.2.1 : Int), g2, kz_i (kz_tr k6 g3) (by first | decide | (simp; done) | (simp [ms_0]; done)), cv_f g4 hr (by first | decide | (simp; done) | (simp [ms_0]; done)), cu_fr g5 (h_up_ne (by first | decide | (simp; done) | (simp [ms_0]; done))) (h_up_ne (by first | decide | (simp; done) | (simp [ms_0]; done))), g6, by rw [h_up_ne (by first | decide | (simp; done) | (simp [ms_0]; done)), g66, fj_at j6 (by first | decide | (simp; done) | (simp [ms_0]; done))], ?_, fun _ q hq => g7 q ?_, fun e => absurd ⟨by omega, by omega⟩ e⟩
      · rw [h_up_eq, c55]
        omega
      · rw [Int.toNat_natCast] at hq
        exact hq
    -- jumps
    have jmp : ∀ {s2 : ms_S} {F2 : Nat → Nat → Int32} {L2 : Nat → Nat → Int64} {R2 : Nat → Nat → Option Nat} {y : Int32}, v.toInt = 0 → st = (n, sl, SH, h_up F2 48 11 y, L2, R2) → (b.toInt = 47 ∨ b.toInt = 40) → y = FI5 48 10 + x.1.toInt32 → kz FI5 FL5 FR F2 L2 R2 → cv F2 L2 R2 SH s2 → cu F2 (f - 1) → F2 48 6 = FI5 48 6 → ms_one E 0 o bs p s = ms_jp bs x.2.2.1 x.1 s2 → cs E A o p bs n sl SH FI FL FR v st s f := by
      intro s2 F2 L2 R2 y g1 g2 gj gy g3 g4 g5 g66 g7
      obtain ⟨j1, j2⟩ := md_jp gj hx
      refine Or.inr ⟨g1, _, _, _, s2, f - 1, (x.2.2.1 : Int) + x.1.toInt, g2, kz_i (kz_tr k6 g3) (by first | decide | (simp; done) | (simp [ms_0]; done)), cv_f g4 hr (by first | decide | (simp; done) | (simp [ms_0]; done)), cu_fr g5 (h_up_ne (by first | decide | (simp; done) | (simp [ms_0]; done))) (h_up_ne (by first | decide | (simp; done) | (simp [ms_0]; done))), by omega, by rw [h_up_ne (by first | decide | (simp; done) | (simp [ms_0]; done)), g66, fj_at j6 (by first | decide | (simp; done) | (simp [ms_0]; done))], ?_, fun e q hq => ?_, fun e => ?_⟩
      · rw [h_up_eq, gy, i_add c55 (l_2i rfl (by omega) (by omega)) (by omega) (by omega)]
        omega
      · refine ms_R_go (x := (((x.2.2.1 : Int) + x.1.toInt).toNat, s2)) (by omega) hf0 ?_ hq
        rw [g7]
        unfold ms_jp
        rw [if_neg (by omega)]
      · refine ms_R_e (by omega) hf0 ?_
        rw [g7]
        unfold ms_jp
        rw [if_pos (by omega)]
    rw [show ((47 : Int32)).toInt = 47 by first | decide | (simp; done) | (simp [ms_0]; done), show ((40 : Int32)).toInt = 40 by first | decide | (simp; done) | (simp [ms_0]; done), show ((152 : Int32)).toInt = 152 by first | decide | (simp; done) | (simp [ms_0]; done), show ((153 : Int32)).toInt = 153 by first | decide | (simp; done) | (simp [ms_0]; done)] at h
    rcases h with ⟨g47, h⟩ | ⟨g47, h⟩
    · have h := P_p h (by rw [show ((47 : Int32)).toInt = 47 by first | decide | (simp; done) | (simp [ms_0]; done)]; exact g47)
      exact jmp (by rw [h.1]; (first | decide | (simp; done) | (simp [ms_0]; done))) h.2 (Or.inl g47) (by rw [c52]) kz_rf v6 u6 rfl (by rw [one, do_3 hc0 (by omega)]; unfold ms_d3; rw [if_pos g47])
    rcases h with ⟨g40, h⟩ | ⟨g40, h⟩
    · have h := P_n h (by rw [show ((47 : Int32)).toInt = 47 by first | decide | (simp; done) | (simp [ms_0]; done)]; exact g47)
      rw [wt_1 (by omega)] at q3
      obtain ⟨t, R, hs⟩ := sh_1 q3
      obtain ⟨F2, k1, k2, k3, k4, h⟩ := c_pp hS0 hs v6 h
      have d3 : ms_one E 0 o bs p s = (if t.toInt = 0 then .inr (.inl (x.2.2.1, (R, s.2))) else ms_jp bs x.2.2.1 x.1 (R, s.2)) := by
        rw [one, do_3 hc0 (by omega)]
        unfold ms_d3
        rw [if_neg g47, if_pos g40, hs]
      have u7 := cu_fr u6 (k3 6 (by first | decide | (simp; done) | (simp [ms_0]; done))) (k3 7 (by first | decide | (simp; done) | (simp [ms_0]; done)))
      rw [show ((0 : Int64)).toInt = 0 by first | decide | (simp; done) | (simp [ms_0]; done)] at h
      rcases h with ⟨t0, e1, e⟩ | ⟨t0, e1, e⟩
      · rw [if_pos t0] at d3
        exact fin (by rw [e1]; (first | decide | (simp; done) | (simp [ms_0]; done))) e k1 k2 u7 (by omega) (k3 6 (by first | decide | (simp; done) | (simp [ms_0]; done))) (fun q hq => ms_R_go (x := (x.2.2.1, (R, s.2))) (by omega) hf0 d3 hq)
      · rw [if_neg t0] at d3
        exact jmp (by rw [e1]; (first | decide | (simp; done) | (simp [ms_0]; done))) e (Or.inr g40) (by rw [c52]) k1 k2 u7 (k3 6 (by first | decide | (simp; done) | (simp [ms_0]; done))) d3
    have call : ∀ _ : b.toInt = 152 ∨ b.toInt = 153, P_bi (MC (FL5 48 12) a4 n sl SH FI5 FL5 FR) (fun v9 n9 sl9 SH9 FI9 FL9 FR9 => P_ret v9 (n9, sl9, SH9, h_up FI9 48 11 (FI5 48 10), FL9, FR9)) v st → cs E A o p bs n sl SH FI FL FR v st s f := by
      intro hc h
      obtain ⟨v9, n9, sl9, SH9, FI9, FL9, FR9, h, e1, e⟩ := h
      rw [c52] at h
      have k0 : 0 ≤ x.1.toInt := by
        rcases hc with hc | hc
        · rw [hc] at hx; exact md_152 (bk_by hb) hx
        · rw [hc] at hx; exact md_153 (bk_by hb) hx
      have d3 : ms_one E 0 o bs p s = (if 15 < x.1.toInt ∨ o = 8 then .inl 8 else .inr (.inr (.inl (x.1.toInt.toNat, x.2.2.1)))) := by
        rw [one, do_3 hc0 (by omega)]
        unfold ms_d3
        rw [if_neg g47, if_neg g40, if_pos hc]
      rcases hMC E6 v6 u6 k0 h with ⟨q, e2, F2, L2, R2, e3, kk⟩ | ⟨q, y, hy, hc1⟩
      · rw [if_pos q] at d3
        cases e3
        exact Or.inl ⟨8, by rw [e1]; exact e2, by first | decide | (simp; done) | (simp [ms_0]; done), ms_R_e (by omega) hf0 d3, _, _, _, e, kz_i (kz_tr k6 kk) (by first | decide | (simp; done) | (simp [ms_0]; done))⟩
      · rw [if_neg q] at d3
        match y, hy, hc1 with
        | .inl e9, hy, ⟨e2, e3, F2, L2, R2, e4, kk⟩ =>
          cases e4
          exact Or.inl ⟨e9, by rw [e1]; exact e2, e3, ms_R_ce (by omega) hf0 d3 hy, _, _, _, e, kz_i (kz_tr k6 kk) (by first | decide | (simp; done) | (simp [ms_0]; done))⟩
        | .inr z, hy, ⟨e2, F2, L2, R2, e4, kk, vv, uu, ff, f6⟩ =>
          cases e4
          exact fin (by rw [e1]; exact e2) e kk vv uu (by omega) f6 (fun q hq => ms_R_c (by omega) hf0 d3 hy hq)
    rcases h with ⟨g152, h⟩ | ⟨g152, h⟩
    · exact call (Or.inl g152) h
    rcases h with ⟨g153, h⟩ | ⟨g153, h⟩
    · exact call (Or.inr g153) h
    obtain ⟨v9, n9, sl9, SH9, FI9, FL9, FR9, h, e1, e⟩ := h
    have res : ∀ {w : Int ⊕ ms_S}, cr n sl SH FI5 FL5 FR v9 (n9, sl9, SH9, FI9, FL9, FR9) w → (∀ e9, w = .inl e9 → ms_one E 0 o bs p s = .inl e9) → (∀ s2, w = .inr s2 → ms_one E 0 o bs p s = .inr (.inl (x.2.2.1, s2))) → cs E A o p bs n sl SH FI FL FR v st s f := by
      intro w hw w1 w2
      match w, hw, w1, w2 with
      | .inl e9, ⟨e2, e3, F2, L2, R2, e4, kk⟩, w1, _ =>
        cases e4
        exact Or.inl ⟨e9, by rw [e1]; exact e2, e3, ms_R_e (by omega) hf0 (w1 e9 rfl), _, _, _, e, kz_i (kz_tr k6 kk) (by first | decide | (simp; done) | (simp [ms_0]; done))⟩
      | .inr s2, ⟨e2, F2, L2, R2, e4, kk, vv, x6, x7, x10, x12, x13⟩, _, w2 =>
        cases e4
        exact fin (by rw [e1]; exact e2) e kk vv (cu_fr u6 x6 x7) (by omega) x6 (fun q hq => ms_R_go (x := (x.2.2.1, s2)) (by omega) hf0 (w2 s2 rfl) hq)
    by_cases gp : b.toInt = 147 ∨ b.toInt = 157
    · have h := c_o227 (by omega) h
      cases hpc : ms_pc b.toInt x.1 x.2.1 s with
      | none => exact absurd ⟨gp, hpc⟩ q13
      | some s2 =>
        have npc : ¬ (s.2.2.length = 16 ∨ x.1.toInt < 0 ∨ (if b.toInt = 157 then 4096 else 512) < x.1.toInt ∨ (b.toInt = 157 ∧ (x.2.1.toInt < 0 ∨ 4096 < x.2.1.toInt)) ∨ 4096 < ms_tb s.2.2 + (if b.toInt = 157 then x.1.toInt else 8 * x.1.toInt)) := fun e => by
          rw [pc_n.mpr e] at hpc
          cases hpc
        have es2 : s2 = ([], ms_0, (ms_tg s, (if b.toInt = 157 then x.1.toInt else 8 * x.1.toInt), (if b.toInt = 157 then x.2.1.toInt else 0)) :: s.2.2) := by
          unfold ms_pc at hpc
          rw [if_neg npc] at hpc
          exact (Option.some.inj hpc).symm
        have hlp := v6.2.2.2.2.2.1
        have w2 : ∀ s3, (.inr s2 : Int ⊕ ms_S) = .inr s3 → ms_one E 0 o bs p s = .inr (.inl (x.2.2.1, s3)) := by
          intro s3 e9
          cases e9
          rw [one, do_2 hc0]
          unfold ms_d2
          rw [if_pos gp, hpc]
        refine res (w := .inr s2) ?_ (fun e9 e => by cases e) w2
        have h : RX9_operate_241 b (some r) a4 n sl SH FI5 FL5 FR v9 (n9, sl9, SH9, FI9, FL9, FR9) := by
          rcases h with ⟨-, h⟩ | ⟨q, h⟩
          · exact h
          · exact P_p h (by rw [show ((147 : Int32)).toInt = 147 by first | decide | (simp; done) | (simp [ms_0]; done)] at q; rw [show ((157 : Int32)).toInt = 157 by first | decide | (simp; done) | (simp [ms_0]; done)]; omega)
        rcases h with ⟨g147, h⟩ | ⟨g147, h⟩
        · rw [show ((147 : Int32)).toInt = 147 by first | decide | (simp; done) | (simp [ms_0]; done)] at g147
          rw [if_neg (show ¬ b.toInt = 157 by omega), if_neg (show ¬ b.toInt = 157 by omega)] at npc es2
          try rw [if_neg (show ¬ b.toInt = 157 by omega)] at es2
          obtain ⟨z1, z2, z3, z4, z5, z6, z7, hh, y1, y2⟩ := h
          rw [y1, y2, es2]
          exact c_add hS0 ht v6 (by omega) (by rw [c52, i_mul (l_2i rfl (by omega) (by omega)) (by first | decide | (simp; done) | (simp [ms_0]; done) : ((8 : Int32)).toInt = 8) (by omega) (by omega)]; omega) (by first | decide | (simp; done) | (simp [ms_0]; done)) (by omega) (by first | decide | (simp; done) | (simp [ms_0]; done)) (by omega) hh
        · rw [show ((147 : Int32)).toInt = 147 by first | decide | (simp; done) | (simp [ms_0]; done)] at g147
          have g157 : b.toInt = 157 := by omega
          rw [if_pos g157, if_pos g157] at npc es2
          try rw [if_pos g157] at es2
          obtain ⟨z1, z2, z3, z4, z5, z6, z7, hh, y1, y2⟩ := h
          rw [y1, y2, es2]
          rw [c52, s157 g157] at hh
          exact c_add hS0 ht v6 (by omega) (l_2i rfl (by omega) (by omega)) (l_2i rfl (by omega) (by omega)) (by omega) (by omega) (by omega) hh
    by_cases g145 : b.toInt = 145
    · have h := c_oask (by omega) (by omega) h
      have d3 : ms_one E 0 o bs p s = (if 0 = 1 ∨ ms_fr E = -1 then .inl 11 else .inr (.inr (.inr (x.1, x.2.2.1)))) := by
        rw [one, do_3 hc0 gp]
        unfold ms_d3
        rw [if_neg g47, if_neg g40, if_neg (by omega), if_pos g145]
      rcases hB E6 v6 u6 g145 h with ⟨q, e2, F2, L2, R2, e3, kk⟩ | ⟨q, y, hy, hc1⟩
      · rw [if_pos q] at d3
        cases e3
        exact Or.inl ⟨11, by rw [e1]; exact e2, by first | decide | (simp; done) | (simp [ms_0]; done), ms_R_e (by omega) hf0 d3, _, _, _, e, kz_i (kz_tr k6 kk) (by first | decide | (simp; done) | (simp [ms_0]; done))⟩
      · rw [if_neg q] at d3
        rw [c52] at hc1
        match y, hy, hc1 with
        | .inl e9, hy, ⟨e2, e3, F2, L2, R2, e4, kk⟩ =>
          cases e4
          exact Or.inl ⟨e9, by rw [e1]; exact e2, e3, ms_R_be (by omega) hf0 d3 hy, _, _, _, e, kz_i (kz_tr k6 kk) (by first | decide | (simp; done) | (simp [ms_0]; done))⟩
        | .inr z, hy, Or.inl ⟨e9, e0, e2, e3, F2, L2, R2, e4, kk⟩ =>
          cases e4
          exact Or.inl ⟨e9, by rw [e1]; exact e2, e3, ms_R_bf (by omega) hf0 d3 hy e0, _, _, _, e, kz_i (kz_tr k6 kk) (by first | decide | (simp; done) | (simp [ms_0]; done))⟩
        | .inr z, hy, Or.inr ⟨b9, e0, Or.inl ⟨e2, e3, F2, L2, R2, e4, kk⟩⟩ =>
          cases e4
          exact Or.inl ⟨4, by rw [e1]; exact e3, by first | decide | (simp; done) | (simp [ms_0]; done), ms_R_b4 (by omega) hf0 d3 hy e0 e2, _, _, _, e, kz_i (kz_tr k6 kk) (by first | decide | (simp; done) | (simp [ms_0]; done))⟩
        | .inr z, hy, Or.inr ⟨b9, e0, Or.inr ⟨e2, e3, F2, L2, R2, e4, kk, vv, uu, ff, x10⟩⟩ =>
          cases e4
          exact fin (by rw [e1]; exact e3) e kk vv uu (by omega) x10 (fun q hq => ms_R_b (by omega) hf0 d3 hy e0 e2 hq)
    have hox := c_ox (x := x) hS0 E6 v6 hkn c52 (fun e => c53 (Or.inl (by rw [e]; (first | decide | (simp; done) | (simp [ms_0]; done))))) (fun e => by
      obtain ⟨w1, w2, w3⟩ := c54 (by rw [e]; (first | decide | (simp; done) | (simp [ms_0]; done)))
      rw [e] at hx
      obtain ⟨q9, k9, y1, y2, y3, y4⟩ := md_158 hx
      refine ⟨r, A + q9, rfl, by rw [w3]; omega, by rw [y4]; exact bk_sub (bk_fr hb (fj_row j6 hrC)) y3, by rw [y4, ms_ln y3]; exact y1, ?_, by omega⟩
      rw [y4, ms_ln y3]
      omega) (fun e => by rw [e] at hx; exact md_21 (bk_by hb) hx) q3 q14 q10 (fun e => Classical.byContradiction (fun w => q9 ⟨e, by omega⟩)) (by omega) h
    have d3 : ms_one E 0 o bs p s = ms_d4 x.2.2.1 s (ms_x E b.toInt x.1 x.2.1 x.2.2.2 s.1 s.2.1) := by
      rw [one, do_3 hc0 gp]
      unfold ms_d3
      rw [if_neg g47, if_neg g40, if_neg (by omega), if_neg g145]
    refine res hox (fun e9 e => ?_) (fun s2 e => ?_)
    · rw [d3]
      generalize ms_x E b.toInt x.1 x.2.1 x.2.2.2 s.1 s.2.1 = z at e
      match z, e with
      | .inl e8, e => cases e; rfl
    · rw [d3]
      generalize ms_x E b.toInt x.1 x.2.1 x.2.2.2 s.1 s.2.1 = z at e
      match z, e with
      | .inr y, e => cases e; rfl
end CX
