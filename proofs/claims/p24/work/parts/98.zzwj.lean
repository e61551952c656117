/-! THE SEARCH OF A LIST, and the reference's. -/
theorem b_nat {a : Int32} (h : 0 ≤ a.toInt ∧ a.toInt ≤ 255) : a.toInt64.toBitVec.toNat < 256 := by
  have e : (a.toInt64).toInt = a.toInt := i_2l rfl
  have e2 : a.toInt64.toBitVec.toInt = a.toInt := e
  rw [BitVec.toInt_eq_toNat_cond] at e2
  have := a.toInt64.toBitVec.isLt
  split at e2 <;> omega
theorem ms_n2 {a b : Int32} (ha : 0 ≤ a.toInt ∧ a.toInt ≤ 255) (hb : 0 ≤ b.toInt ∧ b.toInt ≤ 255) : 0 ≤ (ms_le [a, b]).toInt ∧ (ms_le [a, b]).toInt ≤ 65535 := by
  have e1 : (ms_le [b]).toBitVec.toNat < 256 := by
    rw [ms_le_c, BitVec.toNat_or]
    refine Nat.or_lt_two_pow (n := 8) ?_ (b_nat hb)
    show ((0 : Int64).toBitVec <<< 8).toNat < 2 ^ 8
    decide
  have e2 : (ms_le [a, b]).toBitVec.toNat < 65536 := by
    rw [ms_le_c, BitVec.toNat_or]
    refine Nat.or_lt_two_pow (n := 16) ?_ (Nat.lt_of_lt_of_le (b_nat ha) (by first | decide | simp))
    rw [BitVec.toNat_shiftLeft, Nat.shiftLeft_eq]
    refine Nat.lt_of_le_of_lt (Nat.mod_le _ _) ?_
    omega
  have e3 : (ms_le [a, b]).toInt = (ms_le [a, b]).toBitVec.toInt := rfl
  rw [e3, BitVec.toInt_eq_toNat_cond]
  split <;> omega
def ms_nb (bs : List Int32) (p k : Nat) : Int64 := ms_le ((bs.drop p).take k)
def ms_bt (bs : List Int32) : Prop := ∀ (i : Nat) (b : Int32), bs[i]? = some b → 0 ≤ b.toInt ∧ b.toInt ≤ 255
theorem ms_n16 {bs : List Int32} {p : Nat} (hb : ms_bt bs) (h : p + 2 ≤ bs.length) : 0 ≤ (ms_nb bs p 2).toInt ∧ (ms_nb bs p 2).toInt ≤ 65535 := by
  obtain ⟨a, ha⟩ := ms_ex_i (bs := bs) (i := p + 0) (by omega)
  obtain ⟨b, hb2⟩ := ms_ex_i (bs := bs) (i := p + 1) (by omega)
  have e : (bs.drop p).take 2 = [a, b] := by
    rw [show (2 : Nat) = 1 + 1 from rfl, ms_tk (k := 2) hb2 (by first | decide | simp), show (1 : Nat) = 0 + 1 from rfl, ms_tk (k := 2) ha (by first | decide | simp)]
    rfl
  unfold ms_nb
  rw [e]
  exact ms_n2 (hb _ _ ha) (hb _ _ hb2)
abbrev ms_bw (a b : Int64) : Prop := (a + ((-9223372036854775808 : Int64))).toInt < (b + ((-9223372036854775808 : Int64))).toInt
/-- the search: a fault, nothing found, or the bytes to be run -/
def ms_sr (bs : List Int32) (pc : Int64) : Nat → Int64 → Nat → Option (Int ⊕ Option (List Int32))
  | 0, _, _ => none
  | g + 1, B, p =>
    if bs.length < p + 16 then some (.inl 1)
    else if (ms_nb bs p 8).toInt = 0 ∧ (ms_nb bs (p + 8) 8).toInt = 0 then some (.inr none)
    else if (ms_nb bs p 8).toInt = -1 then ms_sr bs pc g (ms_nb bs (p + 8) 8) (p + 16)
    else if bs.length < p + 18 then some (.inl 1)
    else if bs.length < p + 18 + (ms_nb bs (p + 16) 2).toInt.toNat then some (.inl 1)
    else if ¬ ms_bw pc (B + ms_nb bs p 8) ∧ ms_bw pc (B + ms_nb bs (p + 8) 8) then some (.inr (some ((bs.drop (p + 18)).take (ms_nb bs (p + 16) 2).toInt.toNat)))
    else ms_sr bs pc g B (p + 18 + (ms_nb bs (p + 16) 2).toInt.toNat)
theorem ms_sr_m {bs : List Int32} {pc : Int64} {r : Int ⊕ Option (List Int32)} : ∀ (g : Nat) (B : Int64) (p : Nat), ms_sr bs pc g B p = some r → ms_sr bs pc (g + 1) B p = some r := by
  intro g
  induction g with
  | zero => intro B p h; cases h
  | succ g ih =>
    intro B p h
    rw [ms_sr] at h ⊢
    by_cases h1 : bs.length < p + 16
    · rw [if_pos h1] at h ⊢; exact h
    rw [if_neg h1] at h ⊢
    by_cases h2 : (ms_nb bs p 8).toInt = 0 ∧ (ms_nb bs (p + 8) 8).toInt = 0
    · rw [if_pos h2] at h ⊢; exact h
    rw [if_neg h2] at h ⊢
    by_cases h3 : (ms_nb bs p 8).toInt = -1
    · rw [if_pos h3] at h ⊢; exact ih _ _ h
    rw [if_neg h3] at h ⊢
    by_cases h4 : bs.length < p + 18
    · rw [if_pos h4] at h ⊢; exact h
    rw [if_neg h4] at h ⊢
    by_cases h5 : bs.length < p + 18 + (ms_nb bs (p + 16) 2).toInt.toNat
    · rw [if_pos h5] at h ⊢; exact h
    rw [if_neg h5] at h ⊢
    by_cases h6 : ¬ ms_bw pc (B + ms_nb bs p 8) ∧ ms_bw pc (B + ms_nb bs (p + 8) 8)
    · rw [if_pos h6] at h ⊢; exact h
    rw [if_neg h6] at h ⊢
    exact ih _ _ h
theorem ms_sr_n {bs : List Int32} {pc : Int64} {r : Int ⊕ Option (List Int32)} {g g2 : Nat} {B : Int64} {p : Nat} (h : ms_sr bs pc g B p = some r) (hg : g ≤ g2) : ms_sr bs pc g2 B p = some r := by
  induction hg with
  | refl => exact h
  | step _ ih => exact ms_sr_m _ _ _ ih
def ms_SR (bs : List Int32) (pc B : Int64) (p : Nat) (r : Int ⊕ Option (List Int32)) : Prop := ∃ g, ms_sr bs pc g B p = some r
section SR
variable {bs : List Int32} {pc B : Int64} {p : Nat} {r r2 : Int ⊕ Option (List Int32)}
theorem ms_SR_u (h : ms_SR bs pc B p r) (h2 : ms_SR bs pc B p r2) : r = r2 := by
  obtain ⟨g, h⟩ := h
  obtain ⟨g2, h2⟩ := h2
  have a := ms_sr_n (g2 := g + g2) h (by omega)
  have b := ms_sr_n (g2 := g + g2) h2 (by omega)
  rw [a] at b
  exact Option.some.inj b
theorem sr_a (h : bs.length < p + 16) : ms_SR bs pc B p (.inl 1) := ⟨0 + 1, by rw [ms_sr, if_pos h]⟩
theorem sr_b (h : ¬ bs.length < p + 16) (h1 : (ms_nb bs p 8).toInt = 0) (h2 : (ms_nb bs (p + 8) 8).toInt = 0) : ms_SR bs pc B p (.inr none) := ⟨0 + 1, by rw [ms_sr, if_neg h, if_pos ⟨h1, h2⟩]⟩
theorem sr_c (h : ¬ bs.length < p + 16) (h2 : ¬ ((ms_nb bs p 8).toInt = 0 ∧ (ms_nb bs (p + 8) 8).toInt = 0)) (h3 : (ms_nb bs p 8).toInt = -1) (hr : ms_SR bs pc (ms_nb bs (p + 8) 8) (p + 16) r) : ms_SR bs pc B p r := by
  obtain ⟨g, hr⟩ := hr
  exact ⟨g + 1, by rw [ms_sr, if_neg h, if_neg h2, if_pos h3]; exact hr⟩
theorem sr_d (h : ¬ bs.length < p + 16) (h2 : ¬ ((ms_nb bs p 8).toInt = 0 ∧ (ms_nb bs (p + 8) 8).toInt = 0)) (h3 : ¬ (ms_nb bs p 8).toInt = -1) (h4 : bs.length < p + 18) : ms_SR bs pc B p (.inl 1) := ⟨0 + 1, by rw [ms_sr, if_neg h, if_neg h2, if_neg h3, if_pos h4]⟩
theorem sr_e (h : ¬ bs.length < p + 16) (h2 : ¬ ((ms_nb bs p 8).toInt = 0 ∧ (ms_nb bs (p + 8) 8).toInt = 0)) (h3 : ¬ (ms_nb bs p 8).toInt = -1) (h4 : ¬ bs.length < p + 18) (h5 : bs.length < p + 18 + (ms_nb bs (p + 16) 2).toInt.toNat) : ms_SR bs pc B p (.inl 1) := ⟨0 + 1, by rw [ms_sr, if_neg h, if_neg h2, if_neg h3, if_neg h4, if_pos h5]⟩
theorem sr_f (h : ¬ bs.length < p + 16) (h2 : ¬ ((ms_nb bs p 8).toInt = 0 ∧ (ms_nb bs (p + 8) 8).toInt = 0)) (h3 : ¬ (ms_nb bs p 8).toInt = -1) (h4 : ¬ bs.length < p + 18) (h5 : ¬ bs.length < p + 18 + (ms_nb bs (p + 16) 2).toInt.toNat) (h6 : ¬ ms_bw pc (B + ms_nb bs p 8)) (h7 : ms_bw pc (B + ms_nb bs (p + 8) 8)) : ms_SR bs pc B p (.inr (some ((bs.drop (p + 18)).take (ms_nb bs (p + 16) 2).toInt.toNat))) := ⟨0 + 1, by rw [ms_sr, if_neg h, if_neg h2, if_neg h3, if_neg h4, if_neg h5, if_pos ⟨h6, h7⟩]⟩
theorem sr_g (h : ¬ bs.length < p + 16) (h2 : ¬ ((ms_nb bs p 8).toInt = 0 ∧ (ms_nb bs (p + 8) 8).toInt = 0)) (h3 : ¬ (ms_nb bs p 8).toInt = -1) (h4 : ¬ bs.length < p + 18) (h5 : ¬ bs.length < p + 18 + (ms_nb bs (p + 16) 2).toInt.toNat) (h6 : ¬ (¬ ms_bw pc (B + ms_nb bs p 8) ∧ ms_bw pc (B + ms_nb bs (p + 8) 8))) (hr : ms_SR bs pc B (p + 18 + (ms_nb bs (p + 16) 2).toInt.toNat) r) : ms_SR bs pc B p r := by
  obtain ⟨g, hr⟩ := hr
  exact ⟨g + 1, by rw [ms_sr, if_neg h, if_neg h2, if_neg h3, if_neg h4, if_neg h5, if_neg h6]; exact hr⟩
end SR
theorem bk_bt {FI : Nat → Nat → Int32} {SH : Nat → Nat × Nat} {r A : Nat} {bs : List Int32} (h : bk FI SH r A bs) : ms_bt bs := fun i b hi => (h.2.2.2 i b hi).2
/-- what a search or a run has to answer -/
def ms_F (E : ms_E) (bs : List Int32) (pc B : Int64) (p f : Nat) (a : Int ⊕ ms_Q) : Prop := ∃ r, ms_SR bs pc B p r ∧ match r with
  | .inl e => a = .inl e
  | .inr none => a = .inr (false, [(ms_0, 0, 0)])
  | .inr (some L) => ∃ q, ms_R E 0 0 L 0 f ([], ms_0, []) q ∧ a = ms_en q
def ms_G (E : ms_E) (bs : List Int32) (f : Nat) (a : Int ⊕ ms_Q) : Prop := ∃ q, ms_R E 0 0 bs 0 f ([], ms_0, []) q ∧ a = ms_en q
theorem ms_G_u {E : ms_E} {bs : List Int32} {f : Nat} {a a2 : Int ⊕ ms_Q} (h : ms_G E bs f a) (h2 : ms_G E bs f a2) : a = a2 := by
  obtain ⟨q, h, e⟩ := h
  obtain ⟨q2, h2, e2⟩ := h2
  rw [e, e2, ms_R_u h h2]
theorem ms_F_u {E : ms_E} {bs : List Int32} {pc B : Int64} {p f : Nat} {a a2 : Int ⊕ ms_Q} (h : ms_F E bs pc B p f a) (h2 : ms_F E bs pc B p f a2) : a = a2 := by
  obtain ⟨r, h, e⟩ := h
  obtain ⟨r2, h2, e2⟩ := h2
  have er := ms_SR_u h h2
  subst er
  match r, e, e2 with
  | .inl x, e, e2 => rw [e, e2]
  | .inr none, e, e2 => rw [e, e2]
  | .inr (some L), e, e2 => exact ms_G_u e e2
/-- an answer, in the reference -/
def rz (FI : Nat → Nat → Int32) (FL : Nat → Nat → Int64) (Q0 : ms_Q) (v : Int32) : Int ⊕ ms_Q → Prop
  | .inl e => v.toInt = e ∧ e ≠ 0 ∧ rr FI FL Q0
  | .inr Q => v.toInt = 0 ∧ rr FI FL Q
section RJ
variable {n sl : Nat} {SH : Nat → Nat × Nat} {FR : Nat → Nat → Option Nat} {E : ms_E} {FI : Nat → Nat → Int32} {FL : Nat → Nat → Int64}
theorem i_bw {a b : Int64} : (fX12_isBelow a b SH FI FL FR).toInt = 0 ↔ ¬ ms_bw a b := by
  unfold fX12_isBelow ms_bw
  by_cases h : (a + ((-9223372036854775808 : Int64))).toInt < (b + ((-9223372036854775808 : Int64))).toInt
  · rw [if_pos h]; exact ⟨fun e => absurd e (by first | decide | simp), fun e => absurd h e⟩
  · rw [if_neg h]; exact ⟨fun _ => h, fun _ => by first | decide | simp⟩
theorem r_runs2 {A f : Nat} {bs : List Int32} {a1 a2 a3 v : Int32} {Q0 : ms_Q} {st : hS} (hb : bk FI SH 124 A bs) (hbl : bs.length ≤ 600) (h1 : a1.toInt = A) (h2 : a2.toInt = bs.length) (h3 : a3.toInt = f) (hf1 : f ≤ 1000) (hE : rE FI FL SH E) (hne : ∀ e, ms_R E 0 0 bs 0 f ([], ms_0, []) (.inl e) → e ≠ 0) (hQ : rr FI FL Q0) (h : RX12_runs a1 a2 a3 n sl SH FI FL FR v st) : ∃ a, ms_G E bs f a ∧ ∃ F2 L2, st = (n, sl, SH, F2, L2, FR) ∧ xr FI FL F2 L2 ∧ rz F2 L2 Q0 v a := by
  obtain ⟨q, hq, F2, L2, e, x, m⟩ := r_runs hb hbl h1 h2 h3 hf1 hE hne hQ h
  refine ⟨ms_en q, ⟨q, hq, rfl⟩, F2, L2, e, x, ?_⟩
  generalize ms_en q = a at m ⊢
  match a, m with
  | .inl e, m => exact m
  | .inr Q, m => exact m
theorem r_f12 {A f : Nat} {bs : List Int32} {a1 a2 a5 : Int32} {a3 a4 : Int64} {Q0 : ms_Q} (hb : bk FI SH 124 A bs) (hbl : bs.length ≤ 600) (h1 : a1.toInt = A) (h2 : a2.toInt = bs.length) (h5 : a5.toInt = f) (hf1 : f ≤ 1000) (hE : rE FI FL SH E) (hQ : rr FI FL Q0) : ∀ (g p : Nat) (B : Int64) (l10 v : Int32) (st : hS), l10.toInt = p → p ≤ bs.length → (∀ L, ms_SR bs a4 B p (.inr (some L)) → ∀ e, ms_R E 0 0 L 0 f ([], ms_0, []) (.inl e) → e ≠ 0) → GX12_finds_12 a1 a2 a3 a4 a5 g B l10 n sl SH FI FL FR v st → ∃ a, ms_F E bs a4 B p f a ∧ ∃ F2 L2, st = (n, sl, SH, F2, L2, FR) ∧ xr FI FL F2 L2 ∧ rz F2 L2 Q0 v a := by
  intro g
  induction g with
  | zero => intro p B l10 v st _ _ _ h; exact h.elim
  | succ g ih =>
    intro p B l10 v st hp hpl hne h
    have b2 := hb.2.1
    have b3 := hb.2.2.1
    have e16 : (l10 + (16 : Int32)).toInt = ((p + 16 : Nat) : Int) := by rw [i_add hp (by first | decide | simp : ((16 : Int32)).toInt = 16) (by omega) (by omega)]; omega
    have e18 : (l10 + (18 : Int32)).toInt = ((p + 18 : Nat) : Int) := by rw [i_add hp (by first | decide | simp : ((18 : Int32)).toInt = 18) (by omega) (by omega)]; omega
    have eA : (a1 + l10).toInt = ((A + p : Nat) : Int) := by rw [i_add h1 hp (by omega) (by omega)]; omega
    have eA8 : (a1 + l10 + (8 : Int32)).toInt = ((A + (p + 8) : Nat) : Int) := by rw [i_add eA (by first | decide | simp : ((8 : Int32)).toInt = 8) (by omega) (by omega)]; omega
    have eA16 : (a1 + l10 + (16 : Int32)).toInt = ((A + (p + 16) : Nat) : Int) := by rw [i_add eA (by first | decide | simp : ((16 : Int32)).toInt = 16) (by omega) (by omega)]; omega
    have eA18 : (a1 + l10 + (18 : Int32)).toInt = ((A + (p + 18) : Nat) : Int) := by rw [i_add eA (by first | decide | simp : ((18 : Int32)).toInt = 18) (by omega) (by omega)]; omega
    have fault1 : ms_SR bs a4 B p (.inl 1) → P_bi (RX12_tells ((1 : Int32)) l10 n sl SH FI FL FR) (fun v1 n1 sl1 SH1 FI1 FL1 FR1 => P_ret v1 (n1, sl1, SH1, FI1, FL1, FR1)) v st → ∃ a, ms_F E bs a4 B p f a ∧ ∃ F2 L2, st = (n, sl, SH, F2, L2, FR) ∧ xr FI FL F2 L2 ∧ rz F2 L2 Q0 v a := by
      intro hs h
      obtain ⟨v1, n1, sl1, SH1, FI1, FL1, FR1, ht, e1, e⟩ := h
      obtain ⟨w1, F2, w2, w3⟩ := r_tells ht
      cases w2
      exact ⟨.inl 1, ⟨.inl 1, hs, rfl⟩, _, _, e, ⟨fun c hc => ⟨fk_row w3 (by omega), rfl⟩, fun k hk => ⟨fk_at w3 (by simp; omega), rfl⟩⟩, by rw [e1, w1]; decide, by first | decide | simp, rr_fr hQ (fun c hc => fk_row w3 (by omega)) rfl (fk_at w3 (by first | decide | simp)) (fk_at w3 (by first | decide | simp))⟩
    rcases h with ⟨h0, h⟩ | ⟨h0, h⟩
    · rw [h2, e16] at h0
      exact fault1 (sr_a (by omega)) h
    rw [h2, e16] at h0
    have k0 : ¬ bs.length < p + 16 := by omega
    obtain ⟨v2, n2, sl2, SH2, FI2, FL2, FR2, hn2, v3, n3, sl3, SH3, FI3, FL3, FR3, hn3, h⟩ := h
    obtain ⟨w2, y2⟩ := rn_num (p := p) (k := 8) hb eA (by first | decide | simp) (by first | decide | simp) (by omega) hn2
    cases y2
    obtain ⟨w3, y3⟩ := rn_num (p := p + 8) (k := 8) hb eA8 (by first | decide | simp) (by first | decide | simp) (by omega) hn3
    cases y3
    have go : ¬ ((ms_nb bs p 8).toInt = 0 ∧ (ms_nb bs (p + 8) 8).toInt = 0) → RX12_finds_81 (GX12_finds_12 a1 a2 a3 a4 a5 g) a1 a2 a3 a4 a5 B l10 v2 v3 n sl SH FI FL FR v st → ∃ a, ms_F E bs a4 B p f a ∧ ∃ F2 L2, st = (n, sl, SH, F2, L2, FR) ∧ xr FI FL F2 L2 ∧ rz F2 L2 Q0 v a := by
      intro k1 h
      rw [w2, w3] at h
      rcases h with ⟨q1, h⟩ | ⟨q1, h⟩
      · have q1 : (ms_nb bs p 8).toInt = -1 := q1
        obtain ⟨a, ⟨r, r1, r2⟩, z⟩ := ih (p + 16) (ms_nb bs (p + 8) 8) _ v st e16 (by omega) (fun L hL => hne L (sr_c k0 k1 q1 hL)) h
        exact ⟨a, ⟨r, sr_c k0 k1 q1 r1, r2⟩, z⟩
      have q1 : ¬ (ms_nb bs p 8).toInt = -1 := q1
      rcases h with ⟨q2, h⟩ | ⟨q2, h⟩
      · rw [h2, e18] at q2
        exact fault1 (sr_d k0 k1 q1 (by omega)) h
      rw [h2, e18] at q2
      have k2 : ¬ bs.length < p + 18 := by omega
      obtain ⟨v4, n4, sl4, SH4, FI4, FL4, FR4, hn4, h⟩ := h
      obtain ⟨w4, y4⟩ := rn_num (p := p + 16) (k := 2) hb eA16 (by first | decide | simp) (by first | decide | simp) (by omega) hn4
      cases y4
      have hz := ms_n16 (p := p + 16) (bk_bt hb) (by omega)
      have w4 : v4 = ms_nb bs (p + 16) 2 := w4
      rw [w4] at h
      have ez : ((ms_nb bs (p + 16) 2).toInt32).toInt = (((ms_nb bs (p + 16) 2).toInt.toNat : Nat) : Int) := by rw [l_2i (A := (ms_nb bs (p + 16) 2).toInt) rfl (by omega) (by omega)]; omega
      generalize hzz : (ms_nb bs (p + 16) 2).toInt.toNat = z at ez
      have hz2 : z ≤ 65535 := by omega
      have e18z : (l10 + (18 : Int32) + (ms_nb bs (p + 16) 2).toInt32).toInt = ((p + 18 + z : Nat) : Int) := by rw [i_add e18 ez (by omega) (by omega)]; omega
      have on : ∀ _ : ¬ (bs.length < p + 18 + z), ¬ (¬ ms_bw a4 (B + ms_nb bs p 8) ∧ ms_bw a4 (B + ms_nb bs (p + 8) 8)) → GX12_finds_12 a1 a2 a3 a4 a5 g B (l10 + (18 : Int32) + (ms_nb bs (p + 16) 2).toInt32) n sl SH FI FL FR v st → ∃ a, ms_F E bs a4 B p f a ∧ ∃ F2 L2, st = (n, sl, SH, F2, L2, FR) ∧ xr FI FL F2 L2 ∧ rz F2 L2 Q0 v a := by
        intro k3 k4 h
        obtain ⟨a, ⟨r, r1, r2⟩, z2⟩ := ih (p + 18 + z) B _ v st e18z (by omega) (fun L hL => hne L (sr_g k0 k1 q1 k2 (by rw [hzz]; exact k3) k4 (by rw [hzz]; exact hL))) h
        exact ⟨a, ⟨r, sr_g k0 k1 q1 k2 (by rw [hzz]; exact k3) k4 (by rw [hzz]; exact r1), r2⟩, z2⟩
      rcases h with ⟨q3, h⟩ | ⟨q3, h⟩
      · rw [h2, e18z] at q3
        exact fault1 (sr_e k0 k1 q1 k2 (by rw [hzz]; omega)) h
      rw [h2, e18z] at q3
      have k3 : ¬ bs.length < p + 18 + z := by omega
      rcases h with ⟨q4, h⟩ | ⟨q4, h⟩
      · have q4 := i_bw.mp q4
        rcases h with ⟨q5, h⟩ | ⟨q5, h⟩
        · have q5 := i_bw.mp q5
          exact on k3 (fun e => q5 e.2) h
        · have q5 : ms_bw a4 (B + ms_nb bs (p + 8) 8) := Decidable.not_not.mp (fun e => q5 (i_bw.mpr e))
          obtain ⟨v9, n9, sl9, SH9, FI9, FL9, FR9, hru, e1, e⟩ := h
          have sub := bk_sub (q := p + 18) (k := z) hb (by omega)
          have ln : ((bs.drop (p + 18)).take z).length = z := ms_ln (by omega)
          have hf := sr_f k0 k1 q1 k2 (by rw [hzz]; exact k3) q4 q5
          rw [hzz] at hf
          obtain ⟨a, hG, F2, L2, e2, x, m⟩ := r_runs2 sub (by omega) eA18 (by rw [ez, ln]) h5 hf1 hE (hne _ hf) hQ hru
          cases e2
          exact ⟨a, ⟨_, hf, hG⟩, _, _, e, x, by rw [e1]; exact m⟩
      · have q4 : ms_bw a4 (B + ms_nb bs p 8) := Decidable.not_not.mp (fun e => q4 (i_bw.mpr e))
        exact on k3 (fun e => e.1 q4) h
    have t2 : v2.toInt = (ms_nb bs p 8).toInt := by rw [w2]; rfl
    have t3 : v3.toInt = (ms_nb bs (p + 8) 8).toInt := by rw [w3]; rfl
    rcases h with ⟨q1, h⟩ | ⟨q1, h⟩
    · rcases h with ⟨q2, h⟩ | ⟨q2, h⟩
      · obtain ⟨u6, n6, sl6, SH6, FI6, FL6, FR6, hem, v7, n7, sl7, SH7, FI7, FL7, FR7, ht, e1, e⟩ := h
        obtain ⟨F6, L6, y6, p6, f6⟩ := r_empty hem
        cases y6
        obtain ⟨w1, F2, y7, w7⟩ := r_tells ht
        cases y7
        have r6 : ∀ c, c ≠ 121 → c ≠ 143 → c ≠ 145 → c ≠ 146 → c ≠ 147 → FI6 c = FI c := fun c c1 c2 c3 c4 c5 => by rw [f6.1 c c2 c3 c4 c5, h_up_nc c1, h_up_nc c1]
        have x6 : xr FI FL FI6 FL6 := ⟨fun c hc => ⟨r6 c (by omega) (by omega) (by omega) (by omega) (by omega), f6.2.1 c (by omega)⟩, fun k hk => ⟨by rw [f6.1 121 (by first | decide | simp) (by first | decide | simp) (by first | decide | simp) (by first | decide | simp), h_up_ne (by omega), h_up_ne (by omega)], by rw [f6.2.1 121 (by first | decide | simp)]⟩⟩
        have a46 : (FI6 121 46).toInt = 1 := by rw [f6.1 121 (by first | decide | simp) (by first | decide | simp) (by first | decide | simp) (by first | decide | simp), h_up_ne (by first | decide | simp), h_up_eq]; decide
        have a47 : (FI6 121 47).toInt = 0 := by rw [f6.1 121 (by first | decide | simp) (by first | decide | simp) (by first | decide | simp) (by first | decide | simp), h_up_eq]; decide
        refine ⟨.inr (false, [(ms_0, 0, 0)]), ⟨.inr none, sr_b k0 (by rw [← t2]; exact q1) (by rw [← t3]; exact q2), rfl⟩, _, _, e, xr_tr x6 ⟨fun c hc => ⟨fk_row w7 (by omega), rfl⟩, fun k hk => ⟨fk_at w7 (by simp; omega), rfl⟩⟩, by rw [e1, w1]; decide, ?_⟩
        exact rr_fr (FI := FI6) (FL := FL6) ⟨a46, ⟨fun _ => rfl, fun _ => a47⟩, ⟨by first | decide | simp, by simp⟩, fun _ => rfl, p6, trivial⟩ (fun c hc => fk_row w7 (by omega)) rfl (fk_at w7 (by first | decide | simp)) (fk_at w7 (by first | decide | simp))
      · exact go (fun e => q2 (by rw [t3]; exact e.2)) h
    · exact go (fun e => q1 (by rw [t2]; exact e.1)) h
theorem r_finds {A f : Nat} {bs : List Int32} {a1 a2 a5 v : Int32} {a3 a4 : Int64} {Q0 : ms_Q} {st : hS} (hb : bk FI SH 124 A bs) (hbl : bs.length ≤ 600) (h1 : a1.toInt = A) (h2 : a2.toInt = bs.length) (h5 : a5.toInt = f) (hf1 : f ≤ 1000) (hE : rE FI FL SH E) (hQ : rr FI FL Q0) (hne : ∀ L, ms_SR bs a4 a3 0 (.inr (some L)) → ∀ e, ms_R E 0 0 L 0 f ([], ms_0, []) (.inl e) → e ≠ 0) (h : RX12_finds a1 a2 a3 a4 a5 n sl SH FI FL FR v st) : ∃ a, ms_F E bs a4 a3 0 f a ∧ ∃ F2 L2, st = (n, sl, SH, F2, L2, FR) ∧ xr FI FL F2 L2 ∧ rz F2 L2 Q0 v a := by
  obtain ⟨u0, n0, sl0, SH0, FI0, FL0, FR0, ⟨-, e0⟩, g, h⟩ := h
  cases e0
  have j0 : fk [29, 30, 31, 32, 33] FI (h_up (h_up (h_up (h_up (h_up FI 121 30 a5) 121 31 ((0 : Int32))) 121 32 ((0 : Int32))) 121 29 ((0 : Int32))) 121 33 ((-1 : Int32))) := fk_up (fk_up (fk_up (fk_up (fk_up fk_rf (by first | decide | simp)) (by first | decide | simp)) (by first | decide | simp)) (by first | decide | simp)) (by first | decide | simp)
  generalize h_up (h_up (h_up (h_up (h_up FI 121 30 a5) 121 31 ((0 : Int32))) 121 32 ((0 : Int32))) 121 29 ((0 : Int32))) 121 33 ((-1 : Int32)) = FB at h j0
  have hEB : rE FB FL SH E := rE_fr hE (fk_row j0 (by first | decide | simp)) (fk_row j0 (by first | decide | simp)) (fk_row j0 (by first | decide | simp)) (fun k hk => fk_at j0 (by simp; omega)) (fun _ _ => rfl) rfl
  have xB : xr FI FL FB FL := ⟨fun c hc => ⟨fk_row j0 (by omega), rfl⟩, fun k hk => ⟨fk_at j0 (by simp; omega), rfl⟩⟩
  have QB : rr FB FL Q0 := rr_fr hQ (fun c hc => fk_row j0 (by omega)) rfl (fk_at j0 (by first | decide | simp)) (fk_at j0 (by first | decide | simp))
  obtain ⟨a, z1, F2, L2, z2, z3, z4⟩ := r_f12 (A := A) (f := f) (bk_fr hb (fk_row j0 (by first | decide | simp))) hbl h1 h2 h5 hf1 hEB QB g 0 a3 _ v st (by first | decide | simp) (by omega) hne h
  exact ⟨a, z1, F2, L2, z2, xr_tr xB z3, z4⟩
end RJ
