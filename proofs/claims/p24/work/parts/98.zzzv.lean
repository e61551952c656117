/-! FAULTS ARE NOT 0; FRAME's base for means. -/
def q_ok (bs : List Int32) (r : Int ⊕ (Int64 × Nat)) : Prop := match r with
  | .inl e => e ≠ 0
  | .inr x => x.2 ≤ bs.length
def o_ok (bs : List Int32) (r : Int ⊕ ms_O) : Prop := match r with
  | .inl e => e ≠ 0
  | .inr x => x.2.2.1 ≤ bs.length
def a_ok (bs : List Int32) (r : Int ⊕ ms_A) : Prop := match r with
  | .inl e => e ≠ 0
  | .inr (.inl x) => x.1 ≤ bs.length
  | .inr (.inr (.inl x)) => x.2 ≤ bs.length
  | .inr (.inr (.inr x)) => x.2 ≤ bs.length
section NE
variable {E : ms_E} {bs : List Int32} {p l o k : Nat} {c : Int} {s : ms_S} {x : ms_O} {sg : Bool}
theorem lb_ok : ∀ (f i p : Nat) (v : Int64), q_ok bs (ms_lb sg bs f i p v) := by
  intro f
  induction f with
  | zero => intro i p v; show (15 : Int) ≠ 0; (first | decide | (simp; done) | (simp [ms_0]; done))
  | succ f ih =>
    intro i p v
    rw [ms_lb]
    cases hb : bs[p]? with
    | none => show (1 : Int) ≠ 0; (first | decide | (simp; done) | (simp [ms_0]; done))
    | some b =>
      (try dsimp only)
      have hp := (List.getElem?_eq_some_iff.mp hb).1
      by_cases h : b.toInt < 128
      · rw [if_pos h]
        show p + 1 ≤ bs.length
        omega
      · rw [if_neg h]
        exact ih _ _ _
theorem fx_ok : q_ok bs (ms_fx bs p k) := by
  unfold ms_fx
  by_cases h : bs.length < p + k
  · rw [if_pos h]; show (1 : Int) ≠ 0; (first | decide | (simp; done) | (simp [ms_0]; done))
  · rw [if_neg h]; show p + k ≤ bs.length; omega
theorem fs_ok : q_ok bs (ms_fs bs p k) := by
  unfold ms_fs
  by_cases h : bs.length < p + k
  · rw [if_pos h]; show (1 : Int) ≠ 0; (first | decide | (simp; done) | (simp [ms_0]; done))
  · rw [if_neg h]; show p + k ≤ bs.length; omega
theorem o1_ok {r : Int ⊕ (Int64 × Nat)} (h : q_ok bs r) : o_ok bs (ms_o1 r) := by
  match r, h with
  | .inl e, h => exact h
  | .inr x, h => exact h
theorem o2_ok {r : Int ⊕ (Int64 × Nat)} {q : Nat → Int ⊕ (Int64 × Nat)} (h : q_ok bs r) (g : ∀ p, q_ok bs (q p)) : o_ok bs (ms_o2 r q) := by
  match r, h with
  | .inl e, h => exact h
  | .inr x, _ =>
    have g2 := g x.2
    unfold ms_o2
    (try dsimp only)
    generalize q x.2 = z at g2 ⊢
    match z, g2 with
    | .inl e, g2 => exact g2
    | .inr y, g2 => exact g2
theorem o3_ok {r : Int ⊕ (Int64 × Nat)} (h : q_ok bs r) : o_ok bs (ms_o3 bs r) := by
  match r, h with
  | .inl e, h => exact h
  | .inr x, h =>
    have h : x.2 ≤ bs.length := h
    unfold ms_o3
    (try dsimp only)
    by_cases c : x.1.toInt < 0 ∨ (bs.length : Int) - x.2 < x.1.toInt
    · rw [if_pos c]; show (1 : Int) ≠ 0; (first | decide | (simp; done) | (simp [ms_0]; done))
    · rw [if_neg c]
      show x.2 + x.1.toInt.toNat ≤ bs.length
      omega
theorem op_ok : o_ok bs (ms_op c bs p) := by
  unfold ms_op
  by_cases h1 : ms_kn c = false
  · rw [if_pos h1]; show (2 : Int) ≠ 0; (first | decide | (simp; done) | (simp [ms_0]; done))
  rw [if_neg h1]
  by_cases h2 : ms_sh c = 24
  · rw [if_pos h2]; exact o3_ok (lb_ok _ _ _ _)
  rw [if_neg h2]
  by_cases h3 : ms_sh c = 23
  · rw [if_pos h3]; exact o2_ok (lb_ok _ _ _ _) (fun _ => lb_ok _ _ _ _)
  rw [if_neg h3]
  by_cases h4 : ms_sh c = 22
  · rw [if_pos h4]; exact o2_ok (lb_ok _ _ _ _) (fun _ => lb_ok _ _ _ _)
  rw [if_neg h4]
  by_cases h5 : ms_sh c = 21
  · rw [if_pos h5]; exact o1_ok (lb_ok _ _ _ _)
  rw [if_neg h5]
  by_cases h6 : ms_sh c = 20
  · rw [if_pos h6]; exact o1_ok (lb_ok _ _ _ _)
  rw [if_neg h6]
  by_cases h7 : 10 < ms_sh c
  · rw [if_pos h7]; exact o1_ok fs_ok
  · rw [if_neg h7]; exact o1_ok fx_ok
def nz {α : Type} (x : Int ⊕ α) : Prop := ∀ e, x = .inl e → e ≠ 0
theorem nz_r {α : Type} {y : α} : nz (.inr y : Int ⊕ α) := fun e h => by cases h
theorem nz_l {α : Type} {e : Int} (h : e ≠ 0) : nz (.inl e : Int ⊕ α) := fun e2 h2 => by
  cases h2
  exact h
theorem nz_if {α : Type} {P : Prop} {d : Decidable P} {x y : Int ⊕ α} (h1 : nz x) (h2 : nz y) : nz (if P then x else y) := by
  by_cases h : P
  · rw [if_pos h]; exact h1
  · rw [if_neg h]; exact h2
theorem nz_ps {v : Int64} {S : List Int64} {H : ms_H} : nz (ms_ps v S H) := by
  unfold ms_ps
  exact nz_if (nz_l (by decide)) nz_r
theorem x_nz {a b : Int64} {bl : List Int32} {S : List Int64} {H : ms_H} : nz (ms_x E c a b bl S H) := by
  unfold ms_x
  refine nz_if nz_ps (nz_if nz_r (nz_if nz_ps (nz_if nz_ps (nz_if nz_r (nz_if nz_ps (nz_if nz_r (nz_if ?_ (nz_if ?_ (nz_if nz_r ?_)))))))))
  · cases ms_ob E with
    | none => exact nz_l (by decide)
    | some v => exact nz_ps
  · exact nz_if (nz_l (by decide)) nz_ps
  · cases S with
    | nil => exact nz_l (by decide)
    | cons t R =>
      refine nz_if (nz_if (nz_l (by decide)) nz_r) (nz_if (nz_if (nz_l (by decide)) nz_r) (nz_if nz_ps (nz_if nz_r (nz_if nz_ps (nz_if nz_r (nz_if nz_r (nz_if nz_r (nz_if nz_r (nz_if ?_ (nz_if nz_r ?_))))))))))
      · cases ms_tl E with
        | none => exact nz_l (by decide)
        | some v => exact nz_r
      · cases R with
        | nil => exact nz_l (by decide)
        | cons s Q =>
          refine nz_if nz_ps (nz_if nz_r (nz_if ?_ (nz_if (nz_l (by decide)) nz_r)))
          cases Q with
          | nil => exact nz_l (by decide)
          | cons r Q2 => exact nz_r
theorem x_ne {a b : Int64} {bl : List Int32} {S : List Int64} {H : ms_H} {e : Int} (h : ms_x E c a b bl S H = .inl e) : e ≠ 0 := by
  exact x_nz e h
theorem bs_ne {e : Int} (h : ms_bs E s = .inl e) : e ≠ 0 := by
  unfold ms_bs at h
  repeat' split at h
  all_goals (cases h <;> decide)
theorem jp_ok {a : Int64} : a_ok bs (ms_jp bs p a s) := by
  unfold ms_jp
  by_cases h : (p : Int) + a.toInt < 0 ∨ (bs.length : Int) < p + a.toInt
  · rw [if_pos h]; show (7 : Int) ≠ 0; (first | decide | (simp; done) | (simp [ms_0]; done))
  · rw [if_neg h]
    show ((p : Int) + a.toInt).toNat ≤ bs.length
    omega
theorem d4_ok {r : Int ⊕ (List Int64 × ms_H)} (hp : p ≤ bs.length) (h : ∀ e, r = .inl e → e ≠ 0) : a_ok bs (ms_d4 p s r) := by
  match r, h with
  | .inl e, h => exact h e rfl
  | .inr y, _ => exact hp
theorem d3_ok (hp : x.2.2.1 ≤ bs.length) : a_ok bs (ms_d3 E l o bs c x s) := by
  unfold ms_d3
  by_cases h1 : c = 47
  · rw [if_pos h1]; exact jp_ok
  rw [if_neg h1]
  by_cases h2 : c = 40
  · rw [if_pos h2]
    cases hs : s.1 with
    | nil => show (3 : Int) ≠ 0; (first | decide | (simp; done) | (simp [ms_0]; done))
    | cons t R =>
      (try dsimp only)
      by_cases h3 : t.toInt = 0
      · rw [if_pos h3]; exact hp
      · rw [if_neg h3]; exact jp_ok
  rw [if_neg h2]
  by_cases h3 : c = 152 ∨ c = 153
  · rw [if_pos h3]
    by_cases h4 : 15 < x.1.toInt ∨ o = 8
    · rw [if_pos h4]; show (8 : Int) ≠ 0; (first | decide | (simp; done) | (simp [ms_0]; done))
    · rw [if_neg h4]; exact hp
  rw [if_neg h3]
  by_cases h4 : c = 145
  · rw [if_pos h4]
    by_cases h5 : l = 1 ∨ ms_fr E = -1
    · rw [if_pos h5]; show (11 : Int) ≠ 0; (first | decide | (simp; done) | (simp [ms_0]; done))
    · rw [if_neg h5]; exact hp
  · rw [if_neg h4]; exact d4_ok hp (fun e h => x_ne h)
theorem d2_ok (hp : x.2.2.1 ≤ bs.length) : a_ok bs (ms_d2 E l o bs c x s) := by
  unfold ms_d2
  by_cases h1 : c = 147 ∨ c = 157
  · rw [if_pos h1]
    cases ms_pc c x.1 x.2.1 s with
    | none => show (13 : Int) ≠ 0; (first | decide | (simp; done) | (simp [ms_0]; done))
    | some s2 => exact hp
  rw [if_neg h1]
  by_cases h2 : (s.1.length : Int) < ms_wt c x.1
  · rw [if_pos h2]; show (3 : Int) ≠ 0; (first | decide | (simp; done) | (simp [ms_0]; done))
  · rw [if_neg h2]; exact d3_ok hp
theorem do_ok (hp : x.2.2.1 ≤ bs.length) : a_ok bs (ms_do E l o bs c x s) := by
  unfold ms_do
  by_cases h1 : s.2.1.1 ≠ 0 ∧ ¬ (c = 147 ∨ c = 157 ∨ c = 150 ∨ c = 47 ∨ c = 152 ∨ c = 153)
  · rw [if_pos h1]; show (9 : Int) ≠ 0; (first | decide | (simp; done) | (simp [ms_0]; done))
  rw [if_neg h1]
  by_cases h2 : (c = 144 ∨ c = 146) ∧ (x.1.toInt < 0 ∨ 31 < x.1.toInt)
  · rw [if_pos h2]; show (14 : Int) ≠ 0; (first | decide | (simp; done) | (simp [ms_0]; done))
  rw [if_neg h2]
  by_cases h3 : c = 148 ∧ (x.1.toInt < 1 ∨ 8 < x.1.toInt)
  · rw [if_pos h3]; show (10 : Int) ≠ 0; (first | decide | (simp; done) | (simp [ms_0]; done))
  · rw [if_neg h3]; exact d2_ok hp
theorem one_ok (hp : p < bs.length) : a_ok bs (ms_one E l o bs p s) := by
  unfold ms_one
  rw [List.getElem?_eq_getElem hp]
  (try dsimp only)
  have h := op_ok (bs := bs) (c := (bs[p]).toInt) (p := p + 1)
  generalize ms_op (bs[p]).toInt bs (p + 1) = z at h ⊢
  match z, h with
  | .inl e, h => exact h
  | .inr x, h => exact do_ok h
theorem run_ne : ∀ (g l o : Nat) (bs : List Int32) (p f : Nat) (s : ms_S) (e : Int), p ≤ bs.length → ms_run E g l o bs p f s = some (.inl e) → e ≠ 0 := by
  intro g
  induction g with
  | zero => intro l o bs p f s e _ h; cases h
  | succ g ih =>
    intro l o bs p f s e hp h
    rw [ms_run] at h
    by_cases h1 : p = bs.length
    · rw [if_pos h1] at h; cases h
    rw [if_neg h1] at h
    by_cases h2 : f = 0
    · rw [if_pos h2] at h
      cases h
      decide
    rw [if_neg h2] at h
    have a := one_ok (E := E) (l := l) (o := o) (s := s) (bs := bs) (p := p) (by omega)
    generalize ms_one E l o bs p s = q at h a
    match q, a, h with
    | .inl e2, a, h => cases h; exact a
    | .inr (.inl x), a, h => exact ih _ _ _ _ _ _ _ a h
    | .inr (.inr (.inl x)), a, h =>
      (try dsimp only at h)
      cases hc : ms_run E g l (o + 1) (ms_ex E x.1) 0 (f - 1) s with
      | none => rw [hc] at h; cases h
      | some w =>
        rw [hc] at h
        match w, hc, h with
        | .inl e2, hc, h => cases h; exact ih _ _ _ _ _ _ _ (Nat.zero_le _) hc
        | .inr y, _, h => exact ih _ _ _ _ _ _ _ a h
    | .inr (.inr (.inr x)), a, h =>
      (try dsimp only at h)
      cases hc : ms_run E g 1 o (ms_ex E (ms_fr E).toNat) 0 (f - 1) ([], ms_0, []) with
      | none => rw [hc] at h; cases h
      | some w =>
        rw [hc] at h
        match w, hc, h with
        | .inl e2, hc, h => cases h; exact ih _ _ _ _ _ _ _ (Nat.zero_le _) hc
        | .inr y, _, h =>
          (try dsimp only at h)
          cases hz : ms_bs E y.2 with
          | inl e2 =>
            rw [hz] at h
            cases h
            exact bs_ne hz
          | inr v =>
            rw [hz] at h
            (try dsimp only at h)
            by_cases h3 : s.1.length = 128
            · rw [if_pos h3] at h; cases h; (first | decide | (simp; done) | (simp [ms_0]; done))
            · rw [if_neg h3] at h; exact ih _ _ _ _ _ _ _ a h
theorem ms_ne {f : Nat} {e : Int} (h : ms_R E l o bs 0 f s (.inl e)) : e ≠ 0 := by
  obtain ⟨g, h⟩ := h
  exact run_ne g l o bs 0 f s e (Nat.zero_le _) h
theorem fb_ex (E : ms_E) : ∃ fb : xX, xfq E fb := by
  by_cases h1 : ms_fr E = -1
  · exact ⟨.inl 11, ⟨fun _ => rfl, fun h => absurd h1 h⟩, fun e h => by cases h; (first | decide | (simp; done) | (simp [ms_0]; done))⟩
  · by_cases h2 : ∃ q, ms_R E 1 0 (ms_ex E (ms_fr E).toNat) 0 1000 ([], ms_0, []) q
    · obtain ⟨q, hq⟩ := h2
      match q, hq with
      | .inl e2, hq => exact ⟨.inl e2, ⟨fun h => absurd h h1, fun _ q2 hq2 => by rw [ms_R_u hq2 hq]⟩, fun e he => by cases he; exact ms_ne hq⟩
      | .inr y, hq => exact ⟨ms_bs E y.2, ⟨fun h => absurd h h1, fun _ q2 hq2 => by rw [ms_R_u hq2 hq]⟩, fun e he => bs_ne he⟩
    · exact ⟨.inl 11, ⟨fun h => absurd h h1, fun _ q hq => absurd ⟨q, hq⟩ h2⟩, fun e h => by cases h; (first | decide | (simp; done) | (simp [ms_0]; done))⟩
end NE
/-! RUN, FIND, WHERE as the desk calls them. -/
def go_is (A : ab_A) (v : Int32) (a : Int ⊕ ms_Q) (A2 : ab_A) : Prop := match a with
  | .inl e => v.toInt = e ∧ A2 = A
  | .inr Q => v.toInt = 0 ∧ A2 = (A.1, A.2.1, Q, A.2.2.2)
def ok_f (a : Int32) : Prop := 1 ≤ a.toInt ∧ a.toInt ≤ 1000
def run_is (A : ab_A) (a1 a2 : Int32) (v : Int32) (A2 : ab_A) : Prop := (¬ (0 ≤ a1.toInt ∧ a1.toInt ≤ 15 ∧ ok_f a2) ∧ v = -1 ∧ A2 = A) ∨ ((0 ≤ a1.toInt ∧ a1.toInt ≤ 15 ∧ ok_f a2) ∧ ∃ a, ms_G A.1 (ms_ex A.1 a1.toInt.toNat) a2.toInt.toNat a ∧ go_is A v a A2)
def fin_is (A : ab_A) (a1 : Int32) (a2 a3 : Int64) (a4 : Int32) (v : Int32) (A2 : ab_A) : Prop := (¬ (0 ≤ a1.toInt ∧ a1.toInt ≤ 3 ∧ ok_f a4) ∧ v = -1 ∧ A2 = A) ∨ ((0 ≤ a1.toInt ∧ a1.toInt ≤ 3 ∧ ok_f a4) ∧ ∃ a, ms_F A.1 (A.2.1 a1.toInt.toNat) a3 a2 0 a4.toInt.toNat a ∧ go_is A v a A2)
/-- a variable's bytes -/
def v_by (x : lp_V) : List Int32 := x.2.2.2.1.map Int32.ofInt
def v_bt (V : List lp_V) : Prop := ∀ x, x ∈ V → ∀ k, k < x.2.2.2.1.length → 0 ≤ x.2.2.2.1.getD k 0 ∧ x.2.2.2.1.getD k 0 ≤ 255
def whe_is (A : ab_A) (V : List lp_V) (a1 : Int32) (a2 : Int64) (a3 : Int32) (v : Int32) (A2 : ab_A) : Prop := (¬ (0 ≤ a1.toInt ∧ a1.toInt < (V.length : Int) ∧ ok_f a3) ∧ v = -1 ∧ A2 = A) ∨ ((0 ≤ a1.toInt ∧ a1.toInt < (V.length : Int) ∧ ok_f a3) ∧ ∃ x, V[a1.toInt.toNat]? = some x ∧ ∃ a, ((x.2.2.1 = 0 ∧ ms_G A.1 (v_by x) a3.toInt.toNat a) ∨ (x.2.2.1 ≠ 0 ∧ ms_F A.1 (v_by x) a2 0 0 a3.toInt.toNat a)) ∧ go_is A v a A2)
theorem th_F {FR : Nat → Nat → Option Nat} (h : h_FR FR) : th FR ∧ thI FR := by
  have k1 : ∀ i : Nat, i < 16 → (73, i, 74 + i) ∈ hf_L := by decide +kernel
  have k2 : ∀ i : Nat, i < 16 → (53, i, 54 + i) ∈ hf_L := by decide +kernel
  exact ⟨⟨h (72, 0, 73) (by decide +kernel), fun i hi => h (73, i, 74 + i) (k1 i hi)⟩, ⟨h (52, 0, 53) (by decide +kernel), fun i hi => h (53, i, 54 + i) (k2 i hi)⟩⟩
theorem tx_91 {FR : Nat → Nat → Option Nat} (h : h_FR FR) : tx FR 91 92 93 := by
  have k1 : ∀ i : Nat, i < 16 → (92, i, 93 + i) ∈ hf_L := by decide +kernel
  exact ⟨h (91, 0, 92) (by decide +kernel), fun i hi => h (92, i, 93 + i) (k1 i hi)⟩
section GO
variable {n sl : Nat} {SH : Nat → Nat × Nat} {FI F2 : Nat → Nat → Int32} {FL L2 : Nat → Nat → Int64} {FR R2 : Nat → Nat → Option Nat} {A A2 : ab_A} {s : hS} {v v2 a1 a2 a3 a4 : Int32} {b2 b3 : Int64} {V : List lp_V} {a : Int ⊕ ms_Q}
theorem fu_c : (fX11_isFuel a1 SH FI FL FR).toInt = 0 ↔ ¬ ok_f a1 := by
  unfold fX11_isFuel ok_f
  have z1 : ((1 : Int32)).toInt = 1 := by first | decide | (simp; done) | (simp [ms_0]; done)
  have z2 : ((1000 : Int32)).toInt = 1000 := by first | decide | (simp; done) | (simp [ms_0]; done)
  have z0 : ((0 : Int32)).toInt = 0 := by first | decide | (simp; done) | (simp [ms_0]; done)
  rw [z1, z2]
  by_cases h1 : a1.toInt < 1
  · rw [if_pos h1, z0]; omega
  · rw [if_neg h1]
    by_cases h2 : 1000 < a1.toInt
    · rw [if_pos h2, z0]; omega
    · rw [if_neg h2, z1]; omega
theorem fu_r : (fX12_isFuel a1 SH FI FL FR).toInt = 0 ↔ ¬ ok_f a1 := by
  unfold fX12_isFuel ok_f
  have z1 : ((1 : Int32)).toInt = 1 := by first | decide | (simp; done) | (simp [ms_0]; done)
  have z2 : ((1000 : Int32)).toInt = 1000 := by first | decide | (simp; done) | (simp [ms_0]; done)
  have z0 : ((0 : Int32)).toInt = 0 := by first | decide | (simp; done) | (simp [ms_0]; done)
  rw [z1, z2]
  by_cases h1 : a1.toInt < 1
  · rw [if_pos h1, z0]; omega
  · rw [if_neg h1]
    by_cases h2 : 1000 < a1.toInt
    · rw [if_pos h2, z0]; omega
    · rw [if_neg h2, z1]; omega
theorem cz_go (hB : cB SH FI FL FR A) (k : kc FI FL FR F2 L2 R2) (h : cz F2 L2 R2 SH A.2.2.1 v a) : ∃ A2, go_is A v a A2 ∧ cB SH F2 L2 R2 A2 := by
  match a, h with
  | .inl e, h => exact ⟨A, ⟨h.1, rfl⟩, cB_kc hB k h.2.2⟩
  | .inr Q, h => exact ⟨(A.1, A.2.1, Q, A.2.2.2), ⟨h.1, rfl⟩, cB_kc hB k h.2⟩
theorem rB_xr {Q : ms_Q} (hB : rB SH FI FL A) (x : xr FI FL F2 L2) (hq : rr F2 L2 Q) : rB SH F2 L2 (A.1, A.2.1, Q, A.2.2.2) := by
  refine ⟨rE_xr hB.1 x, fun k hk => ?_, hq, ?_⟩
  · rw [(x.1 125 (by omega)).1]
    obtain ⟨r1, r2, r3⟩ := hB.2.1 k hk
    exact ⟨r1, r2, bk_fr r3 (x.1 124 (by omega)).1⟩
  · rw [(x.2 61 (by omega)).1, (x.1 148 (by omega)).1]
    exact hB.2.2.2
theorem rz_go (hB : rB SH FI FL A) (x : xr FI FL F2 L2) (h : rz F2 L2 A.2.2.1 v2 a) (g : go_is A v a A2) : v2 = v ∧ rB SH F2 L2 A2 := by
  match a, h, g with
  | .inl e, h, g =>
    refine ⟨i_eqv (h.1.trans g.1.symm), ?_⟩
    rw [g.2]
    exact rB_xr hB x h.2.2
  | .inr Q, h, g =>
    refine ⟨i_eqv (h.1.trans g.1.symm), ?_⟩
    rw [g.2]
    exact rB_xr hB x h.2
theorem ce_run (hS : h_S n SH) (hF : h_FR FR) (hB : cB SH FI FL FR A) (h : RX11_run a1 a2 n sl SH FI FL FR v s) : ∃ F2 L2 R2 A2, s = (n, sl, SH, F2, L2, R2) ∧ run_is A a1 a2 v A2 ∧ cB SH F2 L2 R2 A2 := by
  rcases h with ⟨h0, e1, e⟩ | ⟨h0, h⟩
  · exact ⟨FI, FL, FR, A, e, Or.inl ⟨fun h => by omega, e1, rfl⟩, hB⟩
  rw [n_26 hS] at h
  rcases h with ⟨h1, h⟩ | ⟨h1, e1, e⟩
  · rcases h with ⟨h2, e1, e⟩ | ⟨h2, -, c5, e5, h⟩
    · exact ⟨FI, FL, FR, A, e, Or.inl ⟨fun h => fu_c.mp h2 h.2.2, e1, rfl⟩, hB⟩
    · obtain ⟨v5, n5, sl5, SH5, FI5, FL5, FR5, hr, e1, e⟩ := h
      have hok : ok_f a2 := Classical.not_not.mp (fun q => h2 (fu_c.mpr q))
      have hok2 := hok
      unfold ok_f at hok2
      obtain ⟨r, r1, r2, r3, r4⟩ := hB.1.2.2.1 a1.toInt.toNat (by omega)
      rw [r1] at e5 hr
      cases e5
      obtain ⟨-, a, g1, F2, L2, R2, e6, k, z⟩ := c_rb (A := 0) (f := a2.toInt.toNat) hS (th_F hF) (tx_1 hF) hB.1 r4 (by omega) (by omega) (by first | decide | (simp; done) | (simp [ms_0]; done)) (by rw [r2, i_lit (by omega), Nat.zero_add]) (by omega) (by omega) hB.2.2.1 hr
      cases e6
      obtain ⟨A2, q1, q2⟩ := cz_go hB k z
      exact ⟨_, _, _, A2, e, Or.inr ⟨⟨by omega, by omega, hok⟩, a, g1, by rw [e1]; exact q1⟩, q2⟩
  · exact ⟨FI, FL, FR, A, e, Or.inl ⟨fun h => by omega, e1, rfl⟩, hB⟩
theorem re_run (hB0 : rB SH FI FL A) (hr : run_is A a1 a2 v A2) (h : RX12_run a1 a2 n sl SH FI FL FR v2 s) : v2 = v ∧ ∃ F2 L2, s = (n, sl, SH, F2, L2, FR) ∧ rB SH F2 L2 A2 := by
  have hB := rB_0 (x := (0 : Int32)) hB0
  have z : ((15 : Int32)).toInt = 15 := by first | decide | (simp; done) | (simp [ms_0]; done)
  have no : ¬ (0 ≤ a1.toInt ∧ a1.toInt ≤ 15 ∧ ok_f a2) → v2 = -1 → s = (n, sl, SH, h_up FI 121 0 ((0 : Int32)), FL, FR) → v2 = v ∧ ∃ F2 L2, s = (n, sl, SH, F2, L2, FR) ∧ rB SH F2 L2 A2 := by
    intro hn e1 e
    rcases hr with ⟨-, r1, r2⟩ | ⟨r1, -⟩
    · exact ⟨by rw [e1, r1], _, _, e, by rw [r2]; exact hB⟩
    · exact absurd r1 hn
  rcases h with ⟨h0, e1, e⟩ | ⟨h0, h⟩
  · exact no (fun h => by omega) e1 e
  rw [z] at h
  rcases h with ⟨h1, e1, e⟩ | ⟨h1, h⟩
  · exact no (fun h => by omega) e1 e
  rcases h with ⟨h2, e1, e⟩ | ⟨h2, -, h⟩
  · exact no (fun h => fu_r.mp h2 h.2.2) e1 e
  obtain ⟨v5, n5, sl5, SH5, FI5, FL5, FR5, hc, e1, e⟩ := h
  have hok : ok_f a2 := Classical.not_not.mp (fun q => h2 (fu_r.mpr q))
  rcases hr with ⟨r1, -⟩ | ⟨r1, a, g1, g2⟩
  · exact absurd ⟨by omega, by omega, hok⟩ r1
  unfold ok_f at hok
  obtain ⟨q1, q2, q3⟩ := hB0.1.2.2.1 a1.toInt.toNat (by omega)
  have q3' := (hB.1.2.2.1 a1.toInt.toNat (by omega)).2.2
  obtain ⟨a', g3, F2, L2, e6, x, zz⟩ := r_runs2 (A := 600 * a1.toInt.toNat) (f := a2.toInt.toNat) q3' q2 (by rw [i_mul (by first | decide | (simp; done) | (simp [ms_0]; done) : ((600 : Int32)).toInt = 600) rfl (by omega) (by omega)]; omega) q1 (by omega) (by omega) hB.1 (fun e he => ms_ne he) hB.2.2.1 hc
  have ea := ms_G_u g3 g1
  subst ea
  cases e6
  obtain ⟨w1, w2⟩ := rz_go hB x zz g2
  exact ⟨by rw [e1]; exact w1, _, _, e, w2⟩
theorem ce_find (hS : h_S n SH) (hF : h_FR FR) (hB : cB SH FI FL FR A) (h : RX11_find a1 b2 b3 a4 n sl SH FI FL FR v s) : ∃ F2 L2 R2 A2, s = (n, sl, SH, F2, L2, R2) ∧ fin_is A a1 b2 b3 a4 v A2 ∧ cB SH F2 L2 R2 A2 := by
  rcases h with ⟨h0, e1, e⟩ | ⟨h0, h⟩
  · exact ⟨FI, FL, FR, A, e, Or.inl ⟨fun h => by omega, e1, rfl⟩, hB⟩
  rw [n_43 hS] at h
  rcases h with ⟨h1, h⟩ | ⟨h1, e1, e⟩
  · rcases h with ⟨h2, e1, e⟩ | ⟨h2, -, h⟩
    · exact ⟨FI, FL, FR, A, e, Or.inl ⟨fun h => fu_c.mp h2 h.2.2, e1, rfl⟩, hB⟩
    · obtain ⟨v5, n5, sl5, SH5, FI5, FL5, FR5, hr, e1, e⟩ := h
      have hok : ok_f a4 := Classical.not_not.mp (fun q => h2 (fu_c.mpr q))
      have hok2 := hok
      unfold ok_f at hok2
      obtain ⟨r, r1, r2, r3, r4⟩ := hB.2.1 a1.toInt.toNat (by omega)
      rw [r1] at hr
      obtain ⟨-, a, g1, F2, L2, R2, e6, k, z⟩ := c_search (f := a4.toInt.toNat) hS (th_F hF) (tx_1 hF) hB.1 r4 r2 r3 (by omega) (by omega) hB.2.2.1 hr
      cases e6
      obtain ⟨A2, q1, q2⟩ := cz_go hB k z
      exact ⟨_, _, _, A2, e, Or.inr ⟨⟨by omega, by omega, hok⟩, a, g1, by rw [e1]; exact q1⟩, q2⟩
  · exact ⟨FI, FL, FR, A, e, Or.inl ⟨fun h => by omega, e1, rfl⟩, hB⟩
theorem re_find (hB0 : rB SH FI FL A) (hr : fin_is A a1 b2 b3 a4 v A2) (h : RX12_find a1 b2 b3 a4 n sl SH FI FL FR v2 s) : v2 = v ∧ ∃ F2 L2, s = (n, sl, SH, F2, L2, FR) ∧ rB SH F2 L2 A2 := by
  have hB := rB_0 (x := (0 : Int32)) hB0
  have z : ((3 : Int32)).toInt = 3 := by first | decide | (simp; done) | (simp [ms_0]; done)
  have no : ¬ (0 ≤ a1.toInt ∧ a1.toInt ≤ 3 ∧ ok_f a4) → v2 = -1 → s = (n, sl, SH, h_up FI 121 0 ((0 : Int32)), FL, FR) → v2 = v ∧ ∃ F2 L2, s = (n, sl, SH, F2, L2, FR) ∧ rB SH F2 L2 A2 := by
    intro hn e1 e
    rcases hr with ⟨-, r1, r2⟩ | ⟨r1, -⟩
    · exact ⟨by rw [e1, r1], _, _, e, by rw [r2]; exact hB⟩
    · exact absurd r1 hn
  rcases h with ⟨h0, e1, e⟩ | ⟨h0, h⟩
  · exact no (fun h => by omega) e1 e
  rw [z] at h
  rcases h with ⟨h1, e1, e⟩ | ⟨h1, h⟩
  · exact no (fun h => by omega) e1 e
  rcases h with ⟨h2, e1, e⟩ | ⟨h2, -, h⟩
  · exact no (fun h => fu_r.mp h2 h.2.2) e1 e
  obtain ⟨v5, n5, sl5, SH5, FI5, FL5, FR5, hc, e1, e⟩ := h
  have hok : ok_f a4 := Classical.not_not.mp (fun q => h2 (fu_r.mpr q))
  rcases hr with ⟨r1, -⟩ | ⟨r1, a, g1, g2⟩
  · exact absurd ⟨by omega, by omega, hok⟩ r1
  unfold ok_f at hok
  obtain ⟨q1, q2, q3⟩ := hB0.2.1 a1.toInt.toNat (by omega)
  have q3' := (hB.2.1 a1.toInt.toNat (by omega)).2.2
  have m : (((600 : Int32)) * a1).toInt = 600 * a1.toInt := i_mul (by first | decide | (simp; done) | (simp [ms_0]; done) : ((600 : Int32)).toInt = 600) rfl (by omega) (by omega)
  have e16 : (((16 : Int32)) + a1).toInt.toNat = 16 + a1.toInt.toNat := by
    rw [i_add (by first | decide | (simp; done) | (simp [ms_0]; done) : ((16 : Int32)).toInt = 16) rfl (by omega) (by omega)]
    omega
  rw [e16] at hc
  obtain ⟨a', g3, F2, L2, e6, x, zz⟩ := r_finds (A := 600 * (16 + a1.toInt.toNat)) (f := a4.toInt.toNat) q3' q2 (by rw [i_add (by first | decide | (simp; done) | (simp [ms_0]; done) : ((9600 : Int32)).toInt = 9600) m (by omega) (by omega)]; omega) q1 (by omega) (by omega) hB.1 hB.2.2.1 (fun L _ e he => ms_ne he) hc
  have ea := ms_F_u g3 g1
  subst ea
  cases e6
  obtain ⟨w1, w2⟩ := rz_go hB x zz g2
  exact ⟨by rw [e1]; exact w1, _, _, e, w2⟩
/-- bytes of a variable as a row -/
theorem v_by_bk {r B : Nat} {x : lp_V} (hr : rw0 SH r) (hx : x ∈ V) (hb : v_bt V) (h1 : B + x.2.2.2.1.length ≤ (SH r).2) (h2 : (SH r).2 ≤ 2000000000) (h3 : ∀ k, k < x.2.2.2.1.length → (FI r (B + k)).toInt = x.2.2.2.1.getD k 0) : bk FI SH r B (v_by x) := by
  unfold v_by
  refine ⟨hr, by rw [List.length_map]; exact h1, h2, fun i b hi => ?_⟩
  rw [List.getElem?_map] at hi
  cases hc : x.2.2.2.1[i]? with
  | none => rw [hc] at hi; cases hi
  | some y =>
    rw [hc] at hi
    have hi : Int32.ofInt y = b := Option.some.inj hi
    have hl := (List.getElem?_eq_some_iff.mp hc).1
    have eg : x.2.2.2.1.getD i 0 = y := by rw [List.getD_eq_getElem?_getD, hc]; rfl
    have g := hb x hx i hl
    have g3 := h3 i hl
    rw [eg] at g g3
    have ey : b.toInt = y := by rw [← hi, Int32.toInt_ofInt, i_bm (by omega) (by omega)]
    exact ⟨i_eqv (by rw [g3, ey]), by omega, by omega⟩
theorem v_by_len {x : lp_V} : (v_by x).length = x.2.2.2.1.length := by
  unfold v_by
  rw [List.length_map]
theorem ce_where (hS : h_S n SH) (hF : h_FR FR) (hv : v_any FI FR SH n V) (hb : v_bt V) (hB : cB SH FI FL FR A) (h : RX11_where a1 b2 a3 n sl SH FI FL FR v s) : ∃ F2 L2 R2 A2, s = (n, sl, SH, F2, L2, R2) ∧ whe_is A V a1 b2 a3 v A2 ∧ cB SH F2 L2 R2 A2 := by
  obtain ⟨v0, n0, sl0, SH0, FI0, FL0, FR0, hi, h⟩ := h
  have z0 : ((0 : Int32)).toInt = 0 := by first | decide | (simp; done) | (simp [ms_0]; done)
  have z1 : ((1 : Int32)).toInt = 1 := by first | decide | (simp; done) | (simp [ms_0]; done)
  have hI : (n0, sl0, SH0, FI0, FL0, FR0) = (n, sl, SH, FI, FL, FR) ∧ (v0.toInt = 0 ↔ ¬ (0 ≤ a1.toInt ∧ a1.toInt < (V.length : Int))) := by
    rcases hv with ⟨vc, y1, y2, y3, y4, y5, y6⟩ | ⟨w1, w2⟩
    · have ez : (Int32.ofNat (SH vc).2).toInt = 12 := by rw [y3]; (first | decide | (simp; done) | (simp [ms_0]; done))
      rcases hi with ⟨h0, e1, e⟩ | ⟨h0, hi⟩
      · exact ⟨e, by rw [e1, z0]; omega⟩
      · rw [y4] at hi
        rcases hi with ⟨h1, c3, e3, hi⟩ | ⟨h1, e1, e⟩
        · rw [y1] at e3
          cases e3
          rw [ez] at hi
          rcases hi with ⟨h2, e1, e⟩ | ⟨h2, e1, e⟩
          · exact ⟨e, by rw [e1, z1]; omega⟩
          · exfalso; omega
        · exact ⟨e, by rw [e1, z0]; omega⟩
    · subst w1
      rcases hi with ⟨h0, e1, e⟩ | ⟨h0, hi⟩
      · exact ⟨e, by rw [e1, z0]; (first | (simp; done) | (simp; omega))⟩
      · rw [w2] at hi
        rcases hi with ⟨h1, -⟩ | ⟨h1, e1, e⟩
        · exact absurd h1 h0
        · exact ⟨e, by rw [e1, z0]; (first | (simp; done) | (simp; omega))⟩
  obtain ⟨e0, hj⟩ := hI
  cases e0
  rcases h with ⟨h0, e1, e⟩ | ⟨h0, h⟩
  · exact ⟨FI, FL, FR, A, e, Or.inl ⟨fun h => (hj.mp h0) ⟨h.1, h.2.1⟩, e1, rfl⟩, hB⟩
  have hin : 0 ≤ a1.toInt ∧ a1.toInt < (V.length : Int) := Classical.not_not.mp (fun q => h0 (hj.mpr q))
  rcases h with ⟨h2, e1, e⟩ | ⟨h2, h⟩
  · exact ⟨FI, FL, FR, A, e, Or.inl ⟨fun h => fu_c.mp h2 h.2.2, e1, rfl⟩, hB⟩
  have hok : ok_f a3 := Classical.not_not.mp (fun q => h2 (fu_c.mpr q))
  have hok2 := hok
  unfold ok_f at hok2
  rcases hv with ⟨vc, y1, y2, y3, y4, y5, y6⟩ | ⟨w1, w2⟩
  · obtain ⟨x, hx⟩ := lx_i (L := V) (i := a1.toInt.toNat) (by omega)
    obtain ⟨q, q1, q2, d1, -, cc, d6, d7, d8, d9, d10, d11⟩ := y6 _ x hx
    have hb9 : bk FI SH cc 0 (v_by x) := v_by_bk ⟨Nat.zero_le _, Or.inr (Or.inr d8)⟩ (List.mem_of_getElem? hx) hb (by omega) (by omega) (fun k hk => by rw [Nat.zero_add]; exact d11 k hk)
    have l9 := v_by_len (x := x)
    obtain ⟨c5, e5, -, c6, e6, c7, e7, -, c8, e8, h⟩ := h
    rw [y1] at e5 e7
    cases e5; cases e7
    rw [q1] at e6 e8
    cases e6; cases e8
    rw [d1] at h
    rcases h with ⟨h3, c10, e10, v5, n5, sl5, SH5, FI5, FL5, FR5, hr, e1, e⟩ | ⟨h3, v5, n5, sl5, SH5, FI5, FL5, FR5, hr, e1, e⟩
    · rw [d6] at e10 hr
      cases e10
      obtain ⟨-, a, g1, F2, L2, R2, e6, k, z⟩ := c_rb (A := 0) (f := a3.toInt.toNat) hS (th_F hF) (tx_1 hF) hB.1 hb9 (by omega) (by omega) (by first | decide | (simp; done) | (simp [ms_0]; done)) (by rw [d9, i_lit (by omega), Nat.zero_add, l9]) (by omega) (by omega) hB.2.2.1 hr
      cases e6
      obtain ⟨A2, w1, w2⟩ := cz_go hB k z
      exact ⟨_, _, _, A2, e, Or.inr ⟨⟨hin.1, hin.2, hok⟩, x, hx, a, Or.inl ⟨by omega, g1⟩, by rw [e1]; exact w1⟩, w2⟩
    · rw [d6] at hr
      obtain ⟨-, a, g1, F2, L2, R2, e6, k, z⟩ := c_search (f := a3.toInt.toNat) hS (th_F hF) (tx_1 hF) hB.1 hb9 (by rw [d9, l9]) (by omega) (by omega) (by omega) hB.2.2.1 hr
      cases e6
      obtain ⟨A2, w1, w2⟩ := cz_go hB k z
      exact ⟨_, _, _, A2, e, Or.inr ⟨⟨hin.1, hin.2, hok⟩, x, hx, a, Or.inr ⟨by omega, g1⟩, by rw [e1]; exact w1⟩, w2⟩
  · subst w1
    exfalso
    have := hin.2
    simp at this
    omega
theorem re_where {K W : Nat → Int} {T : Nat} (hS : h_S n SH) (hu : u_vw FI FL K W T V) (hb : v_bt V) (hB0 : rB SH FI FL A) (hr : whe_is A V a1 b2 a3 v A2) (h : RX12_where a1 b2 a3 n sl SH FI FL FR v2 s) : v2 = v ∧ ∃ F2 L2, s = (n, sl, SH, F2, L2, FR) ∧ rB SH F2 L2 A2 := by
  have hB := rB_0 (x := (0 : Int32)) hB0
  obtain ⟨u1, u2, u3, -⟩ := hu
  have no : ¬ (0 ≤ a1.toInt ∧ a1.toInt < (V.length : Int) ∧ ok_f a3) → v2 = -1 → s = (n, sl, SH, h_up FI 121 0 ((0 : Int32)), FL, FR) → v2 = v ∧ ∃ F2 L2, s = (n, sl, SH, F2, L2, FR) ∧ rB SH F2 L2 A2 := by
    intro hn e1 e
    rcases hr with ⟨-, r1, r2⟩ | ⟨r1, -⟩
    · exact ⟨by rw [e1, r1], _, _, e, by rw [r2]; exact hB⟩
    · exact absurd r1 hn
  rcases h with ⟨h0, e1, e⟩ | ⟨h0, h⟩
  · exact no (fun h => by omega) e1 e
  rw [u1] at h
  rcases h with ⟨h1, h⟩ | ⟨h1, e1, e⟩
  · rcases h with ⟨h2, e1, e⟩ | ⟨h2, -, h⟩
    · exact no (fun h => fu_r.mp h2 h.2.2) e1 e
    have hok : ok_f a3 := Classical.not_not.mp (fun q => h2 (fu_r.mpr q))
    rcases hr with ⟨r1, -⟩ | ⟨r1, x, hx, a, g1, g2⟩
    · exact absurd ⟨by omega, h1, hok⟩ r1
    unfold ok_f at hok
    obtain ⟨p1, p2, p3, p4, p5, p6⟩ := u3 _ x hx
    have hlen : a1.toInt.toNat < V.length := (List.getElem?_eq_some_iff.mp hx).1
    have s124' : (SH 124).2 = 19200 := by rw [s124 hS]
    have hb9 : bk (h_up FI 121 0 ((0 : Int32))) SH 124 (12000 + 600 * a1.toInt.toNat) (v_by x) := v_by_bk ⟨Nat.zero_le _, Or.inl rfl⟩ (List.mem_of_getElem? hx) hb (by omega) (by omega) (fun k hk => by rw [h_up_nc (by first | decide | (simp; done) | (simp [ms_0]; done))]; exact p6 k hk)
    have l9 := v_by_len (x := x)
    have m : (((600 : Int32)) * a1).toInt = 600 * a1.toInt := i_mul (by first | decide | (simp; done) | (simp [ms_0]; done) : ((600 : Int32)).toInt = 600) rfl (by omega) (by omega)
    have m2 : (((12000 : Int32)) + (((600 : Int32)) * a1)).toInt = ((12000 + 600 * a1.toInt.toNat : Nat) : Int) := by
      rw [i_add (by first | decide | (simp; done) | (simp [ms_0]; done) : ((12000 : Int32)).toInt = 12000) m (by omega) (by omega)]
      omega
    have e20 : (((20 : Int32)) + a1).toInt.toNat = 20 + a1.toInt.toNat := by
      rw [i_add (by first | decide | (simp; done) | (simp [ms_0]; done) : ((20 : Int32)).toInt = 20) rfl (by omega) (by omega)]
      omega
    rw [p3, e20] at h
    rcases h with ⟨h3, -, v5, n5, sl5, SH5, FI5, FL5, FR5, hc, e1, e⟩ | ⟨h3, -, v5, n5, sl5, SH5, FI5, FL5, FR5, hc, e1, e⟩
    · rcases g1 with ⟨-, g1⟩ | ⟨g0, -⟩
      · obtain ⟨a', g3, F2, L2, e6, xx, zz⟩ := r_runs2 (f := a3.toInt.toNat) hb9 (by omega) m2 (by rw [l9]; exact p4) (by omega) (by omega) hB.1 (fun e he => ms_ne he) hB.2.2.1 hc
        have ea := ms_G_u g3 g1
        subst ea
        cases e6
        obtain ⟨w1, w2⟩ := rz_go hB xx zz g2
        exact ⟨by rw [e1]; exact w1, _, _, e, w2⟩
      · exfalso; omega
    · rcases g1 with ⟨g0, -⟩ | ⟨-, g1⟩
      · exfalso; omega
      · obtain ⟨a', g3, F2, L2, e6, xx, zz⟩ := r_finds (f := a3.toInt.toNat) hb9 (by omega) m2 (by rw [l9]; exact p4) (by omega) (by omega) hB.1 hB.2.2.1 (fun L _ e he => ms_ne he) hc
        have ea := ms_F_u g3 g1
        subst ea
        cases e6
        obtain ⟨w1, w2⟩ := rz_go hB xx zz g2
        exact ⟨by rw [e1]; exact w1, _, _, e, w2⟩
  · exact no (fun h => h1 h.2.1) e1 e
end GO
