/-! THE REFERENCE DECODES. -/
theorem P_p {ρ : Type} {p : Prop} {A B : ρ → hS → Prop} {x : ρ} {s : hS} (h : P_if p A B x s) (hp : p) : A x s := by
  rcases h with ⟨-, h⟩ | ⟨hn, -⟩
  · exact h
  · exact absurd hp hn
theorem P_n {ρ : Type} {p : Prop} {A B : ρ → hS → Prop} {x : ρ} {s : hS} (h : P_if p A B x s) (hp : ¬ p) : B x s := by
  rcases h with ⟨hn, -⟩ | ⟨-, h⟩
  · exact absurd hn hp
  · exact h
/-- only these fields of the reference have changed -/
def fk {α : Type} (K : List Nat) (F F2 : Nat → Nat → α) : Prop := ∀ c k, ¬ (c = 121 ∧ k ∈ K) → F2 c k = F c k
theorem fk_rf {α : Type} {K : List Nat} {F : Nat → Nat → α} : fk K F F := fun _ _ _ => rfl
theorem fk_up {α : Type} {K : List Nat} {F F2 : Nat → Nat → α} {k : Nat} {x : α} (h : fk K F F2) (hk : k ∈ K) : fk K F (h_up F2 121 k x) := fun c j hn => by
  rw [h_up_x (fun e => hn ⟨e.1, by rw [e.2]; exact hk⟩)]
  exact h c j hn
theorem fk_tr {α : Type} {K : List Nat} {F F2 F3 : Nat → Nat → α} (h : fk K F F2) (h2 : fk K F2 F3) : fk K F F3 := fun c k hn => (h2 c k hn).trans (h c k hn)
theorem fk_row {α : Type} {K : List Nat} {F F2 : Nat → Nat → α} {c : Nat} (h : fk K F F2) (hc : c ≠ 121) : F2 c = F c := funext fun k => h c k (fun e => hc e.1)
theorem fk_at {α : Type} {K : List Nat} {F F2 : Nat → Nat → α} {k : Nat} (h : fk K F F2) (hk : k ∉ K) : F2 121 k = F 121 k := h 121 k (fun e => hk e.2)
theorem i_of {x : Int32} {k : Nat} (h : x.toInt = k) (hk : k < 2147483648) : x = Int32.ofNat k := i_eqv (by rw [h, i_lit hk])
section RD
variable {n sl : Nat} {SH : Nat → Nat × Nat} {FL : Nat → Nat → Int64} {FR : Nat → Nat → Option Nat} {A : Nat} {bs : List Int32}
theorem rf_34 {FI : Nat → Nat → Int32} {p k : Nat} {a1 a2 a3 : Int32} (hb : bk FI SH 124 A bs) (h1 : a1.toInt = k) (hk : k ≤ 8) (hn : (FI 121 37).toInt = ((A + p : Nat) : Int)) (hp : p + k ≤ bs.length) : ∀ (g i : Nat) (l4l : Int64) (l6i : Int32) (v : Int64) (s : hS), l6i.toInt = (i : Int) - 1 → i ≤ k → l4l = ms_le (((bs.drop p).take k).drop i) → GX12_fixed_34 a1 a2 a3 g l4l l6i n sl SH FI FL FR v s → s = (n, sl, SH, h_up FI 121 37 (FI 121 37 + a1), FL, FR) ∧ v = (if a2.toInt = 0 ∨ k = 8 then ms_le ((bs.drop p).take k) else ms_sx a1 (ms_le ((bs.drop p).take k))) := by
  intro g
  induction g with
  | zero => intro i l4l l6i v s _ _ _ h; exact h.elim
  | succ g ih =>
    intro i l4l l6i v s hi hik hl h
    obtain ⟨b1, b2, b3, b4⟩ := hb
    rcases h with ⟨h0, h⟩ | ⟨h0, -, h⟩
    · have e : i = 0 := by omega
      subst e
      have hl2 : l4l = ms_le ((bs.drop p).take k) := hl
      rw [hl2] at h
      rcases h with ⟨h2, e1, e2⟩ | ⟨h2, h⟩
      · exact ⟨e2, by rw [if_pos (Or.inl h2)]; exact e1⟩
      · rw [show ((8 : Int32)).toInt = 8 by decide, h1] at h
        rcases h with ⟨h3, e1, e2⟩ | ⟨h3, e1, e2⟩
        · exact ⟨e2, by rw [if_neg (fun e => e.elim (fun e => h2 e) (fun e => by omega))]; exact e1⟩
        · exact ⟨e2, by rw [if_pos (Or.inr (by omega))]; exact e1⟩
    · cases i with
      | zero => exfalso; omega
      | succ i =>
        have hx : (FI 121 37 + l6i).toInt = ((A + (p + i) : Nat) : Int) := by rw [i_add hn hi (by omega) (by omega)]; omega
        have hx2 : (FI 121 37 + l6i).toInt.toNat = A + (p + i) := by omega
        rw [hx2] at h
        obtain ⟨b, hb0⟩ := ms_ex_i (bs := bs) (i := p + i) (by omega)
        have f1 := (b4 (p + i) b hb0).1
        rw [f1] at h
        refine ih i _ _ v s (by rw [i_add hi (by decide : ((-1 : Int32)).toInt = -1) (by omega) (by omega)]; omega) (by omega) ?_ h
        rw [hl, ms_dp hb0 (by omega)]
        rfl
theorem rf_fx {FI : Nat → Nat → Int32} {p k : Nat} {a1 a2 a3 : Int32} {v : Int64} {s : hS} (hb : bk FI SH 124 A bs) (h1 : a1.toInt = k) (hk : k ≤ 8) (h3 : a3.toInt = ((A + bs.length : Nat) : Int)) (hn : (FI 121 37).toInt = ((A + p : Nat) : Int)) (hp : p ≤ bs.length) (hd : (FI 121 38).toInt = 0) (h : RX12_fixed a1 a2 a3 n sl SH FI FL FR v s) : (bs.length < p + k ∧ s = (n, sl, SH, h_up FI 121 38 1, FL, FR)) ∨ (p + k ≤ bs.length ∧ s = (n, sl, SH, h_up FI 121 37 (FI 121 37 + a1), FL, FR) ∧ v = (if a2.toInt = 0 ∨ k = 8 then ms_le ((bs.drop p).take k) else ms_sx a1 (ms_le ((bs.drop p).take k)))) := by
  have hb3 := hb.2.1
  have hb4 := hb.2.2.1
  have h := P_p h hd
  rw [i_add hn h1 (by omega) (by omega), h3] at h
  rcases h with ⟨h2, -, e⟩ | ⟨h2, g, h⟩
  · exact Or.inl ⟨by omega, e⟩
  · refine Or.inr ⟨by omega, ?_⟩
    refine rf_34 hb h1 hk hn (by omega) g k _ _ v s ?_ (Nat.le_refl _) ?_ h
    · rw [i_sub h1 (by decide : ((1 : Int32)).toInt = 1) (by omega) (by omega)]
    · rw [List.drop_of_length_le (by rw [ms_ln (by omega)]; exact Nat.le_refl _)]
      rfl
/-- what a LEB has left -/
def rl_c (A : Nat) (bs : List Int32) (FI F2 : Nat → Nat → Int32) (v : Int64) (r : Int ⊕ (Int64 × Nat)) : Prop := match r with
  | .inl e => (F2 121 38).toInt = e ∧ e ≠ 0
  | .inr x => F2 121 38 = FI 121 38 ∧ v = x.1 ∧ (F2 121 37).toInt = ((A + x.2 : Nat) : Int) ∧ x.2 ≤ bs.length
theorem rl_14 {a1 a2 : Int32} {sg : Bool} (hs : a1.toInt = 0 ↔ sg = false) (h3 : a2.toInt = ((A + bs.length : Nat) : Int)) : ∀ (g i p : Nat) (l3l : Int64) (l5i : Int32) (FI : Nat → Nat → Int32) (v : Int64) (s : hS), l5i.toInt = i → i ≤ 10 → bk FI SH 124 A bs → (FI 121 37).toInt = ((A + p : Nat) : Int) → p ≤ bs.length → GX12_leb_14 a1 a2 g l3l l5i n sl SH FI FL FR v s → ∃ F2, s = (n, sl, SH, F2, FL, FR) ∧ fk [37, 38] FI F2 ∧ rl_c A bs FI F2 v (ms_lb sg bs (10 - i) i p l3l) := by
  intro g
  induction g with
  | zero => intro i p l3l l5i FI v s _ _ _ _ _ h; exact h.elim
  | succ g ih =>
    intro i p l3l l5i FI v s hi hik hb hn hp h
    have b2 := hb.2.1
    have b3 := hb.2.2.1
    have b4 := hb.2.2.2
    rcases h with ⟨h0, h⟩ | ⟨h0, -, e2⟩
    · rw [show ((10 : Int32)).toInt = 10 by decide] at h0
      rw [show 10 - i = (10 - (i + 1)) + 1 by omega, ms_lb]
      rw [hn, h3] at h
      rcases h with ⟨h1, -, h⟩ | ⟨h1, -, e2⟩
      · obtain ⟨b, hb0⟩ := ms_ex_i (bs := bs) (i := p) (by omega)
        have f1 := b4 p b hb0
        rw [hb0]
        dsimp only
        rw [show (((A + p : Nat) : Int)).toNat = A + p by omega, f1.1, show ((128 : Int32)).toInt = 128 by decide, i_of hi (by omega)] at h
        have hx : (FI 121 37 + (1 : Int32)).toInt = ((A + (p + 1) : Nat) : Int) := by rw [i_add hn (by decide : ((1 : Int32)).toInt = 1) (by omega) (by omega)]; omega
        have k1 : (h_up FI 121 37 (FI 121 37 + (1 : Int32))) 121 38 = FI 121 38 := h_up_ne (by decide)
        have k2 : ((h_up FI 121 37 (FI 121 37 + (1 : Int32))) 121 37).toInt = ((A + (p + 1) : Nat) : Int) := by rw [h_up_eq]; exact hx
        rcases h with ⟨hb1, h⟩ | ⟨hb1, h⟩
        · rw [if_pos hb1]
          rcases h with ⟨h2, e1, e2⟩ | ⟨h2, h⟩
          · exact ⟨_, e2, fk_up fk_rf (by decide), k1, by rw [if_neg (fun e => by rw [hs.mp h2] at e; exact absurd e.1 (by decide))]; exact e1, k2, by omega⟩
          · have hsg : sg = true := by
              cases sg with
              | true => rfl
              | false => exact absurd (hs.mpr rfl) h2
            have e7 : (Int32.ofNat i + (1 : Int32)) = Int32.ofNat (i + 1) := i_of (by rw [i_add (i_lit (by omega)) (by decide : ((1 : Int32)).toInt = 1) (by omega) (by omega)]; omega) (by omega)
            have e8 : ((7 : Int32) * Int32.ofNat (i + 1)).toInt = 7 * ((i + 1 : Nat) : Int) := i_mul (by decide) (i_lit (by omega)) (by omega) (by omega)
            rw [e7, e8, show ((64 : Int32)).toInt = 64 by decide] at h
            rcases h with ⟨h5, h⟩ | ⟨h5, e1, e2⟩
            · rcases h with ⟨h6, e1, e2⟩ | ⟨h6, e1, e2⟩
              · exact ⟨_, e2, fk_up fk_rf (by decide), k1, by rw [if_neg (fun e => e.2.2 h6)]; exact e1, k2, by omega⟩
              · exact ⟨_, e2, fk_up fk_rf (by decide), k1, by rw [if_pos ⟨hsg, by omega, h6⟩]; exact e1, k2, by omega⟩
            · exact ⟨_, e2, fk_up fk_rf (by decide), k1, by rw [if_neg (fun e => h5 (by have := e.2.1; omega))]; exact e1, k2, by omega⟩
        · rw [if_neg hb1]
          have e7 : (Int32.ofNat i + (1 : Int32)).toInt = ((i + 1 : Nat) : Int) := by rw [i_add (i_lit (by omega)) (by decide : ((1 : Int32)).toInt = 1) (by omega) (by omega)]; omega
          obtain ⟨F2, e, f, r⟩ := ih (i + 1) (p + 1) _ _ _ v s e7 (by omega) (bk_fr hb (h_up_nc (by decide))) k2 (by omega) h
          refine ⟨F2, e, fk_tr (fk_up fk_rf (by decide)) f, ?_⟩
          revert r
          show rl_c A bs _ F2 v (ms_lb sg bs (10 - (i + 1)) (i + 1) (p + 1) (ms_l7 l3l b i)) → _
          generalize ms_lb sg bs (10 - (i + 1)) (i + 1) (p + 1) (ms_l7 l3l b i) = q
          intro r
          match q, r with
          | .inl e, r => exact r
          | .inr x, r => exact ⟨r.1.trans k1, r.2⟩
      · have e : p = bs.length := by omega
        rw [List.getElem?_eq_none (by omega)]
        exact ⟨_, e2, fk_up fk_rf (by decide), by rw [h_up_eq]; decide, by decide⟩
    · rw [show ((10 : Int32)).toInt = 10 by decide] at h0
      have e : i = 10 := by omega
      subst e
      show ∃ F2, s = (n, sl, SH, F2, FL, FR) ∧ fk [37, 38] FI F2 ∧ rl_c A bs FI F2 v (.inl 15)
      exact ⟨_, e2, fk_up fk_rf (by decide), by rw [h_up_eq]; decide, by decide⟩
theorem rl_leb {FI : Nat → Nat → Int32} {p : Nat} {a1 a2 : Int32} {sg : Bool} {v : Int64} {s : hS} (hs : a1.toInt = 0 ↔ sg = false) (h3 : a2.toInt = ((A + bs.length : Nat) : Int)) (hb : bk FI SH 124 A bs) (hn : (FI 121 37).toInt = ((A + p : Nat) : Int)) (hp : p ≤ bs.length) (hd : (FI 121 38).toInt = 0) (h : RX12_leb a1 a2 n sl SH FI FL FR v s) : ∃ F2, s = (n, sl, SH, F2, FL, FR) ∧ fk [37, 38] FI F2 ∧ rl_c A bs FI F2 v (ms_lb sg bs 10 0 p 0) := by
  obtain ⟨g, h⟩ := P_p h hd
  exact rl_14 hs h3 g 0 p _ _ FI v s (by decide) (by omega) hb hn hp h
theorem ms_s8 (v : Int64) : ms_sx (8 : Int32) v = v := by
  unfold ms_sx
  have e : ((((64 : Int32)) - (((8 : Int32)) * ((8 : Int32)))).toInt64 &&& 63) = Int64.ofNat (8 * 0) := by decide
  rw [e]
  apply Int64.toBitVec_inj.mp
  rw [l_sshr _ 0 (by decide), l_shl _ 0 (by decide)]
  simp
/-- what decoding has left -/
def ro_c (A : Nat) (bs : List Int32) (w : Bool) (FI F2 : Nat → Nat → Int32) (FL L2 : Nat → Nat → Int64) (r : Int ⊕ ms_O) : Prop := fk [37, 38] FI F2 ∧ fk [35, 36] FL L2 ∧ match r with
  | .inl e => (F2 121 38).toInt = e ∧ e ≠ 0
  | .inr x => (F2 121 38).toInt = 0 ∧ L2 121 35 = x.1 ∧ (w = false → L2 121 36 = x.2.1) ∧ (w = true → 0 ≤ x.1.toInt ∧ x.1.toInt ≤ x.2.2.1 ∧ (L2 121 36).toInt = ((A + (x.2.2.1 - x.1.toInt.toNat) : Nat) : Int)) ∧ (F2 121 37).toInt = ((A + x.2.2.1 : Nat) : Int) ∧ x.2.2.1 ≤ bs.length
variable {FI : Nat → Nat → Int32}
theorem ro_fx {p k : Nat} {a a2 b : Int32} {u : Unit} {s : hS} (hb : bk FI SH 124 A bs) (h3 : a2.toInt = ((A + bs.length : Nat) : Int)) (hn : (FI 121 37).toInt = ((A + p : Nat) : Int)) (hp : p ≤ bs.length) (h1 : a.toInt = k) (hk : k ≤ 8) (h : P_bi (RX12_fixed a b a2 n sl SH (h_up FI 121 38 ((0 : Int32))) (h_up (h_up FL 121 35 ((0 : Int64))) 121 36 ((0 : Int64))) FR) (fun v n sl SH FI FL FR => P_ret () (n, sl, SH, FI, h_up FL 121 35 v, FR)) u s) : ∃ F2 L2, s = (n, sl, SH, F2, L2, FR) ∧ ro_c A bs false FI F2 FL L2 (ms_o1 (if b.toInt = 0 then ms_fx bs p k else ms_fs bs p k)) := by
  obtain ⟨v, n1, sl1, SH1, FI1, FL1, FR1, h, -, e⟩ := h
  have z : ((h_up FI 121 38 ((0 : Int32))) 121 37) = FI 121 37 := h_up_ne (by decide)
  have h := rf_fx (p := p) (bk_fr hb (h_up_nc (by decide))) h1 hk h3 (by rw [z]; exact hn) hp (by rw [h_up_eq]; decide) h
  rw [z] at h
  have ek : a = Int32.ofNat k := i_of h1 (by omega)
  have b3 := hb.2.2.1
  have b2 := hb.2.1
  rcases h with ⟨hl, e1⟩ | ⟨hl, e1, ev⟩
  · cases e1
    refine ⟨_, _, e, fk_up (fk_up fk_rf (by decide)) (by decide), fk_up (fk_up (fk_up fk_rf (by decide)) (by decide)) (by decide), ?_⟩
    have q : (if b.toInt = 0 then ms_fx bs p k else ms_fs bs p k) = .inl 1 := by
      split
      · unfold ms_fx; rw [if_pos hl]
      · unfold ms_fs; rw [if_pos hl]
    rw [q]
    exact ⟨by rw [h_up_eq]; decide, by decide⟩
  · cases e1
    refine ⟨_, _, e, fk_up (fk_up fk_rf (by decide)) (by decide), fk_up (fk_up (fk_up fk_rf (by decide)) (by decide)) (by decide), ?_⟩
    have q : (if b.toInt = 0 then ms_fx bs p k else ms_fs bs p k) = .inr (v, p + k) := by
      split
      · rename_i hz
        unfold ms_fx; rw [if_neg (by omega), ev, if_pos (Or.inl hz)]
      · rename_i hz
        unfold ms_fs; rw [if_neg (by omega), ev]
        by_cases h8 : k = 8
        · rw [if_pos (Or.inr h8), h8]
          have := ms_s8 (ms_le ((bs.drop p).take 8))
          rw [show (Int32.ofNat 8) = (8 : Int32) from rfl, this]
        · rw [if_neg (fun e => e.elim hz h8), ek]
    rw [q]
    refine ⟨by rw [h_up_ne (by decide), h_up_eq]; decide, by rw [h_up_eq], fun _ => by rw [h_up_ne (by decide), h_up_eq], fun e => absurd e (by decide), ?_, hl⟩
    rw [h_up_eq, i_add hn h1 (by omega) (by omega)]
    show _ = ((A + (p + k) : Nat) : Int)
    omega
theorem ro_lb {p : Nat} {a a2 : Int32} {sg : Bool} {u : Unit} {s : hS} (hb : bk FI SH 124 A bs) (h3 : a2.toInt = ((A + bs.length : Nat) : Int)) (hn : (FI 121 37).toInt = ((A + p : Nat) : Int)) (hp : p ≤ bs.length) (hs : a.toInt = 0 ↔ sg = false) (h : P_bi (RX12_leb a a2 n sl SH (h_up FI 121 38 ((0 : Int32))) (h_up (h_up FL 121 35 ((0 : Int64))) 121 36 ((0 : Int64))) FR) (fun v n sl SH FI FL FR => P_ret () (n, sl, SH, FI, h_up FL 121 35 v, FR)) u s) : ∃ F2 L2, s = (n, sl, SH, F2, L2, FR) ∧ ro_c A bs false FI F2 FL L2 (ms_o1 (ms_lb sg bs 10 0 p 0)) := by
  obtain ⟨v, n1, sl1, SH1, FI1, FL1, FR1, h, -, e⟩ := h
  have z : ((h_up FI 121 38 ((0 : Int32))) 121 37) = FI 121 37 := h_up_ne (by decide)
  obtain ⟨F2, e1, f, r⟩ := rl_leb (p := p) hs h3 (bk_fr hb (h_up_nc (by decide))) (by rw [z]; exact hn) hp (by rw [h_up_eq]; decide) h
  cases e1
  refine ⟨_, _, e, fk_tr (fk_up fk_rf (by decide)) f, fk_up (fk_up (fk_up fk_rf (by decide)) (by decide)) (by decide), ?_⟩
  generalize ms_lb sg bs 10 0 p 0 = q at r
  match q, r with
  | .inl e, r => exact r
  | .inr x, r =>
    obtain ⟨r1, r2, r3, r4⟩ := r
    exact ⟨by rw [r1, h_up_eq]; decide, by rw [h_up_eq]; exact r2, fun _ => by rw [h_up_ne (by decide), h_up_eq], fun e => absurd e (by decide), r3, r4⟩
end RD
