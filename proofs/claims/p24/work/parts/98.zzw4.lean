/-! THE REFERENCE'S OPERANDS. -/
theorem ms_sh0 {c : Int} (h : ¬ (c = 8 ∨ c = 21 ∨ c = 148 ∨ c = 10 ∨ c = 152 ∨ c = 12 ∨ c = 153 ∨ c = 3 ∨ c = 14 ∨ c = 9 ∨ c = 11 ∨ c = 40 ∨ c = 47 ∨ c = 13 ∨ c = 15 ∨ c = 16 ∨ c = 35 ∨ c = 144 ∨ c = 147 ∨ c = 17 ∨ c = 145 ∨ (112 ≤ c ∧ c ≤ 143) ∨ c = 146 ∨ c = 157 ∨ c = 158)) : ms_sh c = 0 := by
  unfold ms_sh
  rw [if_neg (by omega), if_neg (by omega), if_neg (by omega), if_neg (by omega), if_neg (by omega), if_neg (by omega), if_neg (by omega), if_neg (by omega), if_neg (by omega), if_neg (by omega), if_neg (by omega), if_neg (by omega), if_neg (by omega)]
theorem ms_sh21 {c : Int} (h : 112 ≤ c ∧ c ≤ 143) : ms_sh c = 21 := by
  unfold ms_sh
  rw [if_neg (by omega), if_neg (by omega), if_neg (by omega), if_neg (by omega), if_neg (by omega), if_neg (by omega), if_neg (by omega), if_neg (by omega), if_neg (by omega), if_pos (Or.inr (Or.inr h))]
theorem ms_op0 {c : Int} {bs : List Int32} {p : Nat} (hk : ms_kn c = true) (h : ms_sh c = 0) : ms_op c bs p = ms_o1 (ms_fx bs p 0) := by
  unfold ms_op
  rw [if_neg (by rw [hk]; decide), h]
  rfl
theorem ms_op21 {c : Int} {bs : List Int32} {p : Nat} (hk : ms_kn c = true) (h : ms_sh c = 21) : ms_op c bs p = ms_o1 (ms_li bs p) := by
  unfold ms_op
  rw [if_neg (by rw [hk]; decide), h]
  rfl
section RO
variable {n sl : Nat} {SH : Nat → Nat × Nat} {FI : Nat → Nat → Int32} {FL : Nat → Nat → Int64} {FR : Nat → Nat → Option Nat} {A : Nat} {bs : List Int32}
theorem ro_2 {p : Nat} {a a2 : Int32} {sg : Bool} {u : Unit} {s : hS} (hb : bk FI SH 124 A bs) (h3 : a2.toInt = ((A + bs.length : Nat) : Int)) (hn : (FI 121 37).toInt = ((A + p : Nat) : Int)) (hp : p ≤ bs.length) (hs : a.toInt = 0 ↔ sg = false) (h : P_bi (RX12_leb ((0 : Int32)) a2 n sl SH (h_up FI 121 38 ((0 : Int32))) (h_up (h_up FL 121 35 ((0 : Int64))) 121 36 ((0 : Int64))) FR) (fun v n sl SH FI FL FR => P_bi (RX12_leb a a2 n sl SH FI (h_up FL 121 35 v) FR) (fun v2 n sl SH FI FL FR => P_ret () (n, sl, SH, FI, h_up FL 121 36 v2, FR))) u s) : ∃ F2 L2, s = (n, sl, SH, F2, L2, FR) ∧ ro_c A bs false FI F2 FL L2 (ms_o2 (ms_lu bs p) (fun q => ms_lb sg bs 10 0 q 0)) := by
  obtain ⟨v, n1, sl1, SH1, FI1, FL1, FR1, h, v2, n2, sl2, SH2, FI2, FL2, FR2, h2, -, e⟩ := h
  have z : ((h_up FI 121 38 ((0 : Int32))) 121 37) = FI 121 37 := h_up_ne (by decide)
  have hb2 : bk (h_up FI 121 38 ((0 : Int32))) SH 124 A bs := bk_fr hb (h_up_nc (by decide))
  obtain ⟨F1, e1, f, r⟩ := rl_leb (p := p) (sg := false) (by decide) h3 hb2 (by rw [z]; exact hn) hp (by rw [h_up_eq]; decide) h
  cases e1
  unfold ms_lu
  generalize ms_lb false bs 10 0 p 0 = q at r
  match q, r with
  | .inl e9, r =>
    obtain ⟨r1, r2⟩ := r
    have h2 := P_n h2 (by rw [r1]; exact r2)
    obtain ⟨-, e2⟩ := h2
    cases e2
    exact ⟨_, _, e, fk_tr (fk_up fk_rf (by decide)) f, fk_up (fk_up (fk_up (fk_up fk_rf (by decide)) (by decide)) (by decide)) (by decide), r1, r2⟩
  | .inr x, r =>
    obtain ⟨r1, r2, r3, r4⟩ := r
    obtain ⟨F3, e3, f3, r⟩ := rl_leb (p := x.2) hs h3 (bk_fr hb2 (fk_row f (by decide))) r3 r4 (by rw [r1, h_up_eq]; decide) h2
    cases e3
    refine ⟨_, _, e, fk_tr (fk_tr (fk_up fk_rf (by decide)) f) f3, fk_up (fk_up (fk_up (fk_up fk_rf (by decide)) (by decide)) (by decide)) (by decide), ?_⟩
    show match (match ms_lb sg bs 10 0 x.2 0 with | .inl e => .inl e | .inr y => .inr (x.1, y.1, y.2, []) : Int ⊕ ms_O) with | .inl e => _ | .inr x => _
    generalize ms_lb sg bs 10 0 x.2 0 = q2 at r
    match q2, r with
    | .inl e8, r => exact r
    | .inr y, r =>
      obtain ⟨q1, q2, q3, q4⟩ := r
      exact ⟨by rw [q1, r1, h_up_eq]; decide, by rw [h_up_ne (by decide), h_up_eq]; exact r2, fun _ => by rw [h_up_eq]; exact q2, fun e => absurd e (by decide), q3, q4⟩
theorem ro_397 {p : Nat} {c a2 : Int32} {u : Unit} {s : hS} (hb : bk FI SH 124 A bs) (h3 : a2.toInt = ((A + bs.length : Nat) : Int)) (hn : (FI 121 37).toInt = ((A + p : Nat) : Int)) (hp : p ≤ bs.length) {o : Int64} (hA : A + bs.length ≤ 2000000000) (hd : (FI 121 38).toInt = 0) (h0 : FL 121 35 = o) (h1 : 0 ≤ o.toInt) (h2 : o.toInt ≤ (bs.length : Int) - p) (h : RX12_operands_397 c a2 n sl SH FI FL FR u s) : s = (n, sl, SH, h_up FI 121 37 (FI 121 37 + (FL 121 35).toInt32), h_up FL 121 36 ((FI 121 37).toInt64), FR) := by
  have h := P_p h hd
  exact h.2
theorem ro_3 {p : Nat} {c a2 : Int32} {u : Unit} {s : hS} (hb : bk FI SH 124 A bs) (h3 : a2.toInt = ((A + bs.length : Nat) : Int)) (hn : (FI 121 37).toInt = ((A + p : Nat) : Int)) (hp : p ≤ bs.length) (h : P_bi (RX12_leb ((0 : Int32)) a2 n sl SH (h_up FI 121 38 ((0 : Int32))) (h_up (h_up FL 121 35 ((0 : Int64))) 121 36 ((0 : Int64))) FR) (fun v n sl SH FI FL FR => P_if ((FI 121 38).toInt = 0) (P_if (v.toInt < ((0 : Int64)).toInt) (RX12_operands_392 c a2 n sl SH FI (h_up FL 121 35 v) FR) (P_if (((a2 - FI 121 37).toInt64).toInt < v.toInt) (RX12_operands_392 c a2 n sl SH FI (h_up FL 121 35 v) FR) (RX12_operands_397 c a2 n sl SH FI (h_up FL 121 35 v) FR))) (RX12_operands_397 c a2 n sl SH FI (h_up FL 121 35 v) FR)) u s) : ∃ F2 L2, s = (n, sl, SH, F2, L2, FR) ∧ ro_c A bs true FI F2 FL L2 (ms_o3 bs (ms_lu bs p)) := by
  obtain ⟨v, n1, sl1, SH1, FI1, FL1, FR1, h, h2⟩ := h
  have z : ((h_up FI 121 38 ((0 : Int32))) 121 37) = FI 121 37 := h_up_ne (by decide)
  have hb2 : bk (h_up FI 121 38 ((0 : Int32))) SH 124 A bs := bk_fr hb (h_up_nc (by decide))
  obtain ⟨F1, e1, f, r⟩ := rl_leb (p := p) (sg := false) (by decide) h3 hb2 (by rw [z]; exact hn) hp (by rw [h_up_eq]; decide) h
  cases e1
  have b2 := hb.2.1
  have b3 := hb.2.2.1
  unfold ms_lu
  have fF : fk [37, 38] FI FI1 := fk_tr (fk_up fk_rf (by decide)) f
  have fL : fk [35, 36] FL (h_up (h_up (h_up FL 121 35 ((0 : Int64))) 121 36 ((0 : Int64))) 121 35 v) := fk_up (fk_up (fk_up fk_rf (by decide)) (by decide)) (by decide)
  generalize ms_lb false bs 10 0 p 0 = q at r
  match q, r with
  | .inl e9, r =>
    obtain ⟨r1, r2⟩ := r
    have h2 := P_n h2 (by rw [r1]; exact r2)
    have h2 := P_n h2 (by rw [r1]; exact r2)
    obtain ⟨-, e2⟩ := h2
    exact ⟨_, _, e2, fF, fL, r1, r2⟩
  | .inr x, r =>
    obtain ⟨r1, r2, r3, r4⟩ := r
    have r0 : (FI1 121 38).toInt = 0 := by rw [r1, h_up_eq]; decide
    have h2 := P_p h2 r0
    have hx : ((a2 - FI1 121 37).toInt64).toInt = (bs.length : Int) - x.2 := i_2l (by rw [i_sub h3 r3 (by omega) (by omega)]; omega)
    rw [hx, show ((0 : Int64)).toInt = 0 by decide, r2] at h2
    have bad : ∀ {w : Int64}, RX12_operands_392 c a2 n sl SH FI1 (h_up (h_up (h_up FL 121 35 ((0 : Int64))) 121 36 ((0 : Int64))) 121 35 w) FR u s → s = (n, sl, SH, h_up FI1 121 38 ((1 : Int32)), h_up (h_up (h_up FL 121 35 ((0 : Int64))) 121 36 ((0 : Int64))) 121 35 w, FR) := by
      intro w h
      have h := P_n h (by rw [h_up_eq]; decide)
      exact h.2
    unfold ms_o3
    dsimp only
    rw [r2] at fL
    rcases h2 with ⟨g1, h2⟩ | ⟨g1, h2⟩
    · rw [if_pos (Or.inl g1)]
      exact ⟨_, _, bad h2, fk_up fF (by decide), fL, by rw [h_up_eq]; decide, by decide⟩
    · rcases h2 with ⟨g2, h2⟩ | ⟨g2, h2⟩
      · rw [if_pos (Or.inr g2)]
        exact ⟨_, _, bad h2, fk_up fF (by decide), fL, by rw [h_up_eq]; decide, by decide⟩
      · rw [if_neg (fun e => e.elim g1 g2)]
        have e := (P_p h2 r0).2
        rw [h_up_eq] at e
        have x0 : ((x.1.toInt.toNat : Nat) : Int) = x.1.toInt := by omega
        refine ⟨_, _, e, fk_up fF (by decide), fk_up fL (by decide), by rw [h_up_ne (by decide)]; exact r0, by rw [h_up_ne (by decide), h_up_eq], fun e => absurd e (by decide), fun _ => ⟨by show 0 ≤ x.1.toInt; omega, ?_, ?_⟩, ?_, ?_⟩
        · show x.1.toInt ≤ ((x.2 + x.1.toInt.toNat : Nat) : Int)
          omega
        · rw [h_up_eq, i_2l r3]
          show _ = ((A + (x.2 + x.1.toInt.toNat - x.1.toInt.toNat) : Nat) : Int)
          omega
        · rw [h_up_eq, i_add r3 (l_2i rfl (by omega) (by omega)) (by omega) (by omega)]
          show _ = ((A + (x.2 + x.1.toInt.toNat) : Nat) : Int)
          omega
        · show x.2 + x.1.toInt.toNat ≤ bs.length
          omega
theorem ro_264 {p : Nat} {c a2 : Int32} {u : Unit} {s : hS} (hb : bk FI SH 124 A bs) (h3 : a2.toInt = ((A + bs.length : Nat) : Int)) (hn : (FI 121 37).toInt = ((A + p : Nat) : Int)) (hp : p ≤ bs.length) (hc : ¬ (c.toInt = 3 ∨ c.toInt = 14 ∨ c.toInt = 15 ∨ c.toInt = 8 ∨ c.toInt = 21 ∨ c.toInt = 148 ∨ c.toInt = 9 ∨ c.toInt = 10 ∨ c.toInt = 152 ∨ c.toInt = 11 ∨ c.toInt = 40 ∨ c.toInt = 47 ∨ c.toInt = 12 ∨ c.toInt = 153 ∨ c.toInt = 13 ∨ c.toInt = 16 ∨ c.toInt = 35 ∨ c.toInt = 144 ∨ c.toInt = 147 ∨ c.toInt = 17)) (hr : ¬ (112 ≤ c.toInt ∧ c.toInt ≤ 143)) (hk : ms_kn c.toInt = true) (h : RX12_operands_264 c a2 n sl SH (h_up FI 121 38 ((0 : Int32))) (h_up (h_up FL 121 35 ((0 : Int64))) 121 36 ((0 : Int64))) FR u s) : ∃ F2 L2, s = (n, sl, SH, F2, L2, FR) ∧ ro_c A bs (decide (c.toInt = 158)) FI F2 FL L2 (ms_op c.toInt bs p) := by
  rcases h with ⟨hx, h⟩ | ⟨n145, h⟩
  · rw [show ((145 : Int32)).toInt = 145 by decide] at hx
    rw [hx, show ms_op (145 : Int) bs p = ms_o1 (ms_li bs p) from (by first | rfl | simp [ms_op, ms_kn, ms_sh])]
    exact ro_lb (sg := true) hb h3 hn hp (by decide) h
  rw [show ((145 : Int32)).toInt = 145 by decide] at n145
  rcases h with ⟨hx, h⟩ | ⟨n146, h⟩
  · rw [show ((146 : Int32)).toInt = 146 by decide] at hx
    rw [hx, show ms_op (146 : Int) bs p = ms_o2 (ms_lu bs p) (ms_li bs) from (by first | rfl | simp [ms_op, ms_kn, ms_sh])]
    exact ro_2 (sg := true) hb h3 hn hp (by decide) h
  rw [show ((146 : Int32)).toInt = 146 by decide] at n146
  rcases h with ⟨hx, h⟩ | ⟨n157, h⟩
  · rw [show ((157 : Int32)).toInt = 157 by decide] at hx
    rw [hx, show ms_op (157 : Int) bs p = ms_o2 (ms_lu bs p) (ms_lu bs) from (by first | rfl | simp [ms_op, ms_kn, ms_sh])]
    exact ro_2 (sg := false) hb h3 hn hp (by decide) h
  rw [show ((157 : Int32)).toInt = 157 by decide] at n157
  rcases h with ⟨hx, h⟩ | ⟨n158, h⟩
  · rw [show ((158 : Int32)).toInt = 158 by decide] at hx
    rw [hx, show ms_op (158 : Int) bs p = ms_o3 bs (ms_lu bs p) from (by first | rfl | simp [ms_op, ms_kn, ms_sh])]
    exact ro_3 hb h3 hn hp h
  rw [show ((158 : Int32)).toInt = 158 by decide] at n158
  obtain ⟨-, e⟩ := h
  rw [ms_op0 hk (ms_sh0 (by omega)), decide_eq_false n158]
  refine ⟨_, _, e, fk_up fk_rf (by decide), fk_up (fk_up fk_rf (by decide)) (by decide), ?_⟩
  unfold ms_fx
  rw [if_neg (by omega)]
  refine ⟨by rw [h_up_eq]; decide, by rw [h_up_ne (by decide), h_up_eq]; rfl, fun _ => by rw [h_up_eq], fun e => absurd e (by decide), ?_, hp⟩
  rw [h_up_ne (by decide)]
  exact hn
theorem ro_op {p : Nat} {c a2 : Int32} {u : Unit} {s : hS} (hb : bk FI SH 124 A bs) (h3 : a2.toInt = ((A + bs.length : Nat) : Int)) (hn : (FI 121 37).toInt = ((A + p : Nat) : Int)) (hp : p ≤ bs.length) (hk : ms_kn c.toInt = true) (h : RX12_operands c a2 n sl SH FI FL FR u s) : ∃ F2 L2, s = (n, sl, SH, F2, L2, FR) ∧ ro_c A bs (decide (c.toInt = 158)) FI F2 FL L2 (ms_op c.toInt bs p) := by
  rcases h with ⟨hx, h⟩ | ⟨n3, h⟩
  · rw [show ((3 : Int32)).toInt = 3 by decide] at hx
    rw [hx, show ms_op (3 : Int) bs p = ms_o1 (if ((0 : Int32)).toInt = 0 then ms_fx bs p 8 else ms_fs bs p 8) from (by first | rfl | simp [ms_op, ms_kn, ms_sh])]
    exact ro_fx (k := 8) hb h3 hn hp (by decide) (by decide) h
  rw [show ((3 : Int32)).toInt = 3 by decide] at n3
  rcases h with ⟨hx, h⟩ | ⟨n14, h⟩
  · rw [show ((14 : Int32)).toInt = 14 by decide] at hx
    rw [hx, show ms_op (14 : Int) bs p = ms_o1 (if ((0 : Int32)).toInt = 0 then ms_fx bs p 8 else ms_fs bs p 8) from (by first | rfl | simp [ms_op, ms_kn, ms_sh])]
    exact ro_fx (k := 8) hb h3 hn hp (by decide) (by decide) h
  rw [show ((14 : Int32)).toInt = 14 by decide] at n14
  rcases h with ⟨hx, h⟩ | ⟨n15, h⟩
  · rw [show ((15 : Int32)).toInt = 15 by decide] at hx
    have h := ro_fx (k := 8) hb h3 hn hp (by decide) (by decide) h
    rw [if_pos (by decide)] at h
    have e : ms_fs bs p 8 = ms_fx bs p 8 := by unfold ms_fs ms_fx; rw [show (Int32.ofNat 8) = (8 : Int32) from rfl, ms_s8]
    rw [hx, show ms_op (15 : Int) bs p = ms_o1 (ms_fs bs p 8) from (by first | rfl | simp [ms_op, ms_kn, ms_sh]), e]
    exact h
  rw [show ((15 : Int32)).toInt = 15 by decide] at n15
  rcases h with ⟨hx, h⟩ | ⟨n8, h⟩
  · rw [show ((8 : Int32)).toInt = 8 by decide] at hx
    rw [hx, show ms_op (8 : Int) bs p = ms_o1 (if ((0 : Int32)).toInt = 0 then ms_fx bs p 1 else ms_fs bs p 1) from (by first | rfl | simp [ms_op, ms_kn, ms_sh])]
    exact ro_fx (k := 1) hb h3 hn hp (by decide) (by decide) h
  rw [show ((8 : Int32)).toInt = 8 by decide] at n8
  rcases h with ⟨hx, h⟩ | ⟨n21, h⟩
  · rw [show ((21 : Int32)).toInt = 21 by decide] at hx
    rw [hx, show ms_op (21 : Int) bs p = ms_o1 (if ((0 : Int32)).toInt = 0 then ms_fx bs p 1 else ms_fs bs p 1) from (by first | rfl | simp [ms_op, ms_kn, ms_sh])]
    exact ro_fx (k := 1) hb h3 hn hp (by decide) (by decide) h
  rw [show ((21 : Int32)).toInt = 21 by decide] at n21
  rcases h with ⟨hx, h⟩ | ⟨n148, h⟩
  · rw [show ((148 : Int32)).toInt = 148 by decide] at hx
    rw [hx, show ms_op (148 : Int) bs p = ms_o1 (if ((0 : Int32)).toInt = 0 then ms_fx bs p 1 else ms_fs bs p 1) from (by first | rfl | simp [ms_op, ms_kn, ms_sh])]
    exact ro_fx (k := 1) hb h3 hn hp (by decide) (by decide) h
  rw [show ((148 : Int32)).toInt = 148 by decide] at n148
  rcases h with ⟨hx, h⟩ | ⟨n9, h⟩
  · rw [show ((9 : Int32)).toInt = 9 by decide] at hx
    rw [hx, show ms_op (9 : Int) bs p = ms_o1 (if ((1 : Int32)).toInt = 0 then ms_fx bs p 1 else ms_fs bs p 1) from (by first | rfl | simp [ms_op, ms_kn, ms_sh])]
    exact ro_fx (k := 1) hb h3 hn hp (by decide) (by decide) h
  rw [show ((9 : Int32)).toInt = 9 by decide] at n9
  rcases h with ⟨hx, h⟩ | ⟨n10, h⟩
  · rw [show ((10 : Int32)).toInt = 10 by decide] at hx
    rw [hx, show ms_op (10 : Int) bs p = ms_o1 (if ((0 : Int32)).toInt = 0 then ms_fx bs p 2 else ms_fs bs p 2) from (by first | rfl | simp [ms_op, ms_kn, ms_sh])]
    exact ro_fx (k := 2) hb h3 hn hp (by decide) (by decide) h
  rw [show ((10 : Int32)).toInt = 10 by decide] at n10
  rcases h with ⟨hx, h⟩ | ⟨n152, h⟩
  · rw [show ((152 : Int32)).toInt = 152 by decide] at hx
    rw [hx, show ms_op (152 : Int) bs p = ms_o1 (if ((0 : Int32)).toInt = 0 then ms_fx bs p 2 else ms_fs bs p 2) from (by first | rfl | simp [ms_op, ms_kn, ms_sh])]
    exact ro_fx (k := 2) hb h3 hn hp (by decide) (by decide) h
  rw [show ((152 : Int32)).toInt = 152 by decide] at n152
  rcases h with ⟨hx, h⟩ | ⟨n11, h⟩
  · rw [show ((11 : Int32)).toInt = 11 by decide] at hx
    rw [hx, show ms_op (11 : Int) bs p = ms_o1 (if ((1 : Int32)).toInt = 0 then ms_fx bs p 2 else ms_fs bs p 2) from (by first | rfl | simp [ms_op, ms_kn, ms_sh])]
    exact ro_fx (k := 2) hb h3 hn hp (by decide) (by decide) h
  rw [show ((11 : Int32)).toInt = 11 by decide] at n11
  rcases h with ⟨hx, h⟩ | ⟨n40, h⟩
  · rw [show ((40 : Int32)).toInt = 40 by decide] at hx
    rw [hx, show ms_op (40 : Int) bs p = ms_o1 (if ((1 : Int32)).toInt = 0 then ms_fx bs p 2 else ms_fs bs p 2) from (by first | rfl | simp [ms_op, ms_kn, ms_sh])]
    exact ro_fx (k := 2) hb h3 hn hp (by decide) (by decide) h
  rw [show ((40 : Int32)).toInt = 40 by decide] at n40
  rcases h with ⟨hx, h⟩ | ⟨n47, h⟩
  · rw [show ((47 : Int32)).toInt = 47 by decide] at hx
    rw [hx, show ms_op (47 : Int) bs p = ms_o1 (if ((1 : Int32)).toInt = 0 then ms_fx bs p 2 else ms_fs bs p 2) from (by first | rfl | simp [ms_op, ms_kn, ms_sh])]
    exact ro_fx (k := 2) hb h3 hn hp (by decide) (by decide) h
  rw [show ((47 : Int32)).toInt = 47 by decide] at n47
  rcases h with ⟨hx, h⟩ | ⟨n12, h⟩
  · rw [show ((12 : Int32)).toInt = 12 by decide] at hx
    rw [hx, show ms_op (12 : Int) bs p = ms_o1 (if ((0 : Int32)).toInt = 0 then ms_fx bs p 4 else ms_fs bs p 4) from (by first | rfl | simp [ms_op, ms_kn, ms_sh])]
    exact ro_fx (k := 4) hb h3 hn hp (by decide) (by decide) h
  rw [show ((12 : Int32)).toInt = 12 by decide] at n12
  rcases h with ⟨hx, h⟩ | ⟨n153, h⟩
  · rw [show ((153 : Int32)).toInt = 153 by decide] at hx
    rw [hx, show ms_op (153 : Int) bs p = ms_o1 (if ((0 : Int32)).toInt = 0 then ms_fx bs p 4 else ms_fs bs p 4) from (by first | rfl | simp [ms_op, ms_kn, ms_sh])]
    exact ro_fx (k := 4) hb h3 hn hp (by decide) (by decide) h
  rw [show ((153 : Int32)).toInt = 153 by decide] at n153
  rcases h with ⟨hx, h⟩ | ⟨n13, h⟩
  · rw [show ((13 : Int32)).toInt = 13 by decide] at hx
    rw [hx, show ms_op (13 : Int) bs p = ms_o1 (if ((1 : Int32)).toInt = 0 then ms_fx bs p 4 else ms_fs bs p 4) from (by first | rfl | simp [ms_op, ms_kn, ms_sh])]
    exact ro_fx (k := 4) hb h3 hn hp (by decide) (by decide) h
  rw [show ((13 : Int32)).toInt = 13 by decide] at n13
  rcases h with ⟨hx, h⟩ | ⟨n16, h⟩
  · rw [show ((16 : Int32)).toInt = 16 by decide] at hx
    rw [hx, show ms_op (16 : Int) bs p = ms_o1 (ms_lu bs p) from (by first | rfl | simp [ms_op, ms_kn, ms_sh])]
    exact ro_lb (sg := false) hb h3 hn hp (by decide) h
  rw [show ((16 : Int32)).toInt = 16 by decide] at n16
  rcases h with ⟨hx, h⟩ | ⟨n35, h⟩
  · rw [show ((35 : Int32)).toInt = 35 by decide] at hx
    rw [hx, show ms_op (35 : Int) bs p = ms_o1 (ms_lu bs p) from (by first | rfl | simp [ms_op, ms_kn, ms_sh])]
    exact ro_lb (sg := false) hb h3 hn hp (by decide) h
  rw [show ((35 : Int32)).toInt = 35 by decide] at n35
  rcases h with ⟨hx, h⟩ | ⟨n144, h⟩
  · rw [show ((144 : Int32)).toInt = 144 by decide] at hx
    rw [hx, show ms_op (144 : Int) bs p = ms_o1 (ms_lu bs p) from (by first | rfl | simp [ms_op, ms_kn, ms_sh])]
    exact ro_lb (sg := false) hb h3 hn hp (by decide) h
  rw [show ((144 : Int32)).toInt = 144 by decide] at n144
  rcases h with ⟨hx, h⟩ | ⟨n147, h⟩
  · rw [show ((147 : Int32)).toInt = 147 by decide] at hx
    rw [hx, show ms_op (147 : Int) bs p = ms_o1 (ms_lu bs p) from (by first | rfl | simp [ms_op, ms_kn, ms_sh])]
    exact ro_lb (sg := false) hb h3 hn hp (by decide) h
  rw [show ((147 : Int32)).toInt = 147 by decide] at n147
  rcases h with ⟨hx, h⟩ | ⟨n17, h⟩
  · rw [show ((17 : Int32)).toInt = 17 by decide] at hx
    rw [hx, show ms_op (17 : Int) bs p = ms_o1 (ms_li bs p) from (by first | rfl | simp [ms_op, ms_kn, ms_sh])]
    exact ro_lb (sg := true) hb h3 hn hp (by decide) h
  rw [show ((17 : Int32)).toInt = 17 by decide] at n17
  rw [show ((112 : Int32)).toInt = 112 by decide, show ((143 : Int32)).toInt = 143 by decide] at h
  rcases h with ⟨hx, h⟩ | ⟨hx, h⟩
  · exact ro_264 hb h3 hn hp (by omega) (by omega) hk h
  · rcases h with ⟨hy, h⟩ | ⟨hy, h⟩
    · exact ro_264 hb h3 hn hp (by omega) (by omega) hk h
    · rw [ms_op21 hk (ms_sh21 (by omega)), decide_eq_false (show ¬ c.toInt = 158 by omega)]
      exact ro_lb (sg := true) hb h3 hn hp (by decide) h
end RO
