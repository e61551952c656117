/-! THE TAPE on both sides. -/
/-- a total contract and what a run says backwards, together -/
def h_sm (base : Nat) (s s2 : hS) : Prop := ∃ h, h_Rel base s h ∧ h_Rel base s2 h
theorem hw_pw {ρ : Type} {inj : ρ → Option Value} {sk : xK} {base d j pc : Nat} {X : Option (Nat × Nat × (Nat → Int32))} {L : xL} {st : List Value} {s : hS} {Φ : Option Value → hS → Prop} {Ψ : ρ → hS → Prop} (hh : hw sk base d X j pc L st s Φ) (hp : ∀ N, pw inj sk base N d X j pc L st s Ψ) : hw sk base d X j pc L st s (fun r s' => Φ r s' ∧ ∃ x s2, r = inj x ∧ Ψ x s2 ∧ h_sm base s' s2) := by
  intro h hR
  obtain ⟨r, h', ⟨n, hg⟩, s', hR', hΦ⟩ := hh h hR
  obtain ⟨x, s2, e, hR2, -, hΨ⟩ := hp n n (Nat.le_refl _) h r h' hR hg
  exact ⟨r, h', ⟨n, hg⟩, s', hR', hΦ, x, s2, e, hΨ, h', hR', hR2⟩
/-- an int[] is the same in both -/
theorem h_sm_ia {base : Nat} {n sl n2 sl2 : Nat} {SH SH2 : Nat → Nat × Nat} {FI F2 : Nat → Nat → Int32} {FL L2 : Nat → Nat → Int64} {FR R2 : Nat → Nat → Option Nat} (h : h_sm base (n, sl, SH, FI, FL, FR) (n2, sl2, SH2, F2, L2, R2)) {c z z2 : Nat} (hc : c < n) (h1 : SH c = (100, z)) (h2 : SH2 c = (100, z2)) : FI c = F2 c := by
  obtain ⟨H, ⟨a1, -, a3⟩, b1, -, b3⟩ := h
  have e1 := a3 c hc
  have e2 := b3 c (by show c < n2; have : H.length = n := a1; have : H.length = n2 := b1; omega)
  dsimp only at e1 e2
  rw [h_arr (k := 0) h1] at e1
  rw [h_arr (k := 0) h2] at e2
  rw [e1] at e2
  have e3 := Option.some.inj e2
  have e4 := Sum.inl.inj e3
  have e5 : (h_av base 0 (FI c) (FL c) (FR c)) = (h_av base 0 (F2 c) (L2 c) (R2 c)) := congrArg (fun q => q.2.2) e4
  exact Sum.inl.inj e5
/-- a byte of an int, from both sides -/
theorem fb_bv (x : BitVec 32) (k : Nat) (hk : k ≤ 24) : (x >>> k) &&& 255#32 = (x.sshiftRight k) &&& 255#32 := by
  apply BitVec.eq_of_getLsbD_eq
  intro i hi
  rw [BitVec.getLsbD_and, BitVec.getLsbD_and, BitVec.getLsbD_ushiftRight, BitVec.getLsbD_sshiftRight]
  by_cases h8 : i < 8
  · have h1 : ¬ 32 ≤ i := by omega
    simp [h1, show k + i < 32 by omega]
  · have h2 : (255#32).getLsbD i = false := by
      have : ∀ j : Fin 32, ¬ j.val < 8 → (255#32).getLsbD j.val = false := by decide
      exact this ⟨i, hi⟩ h8
    rw [h2, Bool.and_false, Bool.and_false]
theorem fb_24 (a : Int32) : ((a.toUInt32 >>> (((24 : Int32)).toUInt32 &&& Int32.toUInt32 31)).toInt32 &&& (255 : Int32)) = ((a >>> ((24 : Int32) &&& 31)) &&& (255 : Int32)) := by
  apply Int32.toBitVec_inj.mp
  exact fb_bv a.toBitVec 24 (by decide)
theorem fb_16 (a : Int32) : ((a.toUInt32 >>> (((16 : Int32)).toUInt32 &&& Int32.toUInt32 31)).toInt32 &&& (255 : Int32)) = ((a >>> ((16 : Int32) &&& 31)) &&& (255 : Int32)) := by
  apply Int32.toBitVec_inj.mp
  exact fb_bv a.toBitVec 16 (by decide)
theorem fb_8 (a : Int32) : ((a.toUInt32 >>> (((8 : Int32)).toUInt32 &&& Int32.toUInt32 31)).toInt32 &&& (255 : Int32)) = ((a >>> ((8 : Int32) &&& 31)) &&& (255 : Int32)) := by
  apply Int32.toBitVec_inj.mp
  exact fb_bv a.toBitVec 8 (by decide)
theorem fb_0 (a : Int32) : ((a.toUInt32 >>> (((0 : Int32)).toUInt32 &&& Int32.toUInt32 31)).toInt32 &&& (255 : Int32)) = ((a >>> ((0 : Int32) &&& 31)) &&& (255 : Int32)) := by
  apply Int32.toBitVec_inj.mp
  exact fb_bv a.toBitVec 0 (by decide)
def fb (a l : Int32) : Int32 := (a >>> (l &&& 31)) &&& (255 : Int32)
theorem fb_rg (a l : Int32) : 0 ≤ (fb a l).toInt ∧ (fb a l).toInt ≤ 255 := i_and (x := a >>> (l &&& 31)) (m := (255 : Int32)) (M := 255) (by decide) (by decide)
/-- four bytes behind the first N -/
def f_4 (f : Nat → Int32) (N : Nat) (a : Int32) : Nat → Int32 := va_up (va_up (va_up (va_up f N (fb a 24)) (N + 1) (fb a 16)) (N + 2) (fb a 8)) (N + 3) (fb a 0)
def f_20 (f : Nat → Int32) (N : Nat) (a b c d e : Int32) : Nat → Int32 := f_4 (f_4 (f_4 (f_4 (f_4 f N a) (N + 4) b) (N + 8) c) (N + 12) d) (N + 16) e
def fq_ok (f g : Nat → Int32) (N : Nat) : Prop := ∀ i, i < N → f i = g i ∧ 0 ≤ (f i).toInt ∧ (f i).toInt ≤ 255
theorem fq_ok_1 {f g : Nat → Int32} {N : Nat} {a l : Int32} (h : fq_ok f g N) : fq_ok (va_up f N (fb a l)) (va_up g N (fb a l)) (N + 1) := by
  intro i hi
  by_cases e : i = N
  · subst e
    rw [va_s, va_s]
    exact ⟨rfl, fb_rg a l⟩
  · rw [va_o e, va_o e]
    exact h i (by omega)
theorem fq_ok_4 {f g : Nat → Int32} {N : Nat} {a : Int32} (h : fq_ok f g N) : fq_ok (f_4 f N a) (f_4 g N a) (N + 4) := fq_ok_1 (fq_ok_1 (fq_ok_1 (fq_ok_1 h)))
theorem fq_ok_20 {f g : Nat → Int32} {N : Nat} {a b c d e : Int32} (h : fq_ok f g N) : fq_ok (f_20 f N a b c d e) (f_20 g N a b c d e) (N + 20) := fq_ok_4 (fq_ok_4 (fq_ok_4 (fq_ok_4 (fq_ok_4 h))))
section FD
variable {n sl : Nat} {SH : Nat → Nat × Nat} {FL : Nat → Nat → Int64} {FR : Nat → Nat → Option Nat}
theorem fq_row {FI : Nat → Nat → Int32} {c k d k2 : Nat} {x y : Int32} (h : c ≠ d) : h_up (h_up FI c k x) d k2 y c = va_up (FI c) k x := by
  rw [h_up_nc h, h_up_row]
/-- one turn of feedFour -/
theorem fq_turn {g N : Nat} {a l : Int32} {FI : Nat → Nat → Int32} {u : Unit} {s : hS} (h : GX11_feedFour_3 a (g + 1) l n sl SH FI FL FR u s) (hl : 0 ≤ l.toInt) (hN : (FI 0 9).toInt = N) (h1 : N < 1000) : ∃ F2, GX11_feedFour_3 a g (l + (-8 : Int32)) n sl SH F2 FL FR u s ∧ (F2 0 9).toInt = ((N + 1 : Nat) : Int) ∧ F2 19 = va_up (FI 19) N ((a.toUInt32 >>> (l.toUInt32 &&& Int32.toUInt32 31)).toInt32 &&& (255 : Int32)) := by
  rcases h with ⟨h0, -⟩ | ⟨-, h⟩
  · exfalso; omega
  · rcases h with ⟨-, -, h⟩ | ⟨h2, -⟩
    · have en : (FI 0 9).toInt.toNat = N := by omega
      rw [en] at h
      refine ⟨_, h, ?_, ?_⟩
      · rw [h_up_eq, i_add hN (by decide : ((1 : Int32)).toInt = 1) (by omega) (by omega)]; omega
      · exact fq_row (by decide)
    · exfalso
      rw [show ((1000 : Int32)).toInt = 1000 by decide] at h2
      omega
theorem fq_four {a : Int32} {N : Nat} {FI : Nat → Nat → Int32} {u : Unit} {s : hS} (h : RX11_feedFour a n sl SH FI FL FR u s) (hN : (FI 0 9).toInt = N) (h1 : N + 4 ≤ 1000) : ∃ F2, s = (n, sl, SH, F2, FL, FR) ∧ (F2 0 9).toInt = ((N + 4 : Nat) : Int) ∧ F2 19 = f_4 (FI 19) N a := by
  obtain ⟨g, h⟩ := h
  have z : ∀ g' : Nat, ∀ {l : Int32} {F : Nat → Nat → Int32}, GX11_feedFour_3 a g' l n sl SH F FL FR u s → ∃ g2, g' = g2 + 1 := by
    intro g' l F hh
    cases g' with
    | zero => exact hh.elim
    | succ g2 => exact ⟨g2, rfl⟩
  obtain ⟨g1, rfl⟩ := z g h
  obtain ⟨F1, h, n1, e1⟩ := fq_turn h (by decide) hN (by omega)
  have l1 : ((24 : Int32) + (-8 : Int32)) = 16 := by decide
  rw [l1] at h
  obtain ⟨g2, rfl⟩ := z g1 h
  obtain ⟨F2, h, n2, e2⟩ := fq_turn h (by decide) n1 (by omega)
  have l2 : ((16 : Int32) + (-8 : Int32)) = 8 := by decide
  rw [l2] at h
  obtain ⟨g3, rfl⟩ := z g2 h
  obtain ⟨F3, h, n3, e3⟩ := fq_turn h (by decide) n2 (by omega)
  have l3 : ((8 : Int32) + (-8 : Int32)) = 0 := by decide
  rw [l3] at h
  obtain ⟨g4, rfl⟩ := z g3 h
  obtain ⟨F4, h, n4, e4⟩ := fq_turn h (by decide) n3 (by omega)
  obtain ⟨g5, rfl⟩ := z g4 h
  rcases h with ⟨-, -, rfl⟩ | ⟨h0, -⟩
  · refine ⟨F4, rfl, n4, ?_⟩
    unfold f_4 fb
    rw [e4, e3, e2, e1, fb_24, fb_16, fb_8, fb_0]
  · exfalso
    exact h0 (by decide)
theorem fq_feed {a b c d e : Int32} {N : Nat} {FI : Nat → Nat → Int32} {v : Int32} {s : hS} (h : RX11_feed a b c d e n sl SH FI FL FR v s) (hN : (FI 0 9).toInt = N) (h0 : N ≤ 1000) : ∃ F2, s = (n, sl, SH, F2, FL, FR) ∧ F2 19 = (if N ≤ 980 then f_20 (FI 19) N a b c d e else FI 19) := by
  have e20 : ((FI 0 9) + (20 : Int32)).toInt = (N : Int) + 20 := i_add hN (by decide) (by omega) (by omega)
  have z : ((1000 : Int32)).toInt = 1000 := by decide
  rcases h with ⟨h1, rfl, rfl⟩ | ⟨h1, h⟩
  · rw [z, e20] at h1
    exact ⟨FI, rfl, by rw [if_neg (by omega)]⟩
  · rw [z, e20] at h1
    obtain ⟨v1, n1, sl1, SH1, FI1, FL1, FR1, k1, v2, n2, sl2, SH2, FI2, FL2, FR2, k2, v3, n3, sl3, SH3, FI3, FL3, FR3, k3, v4, n4, sl4, SH4, FI4, FL4, FR4, k4, v5, n5, sl5, SH5, FI5, FL5, FR5, k5, rfl, rfl⟩ := h
    obtain ⟨F1, x, m1, e1⟩ := fq_four k1 hN (by omega)
    cases x
    obtain ⟨F2, x, m2, e2⟩ := fq_four k2 m1 (by omega)
    cases x
    obtain ⟨F3, x, m3, e3⟩ := fq_four k3 m2 (by omega)
    cases x
    obtain ⟨F4, x, m4, e4⟩ := fq_four k4 m3 (by omega)
    cases x
    obtain ⟨F5, x, m5, e5⟩ := fq_four k5 m4 (by omega)
    cases x
    refine ⟨FI5, rfl, ?_⟩
    rw [if_pos (by omega), e5, e4, e3, e2, e1]
    rfl
/-- the reference's -/
theorem pq_turn {g N : Nat} {a l : Int32} {FI : Nat → Nat → Int32} {u : Unit} {s : hS} (h : GX12_puts_3 a (g + 1) l n sl SH FI FL FR u s) (hl : 0 ≤ l.toInt) (hN : (FI 121 13).toInt = N) (h1 : N < 1000) : ∃ F2, GX12_puts_3 a g (l + (-8 : Int32)) n sl SH F2 FL FR u s ∧ (F2 121 13).toInt = ((N + 1 : Nat) : Int) ∧ F2 126 = va_up (FI 126) N (fb a l) := by
  rcases h with ⟨h0, -⟩ | ⟨-, -, h⟩
  · exfalso; omega
  · have en : (FI 121 13).toInt.toNat = N := by omega
    rw [en] at h
    refine ⟨_, h, ?_, ?_⟩
    · rw [h_up_eq, i_add hN (by decide : ((1 : Int32)).toInt = 1) (by omega) (by omega)]; omega
    · exact fq_row (by decide)
theorem pq_four {a : Int32} {N : Nat} {FI : Nat → Nat → Int32} {u : Unit} {s : hS} (h : RX12_puts a n sl SH FI FL FR u s) (hN : (FI 121 13).toInt = N) (h1 : N + 4 ≤ 1000) : ∃ F2, s = (n, sl, SH, F2, FL, FR) ∧ (F2 121 13).toInt = ((N + 4 : Nat) : Int) ∧ F2 126 = f_4 (FI 126) N a := by
  obtain ⟨g, h⟩ := h
  have z : ∀ g' : Nat, ∀ {l : Int32} {F : Nat → Nat → Int32}, GX12_puts_3 a g' l n sl SH F FL FR u s → ∃ g2, g' = g2 + 1 := by
    intro g' l F hh
    cases g' with
    | zero => exact hh.elim
    | succ g2 => exact ⟨g2, rfl⟩
  obtain ⟨g1, rfl⟩ := z g h
  obtain ⟨F1, h, n1, e1⟩ := pq_turn h (by decide) hN (by omega)
  have l1 : ((24 : Int32) + (-8 : Int32)) = 16 := by decide
  rw [l1] at h
  obtain ⟨g2, rfl⟩ := z g1 h
  obtain ⟨F2, h, n2, e2⟩ := pq_turn h (by decide) n1 (by omega)
  have l2 : ((16 : Int32) + (-8 : Int32)) = 8 := by decide
  rw [l2] at h
  obtain ⟨g3, rfl⟩ := z g2 h
  obtain ⟨F3, h, n3, e3⟩ := pq_turn h (by decide) n2 (by omega)
  have l3 : ((8 : Int32) + (-8 : Int32)) = 0 := by decide
  rw [l3] at h
  obtain ⟨g4, rfl⟩ := z g3 h
  obtain ⟨F4, h, n4, e4⟩ := pq_turn h (by decide) n3 (by omega)
  obtain ⟨g5, rfl⟩ := z g4 h
  rcases h with ⟨-, -, rfl⟩ | ⟨h0, -⟩
  · refine ⟨F4, rfl, n4, ?_⟩
    unfold f_4
    rw [e4, e3, e2, e1]
  · exfalso
    exact h0 (by decide)
theorem pq_feed {a b c d e : Int32} {N : Nat} {FI : Nat → Nat → Int32} {v : Int32} {s : hS} (h : RX12_feed a b c d e n sl SH FI FL FR v s) (hN : (FI 121 13).toInt = N) (h0 : N ≤ 1000) : ∃ F2, s = (n, sl, SH, F2, FL, FR) ∧ F2 126 = (if N ≤ 980 then f_20 (FI 126) N a b c d e else FI 126) := by
  have e20 : ((FI 121 13) + (20 : Int32)).toInt = (N : Int) + 20 := i_add hN (by decide) (by omega) (by omega)
  have z : ((1000 : Int32)).toInt = 1000 := by decide
  rcases h with ⟨h1, rfl, rfl⟩ | ⟨h1, h⟩
  · rw [z, e20] at h1
    exact ⟨_, rfl, by rw [if_neg (by omega), h_up_nc (by decide)]⟩
  · rw [z, e20] at h1
    obtain ⟨v1, n1, sl1, SH1, FI1, FL1, FR1, k1, v2, n2, sl2, SH2, FI2, FL2, FR2, k2, v3, n3, sl3, SH3, FI3, FL3, FR3, k3, v4, n4, sl4, SH4, FI4, FL4, FR4, k4, v5, n5, sl5, SH5, FI5, FL5, FR5, k5, rfl, rfl⟩ := h
    obtain ⟨F1, x, m1, e1⟩ := pq_four k1 (N := N) (by rw [h_up_x (by decide)]; exact hN) (by omega)
    cases x
    obtain ⟨F2, x, m2, e2⟩ := pq_four k2 m1 (by omega)
    cases x
    obtain ⟨F3, x, m3, e3⟩ := pq_four k3 m2 (by omega)
    cases x
    obtain ⟨F4, x, m4, e4⟩ := pq_four k4 m3 (by omega)
    cases x
    obtain ⟨F5, x, m5, e5⟩ := pq_four k5 m4 (by omega)
    cases x
    refine ⟨FI5, rfl, ?_⟩
    rw [if_pos (by omega), e5, e4, e3, e2, e1, h_up_nc (by decide)]
    rfl
end FD
/-- the same bytes on both tapes -/
def g_TP (FI : Nat → Nat → Int32) : Prop := (FI 0 9).toInt = (FI 121 13).toInt ∧ fq_ok (FI 19) (FI 126) (FI 0 9).toInt.toNat
theorem tp_keep {FI F2 : Nat → Nat → Int32} (h : g_TP FI) (h1 : F2 19 = FI 19) (h2 : F2 126 = FI 126) (h3 : (F2 0 9).toInt = (F2 121 13).toInt) (h4 : (F2 0 9).toInt ≤ (FI 0 9).toInt) : g_TP F2 := by
  refine ⟨h3, fun i hi => ?_⟩
  rw [h1, h2]
  exact h.2 i (by omega)
theorem tp_feed {FI F2 : Nat → Nat → Int32} {a b c d e : Int32} {N : Nat} (h : g_TP FI) (hN : (FI 0 9).toInt = N) (h1 : F2 19 = (if N ≤ 980 then f_20 (FI 19) N a b c d e else FI 19)) (h2 : F2 126 = (if N ≤ 980 then f_20 (FI 126) N a b c d e else FI 126)) (h3 : (F2 0 9).toInt = (F2 121 13).toInt) (h4 : (N ≤ 980 ∧ (F2 0 9).toInt = (N : Int) + 20) ∨ (980 < N ∧ (F2 0 9).toInt = (N : Int))) : g_TP F2 := by
  refine ⟨h3, ?_⟩
  have hk := h.2
  rw [show (FI 0 9).toInt.toNat = N by omega] at hk
  rcases h4 with ⟨q, e4⟩ | ⟨q, e4⟩
  · rw [h1, h2, if_pos q, if_pos q, show (F2 0 9).toInt.toNat = N + 20 by omega]
    exact fq_ok_20 hk
  · rw [h1, h2, if_neg (by omega), if_neg (by omega), show (F2 0 9).toInt.toNat = N by omega]
    exact hk
