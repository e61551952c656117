/-! THE REFERENCE'S exec, label by label. -/
theorem fl {k pl v : Int32} {n sl : Nat} {SH : Nat → Nat × Nat} {FI : Nat → Nat → Int32} {FL : Nat → Nat → Int64} {FR : Nat → Nat → Option Nat} {st : hS} (h : P_bi (RX12_fails k pl n sl SH FI FL FR) (fun v1 n1 sl1 SH1 FI1 FL1 FR1 => P_ret v1 (n1, sl1, SH1, FI1, FL1, FR1)) v st) : v = k := by
  obtain ⟨v1, n1, sl1, SH1, FI1, FL1, FR1, ⟨e, -⟩, e2, -⟩ := h
  exact e2.trans e
section XL
variable {K : Int32 → Int32 → Int32 → Int32 → Nat → Nat → (Nat → Nat × Nat) → (Nat → Nat → Int32) → (Nat → Nat → Int64) → (Nat → Nat → Option Nat) → Int32 → hS → Prop} {a1 a2 a3 l4 l5 l6 l7 l8 l9 l10 l11 l16 l21 : Int32} {l12 l14 l17 l19 : Int64} {n sl : Nat} {SH : Nat → Nat × Nat} {FI : Nat → Nat → Int32} {FL : Nat → Nat → Int64} {FR : Nat → Nat → Option Nat} {v : Int32} {st : hS}
theorem x490 (h : RX12_exec_490 K a1 a2 a3 l4 l6 l7 l8 l9 l10 l11 l12 l14 n sl SH FI FL FR v st) : (((l10.toInt = 144 ∨ l10.toInt = 146) ∧ (l12.toInt < 0 ∨ 31 < l12.toInt)) ∧ v = 14) ∨ (¬ ((l10.toInt = 144 ∨ l10.toInt = 146) ∧ (l12.toInt < 0 ∨ 31 < l12.toInt)) ∧ RX12_exec_527 K a1 a2 a3 l4 l6 l7 l8 l9 l10 l11 l12 l14 n sl SH FI FL FR v st) := by
  have z : ∀ h : RX12_exec_506 K a1 a2 a3 l4 l6 l7 l8 l9 l10 l11 l12 l14 n sl SH FI FL FR v st, (((l12.toInt < 0 ∨ 31 < l12.toInt)) ∧ v = 14) ∨ (¬ (l12.toInt < 0 ∨ 31 < l12.toInt) ∧ RX12_exec_527 K a1 a2 a3 l4 l6 l7 l8 l9 l10 l11 l12 l14 n sl SH FI FL FR v st) := by
    intro h
    unfold RX12_exec_506 fX12_isAbove at h
    rw [show ((0 : Int64)).toInt = 0 by decide, show ((31 : Int64)).toInt = 31 by decide] at h
    by_cases h1 : l12.toInt < 0
    · rw [if_pos h1] at h
      exact Or.inl ⟨Or.inl h1, fl (P_n h (by decide))⟩
    · rw [if_neg h1] at h
      by_cases h2 : 31 < l12.toInt
      · rw [if_pos h2] at h
        exact Or.inl ⟨Or.inr h2, fl (P_n h (by decide))⟩
      · rw [if_neg h2] at h
        exact Or.inr ⟨fun e => e.elim h1 h2, P_p h (by decide)⟩
  rcases h with ⟨hx, h⟩ | ⟨hx, h⟩
  · rw [show ((144 : Int32)).toInt = 144 by decide] at hx
    rcases z h with ⟨q, e⟩ | ⟨q, e⟩
    · exact Or.inl ⟨⟨Or.inl hx, q⟩, e⟩
    · exact Or.inr ⟨fun w => q w.2, e⟩
  · rw [show ((144 : Int32)).toInt = 144 by decide] at hx
    rcases h with ⟨hy, h⟩ | ⟨hy, h⟩
    · rw [show ((146 : Int32)).toInt = 146 by decide] at hy
      rcases z h with ⟨q, e⟩ | ⟨q, e⟩
      · exact Or.inl ⟨⟨Or.inr hy, q⟩, e⟩
      · exact Or.inr ⟨fun w => q w.2, e⟩
    · rw [show ((146 : Int32)).toInt = 146 by decide] at hy
      exact Or.inr ⟨fun w => w.1.elim hx hy, h⟩
theorem x527 (h : RX12_exec_527 K a1 a2 a3 l4 l6 l7 l8 l9 l10 l11 l12 l14 n sl SH FI FL FR v st) : ((l10.toInt = 148 ∧ (l12.toInt < 1 ∨ 8 < l12.toInt)) ∧ v = 10) ∨ (¬ (l10.toInt = 148 ∧ (l12.toInt < 1 ∨ 8 < l12.toInt)) ∧ RX12_exec_560 K a1 a2 a3 l4 l6 l7 l8 l9 l10 l11 l12 l14 n sl SH FI FL FR v st) := by
  rcases h with ⟨hx, h⟩ | ⟨hx, h⟩
  · rw [show ((148 : Int32)).toInt = 148 by decide] at hx
    rw [show ((1 : Int64)).toInt = 1 by decide, show ((8 : Int64)).toInt = 8 by decide] at h
    rcases h with ⟨hy, h⟩ | ⟨hy, h⟩
    · exact Or.inl ⟨⟨hx, Or.inl hy⟩, fl h⟩
    · rcases h with ⟨hz, h⟩ | ⟨hz, h⟩
      · exact Or.inl ⟨⟨hx, Or.inr hz⟩, fl h⟩
      · exact Or.inr ⟨fun w => w.2.elim hy hz, h⟩
  · rw [show ((148 : Int32)).toInt = 148 by decide] at hx
    exact Or.inr ⟨fun w => hx w.1, h⟩
theorem x691 (h : RX12_exec_691 K a1 a2 a3 l4 l6 l7 l8 l9 l10 l11 l12 l14 l16 l17 l19 n sl SH FI FL FR v st) (h1 : l10.toInt ≠ 152) (h2 : l10.toInt ≠ 153) : RX12_exec_736 K a1 a2 a3 l4 l6 l7 l8 l9 l10 l11 l12 l14 l16 l17 l19 n sl SH FI FL FR v st := P_n (P_n h (by rw [show ((152 : Int32)).toInt = 152 by decide]; exact h1)) (by rw [show ((153 : Int32)).toInt = 153 by decide]; exact h2)
theorem x691c (h : RX12_exec_691 K a1 a2 a3 l4 l6 l7 l8 l9 l10 l11 l12 l14 l16 l17 l19 n sl SH FI FL FR v st) (hc : l10.toInt = 152 ∨ l10.toInt = 153) : ((15 < l12.toInt ∨ (FI 121 29).toInt = 8) ∧ v = 8) ∨ (¬ (15 < l12.toInt ∨ (FI 121 29).toInt = 8) ∧ RX12_exec_736 K a1 a2 a3 l4 l6 l7 l8 l9 l10 l11 l12 l14 l16 l17 l19 n sl SH FI FL FR v st) := by
  have h : RX12_exec_709 K a1 a2 a3 l4 l6 l7 l8 l9 l10 l11 l12 l14 l16 l17 l19 n sl SH FI FL FR v st := by
    rcases h with ⟨-, h⟩ | ⟨hx, h⟩
    · exact h
    · rw [show ((152 : Int32)).toInt = 152 by decide] at hx
      rcases h with ⟨-, h⟩ | ⟨hy, -⟩
      · exact h
      · rw [show ((153 : Int32)).toInt = 153 by decide] at hy
        exact absurd hc (fun e => e.elim hx hy)
  unfold RX12_exec_709 at h
  rw [show ((15 : Int64)).toInt = 15 by decide, show ((8 : Int32)).toInt = 8 by decide] at h
  rcases h with ⟨hy, h⟩ | ⟨hy, h⟩
  · exact Or.inl ⟨Or.inl hy, fl h⟩
  · rcases h with ⟨hz, h⟩ | ⟨hz, h⟩
    · exact Or.inl ⟨Or.inr hz, fl h⟩
    · exact Or.inr ⟨fun w => w.elim hy hz, h⟩
theorem x736 (h : RX12_exec_736 K a1 a2 a3 l4 l6 l7 l8 l9 l10 l11 l12 l14 l16 l17 l19 n sl SH FI FL FR v st) : ((l10.toInt = 151 ∧ (FI 121 10).toInt = 0) ∧ v = 11) ∨ (¬ (l10.toInt = 151 ∧ (FI 121 10).toInt = 0) ∧ RX12_exec_751 K a1 a2 a3 l4 l6 l7 l8 l9 l10 l11 l12 l14 l16 l17 l19 n sl SH FI FL FR v st) := by
  rcases h with ⟨hx, h⟩ | ⟨hx, h⟩
  · rw [show ((151 : Int32)).toInt = 151 by decide] at hx
    rcases h with ⟨hy, h⟩ | ⟨hy, h⟩
    · exact Or.inl ⟨⟨hx, hy⟩, fl h⟩
    · exact Or.inr ⟨fun w => hy w.2, h⟩
  · rw [show ((151 : Int32)).toInt = 151 by decide] at hx
    exact Or.inr ⟨fun w => hx w.1, h⟩
theorem x751 (h : RX12_exec_751 K a1 a2 a3 l4 l6 l7 l8 l9 l10 l11 l12 l14 l16 l17 l19 n sl SH FI FL FR v st) : ((l10.toInt = 155 ∧ (FI 121 11).toInt = 0) ∧ v = 11) ∨ (¬ (l10.toInt = 155 ∧ (FI 121 11).toInt = 0) ∧ RX12_exec_766 K a1 a2 a3 l4 l6 l7 l8 l9 l10 l11 l12 l14 l16 l17 l19 n sl SH FI FL FR v st) := by
  rcases h with ⟨hx, h⟩ | ⟨hx, h⟩
  · rw [show ((155 : Int32)).toInt = 155 by decide] at hx
    rcases h with ⟨hy, h⟩ | ⟨hy, h⟩
    · exact Or.inl ⟨⟨hx, hy⟩, fl h⟩
    · exact Or.inr ⟨fun w => hy w.2, h⟩
  · rw [show ((155 : Int32)).toInt = 155 by decide] at hx
    exact Or.inr ⟨fun w => hx w.1, h⟩
theorem x766 (h : RX12_exec_766 K a1 a2 a3 l4 l6 l7 l8 l9 l10 l11 l12 l14 l16 l17 l19 n sl SH FI FL FR v st) : ((l10.toInt = 156 ∧ (FI 121 6).toInt = -1) ∧ v = 11) ∨ (¬ (l10.toInt = 156 ∧ (FI 121 6).toInt = -1) ∧ RX12_exec_782 K a1 a2 a3 l4 l6 l7 l8 l9 l10 l11 l12 l14 l16 l17 l19 n sl SH FI FL FR v st) := by
  rcases h with ⟨hx, h⟩ | ⟨hx, h⟩
  · rw [show ((156 : Int32)).toInt = 156 by decide] at hx
    rw [show ((-1 : Int32)).toInt = -1 by decide] at h
    rcases h with ⟨hy, h⟩ | ⟨hy, h⟩
    · exact Or.inl ⟨⟨hx, hy⟩, fl h⟩
    · exact Or.inr ⟨fun w => hy w.2, h⟩
  · rw [show ((156 : Int32)).toInt = 156 by decide] at hx
    exact Or.inr ⟨fun w => hx w.1, h⟩
theorem x782 (h : RX12_exec_782 K a1 a2 a3 l4 l6 l7 l8 l9 l10 l11 l12 l14 l16 l17 l19 n sl SH FI FL FR v st) (hc : l10.toInt ≠ 145) : RX12_exec_813 K a1 a2 a3 l4 l6 l7 l8 l9 l10 l11 l12 l14 l16 l17 l19 n sl SH FI FL FR v st := P_n h (by rw [show ((145 : Int32)).toInt = 145 by decide]; exact hc)
theorem x782b (h : RX12_exec_782 K a1 a2 a3 l4 l6 l7 l8 l9 l10 l11 l12 l14 l16 l17 l19 n sl SH FI FL FR v st) (hc : l10.toInt = 145) : ((l4.toInt = 1 ∨ (FI 121 5).toInt = -1) ∧ v = 11) ∨ (¬ (l4.toInt = 1 ∨ (FI 121 5).toInt = -1) ∧ RX12_exec_813 K a1 a2 a3 l4 l6 l7 l8 l9 l10 l11 l12 l14 l16 l17 l19 n sl SH FI FL FR v st) := by
  have h := P_p h (by rw [show ((145 : Int32)).toInt = 145 by decide]; exact hc)
  rw [show ((1 : Int32)).toInt = 1 by decide, show ((-1 : Int32)).toInt = -1 by decide] at h
  rcases h with ⟨hy, h⟩ | ⟨hy, h⟩
  · exact Or.inl ⟨Or.inl hy, fl h⟩
  · rcases h with ⟨hz, h⟩ | ⟨hz, h⟩
    · exact Or.inl ⟨Or.inr hz, fl h⟩
    · exact Or.inr ⟨fun w => w.elim hy hz, h⟩
theorem x_th {t a : Int64} : ((fX12_isThere t a SH FI FL FR).toInt = 0) ↔ (t.toInt < 0 ∨ ((4096 : Int64) - a).toInt < t.toInt) := by
  unfold fX12_isThere
  rw [show ((0 : Int64)).toInt = 0 by decide]
  by_cases h1 : t.toInt < 0
  · rw [if_pos h1]; exact ⟨fun _ => Or.inl h1, fun _ => by decide⟩
  · rw [if_neg h1]
    by_cases h2 : ((4096 : Int64) - a).toInt < t.toInt
    · rw [if_pos h2]; exact ⟨fun _ => Or.inr h2, fun _ => by decide⟩
    · rw [if_neg h2]; exact ⟨fun e => absurd e (by decide), fun e => absurd e (fun w => w.elim h1 h2)⟩
theorem x813 (h : RX12_exec_813 K a1 a2 a3 l4 l6 l7 l8 l9 l10 l11 l12 l14 l16 l17 l19 n sl SH FI FL FR v st) (hc : l10.toInt ≠ 145) : ((l10.toInt = 6 ∧ (l17.toInt < 0 ∨ 4088 < l17.toInt)) ∧ v = 5) ∨ (¬ (l10.toInt = 6 ∧ (l17.toInt < 0 ∨ 4088 < l17.toInt)) ∧ RX12_exec_917 K a1 a2 a3 l4 l6 l7 l8 l9 l10 l11 l12 l14 l16 l17 l19 n sl SH FI FL FR v st) := by
  have h := P_n h (by rw [show ((145 : Int32)).toInt = 145 by decide]; exact hc)
  have e : ((4096 : Int64) - (8 : Int64)).toInt = 4088 := by decide
  rw [x_th, e] at h
  rcases h with ⟨hx, h⟩ | ⟨hx, h⟩
  · rw [show ((6 : Int32)).toInt = 6 by decide] at hx
    rcases h with ⟨hy, h⟩ | ⟨hy, h⟩
    · exact Or.inl ⟨⟨hx, hy⟩, fl h⟩
    · exact Or.inr ⟨fun w => hy w.2, h⟩
  · rw [show ((6 : Int32)).toInt = 6 by decide] at hx
    exact Or.inr ⟨fun w => hx w.1, h⟩
theorem x917 (h : RX12_exec_917 K a1 a2 a3 l4 l6 l7 l8 l9 l10 l11 l12 l14 l16 l17 l19 n sl SH FI FL FR v st) : ((l10.toInt = 148 ∧ (l17.toInt < 0 ∨ ((4096 : Int64) - l12).toInt < l17.toInt)) ∧ v = 5) ∨ (¬ (l10.toInt = 148 ∧ (l17.toInt < 0 ∨ ((4096 : Int64) - l12).toInt < l17.toInt)) ∧ RX12_exec_944 K a1 a2 a3 l4 l6 l7 l8 l9 l10 l11 l12 l14 l16 l17 l19 n sl SH FI FL FR v st) := by
  unfold RX12_exec_917 at h
  rw [x_th] at h
  rcases h with ⟨hx, h⟩ | ⟨hx, h⟩
  · rw [show ((148 : Int32)).toInt = 148 by decide] at hx
    rcases h with ⟨hy, h⟩ | ⟨hy, h⟩
    · exact Or.inl ⟨⟨hx, hy⟩, fl h⟩
    · exact Or.inr ⟨fun w => hy w.2, h⟩
  · rw [show ((148 : Int32)).toInt = 148 by decide] at hx
    exact Or.inr ⟨fun w => hx w.1, h⟩
theorem x944 (h : RX12_exec_944 K a1 a2 a3 l4 l6 l7 l8 l9 l10 l11 l12 l14 l16 l17 l19 n sl SH FI FL FR v st) : (((l10.toInt = 27 ∨ l10.toInt = 29) ∧ l17.toInt = 0) ∧ v = 6) ∨ (¬ ((l10.toInt = 27 ∨ l10.toInt = 29) ∧ l17.toInt = 0) ∧ RX12_exec_974 K a1 a2 a3 l4 l6 l7 l8 l9 l10 l11 l12 l14 l16 l17 l19 n sl SH FI FL FR v st) := by
  have z : ∀ h : RX12_exec_958 K a1 a2 a3 l4 l6 l7 l8 l9 l10 l11 l12 l14 l16 l17 l19 n sl SH FI FL FR v st, (l17.toInt = 0 ∧ v = 6) ∨ (¬ l17.toInt = 0 ∧ RX12_exec_974 K a1 a2 a3 l4 l6 l7 l8 l9 l10 l11 l12 l14 l16 l17 l19 n sl SH FI FL FR v st) := by
    intro h
    unfold RX12_exec_958 at h
    rw [show ((0 : Int64)).toInt = 0 by decide] at h
    rcases h with ⟨hy, h⟩ | ⟨hy, h⟩
    · exact Or.inl ⟨hy, fl h⟩
    · exact Or.inr ⟨hy, h⟩
  rcases h with ⟨hx, h⟩ | ⟨hx, h⟩
  · rw [show ((27 : Int32)).toInt = 27 by decide] at hx
    rcases z h with ⟨q, e⟩ | ⟨q, e⟩
    · exact Or.inl ⟨⟨Or.inl hx, q⟩, e⟩
    · exact Or.inr ⟨fun w => q w.2, e⟩
  · rw [show ((27 : Int32)).toInt = 27 by decide] at hx
    rcases h with ⟨hy, h⟩ | ⟨hy, h⟩
    · rw [show ((29 : Int32)).toInt = 29 by decide] at hy
      rcases z h with ⟨q, e⟩ | ⟨q, e⟩
      · exact Or.inl ⟨⟨Or.inr hy, q⟩, e⟩
      · exact Or.inr ⟨fun w => q w.2, e⟩
    · rw [show ((29 : Int32)).toInt = 29 by decide] at hy
      exact Or.inr ⟨fun w => w.1.elim hx hy, h⟩
theorem x999 (h : RX12_exec_999 K a1 a2 a3 l4 l6 l7 l8 l9 l10 l11 l12 l14 l16 l17 l19 n sl SH FI FL FR v st) : ((((l11.toInt64) + l12).toInt < (l6.toInt64).toInt ∨ (l7.toInt64).toInt < ((l11.toInt64) + l12).toInt) ∧ v = 7) ∨ (¬ (((l11.toInt64) + l12).toInt < (l6.toInt64).toInt ∨ (l7.toInt64).toInt < ((l11.toInt64) + l12).toInt) ∧ RX12_exec_1039 K a1 a2 a3 l4 l6 l7 l8 l9 l10 l11 l12 l14 l16 l17 l19 (((l11.toInt64) + l12).toInt32) n sl SH FI FL FR v st) := by
  rcases h with ⟨hy, h⟩ | ⟨hy, h⟩
  · exact Or.inl ⟨Or.inl hy, fl h⟩
  · rcases h with ⟨hz, h⟩ | ⟨hz, h⟩
    · exact Or.inl ⟨Or.inr hz, fl h⟩
    · exact Or.inr ⟨fun w => w.elim hy hz, h⟩
theorem x974j (h : RX12_exec_974 K a1 a2 a3 l4 l6 l7 l8 l9 l10 l11 l12 l14 l16 l17 l19 n sl SH FI FL FR v st) (hc : l10.toInt = 47 ∨ (l10.toInt = 40 ∧ l17.toInt ≠ 0)) : RX12_exec_999 K a1 a2 a3 l4 l6 l7 l8 l9 l10 l11 l12 l14 l16 l17 l19 n sl SH FI FL FR v st := by
  rcases h with ⟨-, h⟩ | ⟨hx, h⟩
  · exact h
  · rw [show ((47 : Int32)).toInt = 47 by decide] at hx
    rcases h with ⟨-, h⟩ | ⟨hy, h⟩
    · exact P_n h (by rw [show ((0 : Int64)).toInt = 0 by decide]; exact (hc.resolve_left hx).2)
    · rw [show ((40 : Int32)).toInt = 40 by decide] at hy
      exact absurd (hc.resolve_left hx).1 hy
theorem x974 (h : RX12_exec_974 K a1 a2 a3 l4 l6 l7 l8 l9 l10 l11 l12 l14 l16 l17 l19 n sl SH FI FL FR v st) (hc : ¬ (l10.toInt = 47 ∨ (l10.toInt = 40 ∧ l17.toInt ≠ 0))) : RX12_exec_1039 K a1 a2 a3 l4 l6 l7 l8 l9 l10 l11 l12 l14 l16 l17 l19 l11 n sl SH FI FL FR v st := by
  have h := P_n h (by rw [show ((47 : Int32)).toInt = 47 by decide]; exact fun e => hc (Or.inl e))
  rcases h with ⟨hy, h⟩ | ⟨hy, h⟩
  · rw [show ((40 : Int32)).toInt = 40 by decide] at hy
    exact P_p h (by rw [show ((0 : Int64)).toInt = 0 by decide]; exact Classical.byContradiction (fun e => hc (Or.inr ⟨hy, e⟩)))
  · exact h
theorem x1039 (h : RX12_exec_1039 K a1 a2 a3 l4 l6 l7 l8 l9 l10 l11 l12 l14 l16 l17 l19 l21 n sl SH FI FL FR v st) : (((fX12_pushes l10 SH FI FL FR).toInt ≠ 0 ∧ l16.toInt = 128) ∧ v = 4) ∨ (¬ ((fX12_pushes l10 SH FI FL FR).toInt ≠ 0 ∧ l16.toInt = 128) ∧ RX12_exec_1064 K a1 a2 a3 l4 l6 l7 l8 l9 l10 l11 l12 l14 l16 l17 l19 l21 n sl SH FI FL FR v st) := by
  unfold RX12_exec_1039 at h
  rw [show ((128 : Int32)).toInt = 128 by decide] at h
  rcases h with ⟨hx, h⟩ | ⟨hx, h⟩
  · exact Or.inr ⟨fun w => w.1 hx, h⟩
  · rcases h with ⟨hy, h⟩ | ⟨hy, h⟩
    · exact Or.inl ⟨⟨hx, hy⟩, fl h⟩
    · exact Or.inr ⟨fun w => hy w.2, h⟩
theorem x1064c (h : RX12_exec_1064 K a1 a2 a3 l4 l6 l7 l8 l9 l10 l11 l12 l14 l16 l17 l19 l21 n sl SH FI FL FR v st) (hc : l10.toInt = 152 ∨ l10.toInt = 153) : RX12_exec_1080 K a1 a2 a3 l4 l6 l7 l9 l11 l12 n sl SH FI FL FR v st := by
  rcases h with ⟨-, h⟩ | ⟨hx, h⟩
  · exact h
  · rw [show ((152 : Int32)).toInt = 152 by decide] at hx
    exact P_p h (by rw [show ((153 : Int32)).toInt = 153 by decide]; exact hc.resolve_left hx)
theorem x1064a (h : RX12_exec_1064 K a1 a2 a3 l4 l6 l7 l8 l9 l10 l11 l12 l14 l16 l17 l19 l21 n sl SH FI FL FR v st) (h1 : l10.toInt ≠ 152) (h2 : l10.toInt ≠ 153) (hp : (fX12_pushes l10 SH FI FL FR).toInt = 0) : ∃ u n4 sl4 SH4 FI4 FL4 FR4, RX12_acts l4 l10 l12 l14 n sl SH FI FL FR u (n4, sl4, SH4, FI4, FL4, FR4) ∧ K l4 l21 l6 l7 n4 sl4 SH4 FI4 FL4 FR4 v st := P_p (P_n (P_n h (by rw [show ((152 : Int32)).toInt = 152 by decide]; exact h1)) (by rw [show ((153 : Int32)).toInt = 153 by decide]; exact h2)) hp
theorem x1064p (h : RX12_exec_1064 K a1 a2 a3 l4 l6 l7 l8 l9 l10 l11 l12 l14 l16 l17 l19 l21 n sl SH FI FL FR v st) (h1 : l10.toInt ≠ 152) (h2 : l10.toInt ≠ 153) (hp : (fX12_pushes l10 SH FI FL FR).toInt ≠ 0) : ∃ u n4 sl4 SH4 FI4 FL4 FR4, RX12_pushed l4 (fX12_pushes_ l10 l12 l14 l17 l19 (l8 + l16) SH FI FL FR) n sl SH FI FL FR u (n4, sl4, SH4, FI4, FL4, FR4) ∧ K l4 l21 l6 l7 n4 sl4 SH4 FI4 FL4 FR4 v st := P_n (P_n (P_n h (by rw [show ((152 : Int32)).toInt = 152 by decide]; exact h1)) (by rw [show ((153 : Int32)).toInt = 153 by decide]; exact h2)) hp
end XL
