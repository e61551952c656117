/-! The reader's letters, its rows. -/
def g_let (SH : Nat → Nat × Nat) (FI : Nat → Nat → Int32) (FR : Nat → Nat → Option Nat) (x : Int32) : Int32 := match FR 111 5 with
  | none => -1
  | some t => if 0 ≤ x.toInt ∧ x.toInt < (FI 111 6).toInt ∧ x.toInt < (Int32.ofNat (SH t).2).toInt then FI t x.toNatClampNeg else -1
theorem g_let_n {SH : Nat → Nat × Nat} {FI : Nat → Nat → Int32} {FR : Nat → Nat → Option Nat} {x : Int32} {t : Nat} (e : FR 111 5 = some t) (h : ¬ (0 ≤ x.toInt ∧ x.toInt < (FI 111 6).toInt ∧ x.toInt < (Int32.ofNat (SH t).2).toInt)) : g_let SH FI FR x = -1 := by
  unfold g_let; rw [e]; exact if_neg h
theorem g_let_s {SH : Nat → Nat × Nat} {FI : Nat → Nat → Int32} {FR : Nat → Nat → Option Nat} {x v : Int32} {t : Nat} (e : FR 111 5 = some t) (h : 0 ≤ x.toInt ∧ x.toInt < (FI 111 6).toInt ∧ x.toInt < (Int32.ofNat (SH t).2).toInt) (hv : FI t x.toNatClampNeg = v) : g_let SH FI FR x = v := by
  unfold g_let; rw [e]; exact (if_pos h).trans hv
theorem i_eq {x y : Int32} (h : x.toInt = y.toInt) : x = y := Int32.toInt_inj.mp h
/-- the rows of the tokens: the last one is no sign, none is long -/
def g_K (FI : Nat → Nat → Int32) : Prop := 1 ≤ (FI 111 4).toInt ∧ (FI 112 ((FI 111 4).toInt - 1).toNat).toInt ≤ 3 ∧ ∀ i : Nat, (i : Int) < (FI 111 4).toInt → (FI 115 i).toInt ≤ (FI 114 i).toInt + 20
