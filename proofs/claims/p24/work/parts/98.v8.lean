/-! FRAMES of the reference's methods: which fields (L) and arrays (A) of ints, of longs (L2, A2) a run may have changed; a fault (field 69 of cell 121) that stands is not taken back. -/
abbrev k_M : Type := List (Nat × Nat) × List Nat × List (Nat × Nat) × List Nat
def k_in (L : List (Nat × Nat)) (A : List Nat) (c k : Nat) : Bool := L.contains (c, k) || A.contains c
def k_sub (m m2 : k_M) : Bool := m.1.all (fun e => m2.1.contains e) && m.2.1.all (fun e => m2.2.1.contains e) && m.2.2.1.all (fun e => m2.2.2.1.contains e) && m.2.2.2.all (fun e => m2.2.2.2.contains e)
theorem k_in_sub {L L2 : List (Nat × Nat)} {A A2 : List Nat} {c k : Nat} (h1 : L.all (fun e => L2.contains e) = true) (h2 : A.all (fun e => A2.contains e) = true) (h : k_in L2 A2 c k = false) : k_in L A c k = false := by
  unfold k_in at *
  rw [Bool.or_eq_false_iff] at *
  refine ⟨?_, ?_⟩
  · cases e : L.contains (c, k) with
    | false => rfl
    | true =>
      exfalso
      have h3 := List.all_eq_true.mp h1 _ (List.contains_iff_mem.mp e)
      rw [h3] at h
      exact absurd h.1 (by decide)
  · cases e : A.contains c with
    | false => rfl
    | true =>
      exfalso
      have h3 := List.all_eq_true.mp h2 _ (List.contains_iff_mem.mp e)
      rw [h3] at h
      exact absurd h.2 (by decide)
def kq (m : k_M) (a b : hS) : Prop := b.1 = a.1 ∧ b.2.1 = a.2.1 ∧ b.2.2.1 = a.2.2.1 ∧ b.2.2.2.2.2 = a.2.2.2.2.2 ∧ (∀ c k, k_in m.1 m.2.1 c k = false → b.2.2.2.1 c k = a.2.2.2.1 c k) ∧ (∀ c k, k_in m.2.2.1 m.2.2.2 c k = false → b.2.2.2.2.1 c k = a.2.2.2.2.1 c k) ∧ ((a.2.2.2.1 121 69).toInt ≠ 0 → (b.2.2.2.1 121 69).toInt ≠ 0)
theorem kq_rf {m : k_M} {a : hS} : kq m a a := ⟨rfl, rfl, rfl, rfl, fun _ _ _ => rfl, fun _ _ _ => rfl, fun h => h⟩
theorem kq_tr {m : k_M} {a b c : hS} (h : kq m a b) (h2 : kq m b c) : kq m a c :=
  ⟨h2.1.trans h.1, h2.2.1.trans h.2.1, h2.2.2.1.trans h.2.2.1, h2.2.2.2.1.trans h.2.2.2.1, fun i j e => (h2.2.2.2.2.1 i j e).trans (h.2.2.2.2.1 i j e), fun i j e => (h2.2.2.2.2.2.1 i j e).trans (h.2.2.2.2.2.1 i j e), fun e => h2.2.2.2.2.2.2 (h.2.2.2.2.2.2 e)⟩
theorem kq_mono {m m2 : k_M} {a b : hS} (h : kq m a b) (hs : k_sub m m2 = true) : kq m2 a b := by
  unfold k_sub at hs
  rw [Bool.and_eq_true, Bool.and_eq_true, Bool.and_eq_true] at hs
  exact ⟨h.1, h.2.1, h.2.2.1, h.2.2.2.1, fun i j e => h.2.2.2.2.1 i j (k_in_sub hs.1.1.1 hs.1.1.2 e), fun i j e => h.2.2.2.2.2.1 i j (k_in_sub hs.1.2 hs.2 e), h.2.2.2.2.2.2⟩
theorem h_up_x {α : Type} {F : Nat → Nat → α} {c k c2 k2 : Nat} {x : α} (h : ¬ (c2 = c ∧ k2 = k)) : h_up F c k x c2 k2 = F c2 k2 := by
  by_cases hc : c2 = c
  · subst hc
    exact h_up_ne (fun e => h ⟨rfl, e⟩)
  · rw [h_up_nc hc]
section KQ
variable {m : k_M} {a : hS} {n sl : Nat} {SH : Nat → Nat × Nat} {FI : Nat → Nat → Int32} {FL : Nat → Nat → Int64} {FR : Nat → Nat → Option Nat} {c k : Nat}
theorem kq_i0 {x : Int32} (h : kq m a (n, sl, SH, FI, FL, FR)) (h1 : k_in m.1 m.2.1 c k = true) (h2 : ¬ (c = 121 ∧ k = 69)) : kq m a (n, sl, SH, h_up FI c k x, FL, FR) := by
  refine ⟨h.1, h.2.1, h.2.2.1, h.2.2.2.1, fun i j e => ?_, h.2.2.2.2.2.1, fun e => ?_⟩
  · show h_up FI c k x i j = _
    rw [h_up_x (by rintro ⟨rfl, rfl⟩; rw [h1] at e; cases e)]
    exact h.2.2.2.2.1 i j e
  · show (h_up FI c k x 121 69).toInt ≠ 0
    rw [h_up_x (by rintro ⟨rfl, rfl⟩; exact h2 ⟨rfl, rfl⟩)]
    exact h.2.2.2.2.2.2 e
theorem kq_l0 {x : Int64} (h : kq m a (n, sl, SH, FI, FL, FR)) (h1 : k_in m.2.2.1 m.2.2.2 c k = true) : kq m a (n, sl, SH, FI, h_up FL c k x, FR) := by
  refine ⟨h.1, h.2.1, h.2.2.1, h.2.2.2.1, h.2.2.2.2.1, fun i j e => ?_, h.2.2.2.2.2.2⟩
  show h_up FL c k x i j = _
  rw [h_up_x (by rintro ⟨rfl, rfl⟩; rw [h1] at e; cases e)]
  exact h.2.2.2.2.2.1 i j e
theorem kq_if {x : Int32} (h : kq m a (n, sl, SH, FI, FL, FR)) (h1 : m.1.contains (c, k) = true) (h2 : ¬ (c = 121 ∧ k = 69)) : kq m a (n, sl, SH, h_up FI c k x, FL, FR) := kq_i0 h (by unfold k_in; rw [h1]; rfl) h2
theorem kq_ia {x : Int32} (h : kq m a (n, sl, SH, FI, FL, FR)) (h1 : m.2.1.contains c = true) (h2 : c ≠ 121) : kq m a (n, sl, SH, h_up FI c k x, FL, FR) := kq_i0 h (by unfold k_in; rw [h1, Bool.or_true]) (fun e => h2 e.1)
theorem kq_la {x : Int64} (h : kq m a (n, sl, SH, FI, FL, FR)) (h1 : m.2.2.2.contains c = true) : kq m a (n, sl, SH, FI, h_up FL c k x, FR) := kq_l0 h (by unfold k_in; rw [h1, Bool.or_true])
theorem kq_lf {x : Int64} (h : kq m a (n, sl, SH, FI, FL, FR)) (h1 : m.2.2.1.contains (c, k) = true) : kq m a (n, sl, SH, FI, h_up FL c k x, FR) := kq_l0 h (by unfold k_in; rw [h1]; rfl)
theorem kq_fail {x y : Int32} (h0 : (FI 121 69).toInt = 0) : kq ([(121, 69), (121, 70)], [], [], []) (n, sl, SH, FI, FL, FR) (n, sl, SH, h_up (h_up FI 121 69 x) 121 70 y, FL, FR) := by
  refine ⟨rfl, rfl, rfl, rfl, fun i j e => ?_, fun _ _ _ => rfl, fun e => absurd h0 e⟩
  show h_up (h_up FI 121 69 x) 121 70 y i j = FI i j
  rw [h_up_x (by rintro ⟨rfl, rfl⟩; exact absurd e (by decide)), h_up_x (by rintro ⟨rfl, rfl⟩; exact absurd e (by decide))]
end KQ
