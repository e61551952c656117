/-! The walk, as choice follows it; places, as meantPlace and meantLocation do. -/
def mc_inv (K W : Nat → Int) (q n p : Nat) (a : Int) (l : List Int) (v : Int) : Prop :=
  ∃ m, au_rch K W n p (decide (a = 1)) l q false m ∧ (au_bn (K q) (W q) = 0 ∧ ¬ (K q = 5 ∧ W q = 63) ∧ au_all m = []) ∧ au_ok l ∧ (a ≠ 1 → ∀ y r, l = y :: r → y ≠ 9) ∧ v = (au_vc l : Int) + (if a = 1 then 0 else 1) ∧ l.length < 250
def mc_at (K W : Nat → Int) (q p : Nat) (a c : Int) (l : List Int) (v : Int) : Prop :=
  (c = 0 ∧ p = q) ∨ (c = 1 ∧ p ≤ q ∧ ∃ n, mc_inv K W q n p a l v)
section MC
variable {K W : Nat → Int} {q p : Nat} {l : List Int} {v : Int}
theorem mc_0 (h : au_acc K W p q) : mc_at K W q p 1 1 [] 0 := by
  obtain ⟨n, m, h1, h2⟩ := h
  exact Or.inr ⟨rfl, au_rch_le _ _ _ _ _ _ _ h1, n, m, h1, h2, trivial, fun h => absurd rfl h, rfl, by decide⟩
theorem mc_go {n p1 : Nat} {a : Bool} {a1 : Bool} {l1 m : List Int} (h1 : au_st K W p a l p1 a1 l1) (h2 : l1.length < 250) (h3 : au_rch K W n p1 a1 l1 q false m) (he : au_bn (K q) (W q) = 0 ∧ ¬ (K q = 5 ∧ W q = 63) ∧ au_all m = []) (ho : au_ok l) (h9 : a = false → ∀ y r, l = y :: r → y ≠ 9) :
    mc_at K W q p1 (if a1 then 1 else 0) 1 l1 ((au_vc l1 : Int) + (if a1 then 0 else 1)) := by
  have hk := au_st_ok h1 ho h9
  refine Or.inr ⟨rfl, au_rch_le _ _ _ _ _ _ _ h3, n, m, ?_, he, hk.1, ?_, ?_, h2⟩
  · cases a1
    · exact h3
    · exact h3
  · cases a1
    · exact fun _ => hk.2 rfl
    · exact fun h => absurd rfl h
  · cases a1
    · rfl
    · rfl
theorem mc_d (h : mc_at K W q p 1 1 l v) : v = (au_vc l : Int) ∧ l.length < 250 ∧ ∃ p1 a1 l1, au_st K W p true l p1 a1 l1 ∧ p1 ≤ q ∧ mc_at K W q p1 (if a1 then 1 else 0) 1 l1 ((au_vc l1 : Int) + (if a1 then 0 else 1)) := by
  rcases h with ⟨h, -⟩ | ⟨-, -, n, m, h1, h2, h3, h4, h5, h6⟩
  · omega
  · refine ⟨by simpa using h5, h6, ?_⟩
    cases n with
    | zero => obtain ⟨-, h, -⟩ := h1; cases h
    | succ n =>
      obtain ⟨p1, a1, l1, g1, g2, g3⟩ := h1
      exact ⟨p1, a1, l1, g1, au_rch_le _ _ _ _ _ _ _ g3, mc_go g1 g2 g3 h2 h3 (fun h => by cases h)⟩
theorem mc_r (h : mc_at K W q p 0 1 l v) : au_ok l ∧ (∀ y r, l = y :: r → y ≠ 9) ∧ v = (au_vc l : Int) + 1 ∧ l.length < 250 ∧ p ≤ q ∧ ((co_end K W p l ∧ p = q) ∨ ∃ p1 a1 l1, au_st K W p false l p1 a1 l1 ∧ p1 ≤ q ∧ mc_at K W q p1 (if a1 then 1 else 0) 1 l1 ((au_vc l1 : Int) + (if a1 then 0 else 1))) := by
  rcases h with ⟨h, -⟩ | ⟨-, h0, n, m, h1, h2, h3, h4, h5, h6⟩
  · omega
  · refine ⟨h3, h4 (by decide), by simpa using h5, h6, h0, ?_⟩
    cases n with
    | zero => obtain ⟨rfl, -, rfl⟩ := h1; exact Or.inl ⟨h2, rfl⟩
    | succ n =>
      obtain ⟨p1, a1, l1, g1, g2, g3⟩ := h1
      exact Or.inr ⟨p1, a1, l1, g1, au_rch_le _ _ _ _ _ _ _ g3, mc_go g1 g2 g3 h2 h3 (fun _ => h4 (by decide))⟩
theorem mc_e {a : Int} (h : mc_at K W q p a 0 l v) : p = q := by
  rcases h with ⟨-, h⟩ | ⟨h, -⟩
  · exact h
  · omega
end MC
/-! what was meant: kinds and values -/
def rl_m (k : Nat → Int32) (v : Nat → Int64) : Prop := ∀ i : Nat, ((k i).toInt = 2 → 0 ≤ (v i).toInt ∧ (v i).toInt ≤ 31) ∧ ((k i).toInt = 4 → 0 ≤ (v i).toInt ∧ (v i).toInt ≤ 64)
theorem rl_m_up {k : Nat → Int32} {v : Nat → Int64} {i : Nat} {x : Int32} {y : Int64} (h : rl_m k v) (h2 : x.toInt = 2 → 0 ≤ y.toInt ∧ y.toInt ≤ 31) (h4 : x.toInt = 4 → 0 ≤ y.toInt ∧ y.toInt ≤ 64) : rl_m (va_up k i x) (va_up v i y) := by
  intro q
  by_cases e : q = i
  · subst e; simp only [va_up, if_pos]; exact ⟨h2, h4⟩
  · simp only [va_up, if_neg e]; exact h q
/-! a list of parts, at the n-th: c = 1 while there is one more -/
def gr_at (K W : Nat → Int) (q p : Nat) (n c : Int) : Prop :=
  (c = 0 ∧ p = q ∧ 1 ≤ n ∧ n ≤ 8) ∨ (c = 1 ∧ 0 ≤ n ∧ ∃ k : Nat, n + k ≤ 8 ∧ gr_pts K W k p q)
section GA
variable {K W : Nat → Int} {q p : Nat} {n : Int}
theorem gr_at_0 {k : Nat} (h : gr_pts K W k p q) (hk : k ≤ 8) : gr_at K W q p 0 1 := Or.inr ⟨rfl, by omega, k, by omega, h⟩
theorem gr_at_s (h : gr_at K W q p n 1) : 0 ≤ n ∧ n ≤ 7 ∧ ∃ e, gr_pl K W p e ∧ e + 3 ≤ q ∧ ∀ c : Int, ((c = 0 ∨ c = 1) ∧ (c = 1 ↔ gr_cm K W (e + 2))) → gr_at K W q (e + 3) (n + 1) c := by
  rcases h with ⟨h, -⟩ | ⟨-, h0, k, h1, h2⟩
  · omega
  · cases k with
    | zero => exact h2.elim
    | succ k =>
      obtain ⟨e, g1, g2⟩ := h2
      refine ⟨h0, by omega, e, g1, ?_, fun c hc => ?_⟩
      · rcases g2 with ⟨-, -, h⟩ | ⟨-, -, h⟩
        · omega
        · have := gr_pts_lt h; omega
      · rcases g2 with ⟨rfl, h3, h4⟩ | ⟨-, h3, h4⟩
        · refine Or.inl ⟨?_, h4.symm, by omega, by omega⟩
          rcases hc.1 with h | h
          · exact h
          · exact absurd (hc.2.mp h) h3
        · exact Or.inr ⟨hc.2.mpr h3, by omega, k, by omega, h4⟩
theorem gr_at_e (h : gr_at K W q p n 0) : p = q ∧ 1 ≤ n ∧ n ≤ 8 := by
  rcases h with ⟨-, h⟩ | ⟨h, -⟩
  · exact h
  · omega
end GA
/-! the kept variables -/
def rl_v (v : Int32) (k : Nat → Int32) (w : Nat → Int64) (r s : Nat → Int32) : Prop := ∀ i : Nat, (i : Int) < v.toInt → 0 ≤ (r i).toInt ∧ gr_var (kf k) (wf w) (r i).toInt.toNat (s i).toInt.toNat 1001
