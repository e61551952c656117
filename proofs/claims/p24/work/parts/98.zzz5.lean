/-! CODE READ FROM THE LEFT: which kind of place it makes, and where it ends. -/
def l_sk (b : Int) (r : List Int) : List Int :=
  if b = 8 ∨ b = 148 then r.drop 1
  else if b = 10 ∨ b = 40 ∨ b = 47 then r.drop 2
  else if b = 12 then r.drop 4
  else if b = 14 then r.drop 8
  else if (112 ≤ b ∧ b ≤ 143) ∨ b = 145 then (xv r 1 0).2
  else if b = 35 then (xu r 1 0).2
  else r
def ldx : Nat → Int → List Int → Option (Int × List Int)
  | 0, _, _ => none
  | _ + 1, k, [] => some (k, [])
  | g + 1, k, b :: r =>
    if b = 147 then some (k, b :: r)
    else if b = 159 then ldx g 3 r
    else if 80 ≤ b ∧ b ≤ 111 then ldx g 2 r
    else if b = 158 then ldx g 4 ((r.drop 1).drop (r.headD 0).toNat)
    else ldx g 1 (l_sk b r)
/-- an expression's bytes -/
def lxx (c : List Int) : Prop := c ≠ [] ∧ ∀ (r : List Int) (k : Int), ∃ j, ∀ g, ldx (g + j) k (c ++ r) = ldx g 1 r
section LXX
variable {c c1 c2 c3 o : List Int} {b v p w : Int}
theorem lxx_1 (h1 : b ≠ 147) (h2 : b ≠ 159) (h3 : ¬ (80 ≤ b ∧ b ≤ 111)) (h4 : b ≠ 158) (h : ∀ r, l_sk b (o ++ r) = r) : lxx (b :: o) := by
  refine ⟨fun e => (by cases e), fun r k => ⟨1, fun g => ?_⟩⟩
  rw [List.cons_append, ldx, if_neg h1, if_neg h2, if_neg h3, if_neg h4, h]
theorem lxx_a (h1 : lxx c1) (h2 : lxx c2) : lxx (c1 ++ c2) := by
  refine ⟨fun e => h1.1 (List.append_eq_nil_iff.mp e).1, fun r k => ?_⟩
  obtain ⟨j1, e1⟩ := h1.2 (c2 ++ r) k
  obtain ⟨j2, e2⟩ := h2.2 r 1
  exact ⟨j2 + j1, fun g => by rw [List.append_assoc, ← Nat.add_assoc, e1, e2]⟩
theorem lxx_op (h : b = 6 ∨ b = 155 ∨ b = 156 ∨ b = 151 ∨ (26 ≤ b ∧ b ≤ 46 ∧ b ≠ 35 ∧ b ≠ 40) ∨ (48 ≤ b ∧ b ≤ 79)) : lxx [b] := by
  refine lxx_1 (o := []) (by omega) (by omega) (by omega) (by omega) (fun r => ?_)
  unfold l_sk
  rw [if_neg (by omega), if_neg (by omega), if_neg (by omega), if_neg (by omega), if_neg (by omega), if_neg (by omega)]
  rfl
theorem l_byd (v : Int) (n : Nat) (r : List Int) : (lc_by v n ++ r).drop n = r := List.drop_left' (lc_by_len v n)
theorem lxx_2 (h : b = 40 ∨ b = 47 ∨ b = 10) : lxx (b :: lc_by v 2) := by
  refine lxx_1 (by omega) (by omega) (by omega) (by omega) (fun r => ?_)
  unfold l_sk
  rw [if_neg (by omega), if_pos (by omega)]
  exact l_byd v 2 r
theorem lxx_c (h0 : 0 ≤ v) : lxx (lc_c v) := by
  unfold lc_c
  by_cases a1 : v ≤ 31
  · rw [if_pos a1]
    exact lxx_op (by omega)
  rw [if_neg a1]
  by_cases a2 : v ≤ 255
  · rw [if_pos a2]
    refine lxx_1 (by first | decide | (simp; done) | (simp [ms_0]; done)) (by first | decide | (simp; done) | (simp [ms_0]; done)) (by first | decide | (simp; done) | (simp [ms_0]; done)) (by first | decide | (simp; done) | (simp [ms_0]; done)) (fun r => ?_)
    unfold l_sk
    rw [if_pos (Or.inl rfl)]
    exact l_byd v 1 r
  rw [if_neg a2]
  by_cases a3 : v ≤ 65535
  · rw [if_pos a3]
    exact lxx_2 (by omega)
  rw [if_neg a3]
  by_cases a4 : v ≤ 4294967295
  · rw [if_pos a4]
    refine lxx_1 (by first | decide | (simp; done) | (simp [ms_0]; done)) (by first | decide | (simp; done) | (simp [ms_0]; done)) (by first | decide | (simp; done) | (simp [ms_0]; done)) (by first | decide | (simp; done) | (simp [ms_0]; done)) (fun r => ?_)
    unfold l_sk
    rw [if_neg (by first | decide | (simp; done) | (simp [ms_0]; done)), if_neg (by first | decide | (simp; done) | (simp [ms_0]; done)), if_pos rfl]
    exact l_byd v 4 r
  · rw [if_neg a4]
    refine lxx_1 (by first | decide | (simp; done) | (simp [ms_0]; done)) (by first | decide | (simp; done) | (simp [ms_0]; done)) (by first | decide | (simp; done) | (simp [ms_0]; done)) (by first | decide | (simp; done) | (simp [ms_0]; done)) (fun r => ?_)
    unfold l_sk
    rw [if_neg (by first | decide | (simp; done) | (simp [ms_0]; done)), if_neg (by first | decide | (simp; done) | (simp [ms_0]; done)), if_neg (by first | decide | (simp; done) | (simp [ms_0]; done)), if_pos rfl]
    exact l_byd v 8 r
theorem lxx_s (hb : (112 ≤ b ∧ b ≤ 143) ∨ b = 145) (h : -999999999999999999 ≤ p ∧ p ≤ 999999999999999999) : lxx (b :: lc_s 9 p) := by
  refine lxx_1 (by omega) (by omega) (by omega) (by omega) (fun r => ?_)
  unfold l_sk
  rw [if_neg (by omega), if_neg (by omega), if_neg (by omega), if_neg (by omega), if_pos hb, xv_9 h]
theorem lxx_35 (h : 0 ≤ p ∧ p ≤ 999999999999999999) : lxx (35 :: lc_u 9 p) := by
  refine lxx_1 (by first | decide | (simp; done) | (simp [ms_0]; done)) (by first | decide | (simp; done) | (simp [ms_0]; done)) (by first | decide | (simp; done) | (simp [ms_0]; done)) (by first | decide | (simp; done) | (simp [ms_0]; done)) (fun r => ?_)
  unfold l_sk
  rw [if_neg (by first | decide | (simp; done) | (simp [ms_0]; done)), if_neg (by first | decide | (simp; done) | (simp [ms_0]; done)), if_neg (by first | decide | (simp; done) | (simp [ms_0]; done)), if_neg (by first | decide | (simp; done) | (simp [ms_0]; done)), if_neg (by first | decide | (simp; done) | (simp [ms_0]; done)), if_pos rfl, xu_9 h]
theorem lxx_148 : lxx [148, w] := by
  refine lxx_1 (o := [w]) (by first | decide | (simp; done) | (simp [ms_0]; done)) (by first | decide | (simp; done) | (simp [ms_0]; done)) (by first | decide | (simp; done) | (simp [ms_0]; done)) (by first | decide | (simp; done) | (simp [ms_0]; done)) (fun r => ?_)
  unfold l_sk
  rw [if_pos (Or.inr rfl)]
  rfl
theorem lxx_ch (h2 : lxx c2) (h3 : lxx c3) : lxx (lc_ch c2 c3) := by
  show lxx ((40 :: lc_by (c3.length + 3) 2) ++ (c3 ++ ((47 :: lc_by c2.length 2) ++ c2)))
  exact lxx_a (lxx_2 (Or.inl rfl)) (lxx_a h3 (lxx_a (lxx_2 (Or.inr (Or.inl rfl))) h2))
theorem lxx_un {k w : Int} (h : lxx c) : lxx (c ++ n_un k w) := by
  unfold n_un
  by_cases h6 : k = 6
  · rw [if_pos h6]
    by_cases h8 : w = 8
    · rw [if_pos h8]
      exact lxx_a h (lxx_op (Or.inl rfl))
    · rw [if_neg h8]
      exact lxx_a h lxx_148
  rw [if_neg h6]
  by_cases h14 : k = 14
  · rw [if_pos h14]
    exact lxx_a h (lxx_op (Or.inr (Or.inl rfl)))
  rw [if_neg h14]
  by_cases h45 : k = 45
  · rw [if_pos h45]
    exact lxx_a h (lxx_op (by first | decide | (simp; done) | (simp [ms_0]; done)))
  rw [if_neg h45]
  by_cases h126 : k = 126
  · rw [if_pos h126]
    exact lxx_a h (lxx_op (by first | decide | (simp; done) | (simp [ms_0]; done)))
  rw [if_neg h126, List.append_nil]
  exact h
theorem lxx_bs {k w : Int} (hk : k = 37 → 0 ≤ w ∧ w ≤ 31) (h : -999999999999999999 ≤ p ∧ p ≤ 999999999999999999) : lxx (n_bs k w p) := by
  unfold n_bs
  by_cases h37 : k = 37
  · rw [if_pos h37]
    have := hk h37
    exact lxx_s (by omega) h
  · rw [if_neg h37]
    exact lxx_s (Or.inr rfl) h
end LXX
theorem n_rg_i {k w : Int} (h : n_rg k w = true) : (k = 5 → 0 ≤ w ∧ w ≤ 999999999999999999) ∧ (k = 37 → 0 ≤ w ∧ w ≤ 31) ∧ (k = 6 → 1 ≤ w ∧ w ≤ 8) := of_decide_eq_true h
/-- a tree's bytes are an expression's -/
theorem n_cd_lxx {FI : Nat → Nat → Int32} {FL : Nat → Nat → Int64} {FR : Nat → Nat → Option Nat} : ∀ (f m : Nat) (o : Option Nat) (d : Int) (x : List Int), n_cd FI FL FR f m o d = some x → (m ≠ 1 → lxx x) ∧ (m = 1 → x = [] ∨ lxx x) := by
  intro f
  induction f with
  | zero => intro m o d x h; cases h
  | succ f ih =>
    intro m o d x h
    cases o with
    | none =>
      by_cases h1 : m = 1
      · subst h1
        have h : some [] = some x := h
        exact ⟨fun e => absurd rfl e, fun _ => Or.inl (Option.some.inj h).symm⟩
      · exfalso
        match m, h1, h with
        | 0, _, h => cases h
        | 1, h1, _ => exact h1 rfl
        | m + 2, _, h => cases h
    | some c =>
      have ok := n_cd_ok h
      have hg := n_rg_i ok.2
      have h : n_st FI FL FR (n_cd FI FL FR f) m c d = some x := h
      unfold n_st at h
      rw [if_neg (by rw [ok.2]; simp; omega)] at h
      by_cases h0 : m = 0
      · rw [if_pos h0] at h
        refine ⟨fun _ => ?_, fun e => by omega⟩
        by_cases g1 : 120 < d
        · rw [if_pos g1] at h; cases h
        rw [if_neg g1] at h
        by_cases g2 : (FI c 0).toInt = 5
        · rw [if_pos g2] at h
          rw [← Option.some.inj h]
          exact lxx_c (hg.1 g2).1
        rw [if_neg g2] at h
        by_cases g3 : (FI c 0).toInt = 11 ∨ (FI c 0).toInt = 37
        · rw [if_pos g3] at h
          rw [← Option.some.inj h]
          exact lxx_bs hg.2.1 (by first | decide | (simp; done) | (simp [ms_0]; done))
        rw [if_neg g3] at h
        by_cases g4 : (FI c 0).toInt = 12
        · rw [if_pos g4] at h
          rw [← Option.some.inj h]
          exact lxx_op (by first | decide | (simp; done) | (simp [ms_0]; done))
        rw [if_neg g4] at h
        by_cases g5 : (FI c 0).toInt = 13
        · rw [if_pos g5] at h
          rw [← Option.some.inj h]
          exact lxx_op (by first | decide | (simp; done) | (simp [ms_0]; done))
        rw [if_neg g5] at h
        by_cases g6 : (FI c 0).toInt = 25
        · rw [if_pos g6] at h
          by_cases g7 : 120 ≤ d
          · rw [if_pos g7] at h; cases h
          rw [if_neg g7] at h
          exact (ih 2 _ _ _ h).1 (by first | decide | (simp; done) | (simp [ms_0]; done))
        rw [if_neg g6] at h
        by_cases g8 : (FI c 0).toInt = 63
        · rw [if_pos g8] at h
          obtain ⟨a, b, e1, e2, e3⟩ := o2_some h
          obtain ⟨a2, b2, e4, e5, e6⟩ := o2_some e2
          rw [← e3, ← e6]
          exact lxx_a ((ih 0 _ _ _ e1).1 (by first | decide | (simp; done) | (simp [ms_0]; done))) (lxx_ch ((ih 0 _ _ _ e4).1 (by first | decide | (simp; done) | (simp [ms_0]; done))) ((ih 0 _ _ _ e5).1 (by first | decide | (simp; done) | (simp [ms_0]; done))))
        rw [if_neg g8] at h
        obtain ⟨a, e1, e2⟩ := om_some h
        rw [← e2]
        exact lxx_un ((ih 0 _ _ _ e1).1 (by first | decide | (simp; done) | (simp [ms_0]; done)))
      rw [if_neg h0] at h
      have ap : ∀ {a r : List Int}, lxx a → (r = [] ∨ lxx r) → lxx (a ++ r) := by
        intro a r h1 h2
        rcases h2 with h2 | h2
        · rw [h2, List.append_nil]; exact h1
        · exact lxx_a h1 h2
      by_cases h1 : m = 1
      · rw [if_pos h1] at h
        refine ⟨fun e => absurd h1 e, fun _ => Or.inr ?_⟩
        by_cases g1 : (FI c 2).toInt = 43 ∧ (FI c 0).toInt = 5
        · rw [if_pos g1] at h
          obtain ⟨a, e1, e2⟩ := om_some h
          rw [← e2]
          exact ap (lxx_35 (hg.1 g1.2)) ((ih 1 _ _ _ e1).2 rfl)
        · rw [if_neg g1] at h
          obtain ⟨a, b, e1, e2, e3⟩ := o2_some h
          rw [← e3]
          have w := n_op_ok (FI c 2).toInt
          exact ap (lxx_a ((ih 0 _ _ _ e1).1 (by first | decide | (simp; done) | (simp [ms_0]; done))) (lxx_op (by omega))) ((ih 1 _ _ _ e2).2 rfl)
      · rw [if_neg h1] at h
        refine ⟨fun _ => ?_, fun e => absurd e h1⟩
        cases hn : n_nx FI FL FR c with
        | some e =>
          rw [hn] at h
          have h : (n_cd FI FL FR f 1 (FR e 6) d).map (fun r => n_bs (FI c 0).toInt (FL c 1).toInt (n_sg (FI e 2).toInt (FL e 1).toInt) ++ r) = some x := h
          obtain ⟨a, e1, e2⟩ := om_some h
          rw [← e2]
          have q := n_nx_is hn
          have w := (n_rg_i q.2.2.2.2.2).1 q.2.2.2.1
          refine ap (lxx_bs hg.2.1 ?_) ((ih 1 _ _ _ e1).2 rfl)
          unfold n_sg
          split
          · omega
          · omega
        | none =>
          rw [hn] at h
          have h : o2 (fun a r => a ++ r) (n_cd FI FL FR f 0 (some c) (d + 1)) (n_cd FI FL FR f 1 (FR c 6) d) = some x := h
          obtain ⟨a, b, e1, e2, e3⟩ := o2_some h
          rw [← e3]
          exact ap ((ih 0 _ _ _ e1).1 (by first | decide | (simp; done) | (simp [ms_0]; done))) ((ih 1 _ _ _ e2).2 rfl)
