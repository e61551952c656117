/-! THE LANGUAGE's places, locations and rows over tokens, as means walks them. -/
def gr_br (K W : Nat → Int) (p : Nat) : Prop := K p = 5 ∧ W p = 91
def gr_cm (K W : Nat → Int) (p : Nat) : Prop := K p = 5 ∧ W p = 44
def gr_pl (K W : Nat → Int) (p q : Nat) : Prop :=
  (gr_br K W p ∧ ∃ e, au_acc K W (p + 1) e ∧ q = e + 1) ∨
  (¬ gr_br K W p ∧ W p = 0 ∧ K (p + 1) = 3 ∧ W (p + 1) ≤ 31 ∧ q = p + 2) ∨
  (¬ gr_br K W p ∧ W p = 1 ∧ au_acc K W (p + 1) q) ∨
  (¬ gr_br K W p ∧ W p = 2 ∧ p + 1 ≤ q ∧ (∀ i, p < i → i < q → K i = 3) ∧ K q ≠ 3 ∧ q ≤ p + 65) ∨
  (¬ gr_br K W p ∧ W p = 3 ∧ q = p + 1)
def gr_pts (K W : Nat → Int) : Nat → Nat → Nat → Prop
  | 0, _, _ => False
  | n + 1, p, q => ∃ e, gr_pl K W p e ∧ ((n = 0 ∧ ¬ gr_cm K W (e + 2) ∧ q = e + 3) ∨ (n ≠ 0 ∧ gr_cm K W (e + 2) ∧ gr_pts K W n (e + 3) q))
def gr_pf (K W : Nat → Int) : Nat → Nat → Nat → Prop
  | 0, p, q => p = q
  | n + 1, p, q => ∃ e, gr_pl K W p e ∧ gr_cm K W (e + 2) ∧ gr_pf K W n (e + 3) q
def gr_cu (K W : Nat → Int) (p : Nat) : Prop := K p = 5 ∧ W p = 123
def gr_loc (K W : Nat → Int) (p q : Nat) : Prop := (¬ gr_cu K W p ∧ gr_pl K W p q) ∨ (gr_cu K W p ∧ ∃ n, n ≤ 8 ∧ gr_pts K W n (p + 1) q)
def gr_rws (K W : Nat → Int) : Nat → Nat → Nat → Prop
  | 0, p, q => p = q
  | n + 1, p, q => ∃ e, gr_loc K W (p + 4) e ∧ gr_rws K W n (e + 1) q
def gr_var (K W : Nat → Int) (r s T : Nat) : Prop := (r = 0 ∧ ∃ q, q < T ∧ gr_loc K W s q) ∨ (r ≠ 0 ∧ ∃ q, q ≤ T ∧ gr_rws K W r s q)
theorem gr_pf_snoc {K W : Nat → Int} : ∀ {n p q e : Nat}, gr_pf K W n p q → gr_pl K W q e → gr_cm K W (e + 2) → gr_pf K W (n + 1) p (e + 3)
  | 0, p, q, e, h, h1, h2 => by cases h; exact ⟨e, h1, h2, rfl⟩
  | n + 1, p, q, e, h, h1, h2 => by
    obtain ⟨e0, g1, g2, g3⟩ := h
    exact ⟨e0, g1, g2, gr_pf_snoc g3 h1 h2⟩
theorem gr_pf_end {K W : Nat → Int} : ∀ {n p q e : Nat}, gr_pf K W n p q → gr_pl K W q e → ¬ gr_cm K W (e + 2) → gr_pts K W (n + 1) p (e + 3)
  | 0, p, q, e, h, h1, h2 => by cases h; exact ⟨e, h1, Or.inl ⟨rfl, h2, rfl⟩⟩
  | n + 1, p, q, e, h, h1, h2 => by
    obtain ⟨e0, g1, g2, g3⟩ := h
    exact ⟨e0, g1, Or.inr ⟨by omega, g2, gr_pf_end g3 h1 h2⟩⟩
theorem gr_rws_snoc {K W : Nat → Int} : ∀ {n p q e : Nat}, gr_rws K W n p q → gr_loc K W (q + 4) e → gr_rws K W (n + 1) p (e + 1)
  | 0, p, q, e, h, h1 => by cases h; exact ⟨e, h1, rfl⟩
  | n + 1, p, q, e, h, h1 => by
    obtain ⟨e0, g1, g2⟩ := h
    exact ⟨e0, g1, gr_rws_snoc g2 h1⟩
theorem au_acc_le {K W : Nat → Int} {p q : Nat} (h : au_acc K W p q) : p ≤ q := by
  obtain ⟨n, l, h1, -⟩ := h; exact au_rch_le _ _ _ _ _ _ _ h1
theorem gr_pl_lt {K W : Nat → Int} {p q : Nat} (h : gr_pl K W p q) : p < q := by
  rcases h with ⟨-, e, h, rfl⟩ | ⟨-, -, -, -, rfl⟩ | ⟨-, -, h⟩ | ⟨-, -, h, -⟩ | ⟨-, -, rfl⟩
  · have := au_acc_le h; omega
  · omega
  · have := au_acc_le h; omega
  · omega
  · omega
theorem gr_pts_lt {K W : Nat → Int} : ∀ {n p q : Nat}, gr_pts K W n p q → p < q
  | 0, _, _, h => h.elim
  | n + 1, p, q, h => by
    obtain ⟨e, g1, g2⟩ := h
    have := gr_pl_lt g1
    rcases g2 with ⟨-, -, rfl⟩ | ⟨-, -, g⟩
    · omega
    · have := gr_pts_lt g; omega
theorem gr_loc_lt {K W : Nat → Int} {p q : Nat} (h : gr_loc K W p q) : p < q := by
  rcases h with ⟨-, h⟩ | ⟨-, n, -, h⟩
  · exact gr_pl_lt h
  · have := gr_pts_lt h; omega
theorem gr_rws_le {K W : Nat → Int} : ∀ {n p q : Nat}, gr_rws K W n p q → p ≤ q
  | 0, _, _, h => Nat.le_of_eq h
  | n + 1, p, q, h => by
    obtain ⟨e, g1, g2⟩ := h
    have := gr_loc_lt g1
    have := gr_rws_le g2
    omega
/-! the same over other arrays that agree below T -/
section TR
variable {K W K' W' : Nat → Int} {T : Nat}
theorem au_st_tr (h : ∀ i, i < T → K' i = K i ∧ W' i = W i) {p q : Nat} {a b : Bool} {l m : List Int} (hq : q ≤ T) (hs : au_st K W p a l q b m) : au_st K' W' p a l q b m := by
  have hp := au_st_lt hs
  unfold au_st at hs ⊢
  rw [(h p (by omega)).1, (h p (by omega)).2]
  rcases hs with hs | hs | hs | hs | hs | hs | hs | hs
  · exact Or.inl hs
  · exact Or.inr (Or.inl hs)
  · exact Or.inr (Or.inr (Or.inl hs))
  · refine Or.inr (Or.inr (Or.inr (Or.inl ?_)))
    rw [(h (p + 1) (by omega)).1, (h (p + 1) (by omega)).2]; exact hs
  · exact Or.inr (Or.inr (Or.inr (Or.inr (Or.inl hs))))
  · exact Or.inr (Or.inr (Or.inr (Or.inr (Or.inr (Or.inl hs)))))
  · exact Or.inr (Or.inr (Or.inr (Or.inr (Or.inr (Or.inr (Or.inl hs))))))
  · exact Or.inr (Or.inr (Or.inr (Or.inr (Or.inr (Or.inr (Or.inr hs))))))
theorem au_rch_tr (h : ∀ i, i < T → K' i = K i ∧ W' i = W i) : ∀ (n p : Nat) (a : Bool) (l : List Int) (q : Nat) (b : Bool) (m : List Int), q ≤ T → au_rch K W n p a l q b m → au_rch K' W' n p a l q b m
  | 0, _, _, _, _, _, _, _, hr => hr
  | n + 1, p, a, l, q, b, m, hq, hr => by
    obtain ⟨p1, a1, l1, g1, g2, g3⟩ := hr
    have := au_rch_le _ _ _ _ _ _ _ g3
    exact ⟨p1, a1, l1, au_st_tr h (by omega) g1, g2, au_rch_tr h n _ _ _ _ _ _ hq g3⟩
theorem au_acc_tr (h : ∀ i, i < T → K' i = K i ∧ W' i = W i) {p q : Nat} (hq : q < T) (ha : au_acc K W p q) : au_acc K' W' p q := by
  obtain ⟨n, l, h1, h2, h3, h4⟩ := ha
  refine ⟨n, l, au_rch_tr h _ _ _ _ _ _ _ (by omega) h1, ?_, ?_, h4⟩
  · rw [(h q hq).1, (h q hq).2]; exact h2
  · rw [(h q hq).1, (h q hq).2]; exact h3
theorem gr_pl_tr (h : ∀ i, i < T → K' i = K i ∧ W' i = W i) {p q : Nat} (hq : q < T) (hs : gr_pl K W p q) : gr_pl K' W' p q := by
  have hp := gr_pl_lt hs
  have hb : gr_br K' W' p ↔ gr_br K W p := by unfold gr_br; rw [(h p (by omega)).1, (h p (by omega)).2]
  have hw := (h p (by omega)).2
  unfold gr_pl at hs ⊢
  rw [hb, hw]
  rcases hs with ⟨h1, e, h2, h3⟩ | ⟨h0, h1, h2, h3, h4⟩ | ⟨h0, h1, h2⟩ | ⟨h0, h1, h2, h3, h4, h5⟩ | h0
  · exact Or.inl ⟨h1, e, au_acc_tr h (by omega) h2, h3⟩
  · exact Or.inr (Or.inl ⟨h0, h1, by rw [(h (p + 1) (by omega)).1]; exact h2, by rw [(h (p + 1) (by omega)).2]; exact h3, h4⟩)
  · exact Or.inr (Or.inr (Or.inl ⟨h0, h1, au_acc_tr h hq h2⟩))
  · exact Or.inr (Or.inr (Or.inr (Or.inl ⟨h0, h1, h2, fun i g1 g2 => by rw [(h i (by omega)).1]; exact h3 i g1 g2, by rw [(h q hq).1]; exact h4, h5⟩)))
  · exact Or.inr (Or.inr (Or.inr (Or.inr h0)))
theorem gr_pts_tr (h : ∀ i, i < T → K' i = K i ∧ W' i = W i) : ∀ {n p q : Nat}, q < T → gr_pts K W n p q → gr_pts K' W' n p q
  | 0, _, _, _, hs => hs
  | n + 1, p, q, hq, hs => by
    obtain ⟨e, g1, g2⟩ := hs
    rcases g2 with ⟨z, g3, rfl⟩ | ⟨z, g3, g4⟩
    · exact ⟨e, gr_pl_tr h (by omega) g1, Or.inl ⟨z, by unfold gr_cm; rw [(h (e + 2) (by omega)).1, (h (e + 2) (by omega)).2]; exact g3, rfl⟩⟩
    · have := gr_pts_lt g4
      exact ⟨e, gr_pl_tr h (by omega) g1, Or.inr ⟨z, by unfold gr_cm; rw [(h (e + 2) (by omega)).1, (h (e + 2) (by omega)).2]; exact g3, gr_pts_tr h hq g4⟩⟩
theorem gr_loc_tr (h : ∀ i, i < T → K' i = K i ∧ W' i = W i) {p q : Nat} (hq : q < T) (hs : gr_loc K W p q) : gr_loc K' W' p q := by
  have hp := gr_loc_lt hs
  have hb : gr_cu K' W' p ↔ gr_cu K W p := by unfold gr_cu; rw [(h p (by omega)).1, (h p (by omega)).2]
  unfold gr_loc at hs ⊢
  rw [hb]
  rcases hs with ⟨h1, h2⟩ | ⟨h1, n, h2, h3⟩
  · exact Or.inl ⟨h1, gr_pl_tr h hq h2⟩
  · exact Or.inr ⟨h1, n, h2, gr_pts_tr h hq h3⟩
theorem gr_rws_tr (h : ∀ i, i < T → K' i = K i ∧ W' i = W i) : ∀ {n p q : Nat}, q ≤ T → gr_rws K W n p q → gr_rws K' W' n p q
  | 0, _, _, _, hs => hs
  | n + 1, p, q, hq, hs => by
    obtain ⟨e, g1, g2⟩ := hs
    have := gr_rws_le g2
    exact ⟨e, gr_loc_tr h (by omega) g1, gr_rws_tr h hq g2⟩
theorem gr_var_tr (h : ∀ i, i < T → K' i = K i ∧ W' i = W i) {r s : Nat} (hs : gr_var K W r s T) : gr_var K' W' r s T := by
  rcases hs with ⟨h1, q, h2, h3⟩ | ⟨h1, q, h2, h3⟩
  · exact Or.inl ⟨h1, q, h2, gr_loc_tr h h2 h3⟩
  · exact Or.inr ⟨h1, q, h2, gr_rws_tr h h2 h3⟩
end TR
