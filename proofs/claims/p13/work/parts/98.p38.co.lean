/-! compile's own reading of an expression beside the walk over tokens: it takes '+ NUMBER' at once where nothing multiplies behind it. -/
def co_fold (K W : Nat → Int) (m' m : List Int) (q : Nat) : Prop := m' = m ∨ (m' = 6 :: m ∧ (∀ y r, m = y :: r → y < 6) ∧ au_bn (K q) (W q) ≠ 7)
/-- + or - and a NUMBER alone from b on -/
def co_add (K W : Nat → Int) (b : Nat) : Prop := K b = 5 ∧ (W b = 43 ∨ W b = 45) ∧ K (b + 1) = 3 ∧ au_bn (K (b + 2)) (W (b + 2)) ≠ 7
def co_cmb (K W : Nat → Int) (l : List Int) (b q : Nat) : Prop := q = b ∨ (q = b + 2 ∧ co_add K W b ∧ ∀ y r, l = y :: r → y < 6)
def co_opd (K W : Nat → Int) (p : Nat) (l : List Int) (q : Nat) (d : Int) (m : List Int) : Prop :=
  (d = 0 ∧ au_st K W p true l q true m) ∨ (d = 1 ∧ ∃ p1, au_st K W p true l p1 false m ∧ co_cmb K W m p1 q)
def co_opr (K W : Nat → Int) (p : Nat) (l : List Int) (q : Nat) (c : Int) (m : List Int) : Prop :=
  (c = 0 ∧ au_st K W p false l q true m) ∨ (c = 1 ∧ au_st K W p false l q false m) ∨ (c = 1 ∧ co_add K W p ∧ q = p + 2 ∧ m = au_red 6 l)
def co_end (K W : Nat → Int) (p : Nat) (l : List Int) : Prop := au_bn (K p) (W p) = 0 ∧ ¬ (K p = 5 ∧ W p = 63) ∧ au_all l = []
theorem dw_len {p : Int → Bool} : ∀ (l : List Int), (l.dropWhile p).length ≤ l.length
  | [] => Nat.le_refl _
  | x :: l => by
    rw [List.dropWhile_cons]
    split
    · have := dw_len (p := p) l; simp only [List.length_cons]; omega
    · exact Nat.le_refl _
theorem au_st_len {K W : Nat → Int} {p q : Nat} {a b : Bool} {l m : List Int} (h : au_st K W p a l q b m) : m.length ≤ l.length + 1 := by
  rcases h with ⟨-, -, -, -, rfl⟩ | ⟨-, -, -, -, -, rfl⟩ | ⟨-, -, -, -, rfl⟩ | ⟨-, -, -, -, -, -, -, rfl⟩ | ⟨-, -, -, -, rfl⟩ | ⟨-, -, -, -, -, rfl⟩ | ⟨-, -, -, ⟨r, e, rfl⟩, -, -⟩ | ⟨-, -, -, ⟨r, e, rfl⟩, -, -⟩
  · exact Nat.le_refl _
  · exact Nat.le_refl _
  · exact Nat.le_succ_of_le (dw_len l)
  · exact Nat.le_succ_of_le (dw_len l)
  · have := dw_len (p := fun x => decide (au_bn (K p) (W p) ≤ x)) l
    simp only [List.length_cons, au_red]; omega
  · have := dw_len (p := fun x => decide ((1 : Int) ≤ x)) l
    simp only [List.length_cons, au_red]; omega
  · have := dw_len (p := fun x => decide ((1 : Int) ≤ x ∨ x = -3)) l
    unfold au_all at e; rw [e] at this
    simp only [List.length_cons] at this ⊢; omega
  · have := dw_len (p := fun x => decide ((1 : Int) ≤ x ∨ x = -3)) l
    unfold au_all at e; rw [e] at this
    have h2 := dw_len (p := fun x => decide (x = (9 : Int))) r
    simp only [List.length_cons] at this
    unfold au_fin; omega
theorem au_red_id {b : Int} {m : List Int} (h : ∀ y r, m = y :: r → y < b) : au_red b m = m := by
  cases m with
  | nil => rfl
  | cons y r => exact au_red_stop (h y r rfl)
/-- the two steps of '+ NUMBER' -/
theorem co_two {K W : Nat → Int} {n p0 b : Nat} {m' m : List Int} (h : au_rch K W n p0 true [] b false m') (ha : co_add K W b) (hm : au_red 6 m' = m) (hl : m.length < 240) : au_rch K W (n + 1 + 1) p0 true [] (b + 2) false (6 :: m) := by
  obtain ⟨h1, h2, h3, h4⟩ := ha
  have hb : au_bn (K b) (W b) = 6 := au_bn_6.mpr ⟨h1, h2⟩
  have s1 : au_st K W b false m' (b + 1) true (6 :: m) := Or.inr (Or.inr (Or.inr (Or.inr (Or.inl ⟨rfl, by rw [hb]; decide, rfl, rfl, by rw [hb, hm]⟩))))
  have s2 : au_st K W (b + 1) true (6 :: m) (b + 2) false (6 :: m) := Or.inr (Or.inr (Or.inl ⟨rfl, Or.inl h3, rfl, rfl, (au_fin_stop (by decide)).symm⟩))
  exact au_snoc _ _ _ _ _ _ _ _ _ _ (au_snoc _ _ _ _ _ _ _ _ _ _ h s1 (by simp only [List.length_cons]; omega)) s2 (by simp only [List.length_cons]; omega)
theorem co_opd_go {K W : Nat → Int} {n p0 p q : Nat} {d : Int} {l m : List Int} (h : au_rch K W n p0 true [] p true l) (ho : co_opd K W p l q d m) (hl : l.length < 200) :
    (d = 0 → ∃ n2, au_rch K W n2 p0 true [] q true m) ∧ (d = 1 → ∃ n2 m', au_rch K W n2 p0 true [] q false m' ∧ co_fold K W m' m q) := by
  rcases ho with ⟨rfl, hs⟩ | ⟨rfl, p1, hs, hc⟩
  · have := au_st_len hs
    exact ⟨fun _ => ⟨_, au_snoc _ _ _ _ _ _ _ _ _ _ h hs (by omega)⟩, fun h => by omega⟩
  · have hlen := au_st_len hs
    have h1 := au_snoc _ _ _ _ _ _ _ _ _ _ h hs (by omega)
    refine ⟨fun h => by omega, fun _ => ?_⟩
    rcases hc with rfl | ⟨rfl, ha, ht⟩
    · exact ⟨_, _, h1, Or.inl rfl⟩
    · exact ⟨_, _, co_two h1 ha (au_red_id ht) (by omega), Or.inr ⟨rfl, ht, ha.2.2.2⟩⟩
theorem co_fold_st {K W : Nat → Int} {p q : Nat} {b : Bool} {l' l m : List Int} (hf : co_fold K W l' l p) (h : au_st K W p false l q b m) : au_st K W p false l' q b m := by
  rcases hf with rfl | ⟨rfl, ht, h7⟩
  · exact h
  · rcases h with ⟨h, -⟩ | ⟨h, -⟩ | ⟨h, -⟩ | ⟨h, -⟩ | ⟨-, hb, rfl, rfl, rfl⟩ | ⟨-, h1, h2, rfl, rfl, rfl⟩ | ⟨-, h1, h2, ⟨r, e, rfl⟩, rfl, rfl⟩ | ⟨-, h1, h2, ⟨r, e, rfl⟩, rfl, rfl⟩
    · cases h
    · cases h
    · cases h
    · cases h
    · have := au_bn_rg (K p) (W p)
      exact Or.inr (Or.inr (Or.inr (Or.inr (Or.inl ⟨rfl, hb, rfl, rfl, by rw [au_red_pop (by omega)]⟩))))
    · exact Or.inr (Or.inr (Or.inr (Or.inr (Or.inr (Or.inl ⟨rfl, h1, h2, rfl, rfl, by rw [au_red_pop (by decide)]⟩)))))
    · exact Or.inr (Or.inr (Or.inr (Or.inr (Or.inr (Or.inr (Or.inl ⟨rfl, h1, h2, ⟨r, by rw [au_all_pop (Or.inl (by decide))]; exact e, rfl⟩, rfl, rfl⟩))))))
    · exact Or.inr (Or.inr (Or.inr (Or.inr (Or.inr (Or.inr (Or.inr ⟨rfl, h1, h2, ⟨r, by rw [au_all_pop (Or.inl (by decide))]; exact e, rfl⟩, rfl, rfl⟩))))))
theorem co_opr_go {K W : Nat → Int} {n p0 p q : Nat} {c : Int} {l' l m : List Int} (h : au_rch K W n p0 true [] p false l') (hf : co_fold K W l' l p) (ho : co_opr K W p l q c m) (hl : l.length < 200) :
    (c = 0 → ∃ n2, au_rch K W n2 p0 true [] q true m) ∧ (c = 1 → ∃ n2 m', au_rch K W n2 p0 true [] q false m' ∧ co_fold K W m' m q) := by
  rcases ho with ⟨rfl, hs⟩ | ⟨rfl, hs⟩ | ⟨rfl, ha, rfl, rfl⟩
  · have := au_st_len hs
    exact ⟨fun _ => ⟨_, au_snoc _ _ _ _ _ _ _ _ _ _ h (co_fold_st hf hs) (by omega)⟩, fun h => by omega⟩
  · have := au_st_len hs
    exact ⟨fun h => by omega, fun _ => ⟨_, _, au_snoc _ _ _ _ _ _ _ _ _ _ h (co_fold_st hf hs) (by omega), Or.inl rfl⟩⟩
  · refine ⟨fun h => by omega, fun _ => ?_⟩
    have e : au_red 6 l' = au_red 6 l := by
      rcases hf with rfl | ⟨rfl, -, -⟩
      · rfl
      · exact au_red_pop (by decide)
    have := dw_len (p := fun x => decide ((6 : Int) ≤ x)) l
    refine ⟨_, _, co_two h ha e (by unfold au_red; omega), Or.inr ⟨rfl, fun y r e => ?_, ha.2.2.2⟩⟩
    have h1 := au_dw_hd (show l.dropWhile _ = y :: r from e)
    have h2 : ¬ (6 : Int) ≤ y := of_decide_eq_false h1
    omega
theorem co_end_go {K W : Nat → Int} {n p0 p : Nat} {l' l : List Int} (h : au_rch K W n p0 true [] p false l') (hf : co_fold K W l' l p) (ho : co_end K W p l) : au_acc K W p0 p := by
  refine ⟨_, _, h, ho.1, ho.2.1, ?_⟩
  rcases hf with rfl | ⟨rfl, -, -⟩
  · exact ho.2.2
  · rw [au_all_pop (Or.inl (by decide))]; exact ho.2.2
/-- what the walk says of the stack itself -/
theorem co_ok {K W : Nat → Int} {n p0 p : Nat} {a : Bool} {l' l : List Int} (h : au_rch K W n p0 true [] p a l') (hf : l' = l ∨ co_fold K W l' l p) : au_ok l ∧ (a = false → ∀ y r, l = y :: r → y ≠ 9) := by
  have g := au_rch_ok _ _ _ _ _ _ _ h trivial (fun h => by cases h)
  rcases hf with rfl | rfl | ⟨rfl, -, -⟩
  · exact g
  · exact g
  · exact ⟨g.1.2.1, fun _ y r e => ((g.1.2.2 y r e).1 (by decide)).2⟩
theorem co_cmb_fin {K W : Nat → Int} {l : List Int} {b q : Nat} (h : co_cmb K W l b q) : co_cmb K W (au_fin l) b q := by
  rcases h with h | ⟨h1, h2, h3⟩
  · exact Or.inl h
  · refine Or.inr ⟨h1, h2, ?_⟩
    have e : au_fin l = l := by
      cases l with
      | nil => rfl
      | cons y r => exact au_fin_stop (by have := h3 y r rfl; omega)
    rw [e]; exact h3
theorem sk_ops {f : Nat → Int32} {w w2 : Int32} {o o2 : Int} (h : sk f w2.toInt.toNat = au_fin (sk f w.toInt.toNat)) (ho : o2 - o = w2.toInt - w.toInt) (h0 : 0 ≤ w.toInt) (h2 : 0 ≤ w2.toInt) : o2 - (au_op (sk f w2.toInt.toNat) : Int) = o - (au_op (sk f w.toInt.toNat) : Int) := by
  have := au_op_fin (sk f w.toInt.toNat)
  rw [← h, sk_len, sk_len] at this
  omega
theorem au_red_red {b c : Int} (h : b ≤ c) : ∀ {l : List Int}, au_red b (au_red c l) = au_red b l
  | [] => rfl
  | x :: l => by
    by_cases hx : c ≤ x
    · rw [au_red_pop hx, au_red_red h, au_red_pop (by omega)]
    · rw [au_red_stop (by omega)]
/-- where compile stands within an expression -/
def ch_inv (K W : Nat → Int) (p0 : Nat) (o : Int) (p : Nat) (a : Int) (l : List Int) (o2 : Int) : Prop :=
  (∃ n l', au_rch K W n p0 true [] p (decide (a = 1)) l' ∧ (a = 1 → l' = l) ∧ (a = 0 → co_fold K W l' l p)) ∧ o2 - (au_op l : Int) = o ∧ (a = 0 ∨ a = 1)
theorem ch_0 {K W : Nat → Int} {p0 : Nat} {o : Int} : ch_inv K W p0 o p0 1 [] o := ⟨⟨0, [], ⟨rfl, rfl, rfl⟩, fun _ => rfl, fun h => by omega⟩, by simp [au_op], Or.inr rfl⟩
theorem ch_ok {K W : Nat → Int} {p0 p : Nat} {o a o1 : Int} {l : List Int} (h : ch_inv K W p0 o p a l o1) : au_ok l ∧ (a = 0 → ∀ y r, l = y :: r → y ≠ 9) ∧ (l.length : Int) ≤ 8 * (o1 - o) + 7 := by
  obtain ⟨⟨n, l', h1, h2, h3⟩, h4, h5⟩ := h
  have g : au_ok l ∧ (decide (a = 1) = false → ∀ y r, l = y :: r → y ≠ 9) := by
    rcases h5 with h5 | h5
    · exact co_ok h1 (Or.inr (h3 h5))
    · exact co_ok h1 (Or.inl (h2 h5))
  have := au_len g.1
  exact ⟨g.1, fun ha => g.2 (by rw [ha]; rfl), by omega⟩
theorem ch_opd {K W : Nat → Int} {p0 p q : Nat} {o d o1 o2 : Int} {l m : List Int} (h : ch_inv K W p0 o p 1 l o1) (hd : co_opd K W p l q d m) (hl : l.length < 200) (ho : o2 - (au_op m : Int) = o1 - (au_op l : Int)) : (d = 0 → ch_inv K W p0 o q 1 m o2) ∧ (d = 1 → ch_inv K W p0 o q 0 m o2) := by
  obtain ⟨⟨n, l', h1, h2, h3⟩, h4, h5⟩ := h
  have e := h2 rfl
  subst e
  have g := co_opd_go h1 hd hl
  refine ⟨fun h0 => ?_, fun h0 => ?_⟩
  · obtain ⟨n2, g2⟩ := g.1 h0
    exact ⟨⟨n2, m, g2, fun _ => rfl, fun h => by omega⟩, by omega, Or.inr rfl⟩
  · obtain ⟨n2, m', g2, g3⟩ := g.2 h0
    exact ⟨⟨n2, m', g2, fun h => by omega, fun _ => g3⟩, by omega, Or.inl rfl⟩
theorem ch_opr {K W : Nat → Int} {p0 p q : Nat} {o c o1 o2 : Int} {l m : List Int} (h : ch_inv K W p0 o p 0 l o1) (hd : co_opr K W p l q c m) (hl : l.length < 200) (ho : o2 - (au_op m : Int) = o1 - (au_op l : Int)) : (c = 0 → ch_inv K W p0 o q 1 m o2) ∧ (c = 1 → ch_inv K W p0 o q 0 m o2) := by
  obtain ⟨⟨n, l', h1, h2, h3⟩, h4, h5⟩ := h
  have g := co_opr_go h1 (h3 rfl) hd hl
  refine ⟨fun h0 => ?_, fun h0 => ?_⟩
  · obtain ⟨n2, g2⟩ := g.1 h0
    exact ⟨⟨n2, m, g2, fun _ => rfl, fun h => by omega⟩, by omega, Or.inr rfl⟩
  · obtain ⟨n2, m', g2, g3⟩ := g.2 h0
    exact ⟨⟨n2, m', g2, fun h => by omega, fun _ => g3⟩, by omega, Or.inl rfl⟩
theorem ch_end {K W : Nat → Int} {p0 p : Nat} {o o1 : Int} {l : List Int} (h : ch_inv K W p0 o p 0 l o1) (he : co_end K W p l) : au_acc K W p0 p := by
  obtain ⟨⟨n, l', h1, h2, h3⟩, h4, h5⟩ := h
  exact co_end_go h1 (h3 rfl) he
