/-! THE REFERENCE'S RUN: what its cells tell of a run's state. -/
def ms_ok (H : ms_H) : Prop := (H.1 = 0 ∧ H = ms_0) ∨ (H.1 = 1 ∧ H.2.2 = []) ∨ (H.1 = 2 ∧ H.2.2 = [] ∧ 0 ≤ H.2.1.toInt ∧ H.2.1.toInt ≤ 31) ∨ (H.1 = 3 ∧ H.2.2 = []) ∨ (H.1 = 4 ∧ H.2.1.toInt = H.2.2.length)
theorem ms_ok0 {H : ms_H} (h : ms_ok H) (e : H.1 = 0) : H = ms_0 := by
  rcases h with h | h | h | h | h
  · exact h.2
  all_goals (exfalso; have := h.1; omega)
/-- a thing in the rows K (kind), V (number), Z (size) -/
def rt (FI : Nat → Nat → Int32) (FL : Nat → Nat → Int64) (SH : Nat → Nat × Nat) (K V Z i : Nat) (H : ms_H) : Prop := (FI K i).toInt = H.1 ∧ ms_ok H ∧ ((H.1 = 1 ∨ H.1 = 2 ∨ H.1 = 3) → FL V i = H.2.1) ∧ (H.1 = 4 → ∃ A : Nat, (FL V i).toInt = A ∧ (FI Z i).toInt = H.2.2.length ∧ bk FI SH 124 A H.2.2)
def rq (FI : Nat → Nat → Int32) (FL : Nat → Nat → Int64) (SH : Nat → Nat × Nat) (j : Nat) (q : ms_P) : Prop := rt FI FL SH 130 131 134 j q.1 ∧ (FI 132 j).toInt = q.2.1 ∧ (FI 133 j).toInt = q.2.2 ∧ 0 ≤ q.2.1 ∧ q.2.1 ≤ 4096 ∧ 0 ≤ q.2.2 ∧ q.2.2 ≤ 4096
def rv (FI : Nat → Nat → Int32) (FL : Nat → Nat → Int64) (SH : Nat → Nat × Nat) (l : Nat) (s : ms_S) : Prop := (FI 128 l).toInt = s.1.length ∧ s.1.length ≤ 128 ∧ lv (fun i x => FL 127 (128 * l + i) = x) s.1 ∧ rt FI FL SH 136 137 138 l s.2.1 ∧ (FI 129 l).toInt = s.2.2.length ∧ s.2.2.length ≤ 16 ∧ (FI 135 l).toInt = ms_tb s.2.2 ∧ 0 ≤ ms_tb s.2.2 ∧ ms_tb s.2.2 ≤ 4096 ∧ lv (fun i q => rq FI FL SH (16 * l + i) q) s.2.2
/-- a level's rows have stayed -/
def lf (l : Nat) (FI : Nat → Nat → Int32) (FL : Nat → Nat → Int64) (F2 : Nat → Nat → Int32) (L2 : Nat → Nat → Int64) : Prop := F2 124 = FI 124 ∧ (∀ r, (r = 128 ∨ r = 129 ∨ r = 135 ∨ r = 136 ∨ r = 138) → F2 r l = FI r l) ∧ (∀ r i, (r = 130 ∨ r = 132 ∨ r = 133 ∨ r = 134) → 16 * l ≤ i → i < 16 * l + 16 → F2 r i = FI r i) ∧ L2 137 l = FL 137 l ∧ (∀ i, 128 * l ≤ i → i < 128 * l + 128 → L2 127 i = FL 127 i) ∧ (∀ i, 16 * l ≤ i → i < 16 * l + 16 → L2 131 i = FL 131 i)
section RV
variable {FI F2 F3 : Nat → Nat → Int32} {FL L2 L3 : Nat → Nat → Int64} {SH : Nat → Nat × Nat} {l o : Nat} {s : ms_S} {E : ms_E}
theorem rt_fr {K V Z i : Nat} {H : ms_H} (h : rt FI FL SH K V Z i H) (e0 : F2 124 = FI 124) (e1 : F2 K i = FI K i) (e2 : L2 V i = FL V i) (e3 : F2 Z i = FI Z i) : rt F2 L2 SH K V Z i H := by
  unfold rt
  rw [e1, e2, e3]
  refine ⟨h.1, h.2.1, h.2.2.1, fun h4 => ?_⟩
  obtain ⟨A, a1, a2, a3⟩ := h.2.2.2 h4
  exact ⟨A, a1, a2, bk_fr a3 e0⟩
theorem rq_fr {j : Nat} {q : ms_P} (h : rq FI FL SH j q) (e0 : F2 124 = FI 124) (e1 : ∀ r, (r = 130 ∨ r = 132 ∨ r = 133 ∨ r = 134) → F2 r j = FI r j) (e2 : L2 131 j = FL 131 j) : rq F2 L2 SH j q := by
  unfold rq
  rw [e1 132 (by omega), e1 133 (by omega)]
  exact ⟨rt_fr h.1 e0 (e1 130 (by omega)) e2 (e1 134 (by omega)), h.2⟩
theorem rv_fr (h : rv FI FL SH l s) (e : lf l FI FL F2 L2) : rv F2 L2 SH l s := by
  obtain ⟨h1, h2, h3, h4, h5, h6, h7, h8, h9, h10⟩ := h
  obtain ⟨e1, e2, e3, e4, e5, e6⟩ := e
  refine ⟨by rw [e2 128 (by omega)]; exact h1, h2, lv_mono (fun i x hi _ hx => ?_) h3, rt_fr h4 e1 (e2 136 (by omega)) e4 (e2 138 (by omega)), by rw [e2 129 (by omega)]; exact h5, h6, by rw [e2 135 (by omega)]; exact h7, h8, h9, lv_mono (fun i x hi _ hx => ?_) h10⟩
  · rw [e5 (128 * l + i) (by omega) (by omega)]; exact hx
  · exact rq_fr hx e1 (fun r hr => e3 r _ hr (by omega) (by omega)) (e6 _ (by omega) (by omega))
theorem lf_rf : lf l FI FL FI FL := ⟨rfl, fun _ _ => rfl, fun _ _ _ _ _ => rfl, rfl, fun _ _ _ => rfl, fun _ _ _ => rfl⟩
theorem lf_tr (h : lf l FI FL F2 L2) (g : lf l F2 L2 F3 L3) : lf l FI FL F3 L3 := ⟨g.1.trans h.1, fun r hr => (g.2.1 r hr).trans (h.2.1 r hr), fun r i hr h1 h2 => (g.2.2.1 r i hr h1 h2).trans (h.2.2.1 r i hr h1 h2), g.2.2.2.1.trans h.2.2.2.1, fun i h1 h2 => (g.2.2.2.2.1 i h1 h2).trans (h.2.2.2.2.1 i h1 h2), fun i h1 h2 => (g.2.2.2.2.2 i h1 h2).trans (h.2.2.2.2.2 i h1 h2)⟩
/-- what stays over the operations of one level, while o are open -/
def gz (l o : Nat) (FI : Nat → Nat → Int32) (FL : Nat → Nat → Int64) (F2 : Nat → Nat → Int32) (L2 : Nat → Nat → Int64) : Prop :=
  (∀ c, (c < 121 ∨ (121 < c ∧ c < 127) ∨ 142 < c) → F2 c = FI c ∧ L2 c = FL c) ∧
  (∀ k, (k < 29 ∨ 44 < k) → F2 121 k = FI 121 k ∧ L2 121 k = FL 121 k) ∧
  F2 121 29 = FI 121 29 ∧
  (∀ i, i < o → F2 139 i = FI 139 i ∧ F2 140 i = FI 140 i ∧ F2 141 i = FI 141 i) ∧
  (∀ i, i ≤ l → F2 142 i = FI 142 i) ∧
  (l = 1 → lf 0 FI FL F2 L2 ∧ F2 121 40 = FI 121 40 ∧ F2 121 41 = FI 121 41 ∧ F2 121 42 = FI 121 42 ∧ L2 121 44 = FL 121 44)
theorem gz_rf : gz l o FI FL FI FL := ⟨fun _ _ => ⟨rfl, rfl⟩, fun _ _ => ⟨rfl, rfl⟩, rfl, fun _ _ => ⟨rfl, rfl, rfl⟩, fun _ _ => rfl, fun _ => ⟨lf_rf, rfl, rfl, rfl, rfl⟩⟩
theorem gz_tr (h : gz l o FI FL F2 L2) (g : gz l o F2 L2 F3 L3) : gz l o FI FL F3 L3 := by
  obtain ⟨a1, a2, a3, a4, a5, a6⟩ := h
  obtain ⟨b1, b2, b3, b4, b5, b6⟩ := g
  refine ⟨fun c hc => ⟨(b1 c hc).1.trans (a1 c hc).1, (b1 c hc).2.trans (a1 c hc).2⟩, fun k hk => ⟨(b2 k hk).1.trans (a2 k hk).1, (b2 k hk).2.trans (a2 k hk).2⟩, b3.trans a3, fun i hi => ⟨(b4 i hi).1.trans (a4 i hi).1, (b4 i hi).2.1.trans (a4 i hi).2.1, (b4 i hi).2.2.trans (a4 i hi).2.2⟩, fun i hi => (b5 i hi).trans (a5 i hi), fun h1 => ?_⟩
  obtain ⟨p1, p2, p3, p4, p5⟩ := a6 h1
  obtain ⟨q1, q2, q3, q4, q5⟩ := b6 h1
  exact ⟨lf_tr p1 q1, q2.trans p2, q3.trans p3, q4.trans p4, q5.trans p5⟩
theorem gz_le {o2 : Nat} (h : gz l o2 FI FL F2 L2) (ho : o ≤ o2) : gz l o FI FL F2 L2 := ⟨h.1, h.2.1, h.2.2.1, fun i hi => h.2.2.2.1 i (by omega), h.2.2.2.2⟩
def wi (l c k : Nat) : Prop := (c = 121 ∧ 30 ≤ k ∧ k ≤ 38) ∨ ((c = 128 ∨ c = 129 ∨ c = 135 ∨ c = 136 ∨ c = 138) ∧ k = l) ∨ ((c = 130 ∨ c = 132 ∨ c = 133 ∨ c = 134) ∧ 16 * l ≤ k ∧ k < 16 * l + 16)
def wlz (l c k : Nat) : Prop := (c = 121 ∧ (k = 35 ∨ k = 36 ∨ k = 39)) ∨ (c = 127 ∧ 128 * l ≤ k ∧ k < 128 * l + 128) ∨ (c = 137 ∧ k = l) ∨ (c = 131 ∧ 16 * l ≤ k ∧ k < 16 * l + 16)
theorem gz_i {c k : Nat} {x : Int32} (h : gz l o FI FL F2 L2) (w : wi l c k) : gz l o FI FL (h_up F2 c k x) L2 := by
  unfold wi at w
  obtain ⟨a1, a2, a3, a4, a5, a6⟩ := h
  refine ⟨fun c2 hc => ⟨by rw [h_up_nc (by omega)]; exact (a1 c2 hc).1, (a1 c2 hc).2⟩, fun k2 hk => ⟨by rw [h_up_x (by omega)]; exact (a2 k2 hk).1, (a2 k2 hk).2⟩, by rw [h_up_x (by omega)]; exact a3, fun i hi => ⟨by rw [h_up_x (by omega)]; exact (a4 i hi).1, by rw [h_up_x (by omega)]; exact (a4 i hi).2.1, by rw [h_up_x (by omega)]; exact (a4 i hi).2.2⟩, fun i hi => by rw [h_up_x (by omega)]; exact a5 i hi, fun h1 => ?_⟩
  obtain ⟨⟨p1, p2, p3, p4, p5, p6⟩, q2, q3, q4, q5⟩ := a6 h1
  subst h1
  exact ⟨⟨by rw [h_up_nc (by omega)]; exact p1, fun r hr => by rw [h_up_x (by omega)]; exact p2 r hr, fun r i hr h1 h2 => by rw [h_up_x (by omega)]; exact p3 r i hr h1 h2, p4, p5, p6⟩, by rw [h_up_x (by omega)]; exact q2, by rw [h_up_x (by omega)]; exact q3, by rw [h_up_x (by omega)]; exact q4, q5⟩
theorem gz_l {c k : Nat} {x : Int64} (h : gz l o FI FL F2 L2) (w : wlz l c k) : gz l o FI FL F2 (h_up L2 c k x) := by
  unfold wlz at w
  obtain ⟨a1, a2, a3, a4, a5, a6⟩ := h
  refine ⟨fun c2 hc => ⟨(a1 c2 hc).1, by rw [h_up_nc (by omega)]; exact (a1 c2 hc).2⟩, fun k2 hk => ⟨(a2 k2 hk).1, by rw [h_up_x (by omega)]; exact (a2 k2 hk).2⟩, a3, a4, a5, fun h1 => ?_⟩
  obtain ⟨⟨p1, p2, p3, p4, p5, p6⟩, q2, q3, q4, q5⟩ := a6 h1
  subst h1
  exact ⟨⟨p1, p2, p3, by rw [h_up_x (by omega)]; exact p4, fun i h1 h2 => by rw [h_up_x (by omega)]; exact p5 i h1 h2, fun i h1 h2 => by rw [h_up_x (by omega)]; exact p6 i h1 h2⟩, q2, q3, q4, by rw [h_up_x (by omega)]; exact q5⟩
/-- fields of the reference do not matter to a level -/
theorem lf_fk {K K2 : List Nat} (h : fk K FI F2) (h2 : fk K2 FL L2) : lf l FI FL F2 L2 := ⟨fk_row h (by decide), fun r hr => by rw [fk_row h (by omega)], fun r i hr _ _ => by rw [fk_row h (by omega)], by rw [fk_row h2 (by decide)], fun i _ _ => by rw [fk_row h2 (by decide)], fun i _ _ => by rw [fk_row h2 (by decide)]⟩
theorem gz_fk (h : fk [37, 38] FI F2) (h2 : fk [35, 36] FL L2) : gz l o FI FL F2 L2 := ⟨fun c hc => ⟨fk_row h (by omega), fk_row h2 (by omega)⟩, fun k hk => ⟨fk_at h (by simp; omega), fk_at h2 (by simp; omega)⟩, fk_at h (by decide), fun i _ => ⟨by rw [fk_row h (by decide)], by rw [fk_row h (by decide)], by rw [fk_row h (by decide)]⟩, fun i _ => by rw [fk_row h (by decide)], fun _ => ⟨lf_fk h h2, fk_at h (by decide), fk_at h (by decide), fk_at h (by decide), fk_at h2 (by decide)⟩⟩
/-- what operations ask for, in the reference's cells -/
def rE (FI : Nat → Nat → Int32) (FL : Nat → Nat → Int64) (SH : Nat → Nat × Nat) (E : ms_E) : Prop := (∀ i, i < 32 → FL 122 i = ms_rg E i) ∧ (∀ i, i < 4096 → FI 123 i = ms_mm E i) ∧ (∀ k, k < 16 → (FI 125 k).toInt = (ms_ex E k).length ∧ (ms_ex E k).length ≤ 600 ∧ bk FI SH 124 (600 * k) (ms_ex E k)) ∧ ((FI 121 5).toInt = ms_fr E ∧ -1 ≤ ms_fr E ∧ ms_fr E ≤ 15) ∧ ((FI 121 6).toInt = ms_cr E ∧ -1 ≤ ms_cr E ∧ ms_cr E ≤ 31) ∧ FL 121 7 = ms_co E ∧ (((FI 121 10).toInt = 0 ∧ ms_ob E = none) ∨ ((FI 121 10).toInt ≠ 0 ∧ ms_ob E = some (FL 121 8))) ∧ (((FI 121 11).toInt = 0 ∧ ms_tl E = none) ∨ ((FI 121 11).toInt ≠ 0 ∧ ms_tl E = some (FL 121 9)))
theorem rE_fr (h : rE FI FL SH E) (e1 : F2 123 = FI 123) (e2 : F2 124 = FI 124) (e3 : F2 125 = FI 125) (e4 : ∀ k, k < 29 → F2 121 k = FI 121 k) (e5 : ∀ k, k < 29 → L2 121 k = FL 121 k) (e6 : L2 122 = FL 122) : rE F2 L2 SH E := by
  obtain ⟨h1, h2, h3, h4, h5, h6, h7, h8⟩ := h
  refine ⟨by rw [e6]; exact h1, by rw [e1]; exact h2, fun k hk => ?_, by rw [e4 5 (by decide)]; exact h4, by rw [e4 6 (by decide)]; exact h5, by rw [e5 7 (by decide)]; exact h6, by rw [e4 10 (by decide), e5 8 (by decide)]; exact h7, by rw [e4 11 (by decide), e5 9 (by decide)]; exact h8⟩
  rw [e3]
  exact ⟨(h3 k hk).1, (h3 k hk).2.1, bk_fr (h3 k hk).2.2 e2⟩
theorem rE_gf (h : rE FI FL SH E) (g : gz l o FI FL F2 L2) : rE F2 L2 SH E := rE_fr h (g.1 123 (by omega)).1 (g.1 124 (by omega)).1 (g.1 125 (by omega)).1 (fun k hk => (g.2.1 k (Or.inl hk)).1) (fun k hk => (g.2.1 k (Or.inl hk)).2) (g.1 122 (by omega)).2
/-- the stack alone has changed -/
theorem rv_st {S : List Int64} (h : rv FI FL SH l s) (e1 : ∀ r, r ≠ 128 → r ≠ 121 → F2 r = FI r) (e2 : ∀ r, r ≠ 127 → r ≠ 121 → L2 r = FL r) (e3 : (F2 128 l).toInt = S.length) (e4 : S.length ≤ 128) (e5 : lv (fun i x => L2 127 (128 * l + i) = x) S) : rv F2 L2 SH l (S, s.2) := by
  obtain ⟨h1, h2, h3, h4, h5, h6, h7, h8, h9, h10⟩ := h
  refine ⟨e3, e4, e5, rt_fr h4 (e1 124 (by decide) (by decide)) (by rw [e1 136 (by decide) (by decide)]) (by rw [e2 137 (by decide) (by decide)]) (by rw [e1 138 (by decide) (by decide)]), by rw [e1 129 (by decide) (by decide)]; exact h5, h6, by rw [e1 135 (by decide) (by decide)]; exact h7, h8, h9, lv_mono (fun i x hi _ hx => ?_) h10⟩
  exact rq_fr hx (e1 124 (by decide) (by decide)) (fun r hr => by rw [e1 r (by omega) (by omega)]) (by rw [e2 131 (by decide) (by decide)])
/-- the hold alone has changed -/
theorem rv_hd {H : ms_H} (h : rv FI FL SH l s) (e1 : ∀ r, r ≠ 136 → r ≠ 138 → F2 r = FI r) (e2 : ∀ r, r ≠ 137 → L2 r = FL r) (e3 : rt F2 L2 SH 136 137 138 l H) : rv F2 L2 SH l (s.1, H, s.2.2) := by
  obtain ⟨h1, h2, h3, h4, h5, h6, h7, h8, h9, h10⟩ := h
  refine ⟨by rw [e1 128 (by decide) (by decide)]; exact h1, h2, by rw [e2 127 (by decide)]; exact h3, e3, by rw [e1 129 (by decide) (by decide)]; exact h5, h6, by rw [e1 135 (by decide) (by decide)]; exact h7, h8, h9, lv_mono (fun i x hi _ hx => ?_) h10⟩
  exact rq_fr hx (e1 124 (by decide) (by decide)) (fun r hr => by rw [e1 r (by omega) (by omega)]) (by rw [e2 131 (by decide)])
theorem lv_up {S : List Int64} {B j r : Nat} {y : Int64} (h : lv (fun i x => FL r (B + i) = x) S) (hj : S.length ≤ j) : lv (fun i x => h_up FL r (B + j) y r (B + i) = x) S := lv_mono (fun i x hi _ hx => by rw [h_up_ne (by omega)]; exact hx) h
end RV
