/-! WHAT PLACES AND LOCATIONS MEAN, by their bytes alone. -/
def xh (k : Int) (v : xX) : Int ⊕ ms_H := match v with
  | .inl e => .inl e
  | .inr x => .inr (k, x, [])
/-- a place: its bytes, its kind, what it means -/
def mp (E : ms_E) (fb : xX) (c : List Int) (k : Int) (H : Int ⊕ ms_H) : Prop :=
  (k = 1 ∧ lxx c ∧ ∃ v, ce E fb c v ∧ H = xh 1 v) ∨
  (k = 2 ∧ ∃ r : Int, 0 ≤ r ∧ r ≤ 31 ∧ c = [80 + r] ∧ H = .inr (2, Int64.ofInt r, [])) ∨
  (k = 3 ∧ ∃ a v, lxx a ∧ ce E fb a v ∧ c = a ++ [159] ∧ H = xh 3 v) ∨
  (k = 4 ∧ ∃ bs : List Int, bs.length ≤ 64 ∧ c = 158 :: (bs.length : Int) :: bs ∧ H = .inr (4, Int64.ofInt bs.length, bs.map Int32.ofInt)) ∨
  (k = 0 ∧ c = [] ∧ H = .inr ms_0)
def lr_e (R : List Int) : Prop := R = [] ∨ ∃ R2, R = 147 :: R2
theorem ldx_R {R : List Int} (h : lr_e R) (g : Nat) (k : Int) : ldx (g + 1) k R = some (k, R) := by
  rcases h with h | ⟨R2, h⟩
  · rw [h, ldx]
  · rw [h, ldx, if_pos rfl]
section MPX
variable {E : ms_E} {fb : xX} {c c2 R R2 : List Int} {k k2 : Int} {H H2 : Int ⊕ ms_H}
theorem mp_ld (h : mp E fb c k H) (hR : lr_e R) : ∃ j, ∀ g, ldx (g + j + 1) 0 (c ++ R) = some (k, R) := by
  rcases h with ⟨h1, h2, -⟩ | ⟨h1, r, h2, h3, h4, -⟩ | ⟨h1, a, v, h2, -, h3, -⟩ | ⟨h1, bs, h2, h3, -⟩ | ⟨h1, h2, -⟩
  · obtain ⟨j, e⟩ := h2.2 R 0
    refine ⟨j, fun g => ?_⟩
    rw [show g + j + 1 = (g + 1) + j by omega, e, ldx_R hR, h1]
  · refine ⟨1, fun g => ?_⟩
    rw [h4, h1]
    show ldx (g + 1 + 1) 0 ((80 + r) :: R) = _
    rw [ldx, if_neg (by omega), if_neg (by omega), if_pos (by omega), ldx_R hR]
  · obtain ⟨j, e⟩ := h2.2 (159 :: R) 0
    refine ⟨j + 1, fun g => ?_⟩
    rw [h3, List.append_assoc]
    show ldx (g + (j + 1) + 1) 0 (a ++ (159 :: R)) = _
    rw [show g + (j + 1) + 1 = (g + 1 + 1) + j by omega, e, ldx, if_neg (by first | decide | (simp; done) | (simp [ms_0]; done)), if_pos rfl, ldx_R hR, h1]
  · refine ⟨1, fun g => ?_⟩
    rw [h3, h1]
    show ldx (g + 1 + 1) 0 (158 :: ((bs.length : Int) :: (bs ++ R))) = _
    rw [ldx, if_neg (by first | decide | (simp; done) | (simp [ms_0]; done)), if_neg (by first | decide | (simp; done) | (simp [ms_0]; done)), if_neg (by first | decide | (simp; done) | (simp [ms_0]; done)), if_pos rfl]
    show ldx (g + 1) 4 ((bs ++ R).drop ((bs.length : Int)).toNat) = _
    rw [show ((bs.length : Int)).toNat = bs.length by omega, List.drop_left, ldx_R hR]
  · refine ⟨0, fun g => ?_⟩
    rw [h2, h1]
    exact ldx_R hR g 0
theorem mp_u (h : mp E fb c k H) (h2 : mp E fb c2 k2 H2) (hR : lr_e R) (hR2 : lr_e R2) (e : c ++ R = c2 ++ R2) : c = c2 ∧ R = R2 ∧ k = k2 ∧ H = H2 := by
  obtain ⟨j, a⟩ := mp_ld h hR
  obtain ⟨j2, b⟩ := mp_ld h2 hR2
  have a := a j2
  have b := b j
  rw [e, show j2 + j + 1 = j + j2 + 1 by omega, b] at a
  have a := Option.some.inj a
  have ek : k2 = k := congrArg Prod.fst a
  have eR : R2 = R := congrArg Prod.snd a
  subst ek
  subst eR
  have ec : c = c2 := List.append_cancel_right e
  subst ec
  refine ⟨rfl, rfl, rfl, ?_⟩
  rcases h with ⟨h1, -, v, h3, h4⟩ | ⟨h1, r, -, -, h3, h4⟩ | ⟨h1, a, v, -, h3, h4, h5⟩ | ⟨h1, bs, -, h3, h4⟩ | ⟨h1, -, h4⟩
  all_goals (rcases h2 with ⟨g1, -, w, g3, g4⟩ | ⟨g1, r2, -, -, g3, g4⟩ | ⟨g1, a2, w, -, g3, g4, g5⟩ | ⟨g1, bs2, -, g3, g4⟩ | ⟨g1, -, g4⟩)
  all_goals try (exfalso; omega)
  · rw [h4, g4, ce_u h3 g3]
  · rw [h3] at g3
    have := (List.cons.inj g3).1
    rw [h4, g4, show r = r2 by omega]
  · rw [h4] at g4
    have := List.append_cancel_right g4
    subst this
    rw [h5, g5, ce_u h3 g3]
  · rw [h3] at g3
    have := (List.cons.inj (List.cons.inj g3).2).2
    subst this
    rw [h4, g4]
  · rw [h4, g4]
end MPX
/-- a part: its place's bytes, its kind, its width, what it means -/
abbrev mZ := List Int × Int × Int × (Int ⊕ ms_H)
def mz_fl : List mZ → List Int
  | [] => []
  | z :: r => z.1 ++ 147 :: (lc_u 9 z.2.2.1 ++ mz_fl r)
def mz_ok (E : ms_E) (fb : xX) (Z : List mZ) : Prop := ∀ z, z ∈ Z → mp E fb z.1 z.2.1 z.2.2.2 ∧ 0 ≤ z.2.2.1 ∧ z.2.2.1 ≤ 64
def mz_rs : List mZ → List ms_P → Int ⊕ ms_Q
  | [], A => .inr (true, A)
  | z :: r, A => match z.2.2.2 with
    | .inl e => .inl e
    | .inr h => mz_rs r ((h, 8 * z.2.2.1, 0) :: A)
def mz_1 (H : Int ⊕ ms_H) : Int ⊕ ms_Q := match H with
  | .inl e => .inl e
  | .inr h => .inr (false, [(h, 0, 0)])
/-- a location: its bytes, what it means -/
def mloc (E : ms_E) (fb : xX) (c : List Int) (r : Int ⊕ ms_Q) : Prop := (∃ k H, mp E fb c k H ∧ r = mz_1 H) ∨ (∃ Z, Z ≠ [] ∧ Z.length ≤ 8 ∧ mz_ok E fb Z ∧ c = mz_fl Z ∧ r = mz_rs Z [])
theorem mz_lr {Z : List mZ} : lr_e (mz_fl Z) ∨ ∃ z r, Z = z :: r := by
  cases Z with
  | nil => exact Or.inl (Or.inl rfl)
  | cons z r => exact Or.inr ⟨z, r, rfl⟩
theorem mz_u {E : ms_E} {fb : xX} : ∀ (Z Y : List mZ), mz_ok E fb Z → mz_ok E fb Y → mz_fl Z = mz_fl Y → ∀ A, mz_rs Z A = mz_rs Y A
  | [], [], _, _, _, _ => rfl
  | [], y :: r, _, _, e, _ => by
    exfalso
    have e : [] = y.1 ++ 147 :: (lc_u 9 y.2.2.1 ++ mz_fl r) := e
    have := congrArg List.length e
    rw [List.length_append, List.length_cons] at this
    simp at this
  | z :: r, [], _, _, e, _ => by
    exfalso
    have e : z.1 ++ 147 :: (lc_u 9 z.2.2.1 ++ mz_fl r) = [] := e
    have := congrArg List.length e
    rw [List.length_append, List.length_cons] at this
    simp at this
  | z :: r, y :: s, hz, hy, e, A => by
    have e : z.1 ++ 147 :: (lc_u 9 z.2.2.1 ++ mz_fl r) = y.1 ++ 147 :: (lc_u 9 y.2.2.1 ++ mz_fl s) := e
    obtain ⟨z1, z2, z3⟩ := hz z (List.mem_cons_self)
    obtain ⟨y1, y2, y3⟩ := hy y (List.mem_cons_self)
    obtain ⟨u1, u2, u3, u4⟩ := mp_u z1 y1 (Or.inr ⟨_, rfl⟩) (Or.inr ⟨_, rfl⟩) e
    have u5 := (List.cons.inj u2).2
    have x1 := xu_9 (p := z.2.2.1) ⟨z2, by omega⟩ (mz_fl r)
    have x2 := xu_9 (p := y.2.2.1) ⟨y2, by omega⟩ (mz_fl s)
    rw [u5, x2] at x1
    have w1 : y.2.2.1 = z.2.2.1 := (Prod.mk.inj x1).1
    have w2 : mz_fl s = mz_fl r := (Prod.mk.inj x1).2
    have ih := mz_u r s (fun q hq => hz q (List.mem_cons_of_mem _ hq)) (fun q hq => hy q (List.mem_cons_of_mem _ hq)) w2.symm
    show (match z.2.2.2 with
      | .inl e => Sum.inl e
      | .inr h => mz_rs r ((h, 8 * z.2.2.1, 0) :: A)) = (match y.2.2.2 with
      | .inl e => Sum.inl e
      | .inr h => mz_rs s ((h, 8 * y.2.2.1, 0) :: A))
    rw [u4, w1]
    cases y.2.2.2 with
    | inl e => rfl
    | inr h => exact ih _
theorem mloc_u {E : ms_E} {fb : xX} {c : List Int} {r r2 : Int ⊕ ms_Q} (h : mloc E fb c r) (h2 : mloc E fb c r2) : r = r2 := by
  have no : ∀ {k : Int} {H : Int ⊕ ms_H} {Z : List mZ}, mp E fb c k H → Z ≠ [] → mz_ok E fb Z → c = mz_fl Z → False := by
    intro k H Z h1 hZ hk e
    cases Z with
    | nil => exact hZ rfl
    | cons z r =>
      have e2 : c ++ [] = z.1 ++ 147 :: (lc_u 9 z.2.2.1 ++ mz_fl r) := by rw [List.append_nil]; exact e
      have := (mp_u h1 (hk z (List.mem_cons_self)).1 (Or.inl rfl) (Or.inr ⟨_, rfl⟩) e2).2.1
      cases this
  rcases h with ⟨k, H, h1, e⟩ | ⟨Z, h0, -, h1, h3, e⟩
  · rcases h2 with ⟨k2, H2, g1, e2⟩ | ⟨Z, g0, -, g1, g3, e2⟩
    · rw [e, e2, (mp_u (R := []) (R2 := []) h1 g1 (Or.inl rfl) (Or.inl rfl) rfl).2.2.2]
    · exact (no h1 g0 g1 g3).elim
  · rcases h2 with ⟨k2, H2, g1, e2⟩ | ⟨Y, g0, -, g1, g3, e2⟩
    · exact (no g1 h0 h1 h3).elim
    · rw [e, e2]
      exact mz_u Z Y h1 g1 (by rw [← h3, g3]) []
/-- rows: those for pc -/
def ms_lt (a b : Int64) : Bool := decide ((a + (-9223372036854775808 : Int64)).toInt < (b + (-9223372036854775808 : Int64)).toInt)
def mrow (pc : Int64) (q : r_Q) : Bool := !(ms_lt pc (Int64.ofInt q.1)) && ms_lt pc (Int64.ofInt q.2.1)
def mrws (E : ms_E) (fb : xX) (pc : Int64) : List r_Q → Int ⊕ ms_Q → Prop
  | [], r => r = .inr (false, [(ms_0, 0, 0)])
  | q :: Q, r => (mrow pc q = true ∧ mloc E fb q.2.2 r) ∨ (¬ mrow pc q = true ∧ mrws E fb pc Q r)
/-- a variable: its rows, its bytes, what it means for pc -/
def mvar (E : ms_E) (fb : xX) (pc : Int64) (m : Nat) (C : List Int) (r : Int ⊕ ms_Q) : Prop := (m = 0 ∧ mloc E fb C r) ∨ (∃ Q : List r_Q, m = Q.length ∧ 1 ≤ m ∧ C = rw_fl Q ++ (lc_by 0 8 ++ lc_by 0 8) ∧ (∀ q, q ∈ Q → 0 ≤ q.1 ∧ q.1 ≤ 9223372036854775807 ∧ 0 ≤ q.2.1 ∧ q.2.1 ≤ 9223372036854775807 ∧ q.2.2.length ≤ 60000) ∧ mrws E fb pc Q r)
theorem mrws_u {E : ms_E} {fb : xX} {pc : Int64} : ∀ (Q : List r_Q) (r r2 : Int ⊕ ms_Q), mrws E fb pc Q r → mrws E fb pc Q r2 → r = r2 := by
  intro Q
  induction Q with
  | nil =>
    intro r r2 h h2
    have h : r = .inr (false, [(ms_0, 0, 0)]) := h
    have h2 : r2 = .inr (false, [(ms_0, 0, 0)]) := h2
    rw [h, h2]
  | cons q Q ih =>
    intro r r2 h h2
    rcases h with ⟨hq, h⟩ | ⟨hq, h⟩
    · rcases h2 with ⟨-, h2⟩ | ⟨hq2, -⟩
      · exact mloc_u h h2
      · exact absurd hq hq2
    · rcases h2 with ⟨hq2, -⟩ | ⟨-, h2⟩
      · exact absurd hq2 hq
      · exact ih r r2 h h2
theorem rw_fl_u : ∀ (Q P : List r_Q) (X Y : List Int), Q.length = P.length → (∀ q, q ∈ Q → 0 ≤ q.1 ∧ q.1 ≤ 9223372036854775807 ∧ 0 ≤ q.2.1 ∧ q.2.1 ≤ 9223372036854775807 ∧ q.2.2.length ≤ 60000) → (∀ q, q ∈ P → 0 ≤ q.1 ∧ q.1 ≤ 9223372036854775807 ∧ 0 ≤ q.2.1 ∧ q.2.1 ≤ 9223372036854775807 ∧ q.2.2.length ≤ 60000) → rw_fl Q ++ X = rw_fl P ++ Y → Q = P
  | [], [], _, _, _, _, _, _ => rfl
  | [], p :: P, _, _, h, _, _, _ => by simp at h
  | q :: Q, [], _, _, h, _, _, _ => by simp at h
  | q :: Q, p :: P, X, Y, h, hq, hp, e => by
    have e8 : (256 : Int) ^ 8 = 18446744073709551616 := by first | decide | (simp; done) | (simp [ms_0]; done)
    have e2 : (256 : Int) ^ 2 = 65536 := by first | decide | (simp; done) | (simp [ms_0]; done)
    obtain ⟨q1, q2, q3, q4, q5⟩ := hq q (List.mem_cons_self)
    obtain ⟨p1, p2, p3, p4, p5⟩ := hp p (List.mem_cons_self)
    rw [rw_fl_c, rw_fl_c] at e
    simp only [List.append_assoc] at e
    have a1 := xb_by (lc_by q.2.1 8 ++ (lc_by (q.2.2.length : Int) 2 ++ (q.2.2 ++ (rw_fl Q ++ X)))) 8 q.1 q1 (by rw [e8]; omega)
    have a2 := xb_by (lc_by p.2.1 8 ++ (lc_by (p.2.2.length : Int) 2 ++ (p.2.2 ++ (rw_fl P ++ Y)))) 8 p.1 p1 (by rw [e8]; omega)
    rw [e, a2] at a1
    have w1 : p.1 = q.1 := (Prod.mk.inj a1).1
    have w2 := (Prod.mk.inj a1).2
    (try dsimp only at w2)
    have b1 := xb_by (lc_by (q.2.2.length : Int) 2 ++ (q.2.2 ++ (rw_fl Q ++ X))) 8 q.2.1 q3 (by rw [e8]; omega)
    have b2 := xb_by (lc_by (p.2.2.length : Int) 2 ++ (p.2.2 ++ (rw_fl P ++ Y))) 8 p.2.1 p3 (by rw [e8]; omega)
    rw [← w2, b2] at b1
    have w3 : p.2.1 = q.2.1 := (Prod.mk.inj b1).1
    have w4 := (Prod.mk.inj b1).2
    (try dsimp only at w4)
    have c1 := xb_by (q.2.2 ++ (rw_fl Q ++ X)) 2 (q.2.2.length : Int) (by omega) (by rw [e2]; omega)
    have c2 := xb_by (p.2.2 ++ (rw_fl P ++ Y)) 2 (p.2.2.length : Int) (by omega) (by rw [e2]; omega)
    rw [← w4, c2] at c1
    have w5 : (p.2.2.length : Int) = (q.2.2.length : Int) := (Prod.mk.inj c1).1
    have w6 := (Prod.mk.inj c1).2
    (try dsimp only at w6)
    have w7 := List.append_inj w6 (by omega)
    have ih := rw_fl_u Q P X Y (by simp only [List.length_cons] at h; omega) (fun z hz => hq z (List.mem_cons_of_mem _ hz)) (fun z hz => hp z (List.mem_cons_of_mem _ hz)) w7.2.symm
    have : q = p := by
      obtain ⟨x1, x2, x3⟩ := q
      obtain ⟨y1, y2, y3⟩ := p
      (try dsimp only at w1 w3 w7)
      rw [w1, w3, w7.1]
    rw [this, ih]
theorem mvar_u {E : ms_E} {fb : xX} {pc : Int64} {m : Nat} {C : List Int} {r r2 : Int ⊕ ms_Q} (h : mvar E fb pc m C r) (h2 : mvar E fb pc m C r2) : r = r2 := by
  rcases h with ⟨h0, h1⟩ | ⟨Q, h0, h1, h3, h4, h5⟩
  · rcases h2 with ⟨-, g1⟩ | ⟨P, g0, g1, -⟩
    · exact mloc_u h1 g1
    · exfalso; omega
  · rcases h2 with ⟨g0, -⟩ | ⟨P, g0, g1, g3, g4, g5⟩
    · exfalso; omega
    · have e := rw_fl_u Q P _ _ (by omega) h4 g4 (by rw [← h3, g3])
      subst e
      exact mrws_u Q r r2 h5 g5
