/-! compile's end: the variables are kept. -/
section CE
variable {K W : Nat → Int} {P : Nat → Nat} {n sl : Nat} {SH : Nat → Nat × Nat} {FI : Nat → Nat → Int32} {FL : Nat → Nat → Int64} {FR : Nat → Nat → Option Nat} {t T f : Nat} {o : Int} {B : List Int} {s : hS} {V : List lp_V}
theorem lp_fl_app {A B : List lp_V} : lp_fl (A ++ B) = lp_fl A ++ lp_fl B := by
  unfold lp_fl
  rw [List.map_append, List.flatten_append]
theorem lp_take {i : Nat} {x : lp_V} (h : V[i]? = some x) : lp_fl (V.take (i + 1)) = lp_fl (V.take i) ++ x.2.2.2.1 := by
  rw [List.take_add_one, h]
  exact lp_fl_snoc
theorem lp_len_le {i : Nat} {x : lp_V} (h : V[i]? = some x) : (lp_fl (V.take i)).length + x.2.2.2.1.length ≤ (lp_fl V).length := by
  have e2 : (lp_fl V).length = (lp_fl (V.take (i + 1))).length + (lp_fl (V.drop (i + 1))).length := by
    rw [← List.length_append, ← lp_fl_app, List.take_append_drop]
  rw [lp_take h, List.length_append] at e2
  omega
theorem v_161 (hv : v_vw FI FL V) {i : Nat} {x : lp_V} (h : V[i]? = some x) (hl : (lp_fl V).length ≤ 4000) : (FI 161 i).toInt = (lp_fl (V.take i)).length ∧ ((FI 161 (i + 1)) - (FI 161 i)).toInt = x.2.2.2.1.length := by
  have hi := (List.getElem?_eq_some_iff.mp h).1
  have hb := lp_len_le h
  have e1 := (hv.2.2.1 i x h).2.2.2.2
  have e2 : FI 161 (i + 1) = Int32.ofNat (lp_fl (V.take (i + 1))).length := by
    rcases Nat.lt_or_ge (i + 1) V.length with h1 | h1
    · exact (hv.2.2.1 (i + 1) V[i + 1] (List.getElem?_eq_getElem h1)).2.2.2.2
    · have e3 : i + 1 = V.length := by omega
      rw [e3, List.take_length]
      exact hv.2.2.2 (fun e => by rw [e] at hi; simp at hi)
  refine ⟨by rw [e1, i_lit (by omega)], ?_⟩
  rw [e1, e2, lp_take h, List.length_append, i_sub (i_lit (by omega)) (i_lit (by omega)) (by omega) (by omega)]
  omega
theorem c_82 (hv : v_vw FI FL V) (hl : (lp_fl V).length ≤ 4000) : ∀ (g : Nat) (l1 : Int32) (n sl : Nat) (SH : Nat → Nat × Nat) (FR : Nat → Nat → Option Nat) (v : Int32) (s : hS) (i : Nat), GX12_compile_82 g l1 n sl SH FI FL FR v s → l1.toInt = i → i ≤ V.length → ((∃ j x, i ≤ j ∧ V[j]? = some x ∧ ¬ (x.2.2.2.2 = false ∧ x.2.2.2.1.length ≤ 600)) ∧ v = -1 ∧ u_eq FI s.2.2.2.1 FL s.2.2.2.2.1) ∨ ((∀ j x, i ≤ j → V[j]? = some x → x.2.2.2.2 = false ∧ x.2.2.2.1.length ≤ 600) ∧ RX12_compile_151 0 n sl SH (h_up FI 121 74 (FI 121 78)) FL FR v s) := by
  intro g
  induction g with
  | zero => intro l1 n sl SH FR v s i h; exact h.elim
  | succ g ih =>
    intro l1 n sl SH FR v s i h hl1 hi
    have c600 : ((600 : Int32)).toInt = 600 := by decide
    have hm := hv.1
    have h12 := hv.2.1
    rcases h with ⟨h1, h⟩ | ⟨h1, h⟩
    · have hlt : i < V.length := by omega
      have hx := List.getElem?_eq_getElem hlt
      have q := hv.2.2.1 i V[i] hx
      have q161 := v_161 hv hx hl
      have hi0 : l1.toInt.toNat = i := by omega
      have hl1' : (l1 + (1 : Int32)).toInt = ((i + 1 : Nat) : Int) := by
        rw [i_add hl1 (by decide : ((1 : Int32)).toInt = 1) (by omega) (by omega)]; omega
      have hi1 : (l1 + (1 : Int32)).toInt.toNat = i + 1 := by omega
      obtain ⟨-, -, -, h⟩ := h
      rw [hi0, hi1, q161.2, c600, q.2.2.2.1] at h
      rcases h with ⟨h2, h⟩ | ⟨h2, h⟩
      · have hb : V[i].2.2.2.2 = false := by
          cases e : V[i].2.2.2.2 with
          | false => rfl
          | true => rw [e] at h2; exact absurd h2 (by decide)
        rcases h with ⟨h3, h⟩ | ⟨h3, h⟩
        · obtain ⟨-, v3, n3, sl3, SH3, FI3, FL3, FR3, hc, rfl, rfl⟩ := h
          obtain ⟨e1, e2⟩ := c_faulty hc
          exact Or.inl ⟨⟨i, V[i], Nat.le_refl _, hx, fun e => by omega⟩, e1, e2⟩
        · rcases ih (l1 + 1) n sl SH FR v s (i + 1) h hl1' (by omega) with ⟨⟨j, x, k1, k2, k3⟩, k4⟩ | ⟨k1, k2⟩
          · exact Or.inl ⟨⟨j, x, by omega, k2, k3⟩, k4⟩
          · refine Or.inr ⟨fun j x hj hxj => ?_, k2⟩
            by_cases e : j = i
            · subst e
              rw [hx] at hxj
              cases hxj
              exact ⟨hb, by omega⟩
            · exact k1 j x (by omega) hxj
      · have hb : V[i].2.2.2.2 = true := by
          cases e : V[i].2.2.2.2 with
          | true => rfl
          | false => rw [e] at h2; exact absurd (show (if false = true then (1 : Int32) else 0).toInt = 0 by decide) h2
        obtain ⟨-, v3, n3, sl3, SH3, FI3, FL3, FR3, hc, rfl, rfl⟩ := h
        obtain ⟨e1, e2⟩ := c_faulty hc
        exact Or.inl ⟨⟨i, V[i], Nat.le_refl _, hx, fun e => by rw [hb] at e; exact Bool.noConfusion e.1⟩, e1, e2⟩
    · refine Or.inr ⟨fun j x hj hxj => ?_, h⟩
      exfalso
      have := (List.getElem?_eq_some_iff.mp hxj).1
      omega
theorem c_221 {K1 : Int32 → Nat → Nat → (Nat → Nat × Nat) → (Nat → Nat → Int32) → (Nat → Nat → Int64) → (Nat → Nat → Option Nat) → Int32 → hS → Prop} {l1 : Int32} {i len A : Nat} (hi : l1.toInt = i) (h11 : i ≤ 11) (hlen : len ≤ 600) (hA : A ≤ 4000) : ∀ (g : Nat) (l2 : Int32) (n sl : Nat) (SH : Nat → Nat × Nat) (FI : Nat → Nat → Int32) (FL : Nat → Nat → Int64) (FR : Nat → Nat → Option Nat) (v : Int32) (s : hS) (k : Nat), GX12_compile_221 K1 g l1 l2 n sl SH FI FL FR v s → l2.toInt = k → k ≤ len → (FI 125 (20 + i)).toInt = len → (FI 161 i).toInt = A → ∃ FI2, K1 (l1 + 1) n sl SH FI2 FL FR v s ∧ (∀ c, c ≠ 124 → FI2 c = FI c) ∧ (∀ p, (p < 12000 + 600 * i + k ∨ 12000 + 600 * i + len ≤ p) → FI2 124 p = FI 124 p) ∧ (∀ q, k ≤ q → q < len → FI2 124 (12000 + 600 * i + q) = FI 154 (A + q)) := by
  intro g
  induction g with
  | zero => intro l2 n sl SH FI FL FR v s k h; exact h.elim
  | succ g ih =>
    intro l2 n sl SH FI FL FR v s k h hl2 hk h125 h161
    obtain ⟨-, h⟩ := h
    have e20 : (((20 : Int32)) + l1).toInt.toNat = 20 + i := by
      rw [i_add (by decide : ((20 : Int32)).toInt = 20) hi (by omega) (by omega)]; omega
    have hi0 : l1.toInt.toNat = i := by omega
    rw [e20, h125] at h
    rcases h with ⟨h1, h⟩ | ⟨h1, h⟩
    · obtain ⟨-, -, -, h⟩ := h
      have e1 : ((FI 161 l1.toInt.toNat) + l2).toInt.toNat = A + k := by
        rw [hi0, i_add h161 hl2 (by omega) (by omega)]; omega
      have e2 : ((((12000 : Int32)) + (((600 : Int32)) * l1)) + l2).toInt.toNat = 12000 + 600 * i + k := by
        rw [i_add (i_add (by decide : ((12000 : Int32)).toInt = 12000) (i_mul (by decide : ((600 : Int32)).toInt = 600) hi (by omega) (by omega)) (by omega) (by omega)) hl2 (by omega) (by omega)]; omega
      rw [e1, e2] at h
      obtain ⟨F2, q1, q2, q3, q4⟩ := ih (l2 + 1) n sl SH _ FL FR v s (k + 1) h (by rw [i_add hl2 (by decide : ((1 : Int32)).toInt = 1) (by omega) (by omega)]; omega) (by omega) (by rw [h_up_nc (by decide)]; exact h125) (by rw [h_up_nc (by decide)]; exact h161)
      refine ⟨F2, q1, fun c hc => by rw [q2 c hc, h_up_nc hc], fun p hp => by rw [q3 p (by omega), h_up_ne (by omega)], fun q h2 h3 => ?_⟩
      by_cases e : q = k
      · subst e
        rw [q3 _ (Or.inl (by omega)), h_up_eq]
      · rw [q4 q (by omega) h3, h_up_nc (by decide)]
    · refine ⟨FI, h, fun _ _ => rfl, fun _ _ => rfl, fun q h2 h3 => ?_⟩
      exfalso; omega
theorem c_277 : ∀ (g : Nat) (l1 : Int32) (n sl : Nat) (SH : Nat → Nat × Nat) (FI : Nat → Nat → Int32) (FL : Nat → Nat → Int64) (FR : Nat → Nat → Option Nat) (v : Int32) (s : hS) (i : Nat), GX12_compile_277 g l1 n sl SH FI FL FR v s → l1.toInt = i → (FI 121 67).toInt = ((T + 1 : Nat) : Int) → i ≤ T + 1 → T ≤ 1001 → v = FI 121 74 ∧ s.2.2.2.1 121 74 = FI 121 74 ∧ (∀ c, c ≠ 152 → c ≠ 121 → s.2.2.2.1 c = FI c) ∧ (∀ c, c ≠ 153 → s.2.2.2.2.1 c = FL c) ∧ (∀ j, i ≤ j → j ≤ T → s.2.2.2.1 152 j = FI 149 j ∧ s.2.2.2.2.1 153 j = FL 150 j) ∧ (∀ j, j < i → s.2.2.2.1 152 j = FI 152 j ∧ s.2.2.2.2.1 153 j = FL 153 j) := by
  intro g
  induction g with
  | zero => intro l1 n sl SH FI FL FR v s i h; exact h.elim
  | succ g ih =>
    intro l1 n sl SH FI FL FR v s i h hl h67 hi hT
    rcases h with ⟨h1, h⟩ | ⟨h1, h⟩
    · obtain ⟨-, -, -, -, h⟩ := h
      have hi0 : l1.toInt.toNat = i := by omega
      rw [hi0] at h
      obtain ⟨q1, q2, q3, q4, q5, q6⟩ := ih (l1 + 1) n sl SH _ _ FR v s (i + 1) h (by rw [i_add hl (by decide : ((1 : Int32)).toInt = 1) (by omega) (by omega)]; omega) (by rw [h_up_nc (by decide)]; exact h67) (by omega) hT
      refine ⟨?_, ?_, fun c h2 h3 => ?_, fun c h2 => ?_, fun j h2 h3 => ?_, fun j h2 => ?_⟩
      · rw [q1, h_up_nc (by decide)]
      · rw [q2, h_up_nc (by decide)]
      · rw [q3 c h2 h3, h_up_nc h2]
      · rw [q4 c h2, h_up_nc h2]
      · by_cases e : j = i
        · subst e
          have := q6 j (by omega)
          rw [h_up_eq, h_up_eq] at this
          exact this
        · have := q5 j (by omega) h3
          rw [h_up_nc (by decide), h_up_nc (by decide)] at this
          exact this
      · have := q6 j (by omega)
        rw [h_up_ne (by omega), h_up_ne (by omega)] at this
        exact this
    · obtain ⟨v3, n3, sl3, SH3, FI3, FL3, FR3, hc, rfl, rfl⟩ := h
      have kc := kX12_tells hc
      have e74 : FI3 121 74 = FI 121 74 := by
        rw [show FI3 121 74 = _ from kq_fld kc (by decide)]
        dsimp only
        rw [h_up_x (by decide), h_up_x (by decide)]
      have ec : ∀ c, c ≠ 121 → FI3 c = FI c := by
        intro c h2
        rw [show FI3 c = _ from kq_cell kc (by simp [k_no]; omega)]
        dsimp only
        rw [h_up_nc h2, h_up_nc h2]
      have el : ∀ c, FL3 c = FL c := by
        intro c
        funext j
        exact kc.2.2.2.2.2.1 c j (by simp [k_in])
      refine ⟨e74, e74, fun c _ h3 => ec c h3, fun c _ => el c, fun j h2 h3 => ?_, fun j _ => ⟨?_, ?_⟩⟩
      · exfalso; omega
      · show FI3 152 j = _
        rw [ec 152 (by decide)]
      · show FL3 153 j = _
        rw [el 153]
/-- what is copied of the first i variables -/
def w_dn (FI : Nat → Nat → Int32) (FL : Nat → Nat → Int64) (V : List lp_V) (i : Nat) : Prop := ∀ j v, j < i → V[j]? = some v → (FL 155 j).toInt = v.1 ∧ (FI 157 j).toInt = v.2.1 ∧ (FI 156 j).toInt = v.2.2.1 ∧ (FI 125 (20 + j)).toInt = v.2.2.2.1.length ∧ v.2.2.2.1.length ≤ 600 ∧ ∀ k, k < v.2.2.2.1.length → (FI 124 (12000 + 600 * j + k)).toInt = v.2.2.2.1.getD k 0
theorem lp_fl_get {i k : Nat} {x : lp_V} (h : V[i]? = some x) (hk : k < x.2.2.2.1.length) : (lp_fl V).getD ((lp_fl (V.take i)).length + k) 0 = x.2.2.2.1.getD k 0 := by
  have e2 : lp_fl V = lp_fl (V.take i) ++ (x.2.2.2.1 ++ lp_fl (V.drop (i + 1))) := by
    rw [← List.append_assoc, ← lp_take h, ← lp_fl_app, List.take_append_drop]
  rw [e2]
  simp only [List.getD_eq_getElem?_getD]
  rw [List.getElem?_append_right (by omega), show (lp_fl (V.take i)).length + k - (lp_fl (V.take i)).length = k by omega, List.getElem?_append_left hk]
theorem c_151 (hk : tk_ok K W P T) (hlen : (lp_fl V).length ≤ 4000) (hok : ∀ (j : Nat) (x : lp_V), V[j]? = some x → x.2.2.2.2 = false ∧ x.2.2.2.1.length ≤ 600) : ∀ (g : Nat) (l1 : Int32) (n sl : Nat) (SH : Nat → Nat × Nat) (FI : Nat → Nat → Int32) (FL : Nat → Nat → Int64) (FR : Nat → Nat → Option Nat) (v : Int32) (s : hS) (i : Nat), GX12_compile_151 g l1 n sl SH FI FL FR v s → l1.toInt = i → i ≤ V.length → v_vw FI FL V → (∃ o t, d_vw K W FI FL t o (lp_fl V)) → (FI 121 67).toInt = ((T + 1 : Nat) : Int) → (FI 121 74).toInt = V.length → w_dn FI FL V i → v.toInt = V.length ∧ u_vw s.2.2.2.1 s.2.2.2.2.1 K W T V := by
  intro g
  induction g with
  | zero => intro l1 n sl SH FI FL FR v s i h; exact h.elim
  | succ g ih =>
    intro l1 n sl SH FI FL FR v s i h hl hi hv hd h67 h74 hdn
    have hm := hv.1
    have h12 := hv.2.1
    obtain ⟨o, t, hd⟩ := hd
    rcases h with ⟨h1, h⟩ | ⟨h1, h⟩
    · have hlt : i < V.length := by omega
      have hx := List.getElem?_eq_getElem hlt
      have q := hv.2.2.1 i V[i] hx
      have q161 := v_161 hv hx hlen
      have hbl := lp_len_le hx
      have hi0 : l1.toInt.toNat = i := by omega
      have hl1' : (l1 + (1 : Int32)).toInt = ((i + 1 : Nat) : Int) := by
        rw [i_add hl (by decide : ((1 : Int32)).toInt = 1) (by omega) (by omega)]; omega
      have hi1 : (l1 + (1 : Int32)).toInt.toNat = i + 1 := by omega
      have e20 : (((20 : Int32)) + l1).toInt.toNat = 20 + i := by
        rw [i_add (by decide : ((20 : Int32)).toInt = 20) hl (by omega) (by omega)]; omega
      obtain ⟨-, -, -, -, -, -, -, -, -, gg, h⟩ := h
      rw [hi0, hi1, e20] at h
      obtain ⟨F2, k1, k2, k3, k4⟩ := c_221 (i := i) (len := V[i].2.2.2.1.length) (A := (lp_fl (V.take i)).length) hl (by omega) (hok i _ hx).2 (by omega) gg 0 n sl SH _ _ FR v s 0 h (by decide) (by omega) (by rw [h_up_eq]; exact q161.2) (by rw [h_up_nc (by decide), h_up_nc (by decide), h_up_nc (by decide)]; exact q161.1)
      have k2' : ∀ c, c ≠ 124 → c ≠ 125 → c ≠ 156 → c ≠ 157 → F2 c = FI c := by
        intro c a1 a2 a3 a4
        rw [k2 c a1, h_up_nc a2, h_up_nc a4, h_up_nc a3]
      have hfl : ∀ c, c ≠ 155 → (h_up FL 155 i (FL 158 i)) c = FL c := fun c hc => h_up_nc hc
      have hB := hd.2.2.2.2 (by omega)
      refine ih (l1 + 1) n sl SH F2 _ FR v s (i + 1) k1 hl1' (by omega) ?_ ⟨o, t, ?_⟩ (by rw [k2' 121 (by decide) (by decide) (by decide) (by decide)]; exact h67) (by rw [k2' 121 (by decide) (by decide) (by decide) (by decide)]; exact h74) ?_
      · refine ⟨by rw [k2' 121 (by decide) (by decide) (by decide) (by decide)]; exact hm, h12, fun j x hj => ?_, fun e => by rw [k2' 161 (by decide) (by decide) (by decide) (by decide)]; exact hv.2.2.2 e⟩
        rw [hfl 158 (by decide), k2' 160 (by decide) (by decide) (by decide) (by decide), k2' 159 (by decide) (by decide) (by decide) (by decide), k2' 163 (by decide) (by decide) (by decide) (by decide), k2' 161 (by decide) (by decide) (by decide) (by decide)]
        exact hv.2.2.1 j x hj
      · refine ⟨⟨by rw [k2' 149 (by decide) (by decide) (by decide) (by decide)]; exact hd.1.1, by rw [hfl 150 (by decide)]; exact hd.1.2.1, by rw [k2' 121 (by decide) (by decide) (by decide) (by decide)]; exact hd.1.2.2.1, hd.1.2.2.2⟩, by rw [k2' 121 (by decide) (by decide) (by decide) (by decide)]; exact hd.2.1, by rw [k2' 121 (by decide) (by decide) (by decide) (by decide)]; exact hd.2.2.1, by rw [k2' 121 (by decide) (by decide) (by decide) (by decide)]; exact hd.2.2.2.1, fun a b c => by rw [k2' 154 (by decide) (by decide) (by decide) (by decide)]; exact hd.2.2.2.2 a b c⟩
      · intro j x hj hxj
        have hjl := (List.getElem?_eq_some_iff.mp hxj).1
        by_cases e : j = i
        · subst e
          rw [hx] at hxj
          cases hxj
          refine ⟨by rw [h_up_eq]; exact q.1, ?_, ?_, ?_, (hok j _ hx).2, fun k hk2 => ?_⟩
          · rw [k2 157 (by decide), h_up_nc (by decide), h_up_eq]; exact q.2.1
          · rw [k2 156 (by decide), h_up_nc (by decide), h_up_nc (by decide), h_up_eq]; exact q.2.2.1
          · rw [k2 125 (by decide), h_up_eq]; exact q161.2
          · rw [k4 k (by omega) hk2, h_up_nc (by decide), h_up_nc (by decide), h_up_nc (by decide), hB _ (by omega)]
            exact lp_fl_get hx hk2
        · have p := hdn j x (by omega) hxj
          refine ⟨by rw [h_up_ne e]; exact p.1, ?_, ?_, ?_, p.2.2.2.2.1, fun k hk2 => ?_⟩
          · rw [k2 157 (by decide), h_up_nc (by decide), h_up_ne e, h_up_nc (by decide)]; exact p.2.1
          · rw [k2 156 (by decide), h_up_nc (by decide), h_up_nc (by decide), h_up_ne e]; exact p.2.2.1
          · rw [k2 125 (by decide), h_up_ne (by omega), h_up_nc (by decide), h_up_nc (by decide)]; exact p.2.2.2.1
          · have := p.2.2.2.2.1
            rw [k3 _ (by omega), h_up_nc (by decide), h_up_nc (by decide), h_up_nc (by decide)]
            exact p.2.2.2.2.2 k hk2
    · have hie : i = V.length := by omega
      obtain ⟨gg, h⟩ := h
      obtain ⟨q1, q2, q3, q4, q5, -⟩ := c_277 (T := T) gg 0 n sl SH FI FL FR v s 0 h (by decide) h67 (by omega) hk.2.2.2.1
      refine ⟨by rw [q1]; exact h74, by rw [q2]; exact h74, h12, fun j x hj => ?_, fun j hj => ?_⟩
      · have hjl := (List.getElem?_eq_some_iff.mp hj).1
        rw [q4 155 (by decide), q3 157 (by decide) (by decide), q3 156 (by decide) (by decide), q3 125 (by decide) (by decide), q3 124 (by decide) (by decide)]
        exact hdn j x (by omega) hj
      · have p := q5 j (by omega) hj
        rw [p.1, p.2]
        exact ⟨tk_K hd.1 j, tk_W hd.1 j⟩
/-- compile, behind its tokens: refused, with the variables as before; or they are those of the text -/
theorem c_compile {v : Int32} (hk : tk_ok K W P T) (hf : 12 * T + 20 < f) (h : RX12_compile_34 n sl SH FI FL FR v s) (hS : h_S n SH) (hd : d_vw K W FI FL 0 o []) (h78 : (FI 121 78).toInt = 0) (h67 : (FI 121 67).toInt = ((T + 1 : Nat) : Int)) : match lp_tx K W f 1100 0 [] with
    | none => v = -1 ∧ u_eq FI s.2.2.2.1 FL s.2.2.2.2.1
    | some V => ((∃ x, x ∈ V ∧ ¬ (x.2.2.2.2 = false ∧ x.2.2.2.1.length ≤ 600)) ∧ v = -1 ∧ u_eq FI s.2.2.2.1 FL s.2.2.2.2.1) ∨ ((∀ x, x ∈ V → x.2.2.2.2 = false ∧ x.2.2.2.1.length ≤ 600) ∧ v.toInt = V.length ∧ u_vw s.2.2.2.1 s.2.2.2.2.1 K W T V) := by
  obtain ⟨g, h⟩ := h
  have hv0 : v_vw FI FL [] := ⟨h78, by decide, fun i v hv => by simp at hv, fun e => absurd rfl e⟩
  have hT2 := hk.2.2.2.1
  obtain ⟨n2, sl2, SH2, FI2, FL2, FR2, k1, k2, k3, k4, k5⟩ := c_34 hk hf g n sl SH FI FL FR v s 1100 0 o [] h hS hd hv0 (by omega) (by omega) (by simp [lp_fl])
  generalize lp_tx K W f 1100 0 [] = r at k5
  match r, k5 with
  | none, k5 =>
    rcases k1 with ⟨h1, h⟩ | ⟨h1, h⟩
    · exact absurd h1 k5
    · obtain ⟨v3, n3, sl3, SH3, FI3, FL3, FR3, hc, rfl, rfl⟩ := h
      obtain ⟨e1, e2⟩ := c_faulty hc
      exact ⟨e1, u_tr k3 e2⟩
  | some V, ⟨⟨o1, q1⟩, q2, q3⟩ =>
    rcases k1 with ⟨h1, h⟩ | ⟨h1, h⟩
    · obtain ⟨g2, h⟩ := h
      rcases c_82 q2 q3 g2 0 n2 sl2 SH2 FR2 v s 0 h (by decide) (by omega) with ⟨⟨j, x, -, a2, a3⟩, a4, a5⟩ | ⟨a1, a2⟩
      · exact Or.inl ⟨⟨x, List.mem_iff_getElem?.mpr ⟨j, a2⟩, a3⟩, a4, u_tr k3 a5⟩
      · refine Or.inr ⟨fun x hx => ?_, ?_⟩
        · obtain ⟨j, hj⟩ := List.mem_iff_getElem?.mp hx
          exact a1 j x (by omega) hj
        · obtain ⟨g3, a2⟩ := a2
          refine c_151 hk q3 (fun j x hj => a1 j x (by omega) hj) g3 0 n2 sl2 SH2 _ FL2 FR2 v s 0 a2 (by decide) (by omega) ?_ ⟨o1, T, d_fl q1 (by decide) (by decide) (by decide) (by decide)⟩ ?_ ?_ (fun j v hj => by omega)
          · refine ⟨by rw [h_up_x (by decide)]; exact q2.1, q2.2.1, fun j x hj => ?_, fun e => by rw [h_up_nc (by decide)]; exact q2.2.2.2 e⟩
            rw [h_up_nc (by decide), h_up_nc (by decide), h_up_nc (by decide), h_up_nc (by decide)]
            exact q2.2.2.1 j x hj
          · rw [h_up_x (by decide), k4]; exact h67
          · rw [h_up_eq]; exact q2.1
    · exact absurd q1.2.1 h1
end CE
