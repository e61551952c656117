/-! BOTH COMPILES: one answer, the same variables. -/
theorem r_compile {n sl N : Nat} {X : Nat → Int} {SH : Nat → Nat × Nat} {FI : Nat → Nat → Int32} {FL : Nat → Nat → Int64} {FR : Nat → Nat → Option Nat} {v : Int32} {s : hS} (hS : h_S n SH) (h : RX12_compile n sl SH FI FL FR v s) (hx : x_vw FI X N) (hr : rl_t (FI 149) (FL 150)) : ∃ K W P T, (t_tl X N 1001 0).length = T + 1 ∧ tk_ok K W P T ∧ (∀ i x, (t_tl X N 1001 0)[i]? = some x → K i = x.1 ∧ W i = x.2.1) ∧ ∀ f, 12 * T + 20 < f → match lp_tx K W f 1100 0 [] with
    | none => v = -1 ∧ u_eq FI s.2.2.2.1 FL s.2.2.2.2.1
    | some V => ((∃ x, x ∈ V ∧ ¬ (x.2.2.2.2 = false ∧ x.2.2.2.1.length ≤ 600)) ∧ v = -1 ∧ u_eq FI s.2.2.2.1 FL s.2.2.2.2.1) ∨ ((∀ x, x ∈ V → x.2.2.2.2 = false ∧ x.2.2.2.1.length ≤ 600) ∧ v.toInt = V.length ∧ u_vw s.2.2.2.1 s.2.2.2.2.1 K W T V) := by
  obtain ⟨v1, n1, sl1, SH1, FI1, FL1, FR1, ht, h⟩ := h
  have kt := kX12_tokens ht
  have e1 : n1 = n := kt.1
  have e2 : SH1 = SH := kt.2.2.1
  subst e1 e2
  have hx2 : x_vw (h_up FI 121 0 0) X N := ⟨by rw [h_up_x (by decide)]; exact hx.1, hx.2.1, by rw [h_up_nc (by decide)]; exact hx.2.2⟩
  obtain ⟨P, T, r1, r2, r3, r4⟩ := t_tokens ht hx2 (by rw [h_up_nc (by decide)]; exact hr)
  refine ⟨_, _, P, T, r1, r2, fun i x hi => ⟨(r4 i x hi).1, (r4 i x hi).2.1⟩, fun f hf => ?_⟩
  have ux : u_eq FI (h_up FI 121 0 0) FL FL := ⟨h_up_nc (by decide), h_up_nc (by decide), h_up_nc (by decide), h_up_nc (by decide), h_up_nc (by decide), rfl, rfl, h_up_x (by decide)⟩
  have u1 : u_eq (h_up FI 121 0 0) FI1 FL FL1 := u_kq kt (by decide)
  have u2 : u_eq FI1 (h_up (h_up (h_up (h_up (h_up FI1 121 13 ((0 : Int32))) 121 68 ((0 : Int32))) 121 69 ((0 : Int32))) 121 78 ((0 : Int32))) 121 73 ((0 : Int32))) FL1 FL1 := by
    refine ⟨?_, ?_, ?_, ?_, ?_, rfl, rfl, ?_⟩
    · rw [h_up_nc (by decide), h_up_nc (by decide), h_up_nc (by decide), h_up_nc (by decide), h_up_nc (by decide)]
    · rw [h_up_nc (by decide), h_up_nc (by decide), h_up_nc (by decide), h_up_nc (by decide), h_up_nc (by decide)]
    · rw [h_up_nc (by decide), h_up_nc (by decide), h_up_nc (by decide), h_up_nc (by decide), h_up_nc (by decide)]
    · rw [h_up_nc (by decide), h_up_nc (by decide), h_up_nc (by decide), h_up_nc (by decide), h_up_nc (by decide)]
    · rw [h_up_nc (by decide), h_up_nc (by decide), h_up_nc (by decide), h_up_nc (by decide), h_up_nc (by decide)]
    · rw [h_up_x (by decide), h_up_x (by decide), h_up_x (by decide), h_up_x (by decide), h_up_x (by decide)]
  have ut := u_tr ux (u_tr u1 u2)
  have q := c_compile (o := ((h_up (h_up (h_up (h_up (h_up FI1 121 13 ((0 : Int32))) 121 68 ((0 : Int32))) 121 69 ((0 : Int32))) 121 78 ((0 : Int32))) 121 73 ((0 : Int32))) 121 71).toInt) r2 hf h hS ⟨⟨by rw [h_up_nc (by decide), h_up_nc (by decide), h_up_nc (by decide), h_up_nc (by decide), h_up_nc (by decide)], rfl, by rw [h_up_x (by decide), h_up_x (by decide), h_up_x (by decide), h_up_eq]; rfl, Nat.zero_le _⟩, by rw [h_up_x (by decide), h_up_x (by decide), h_up_eq]; decide, rfl, by rw [h_up_eq]; rfl, fun _ i hi => by rw [List.length_nil] at hi; omega⟩ (by rw [h_up_x (by decide), h_up_eq]; decide) (by rw [h_up_x (by decide), h_up_x (by decide), h_up_x (by decide), h_up_x (by decide), h_up_x (by decide)]; exact r3)
  generalize lp_tx (kf (FI1 149)) (wf (FL1 150)) f 1100 0 [] = r at q
  match r, q with
  | none, q => exact ⟨q.1, u_tr ut q.2⟩
  | some V, q =>
    rcases q with ⟨q1, q2, q3⟩ | q
    · exact Or.inl ⟨q1, q2, u_tr ut q3⟩
    · exact Or.inr q
/-- the same variables on both sides -/
def uv_eq (F : Nat → Nat → Int32) (L : Nat → Nat → Int64) (R : Nat → Nat → Option Nat) (SH : Nat → Nat × Nat) (n : Nat) : Prop := ∃ K W T V, u_vw F L K W T V ∧ v_cl F R SH n V
