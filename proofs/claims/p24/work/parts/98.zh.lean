/-! putNode and putChain. -/
section CR
variable {n sl : Nat} {SH : Nat → Nat × Nat} {FI : Nat → Nat → Int32} {FL : Nat → Nat → Int64} {FR : Nat → Nat → Option Nat} {v : Unit} {s : hS}
theorem i_ite {p : Prop} [Decidable p] {a b : Int32} : (if p then a else b).toInt = if p then a.toInt else b.toInt := by split <;> rfl
theorem c_op {a : Int32} : (fX4_operationOf a SH FI FL FR).toInt = n_op a.toInt := by
  unfold fX4_operationOf n_op
  rw [i_ite, i_ite, i_ite, i_ite, i_ite, i_ite, i_ite, i_ite, i_ite, i_ite, i_ite, i_ite, i_ite, i_ite, i_ite, i_ite]
  rfl
theorem n_op_rg (k : Int) : 26 ≤ n_op k ∧ n_op k ≤ 46 := by
  unfold n_op
  repeat' split
  all_goals omega
theorem c_isBased {a : Nat} {w : Int32} (h : RX0_isBased (some a) n sl SH FI FL FR w s) : s = (n, sl, SH, FI, FL, FR) ∧ (w.toInt = 0 ↔ ¬ ((FI a 0).toInt = 37 ∨ (FI a 0).toInt = 11)) := by
  have c37 : ((37 : Int32)).toInt = 37 := by decide
  have c11 : ((11 : Int32)).toInt = 11 := by decide
  obtain ⟨c1, e1, h⟩ := h
  cases e1
  rcases h with ⟨h1, rfl, rfl⟩ | ⟨h1, c3, e3, h⟩
  · rw [c37] at h1
    exact ⟨rfl, fun h => absurd h (by decide), fun h => absurd (Or.inl h1) h⟩
  · cases e3
    rw [c37] at h1
    rcases h with ⟨h2, rfl, rfl⟩ | ⟨h2, rfl, rfl⟩
    · rw [c11] at h2
      exact ⟨rfl, fun h => absurd h (by decide), fun h => absurd (Or.inr h2) h⟩
    · rw [c11] at h2
      exact ⟨rfl, fun _ h => by rcases h with h | h; exact h1 h; exact h2 h, fun _ => by decide⟩
theorem c_isPlain {o : Option Nat} {w : Int32} (h : RX0_isPlainTerm o n sl SH FI FL FR w s) : s = (n, sl, SH, FI, FL, FR) ∧ ((w.toInt = 0 ∧ ∀ e, o = some e → ¬ ((FI e 0).toInt = 5 ∧ ((FI e 2).toInt = 43 ∨ (FI e 2).toInt = 45))) ∨ (w.toInt ≠ 0 ∧ ∃ e, o = some e ∧ (FI e 0).toInt = 5 ∧ ((FI e 2).toInt = 43 ∨ (FI e 2).toInt = 45))) := by
  have c5 : ((5 : Int32)).toInt = 5 := by decide
  have c43 : ((43 : Int32)).toInt = 43 := by decide
  have c45 : ((45 : Int32)).toInt = 45 := by decide
  rcases h with ⟨h1, rfl, rfl⟩ | ⟨-, c2, e2, h⟩
  · refine ⟨rfl, Or.inl ⟨by decide, fun e he => ?_⟩⟩
    rw [h1] at he
    cases he
  · subst e2
    rcases h with ⟨h2, c4, e4, h⟩ | ⟨h2, rfl, rfl⟩
    · cases e4
      rw [c5] at h2
      rcases h with ⟨h3, rfl, rfl⟩ | ⟨h3, c6, e6, h⟩
      · rw [c43] at h3
        exact ⟨rfl, Or.inr ⟨by decide, _, rfl, h2, Or.inl h3⟩⟩
      · cases e6
        rw [c43] at h3
        rcases h with ⟨h4, rfl, rfl⟩ | ⟨h4, rfl, rfl⟩
        · rw [c45] at h4
          exact ⟨rfl, Or.inr ⟨by decide, _, rfl, h2, Or.inr h4⟩⟩
        · rw [c45] at h4
          refine ⟨rfl, Or.inl ⟨by decide, fun e he h => ?_⟩⟩
          cases he
          rcases h.2 with h5 | h5
          · exact h3 h5
          · exact h4 h5
    · rw [c5] at h2
      refine ⟨rfl, Or.inl ⟨by decide, fun e he h => ?_⟩⟩
      cases he
      exact h2 h.1
/-- the rest of a chain -/
def c_hR (n sl : Nat) (SH : Nat → Nat × Nat) (FL : Nat → Nat → Int64) (FR : Nat → Nat → Option Nat) (f : Nat) : Prop := ∀ (g gl : Nat) (o a1 : Option Nat) (a2 : Int32) (d : Int) (FI : Nat → Nat → Int32) (v : Unit) (s : hS) (A : List Int), GX0_putChain_82 (fun a1 a2 n sl SH FI FL FR => QX0 g 0 a1 a2 n sl SH FI FL FR) (fun a1 a2 n sl SH FI FL FR => QX0 g 1 a1 a2 n sl SH FI FL FR) (fun a1 a2 n sl SH FI FL FR => QX0 g 2 a1 a2 n sl SH FI FL FR) a1 a2 gl o n sl SH FI FL FR v s → a2.toInt = d → 0 ≤ d → d ≤ 120 → n_cd FI FL FR f 1 o d = some A → c_ap n sl SH FI FL FR s A
/-- a chain from its first on -/
def c_hC (n sl : Nat) (SH : Nat → Nat × Nat) (FL : Nat → Nat → Int64) (FR : Nat → Nat → Option Nat) (f : Nat) : Prop := ∀ (g c : Nat) (a2 : Int32) (d : Int) (FI : Nat → Nat → Int32) (v : Unit) (s : hS) (A : List Int), RX0_putChain (fun a1 a2 n sl SH FI FL FR => QX0 g 0 a1 a2 n sl SH FI FL FR) (fun a1 a2 n sl SH FI FL FR => QX0 g 1 a1 a2 n sl SH FI FL FR) (fun a1 a2 n sl SH FI FL FR => QX0 g 2 a1 a2 n sl SH FI FL FR) (some c) a2 n sl SH FI FL FR v s → a2.toInt = d → 0 ≤ d → d ≤ 120 → n_cd FI FL FR f 2 (FR c 3) d = some A → c_ap n sl SH FI FL FR s A
theorem c_tree (hQ : h_S n SH) : ∀ f : Nat, (∀ g, c_hN n sl SH FL FR f (fun a1 a2 n sl SH FI FL FR => QX0 g 0 a1 a2 n sl SH FI FL FR)) ∧ c_hR n sl SH FL FR f ∧ c_hC n sl SH FL FR f := by
  intro f
  induction f with
  | zero =>
    refine ⟨?_, ?_, ?_⟩
    · intro g o a2 d FI v s A _ _ _ _ hA; cases hA
    · intro g gl o a1 a2 d FI v s A _ _ _ _ hA; cases hA
    · intro g c a2 d FI v s A _ _ _ _ hA; cases hA
  | succ f ih =>
    obtain ⟨i0, i1, i2⟩ := ih
    refine ⟨?_, ?_, ?_⟩
    · -- a node
      intro g o a2 d FI v s A h hd h0 h1 hA
      have c120 : ((120 : Int32)).toInt = 120 := by decide
      cases g with
      | zero => exact h.elim
      | succ g =>
        rcases h with ⟨k1, h⟩ | ⟨k1, h⟩
        · subst k1
          obtain ⟨-, rfl⟩ := h
          have hA : (none : Option (List Int)) = some A := hA
          cases hA
        · cases o with
          | none => exact absurd rfl k1
          | some c =>
            have ok := n_cd_ok hA
            have hA2 : n_st FI FL FR (n_cd FI FL FR f) 0 c d = some A := hA
            unfold n_st at hA2
            rw [if_neg (by rw [ok.2]; simp; omega), if_pos rfl] at hA2
            rcases h with ⟨k2, h⟩ | ⟨k2, h⟩
            · rw [c120, hd] at k2
              obtain ⟨-, rfl⟩ := h
              rw [if_pos k2] at hA2
              cases hA2
            · rw [c120, hd] at k2
              rw [if_neg k2] at hA2
              have hg : ((FI c 0).toInt = 5 → 0 ≤ (FL c 1).toInt ∧ (FL c 1).toInt ≤ 999999999999999999) ∧ ((FI c 0).toInt = 37 → 0 ≤ (FL c 1).toInt ∧ (FL c 1).toInt ≤ 31) ∧ ((FI c 0).toInt = 6 → 1 ≤ (FL c 1).toInt ∧ (FL c 1).toInt ≤ 8) := of_decide_eq_true ok.2
              obtain ⟨c3, e3, h⟩ := h
              cases e3
              rcases h with ⟨k3, h⟩ | ⟨k3, h⟩
              · rw [if_pos k3] at hA2
                obtain ⟨c5, e5, v5, n5, sl5, SH5, FI5, FL5, FR5, hc, -, rfl⟩ := h
                cases e5
                rw [← Option.some.inj hA2]
                exact c_const hQ hc (hg.1 k3).1
              · rw [if_neg k3] at hA2
                rcases h with ⟨k4, h⟩ | ⟨k4, h⟩
                · rw [if_pos k4] at hA2
                  obtain ⟨v5, n5, sl5, SH5, FI5, FL5, FR5, hc, -, rfl⟩ := h
                  rw [← Option.some.inj hA2]
                  exact c_based (p := 0) hQ hc k4 ok.2
                · rw [if_neg k4] at hA2
                  rcases h with ⟨k5, h⟩ | ⟨k5, h⟩
                  · rw [if_pos k5] at hA2
                    obtain ⟨v5, n5, sl5, SH5, FI5, FL5, FR5, hc, -, rfl⟩ := h
                    rw [← Option.some.inj hA2]
                    exact c_put hQ hc (by decide)
                  · rw [if_neg k5] at hA2
                    rcases h with ⟨k6, h⟩ | ⟨k6, h⟩
                    · rw [if_pos k6] at hA2
                      obtain ⟨v5, n5, sl5, SH5, FI5, FL5, FR5, hc, -, rfl⟩ := h
                      rw [← Option.some.inj hA2]
                      exact c_put hQ hc (by decide)
                    · rw [if_neg k6] at hA2
                      rcases h with ⟨k7, h⟩ | ⟨k7, h⟩
                      · rw [if_pos k7] at hA2
                        by_cases hq : 120 ≤ d
                        · rw [if_pos hq] at hA2; cases hA2
                        rw [if_neg hq] at hA2
                        obtain ⟨v5, n5, sl5, SH5, FI5, FL5, FR5, hc, -, rfl⟩ := h
                        cases g with
                        | zero => exact hc.elim
                        | succ g => exact i2 g c a2 d FI _ _ A hc hd h0 (by omega) hA2
                      · rw [if_neg k7] at hA2
                        rcases h with ⟨k8, h⟩ | ⟨k8, h⟩
                        · rw [if_pos k8] at hA2
                          obtain ⟨v5, n5, sl5, SH5, FI5, FL5, FR5, hc, -, rfl⟩ := h
                          obtain ⟨x, yz, q1, q2, q3⟩ := o2_some hA2
                          obtain ⟨y, z, q4, q5, q6⟩ := o2_some q2
                          rw [← q3, ← q6]
                          cases g with
                          | zero => exact hc.elim
                          | succ g => exact c_choice hQ (i0 g) hc hd h0 (by omega) q1 q4 q5
                        · rw [if_neg k8] at hA2
                          obtain ⟨c17, e17, v5, n5, sl5, SH5, FI5, FL5, FR5, hc, v6, n6, sl6, SH6, FI6, FL6, FR6, hc2, -, rfl⟩ := h
                          cases e17
                          obtain ⟨a, q1, q2⟩ := om_some hA2
                          rw [← q2]
                          have w1 := i0 g _ _ (d + 1) FI _ _ a hc (i_add hd (by decide : ((1 : Int32)).toInt = 1) (by omega) (by omega)) (by omega) (by omega) q1
                          have w1' := w1
                          obtain ⟨F2, e, r1, -⟩ := w1'
                          cases e
                          have e0 : FI5 c 0 = FI c 0 := c_fr_n r1 c 0 ok.1
                          have w2 := c_un hQ hc2 (by rw [e0]; exact ok.2)
                          rw [e0] at w2
                          exact c_ap_t w1 w2
    · -- the rest of a chain
      intro g gl o a1 a2 d FI v s A h hd h0 h1 hA
      have c43 : ((43 : Int32)).toInt = 43 := by decide
      have c5 : ((5 : Int32)).toInt = 5 := by decide
      cases gl with
      | zero => exact h.elim
      | succ gl =>
        rcases h with ⟨k1, h⟩ | ⟨k1, h⟩
        · subst k1
          obtain ⟨-, rfl⟩ := h
          have e : [] = A := Option.some.inj hA
          rw [← e]
          exact c_ap_0
        · cases o with
          | none => exact absurd rfl k1
          | some c =>
            have ok := n_cd_ok hA
            have hg : ((FI c 0).toInt = 5 → 0 ≤ (FL c 1).toInt ∧ (FL c 1).toInt ≤ 999999999999999999) ∧ ((FI c 0).toInt = 37 → 0 ≤ (FL c 1).toInt ∧ (FL c 1).toInt ≤ 31) ∧ ((FI c 0).toInt = 6 → 1 ≤ (FL c 1).toInt ∧ (FL c 1).toInt ≤ 8) := of_decide_eq_true ok.2
            have hA2 : n_st FI FL FR (n_cd FI FL FR f) 1 c d = some A := hA
            unfold n_st at hA2
            rw [if_neg (by rw [ok.2]; simp; omega), if_neg (by decide), if_pos rfl] at hA2
            obtain ⟨c2, e2, h⟩ := h
            cases e2
            have plain : ¬ ((FI c 2).toInt = 43 ∧ (FI c 0).toInt = 5) → RX0_putChain_124 (GX0_putChain_82 (fun a1 a2 n sl SH FI FL FR => QX0 g 0 a1 a2 n sl SH FI FL FR) (fun a1 a2 n sl SH FI FL FR => QX0 g 1 a1 a2 n sl SH FI FL FR) (fun a1 a2 n sl SH FI FL FR => QX0 g 2 a1 a2 n sl SH FI FL FR) a1 a2 gl) (fun a1 a2 n sl SH FI FL FR => QX0 g 0 a1 a2 n sl SH FI FL FR) (fun a1 a2 n sl SH FI FL FR => QX0 g 1 a1 a2 n sl SH FI FL FR) (fun a1 a2 n sl SH FI FL FR => QX0 g 2 a1 a2 n sl SH FI FL FR) a1 a2 (some c) n sl SH FI FL FR v s → c_ap n sl SH FI FL FR s A := by
              intro hn h
              rw [if_neg hn] at hA2
              obtain ⟨a, r, q1, q2, q3⟩ := o2_some hA2
              rw [← q3]
              obtain ⟨v5, n5, sl5, SH5, FI5, FL5, FR5, hc, c2, e2, v6, n6, sl6, SH6, FI6, FL6, FR6, hc2, c7, e7, hK⟩ := h
              cases e2
              cases e7
              have w1 := i0 g _ _ (d + 1) FI _ _ a hc (i_add hd (by decide : ((1 : Int32)).toInt = 1) (by omega) (by omega)) (by omega) (by omega) q1
              have w1' := w1
              obtain ⟨F2, e, r1, -⟩ := w1'
              cases e
              have e2 : FI5 c 2 = FI c 2 := c_fr_n r1 c 2 ok.1
              have w2 := c_put (b := n_op (FI c 2).toInt) hQ hc2 (by rw [c_op, e2]; have := n_op_rg (FI c 2).toInt; omega)
              have w2' := w2
              obtain ⟨F3, e, r2, -⟩ := w2'
              cases e
              have w3 := i1 g gl (FR c 6) a1 a2 d FI6 v s r hK hd h0 h1 ((n_cd_ag (c_fr_n (c_fr_t r1 r2)) _ _ _ _).trans q2)
              exact c_ap_t (c_ap_t w1 w2) w3
            rcases h with ⟨k2, h⟩ | ⟨k2, h⟩
            · rw [c43] at k2
              obtain ⟨c4, e4, h⟩ := h
              cases e4
              rcases h with ⟨k3, h⟩ | ⟨k3, h⟩
              · rw [c5] at k3
                rw [if_pos ⟨k2, k3⟩] at hA2
                obtain ⟨r, q1, q2⟩ := om_some hA2
                rw [← q2]
                obtain ⟨v5, n5, sl5, SH5, FI5, FL5, FR5, hc, c2, e2, v6, n6, sl6, SH6, FI6, FL6, FR6, hc2, c7, e7, hK⟩ := h
                cases e2
                cases e7
                have w1 := c_put (b := 35) hQ hc (by decide)
                have w1' := w1
                obtain ⟨F2, e, r1, -⟩ := w1'
                cases e
                have w2 := c_leb hQ hc2 (hg.1 k3).1
                have w2' := w2
                obtain ⟨F3, e, r2, -⟩ := w2'
                cases e
                have w3 := i1 g gl (FR c 6) a1 a2 d FI6 v s r hK hd h0 h1 ((n_cd_ag (c_fr_n (c_fr_t r1 r2)) _ _ _ _).trans q1)
                exact c_ap_t (c_ap_t w1 w2) w3
              · rw [c5] at k3
                exact plain (fun h => k3 h.2) h
            · rw [c43] at k2
              exact plain (fun h => k2 h.1) h
    · -- a chain from its first on
      intro g c a2 d FI v s A h hd h0 h1 hA
      have c45 : ((45 : Int32)).toInt = 45 := by decide
      obtain ⟨c1, e1, h⟩ := h
      cases e1
      rcases h with ⟨k1, h⟩ | ⟨k1, h⟩
      · obtain ⟨-, rfl⟩ := h
        rw [k1] at hA
        have hA : (none : Option (List Int)) = some A := hA
        cases hA
      · obtain ⟨a, ea, v3, n3, sl3, SH3, FI3, FL3, FR3, hb, h⟩ := h
        rw [ea] at hA hb h
        obtain ⟨eb, wb⟩ := c_isBased hb
        cases eb
        have ok := n_cd_ok hA
        have hA2 : n_st FI FL FR (n_cd FI FL FR f) 2 a d = some A := hA
        unfold n_st at hA2
        rw [if_neg (by rw [ok.2]; simp; omega), if_neg (by decide), if_neg (by decide)] at hA2
        have apart : n_nx FI FL FR a = none → ∀ (FRx : Option Nat), FRx = FR a 6 → RX0_putChain_70 (fun a1 a2 n sl SH FI FL FR => QX0 g 0 a1 a2 n sl SH FI FL FR) (fun a1 a2 n sl SH FI FL FR => QX0 g 1 a1 a2 n sl SH FI FL FR) (fun a1 a2 n sl SH FI FL FR => QX0 g 2 a1 a2 n sl SH FI FL FR) (some c) a2 (some a) FRx n sl SH FI FL FR v s → c_ap n sl SH FI FL FR s A := by
          intro hn FRx hx h
          subst hx
          rw [hn] at hA2
          obtain ⟨x, r, q1, q2, q3⟩ := o2_some hA2
          rw [← q3]
          obtain ⟨v5, n5, sl5, SH5, FI5, FL5, FR5, hc, gl, hK⟩ := h
          have w1 := i0 g _ _ (d + 1) FI _ _ x hc (i_add hd (by decide : ((1 : Int32)).toInt = 1) (by omega) (by omega)) (by omega) (by omega) q1
          have w1' := w1
          obtain ⟨F2, e, r1, -⟩ := w1'
          cases e
          have w3 := i1 g gl (FR a 6) (some c) a2 d FI5 v s r hK hd h0 h1 ((n_cd_ag (c_fr_n r1) _ _ _ _).trans q2)
          exact c_ap_t w1 w3
        rcases h with ⟨k2, h⟩ | ⟨k2, h⟩
        · refine apart ?_ _ rfl h
          unfold n_nx
          rw [if_neg (wb.mp k2)]
        · have hbs : (FI a 0).toInt = 37 ∨ (FI a 0).toInt = 11 := Classical.not_not.mp (fun h => k2 (wb.mpr h))
          obtain ⟨v5, n5, sl5, SH5, FI5, FL5, FR5, hp, h⟩ := h
          obtain ⟨ep, wp⟩ := c_isPlain hp
          cases ep
          rcases wp with ⟨p0, pn⟩ | ⟨p0, e, he, pk1, pk2⟩
          · rcases h with ⟨-, h⟩ | ⟨k3, -⟩
            · refine apart ?_ _ rfl h
              unfold n_nx
              rw [if_pos hbs]
              cases e6 : FR a 6 with
              | none => rfl
              | some e =>
                dsimp only
                rw [if_neg (fun h => pn e e6 ⟨h.2.1, h.2.2.1⟩)]
            · exact absurd p0 k3
          · rcases h with ⟨k3, -⟩ | ⟨-, h⟩
            · exact absurd k3 p0
            · -- a number added to what is based
              have okE : 176 ≤ e ∧ n_rg (FI e 0).toInt (FL e 1).toInt = true := by
                rcases Nat.lt_or_ge e 176 with hlt | hge
                · exfalso
                  have hn : n_nx FI FL FR a = none := by
                    unfold n_nx
                    rw [if_pos hbs, he]
                    dsimp only
                    rw [if_neg (fun h => by omega)]
                  rw [hn] at hA2
                  obtain ⟨x, r, q1, q2, q3⟩ := o2_some hA2
                  rw [he] at q2
                  have := (n_cd_ok q2).1
                  omega
                · refine ⟨hge, ?_⟩
                  cases hr : n_rg (FI e 0).toInt (FL e 1).toInt with
                  | true => rfl
                  | false =>
                    exfalso
                    have hn : n_nx FI FL FR a = none := by
                      unfold n_nx
                      rw [if_pos hbs, he]
                      dsimp only
                      rw [if_neg (fun h => by rw [hr] at h; exact absurd h.2.2.2 (by decide))]
                    rw [hn] at hA2
                    obtain ⟨x, r, q1, q2, q3⟩ := o2_some hA2
                    rw [he] at q2
                    have := (n_cd_ok q2).2
                    rw [hr] at this
                    cases this
              have hn : n_nx FI FL FR a = some e := by
                unfold n_nx
                rw [if_pos hbs, he]
                dsimp only
                rw [if_pos ⟨okE.1, pk1, pk2, okE.2⟩]
              rw [hn] at hA2
              obtain ⟨r, q1, q2⟩ := om_some hA2
              rw [← q2]
              have hge : ((FI e 0).toInt = 5 → 0 ≤ (FL e 1).toInt ∧ (FL e 1).toInt ≤ 999999999999999999) ∧ ((FI e 0).toInt = 37 → 0 ≤ (FL e 1).toInt ∧ (FL e 1).toInt ≤ 31) ∧ ((FI e 0).toInt = 6 → 1 ≤ (FL e 1).toInt ∧ (FL e 1).toInt ≤ 8) := of_decide_eq_true okE.2
              have hw := hge.1 pk1
              have fin : ∀ p : Int64, p.toInt = n_sg (FI e 2).toInt (FL e 1).toInt → RX0_putChain_57 (fun a1 a2 n sl SH FI FL FR => QX0 g 0 a1 a2 n sl SH FI FL FR) (fun a1 a2 n sl SH FI FL FR => QX0 g 1 a1 a2 n sl SH FI FL FR) (fun a1 a2 n sl SH FI FL FR => QX0 g 2 a1 a2 n sl SH FI FL FR) (some c) a2 (FR a 6) p (some a) n sl SH FI FL FR v s → c_ap n sl SH FI FL FR s (n_bs (FI a 0).toInt (FL a 1).toInt (n_sg (FI e 2).toInt (FL e 1).toInt) ++ r) := by
                intro p hp h
                obtain ⟨v5, n5, sl5, SH5, FI5, FL5, FR5, hc, c2, e2, gl, hK⟩ := h
                rw [he] at e2
                cases e2
                have w1 := c_based hQ hc hbs.symm ok.2
                rw [hp] at w1
                have w1' := w1
                obtain ⟨F2, e4, r1, -⟩ := w1'
                cases e4
                exact c_ap_t w1 (i1 g gl _ (some c) a2 d FI5 v s r hK hd h0 h1 ((n_cd_ag (c_fr_n r1) _ _ _ _).trans q1))
              obtain ⟨c8, e8, h⟩ := h
              rw [he] at e8
              cases e8
              rcases h with ⟨k4, h⟩ | ⟨k4, h⟩
              · rw [c45] at k4
                obtain ⟨c10, e10, h⟩ := h
                rw [he] at e10
                cases e10
                refine fin _ ?_ h
                unfold n_sg
                rw [if_pos k4, Int64.toInt_neg, Int.bmod_def]
                split <;> omega
              · rw [c45] at k4
                obtain ⟨c11, e11, h⟩ := h
                rw [he] at e11
                cases e11
                refine fin _ ?_ h
                unfold n_sg
                rw [if_neg k4]
end CR
