/-! THE CLASS'S RESULTS. -/
/-- a Result in cell c: its things in t, its parts at b and behind -/
def tx (FR : Nat → Nat → Option Nat) (c t b : Nat) : Prop := FR c 0 = some t ∧ ∀ i, i < 16 → FR t i = some (b + i)
theorem tx_1 {FR : Nat → Nat → Option Nat} (h : h_FR FR) : tx FR 1 2 3 := by
  refine ⟨h (1, 0, 2) (by decide +kernel), fun i hi => ?_⟩
  have key : ∀ i : Nat, i < 16 → (2, i, 3 + i) ∈ hf_L := by decide +kernel
  exact h (2, i, 3 + i) (key i hi)
def crx (FI : Nat → Nat → Int32) (FL : Nat → Nat → Int64) (FR : Nat → Nat → Option Nat) (SH : Nat → Nat × Nat) (c b : Nat) (Q : ms_Q) : Prop := (Q.1 = false → (FI c 1).toInt = 0) ∧ (Q.1 = true → (FI c 1).toInt = Q.2.length) ∧ (1 ≤ Q.2.length ∧ Q.2.length ≤ 16) ∧ (Q.1 = false → Q.2.length = 1) ∧ lv (fun i p => cq FI FL FR SH (b + i) p) Q.2
/-- the desk's own result alone has changed -/
def k1 (FI : Nat → Nat → Int32) (FL : Nat → Nat → Int64) (FR : Nat → Nat → Option Nat) (F2 : Nat → Nat → Int32) (L2 : Nat → Nat → Int64) (R2 : Nat → Nat → Option Nat) : Prop := (∀ c, (c = 0 ∨ c = 2 ∨ 18 < c) → F2 c = FI c ∧ L2 c = FL c ∧ R2 c = FR c) ∧ R2 1 = FR 1
theorem lx_i {α : Type} {L : List α} {i : Nat} (h : i < L.length) : ∃ b, L[i]? = some b := ⟨_, List.getElem?_eq_getElem h⟩
section CRX
variable {n sl : Nat} {SH : Nat → Nat × Nat} {FI F2 F3 : Nat → Nat → Int32} {FL L2 L3 : Nat → Nat → Int64} {FR R2 R3 : Nat → Nat → Option Nat} {v : Int32} {u : Unit} {st : hS} {E : ms_E} {Q : ms_Q} {c b : Nat}
theorem k1_rf : k1 FI FL FR FI FL FR := ⟨fun _ _ => ⟨rfl, rfl, rfl⟩, rfl⟩
theorem k1_tr (h : k1 FI FL FR F2 L2 R2) (g : k1 F2 L2 R2 F3 L3 R3) : k1 FI FL FR F3 L3 R3 := ⟨fun c hc => ⟨(g.1 c hc).1.trans (h.1 c hc).1, (g.1 c hc).2.1.trans (h.1 c hc).2.1, (g.1 c hc).2.2.trans (h.1 c hc).2.2⟩, g.2.trans h.2⟩
theorem crx_n (h : crx FI FL FR SH c b Q) : (fX8_count c SH FI FL FR).toInt = Q.2.length := by
  obtain ⟨h1, h2, h3, h4, -⟩ := h
  unfold fX8_count
  cases hq : Q.1 with
  | false =>
    rw [if_pos (h1 hq), h4 hq]
    decide
  | true =>
    have e := h2 hq
    rw [if_neg (by omega)]
    exact e
theorem crx_fr (h : crx FI FL FR SH c b Q) (e0 : ∀ r, rw0 SH r → F2 r = FI r) (e1 : F2 c = FI c) (e2 : ∀ i, i < 16 → F2 (b + i) = FI (b + i) ∧ L2 (b + i) = FL (b + i) ∧ R2 (b + i) = FR (b + i)) : crx F2 L2 R2 SH c b Q := by
  obtain ⟨h1, h2, h3, h4, h5⟩ := h
  exact ⟨by rw [e1]; exact h1, by rw [e1]; exact h2, h3, h4, lv_mono (fun i p hi _ hp => cq_fr hp e0 (e2 i (by omega)).1 (e2 i (by omega)).2.1 (e2 i (by omega)).2.2) h5⟩
/-- a Part takes what another has -/
theorem c_tk {q s0 : Nat} {p : ms_P} (hr : ∀ r, rw0 SH r → r ≠ q) (hq : q ≠ s0) (hc : cq FI FL FR SH s0 p) (h : RX5_take q (some s0) n sl SH FI FL FR u st) : ∃ F2 L2 R2, st = (n, sl, SH, F2, L2, R2) ∧ (∀ r, r ≠ q → F2 r = FI r ∧ L2 r = FL r ∧ R2 r = FR r) ∧ cq F2 L2 R2 SH q p := by
  obtain ⟨c1, e1, c2, e2, c3, e3, c4, e4, c5, e5, c6, e6, -, e⟩ := h
  cases e1; cases e2; cases e3; cases e4; cases e5; cases e6
  have a1 : (h_up FI q 0 (FI s0 0)) s0 = FI s0 := h_up_nc (Ne.symm hq)
  have a2 : (h_up (h_up FI q 0 (FI s0 0)) q 2 ((h_up FI q 0 (FI s0 0)) s0 2)) s0 = FI s0 := by rw [h_up_nc (Ne.symm hq), a1]
  have a3 : (h_up (h_up (h_up FI q 0 (FI s0 0)) q 2 ((h_up FI q 0 (FI s0 0)) s0 2)) q 3 ((h_up (h_up FI q 0 (FI s0 0)) q 2 ((h_up FI q 0 (FI s0 0)) s0 2)) s0 3)) s0 = FI s0 := by rw [h_up_nc (Ne.symm hq), a2]
  rw [a3, a2, a1] at e
  refine ⟨_, _, _, e, fun r h1 => ⟨by rw [h_up_nc h1, h_up_nc h1, h_up_nc h1, h_up_nc h1], h_up_nc h1, h_up_nc h1⟩, ct_cp hc.1 (fun r h1 => ?_) ?_ h_up_eq h_up_eq h_up_eq, ?_, ?_, hc.2.2.2⟩
  · have h9 := hr r h1
    rw [h_up_nc h9, h_up_nc h9, h_up_nc h9, h_up_nc h9]
  · rw [h_up_ne (by first | decide | (simp; done) | (simp [ms_0]; done)), h_up_ne (by first | decide | (simp; done) | (simp [ms_0]; done)), h_up_ne (by first | decide | (simp; done) | (simp [ms_0]; done)), h_up_eq]
  · rw [h_up_ne (by first | decide | (simp; done) | (simp [ms_0]; done)), h_up_ne (by first | decide | (simp; done) | (simp [ms_0]; done)), h_up_eq]
    exact hc.2.1
  · rw [h_up_ne (by first | decide | (simp; done) | (simp [ms_0]; done)), h_up_eq]
    exact hc.2.2.1
end CRX
section CRT
variable {n sl : Nat} {SH : Nat → Nat × Nat} {u : Unit} {st : hS} {E : ms_E} {Q : ms_Q}
theorem c_rt18 {s t b : Nat} (hs : 48 ≤ s ∧ 48 ≤ t ∧ 48 ≤ b) (h16 : (SH 2).2 = 16) : ∀ (g i : Nat) (l2 : Int32) (FI : Nat → Nat → Int32) (FL : Nat → Nat → Int64) (FR : Nat → Nat → Option Nat), l2.toInt = i → i ≤ Q.2.length → tx FR 1 2 3 → tx FR s t b → crx FI FL FR SH s b Q → (∀ j p, j < i → Q.2[Q.2.length - 1 - j]? = some p → cq FI FL FR SH (3 + j) p) → GX8_take_18 1 (some s) g l2 n sl SH FI FL FR u st → ∃ F2 L2 R2, st = (n, sl, SH, F2, L2, R2) ∧ k1 FI FL FR F2 L2 R2 ∧ F2 1 = FI 1 ∧ lv (fun i p => cq F2 L2 R2 SH (3 + i) p) Q.2 := by
  intro g
  induction g with
  | zero => intro i l2 FI FL FR _ _ _ _ _ _ h; exact h.elim
  | succ g ih =>
    intro i l2 FI FL FR hi hil t1 t2 hQ hd h
    have hn := crx_n hQ
    have h16' := hQ.2.2.1
    obtain ⟨c1, ec1, v1, n1, sl1, SH1, FI1, FL1, FR1, ⟨ev, es⟩, h⟩ := h
    cases ec1
    cases es
    rw [ev, hn] at h
    rcases h with ⟨h0, h⟩ | ⟨h0, -, e⟩
    · rw [hi] at h0
      obtain ⟨c4, ec4, h⟩ := h
      rw [t1.1] at ec4
      cases ec4
      have h := P_p h (by rw [hi, h16]; show (i : Int) < ((16 : Int32)).toInt; rw [show ((16 : Int32)).toInt = 16 by first | decide | (simp; done) | (simp [ms_0]; done)]; omega)
      obtain ⟨c6, ec6, -, c7, ec7, c8, ec8, -, c9, ec9, u9, n9, sl9, SH9, FI9, FL9, FR9, htk, h⟩ := h
      rw [t1.1] at ec6
      cases ec6
      cases ec7
      rw [t2.1] at ec8
      cases ec8
      have el : l2.toInt.toNat = i := by omega
      rw [el, t1.2 i (by omega)] at ec9
      cases ec9
      rw [el, t2.2 i (by omega)] at htk
      obtain ⟨p, hp0⟩ := lx_i (L := Q.2) (i := Q.2.length - 1 - i) (by omega)
      have hc := lv_get hQ.2.2.2.2 hp0
      (try dsimp only at hc)
      rw [show Q.2.length - 1 - (Q.2.length - 1 - i) = i by omega] at hc
      obtain ⟨F2, L2, R2, e2, f2, q2⟩ := c_tk (q := 3 + i) (s0 := b + i) (fun r hr => by have := hr.2; omega) (by omega) hc htk
      cases e2
      have e0 : ∀ r, rw0 SH r → FI9 r = FI r := fun r hr => (f2 r (by have := hr.2; omega)).1
      have kk : k1 FI FL FR FI9 FL9 FR9 := ⟨fun c hc => f2 c (by omega), (f2 1 (by omega)).2.2⟩
      obtain ⟨F3, L3, R3, e3, k3, j3, l3⟩ := ih (i + 1) _ FI9 FL9 FR9 (by rw [i_add hi (by first | decide | (simp; done) | (simp [ms_0]; done) : ((1 : Int32)).toInt = 1) (by omega) (by omega)]; omega) (by omega) (by unfold tx; rw [(f2 1 (by omega)).2.2, (f2 2 (by omega)).2.2]; exact t1) (by unfold tx; rw [(f2 s (by omega)).2.2, (f2 t (by omega)).2.2]; exact t2) (crx_fr hQ e0 (f2 s (by omega)).1 (fun j hj => f2 (b + j) (by omega))) (fun j p9 hj hp => by
        by_cases ej : j = i
        · subst ej
          rw [hp0] at hp
          cases hp
          exact q2
        · exact cq_fr (hd j p9 (by omega) hp) e0 (f2 (3 + j) (by omega)).1 (f2 (3 + j) (by omega)).2.1 (f2 (3 + j) (by omega)).2.2) h
      exact ⟨F3, L3, R3, e3, k1_tr kk k3, by rw [j3, (f2 1 (by omega)).1], l3⟩
    · rw [hi] at h0
      refine ⟨_, _, _, e, k1_rf, rfl, lv_of (fun k x hx => ?_)⟩
      have hk := (List.getElem?_eq_some_iff.mp hx).1
      exact hd (Q.2.length - 1 - k) x (by omega) (by rw [show Q.2.length - 1 - (Q.2.length - 1 - k) = k by omega]; exact hx)
variable {FI : Nat → Nat → Int32} {FL : Nat → Nat → Int64} {FR : Nat → Nat → Option Nat} {v : Int32}
theorem c_rt {s t b : Nat} (hS : h_S n SH) (hs : 48 ≤ s ∧ 48 ≤ t ∧ 48 ≤ b) (t1 : tx FR 1 2 3) (t2 : tx FR s t b) (hQ : crx FI FL FR SH s b Q) (h : RX8_take 1 (some s) n sl SH FI FL FR u st) : ∃ F2 L2 R2, st = (n, sl, SH, F2, L2, R2) ∧ k1 FI FL FR F2 L2 R2 ∧ crx F2 L2 R2 SH 1 3 Q := by
  obtain ⟨c1, e1, c3, e3, g, h⟩ := h
  cases e1
  cases e3
  have ef : ∀ c, c ≠ 1 → (h_up (h_up FI 1 1 (FI s 1)) 1 2 ((h_up FI 1 1 (FI s 1)) s 2)) c = FI c := fun c hc => by rw [h_up_nc hc, h_up_nc hc]
  have e11 : (h_up (h_up FI 1 1 (FI s 1)) 1 2 ((h_up FI 1 1 (FI s 1)) s 2)) 1 1 = FI s 1 := by rw [h_up_ne (by first | decide | (simp; done) | (simp [ms_0]; done)), h_up_eq]
  generalize h_up (h_up FI 1 1 (FI s 1)) 1 2 ((h_up FI 1 1 (FI s 1)) s 2) = FB at h ef e11
  have hQB : crx FB FL FR SH s b Q := crx_fr hQ (fun r hr => ef r (by have := hr.2; omega)) (ef s (by omega)) (fun i _ => ⟨ef (b + i) (by omega), rfl, rfl⟩)
  obtain ⟨F2, L2, R2, z1, z2, z3, z4⟩ := c_rt18 hs (by rw [hS.2 2 (by first | decide | (simp; done) | (simp [ms_0]; done))]; decide +kernel) g 0 _ FB FL FR (by first | decide | (simp; done) | (simp [ms_0]; done)) (by omega) t1 t2 hQB (fun j p hj => by omega) h
  refine ⟨F2, L2, R2, z1, ⟨fun c hc => ⟨by rw [(z2.1 c hc).1, ef c (by omega)], (z2.1 c hc).2⟩, z2.2⟩, fun e => ?_, fun e => ?_, hQ.2.2.1, hQ.2.2.2.1, z4⟩
  · rw [z3, e11]; exact hQ.1 e
  · rw [z3, e11]; exact hQ.2.1 e
/-- the desk's result becomes empty -/
theorem c_clear (hS : h_S n SH) (t1 : tx FR 1 2 3) (h : RX8_clear 1 n sl SH FI FL FR u st) : ∃ F2 L2, st = (n, sl, SH, F2, L2, FR) ∧ k1 FI FL FR F2 L2 FR ∧ crx F2 L2 FR SH 1 3 (false, [(ms_0, 0, 0)]) := by
  obtain ⟨v2, n3, sl3, SH3, FI3, FL3, FR3, ⟨c1, ec1, -, ev, e3⟩, c4, ec4, u5, n5, sl5, SH5, FI5, FL5, FR5, ⟨-, e5⟩, -, e2⟩ := h
  cases e3
  rw [t1.1] at ec1
  cases ec1
  rw [ev, t1.2 0 (by first | decide | (simp; done) | (simp [ms_0]; done))] at ec4
  cases ec4
  cases e5
  refine ⟨_, _, e2, ⟨fun c hc => ⟨?_, ?_, rfl⟩, rfl⟩, ⟨fun _ => ?_, fun e => (by cases e), ⟨by first | decide | (simp; done) | (simp [ms_0]; done), by first | decide | (simp; done) | (simp [ms_0]; done)⟩, fun _ => rfl, ⟨⟨?_, ?_, Or.inl ⟨rfl, rfl⟩, fun e => absurd e (by first | decide | (simp; done) | (simp [ms_0]; done))⟩, ?_, ?_, by first | decide | (simp; done) | (simp [ms_0]; done), by first | decide | (simp; done) | (simp [ms_0]; done), by first | decide | (simp; done) | (simp [ms_0]; done), by first | decide | (simp; done) | (simp [ms_0]; done)⟩, trivial⟩⟩
  · rw [h_up_nc (by omega), h_up_nc (by omega), h_up_nc (by omega), h_up_nc (by omega), h_up_nc (by omega)]
  · rw [h_up_nc (by omega)]
  · rw [h_up_nc (by first | decide | (simp; done) | (simp [ms_0]; done)), h_up_nc (by first | decide | (simp; done) | (simp [ms_0]; done)), h_up_nc (by first | decide | (simp; done) | (simp [ms_0]; done)), h_up_ne (by first | decide | (simp; done) | (simp [ms_0]; done)), h_up_eq]; (first | decide | (simp; done) | (simp [ms_0]; done))
  · show Int32.toInt (h_up (h_up (h_up _ (3 + 0) 0 _) (3 + 0) 2 _) (3 + 0) 3 _ (3 + 0) 0) = 0
    rw [h_up_ne (by first | decide | (simp; done) | (simp [ms_0]; done)), h_up_ne (by first | decide | (simp; done) | (simp [ms_0]; done)), h_up_eq]; (first | decide | (simp; done) | (simp [ms_0]; done))
  · show h_up FL (3 + 0) 1 _ (3 + 0) 1 = 0
    rw [h_up_eq]
  · show Int32.toInt (h_up (h_up (h_up _ (3 + 0) 0 _) (3 + 0) 2 _) (3 + 0) 3 _ (3 + 0) 2) = 0
    rw [h_up_ne (by first | decide | (simp; done) | (simp [ms_0]; done)), h_up_eq]; (first | decide | (simp; done) | (simp [ms_0]; done))
  · show Int32.toInt (h_up (h_up (h_up _ (3 + 0) 0 _) (3 + 0) 2 _) (3 + 0) 3 _ (3 + 0) 3) = 0
    rw [h_up_eq]; (first | decide | (simp; done) | (simp [ms_0]; done))
/-- a run from its beginning -/
theorem c_start {r A f : Nat} {bs : List Int32} {a2 a3 a4 : Int32} (hS : h_S n SH) (ht : th FR ∧ thI FR) (hE : cE FI FL FR SH E) (hb : bk FI SH r A bs) (hbl : bs.length ≤ 100000) (hA : A ≤ 100000) (h2 : a2.toInt = A) (h3 : a3.toInt = ((A + bs.length : Nat) : Int)) (h4 : a4.toInt = f) (hf : f ≤ 1000) (h : RX9_start (some r) a2 a3 a4 n sl SH FI FL FR v st) : (∀ e, ms_R E 0 0 bs 0 f ([], ms_0, []) (.inl e) → e ≠ 0) ∧ ∃ a, ms_G E bs f a ∧ ∃ F2 L2 R2, st = (n, sl, SH, F2, L2, R2) ∧ kz FI FL FR F2 L2 R2 ∧ ((∃ e, a = .inl e ∧ v.toInt = e ∧ e ≠ 0) ∨ (∃ Q, a = .inr Q ∧ v.toInt = 0 ∧ crx F2 L2 R2 SH 72 74 Q)) := by
  have hr := rg_of hS
  obtain ⟨u0, n0, sl0, SH0, FI0, FL0, FR0, hrs, v1, n1, sl1, SH1, FI1, FL1, FR1, ⟨g, hpf⟩, h⟩ := h
  obtain ⟨F0, L0, e0, k0, cv0, cu0⟩ := c_reset (f := f) hS ht.1 (by rw [h4, show ((0 : Int32)).toInt = 0 by first | decide | (simp; done) | (simp [ms_0]; done)]; omega) (by first | decide | (simp; done) | (simp [ms_0]; done)) (by rw [h4]; omega) hrs
  cases e0
  obtain ⟨q, hq, hx⟩ := c_run hS g r A 0 f bs ([], ms_0, []) a2 a3 _ v1 FI0 FL0 FR _ ht (cE_k hE hr k0) (bk_fr hb (kz_rows k0 hr r hb.1)) hbl hA h2 h3 (by first | decide | (simp; done) | (simp [ms_0]; done)) (by first | decide | (simp; done) | (simp [ms_0]; done)) cv0 cu0 hpf
  match q, hq, hx with
  | .inl e9, hq, ⟨w1, w2, F2, L2, R2, w4, w5⟩ =>
    cases w4
    refine ⟨fun e he => ?_, .inl e9, ⟨_, hq, rfl⟩, ?_⟩
    · have := ms_R_u he hq
      cases this
      exact w2
    · have h := P_n h (by rw [w1]; exact w2)
      exact ⟨_, _, _, h.2, kz_tr k0 w5, Or.inl ⟨e9, rfl, by rw [h.1]; exact w1, w2⟩⟩
  | .inr y, hq, ⟨w1, F2, L2, R2, w4, w5, w6, w7, w8, w9⟩ =>
    cases w4
    refine ⟨fun e he => ?_, ms_fin y.2, ⟨_, hq, rfl⟩, ?_⟩
    · have := ms_R_u he hq
      cases this
    have h := P_p h w1
    obtain ⟨v3, n3, sl3, SH3, FI3, FL3, FR3, hse, e1, e⟩ := h
    obtain ⟨F4, L4, R4, y1, y2, y3, y4⟩ := c_settle hS (th_k (th_k ht.1 k0) w5) w6 hse
    cases y1
    have kk : kz FI FL FR (h_up FI3 48 9 (a3 - a2)) FL3 FR3 := kz_i (kz_tr k0 (kz_tr w5 y2)) (by first | decide | (simp; done) | (simp [ms_0]; done))
    have rows : ∀ r, rw0 SH r → (h_up FI3 48 9 (a3 - a2)) r = FI3 r := fun r hr => h_up_nc (by have := hr.2; omega)
    refine ⟨_, _, _, e, kk, ?_⟩
    rcases y4 with ⟨m1, m2, m3⟩ | ⟨m1, m2, m3, m4, m5, m6⟩ | ⟨m1, m2, m3, m4⟩
    · refine Or.inl ⟨13, ?_, by rw [e1]; exact m3, by first | decide | (simp; done) | (simp [ms_0]; done)⟩
      unfold ms_fin
      rw [if_pos m1, if_pos m2]
    · refine Or.inr ⟨(true, y.2.2.2), ?_, by rw [e1]; exact m3, crx_fr (FI := FI3) (FL := FL3) (FR := FR3) ?_ rows (h_up_nc (by first | decide | (simp; done) | (simp [ms_0]; done))) (fun i hi => ⟨h_up_nc (by omega), rfl, rfl⟩)⟩
      · unfold ms_fin
        rw [if_pos m1, if_neg m2]
      · subst m4; subst m5; subst m6
        obtain ⟨v1', v2', v3', v4', v5', v6', v7', v8', v9', v10'⟩ := w6
        refine ⟨fun e => (by cases e), fun _ => v5', ⟨?_, v6'⟩, fun e => (by cases e), v10'⟩
        cases hy : y.2.2.2 with
        | nil => exact absurd hy m1
        | cons a9 r9 => show 1 ≤ (a9 :: r9).length; rw [List.length_cons]; omega
    · refine Or.inr ⟨(false, [(ms_tg y.2, 0, 0)]), ?_, by rw [e1]; exact m2, crx_fr (FI := FI3) (FL := FL3) (FR := FR3) ?_ rows (h_up_nc (by first | decide | (simp; done) | (simp [ms_0]; done))) (fun i hi => ⟨h_up_nc (by omega), rfl, rfl⟩)⟩
      · unfold ms_fin
        rw [if_neg (fun e => e m1)]
      · exact ⟨fun _ => m3, fun e => (by cases e), ⟨by first | decide | (simp; done) | (simp [ms_0]; done), by first | decide | (simp; done) | (simp [ms_0]; done)⟩, fun _ => rfl, m4, trivial⟩
end CRT
