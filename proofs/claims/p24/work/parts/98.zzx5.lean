/-! THE CLASS'S PIECES; how its runs begin and end. -/
def thI (FR : Nat → Nat → Option Nat) : Prop := FR 52 0 = some 53 ∧ ∀ i, i < 16 → FR 53 i = some (54 + i)
theorem thI_of {FR : Nat → Nat → Option Nat} (h : h_FR FR) : thI FR := by
  refine ⟨h (52, 0, 53) (by decide +kernel), fun i hi => ?_⟩
  have key : ∀ i : Nat, i < 16 → (53, i, 54 + i) ∈ hf_L := by decide +kernel
  exact h (53, i, 54 + i) (key i hi)
theorem thI_k {FI F2 : Nat → Nat → Int32} {FL L2 : Nat → Nat → Int64} {FR R2 : Nat → Nat → Option Nat} (h : thI FR) (k : kzI FI FL FR F2 L2 R2) : thI R2 := by
  unfold thI
  rw [k.2 52 (by first | decide | (simp; done) | (simp [ms_0]; done)), k.2 53 (by first | decide | (simp; done) | (simp [ms_0]; done))]
  exact h
section CPI
variable {n sl : Nat} {SH : Nat → Nat × Nat} {FI F1 : Nat → Nat → Int32} {FL L1 : Nat → Nat → Int64} {FR R1 : Nat → Nat → Option Nat} {v : Int32} {u : Unit} {st : hS} {s : ms_S} {E : ms_E}
theorem c_topI (hS : h_S n SH) (hv : cvI FI FL FR SH s) (h : RX9_holdTopI n sl SH FI FL FR u st) : ∃ F2 L2, st = (n, sl, SH, F2, L2, FR) ∧ kzI FI FL FR F2 L2 FR ∧ cvI F2 L2 FR SH (s.1, ms_tg s, s.2.2) ∧ (∀ r, r ≠ 51 → F2 r = FI r) ∧ (∀ r, r ≠ 51 → L2 r = FL r) := by
  obtain ⟨v1, v2, v3, v4, v5, v6, v7, v8, v9, v10⟩ := id hv
  unfold RX9_holdTopI at h
  rw [v4.1.1, v1] at h
  unfold ms_tg
  rcases h with ⟨h0, h⟩ | ⟨h0, e1, e⟩
  · rw [if_pos h0]
    obtain ⟨S, sr⟩ := s
    (try dsimp only at h ⊢)
    rcases h with ⟨h2, h⟩ | ⟨h2, e1, e⟩
    · cases S with
      | nil => exact absurd h2 (by first | decide | (simp; done) | (simp [ms_0]; done))
      | cons t R =>
        obtain ⟨w, n1, sl1, SH1, FI1, FL1, FR1, h, e1, e⟩ := h
        rw [c_belowI (y := t) (k := 0) hS hv (by first | decide | (simp; done) | (simp [ms_0]; done)) rfl] at h
        obtain ⟨F2, L2, e2, q1, q2, q3, q4, -, -⟩ := c_becomeI (H := (1, t, [])) hS hv (by first | decide | (simp; done) | (simp [ms_0]; done)) rfl (Or.inr (Or.inl ⟨rfl, rfl⟩)) (by first | decide | (simp; done) | (simp [ms_0]; done)) h
        cases e2
        exact ⟨_, _, e, q1, q2, q3, q4⟩
    · cases S with
      | cons t R => exfalso; simp only [List.length_cons] at h2; omega
      | nil =>
        have e9 := ms_ok0 v4.1.2.2.1 h0
        refine ⟨_, _, e, kzI_rf, ?_, fun _ _ => rfl, fun _ _ => rfl⟩
        rw [← e9]
        exact hv
  · rw [if_neg h0]
    exact ⟨_, _, e, kzI_rf, hv, fun _ _ => rfl, fun _ _ => rfl⟩
/-- a Part takes what another has -/
theorem c_takeI {q : Nat} {H : ms_H} (hr : rg SH) (hq : q ≠ 51) (hq2 : 48 ≤ q ∧ q ≤ 109) (hc : ct FI FL FR SH 51 H) (h : RX5_take q (some 51) n sl SH FI FL FR u st) : ∃ F2, st = (n, sl, SH, F2, h_up FL q 1 (FL 51 1), h_up FR q 4 (FR 51 4)) ∧ (∀ r, r ≠ q → F2 r = FI r) ∧ ct F2 (h_up FL q 1 (FL 51 1)) (h_up FR q 4 (FR 51 4)) SH q H ∧ F2 q 2 = FI 51 2 ∧ F2 q 3 = FI 51 3 := by
  obtain ⟨c1, e1, c2, e2, c3, e3, c4, e4, c5, e5, c6, e6, -, e⟩ := h
  cases e1; cases e2; cases e3; cases e4; cases e5; cases e6
  have a1 : (h_up FI q 0 (FI 51 0)) 51 = FI 51 := h_up_nc (Ne.symm hq)
  have a2 : (h_up (h_up FI q 0 (FI 51 0)) q 2 ((h_up FI q 0 (FI 51 0)) 51 2)) 51 = FI 51 := by rw [h_up_nc (Ne.symm hq), a1]
  have a3 : (h_up (h_up (h_up FI q 0 (FI 51 0)) q 2 ((h_up FI q 0 (FI 51 0)) 51 2)) q 3 ((h_up (h_up FI q 0 (FI 51 0)) q 2 ((h_up FI q 0 (FI 51 0)) 51 2)) 51 3)) 51 = FI 51 := by rw [h_up_nc (Ne.symm hq), a2]
  rw [a3, a2, a1] at e
  refine ⟨_, e, fun r h1 => by rw [h_up_nc h1, h_up_nc h1, h_up_nc h1, h_up_nc h1], ct_cp hc (fun r h1 => ?_) ?_ h_up_eq h_up_eq h_up_eq, ?_, ?_⟩
  · have := hr r h1
    rw [h_up_nc (by omega), h_up_nc (by omega), h_up_nc (by omega), h_up_nc (by omega)]
  · rw [h_up_ne (by first | decide | (simp; done) | (simp [ms_0]; done)), h_up_ne (by first | decide | (simp; done) | (simp [ms_0]; done)), h_up_ne (by first | decide | (simp; done) | (simp [ms_0]; done)), h_up_eq]
  · rw [h_up_ne (by first | decide | (simp; done) | (simp [ms_0]; done)), h_up_ne (by first | decide | (simp; done) | (simp [ms_0]; done)), h_up_eq]
  · rw [h_up_ne (by first | decide | (simp; done) | (simp [ms_0]; done)), h_up_eq]
theorem c_addI {w f : Int32} {W D : Int} (hS : h_S n SH) (ht : thI FR) (hv : cvI FI FL FR SH s) (hn : s.2.2.length < 16) (hw : w.toInt = W) (hf : f.toInt = D) (hW : 0 ≤ W ∧ W ≤ 4096) (hD : 0 ≤ D ∧ D ≤ 4096) (hb : ms_tb s.2.2 + W ≤ 4096) (h : RX9_addPieceI w f n sl SH FI FL FR v st) : crI n sl SH FI FL FR v st (.inr ([], ms_0, (ms_tg s, W, D) :: s.2.2)) := by
  have hr := rg_of hS
  obtain ⟨u0, n0, sl0, SH0, FI0, FL0, FR0, h0, u1, n1, sl1, SH1, FI1, FL1, FR1, h1, u2, n2, sl2, SH2, FI2, FL2, FR2, h2, ev, e⟩ := h
  obtain ⟨F0, L0, e0, k0, c0, g0, g0l⟩ := c_topI hS hv h0
  cases e0
  obtain ⟨v1, v2, v3, v4, v5, v6, v7, v8, v9, v10⟩ := id c0
  (try dsimp only at v1 v2 v3 v4 v5 v6 v7 v8 v9 v10)
  obtain ⟨c1, ec1, h1⟩ := h1
  rw [ht.1] at ec1
  cases ec1
  have h1 := P_p h1 (by rw [v5, hS.2 53 (by first | decide | (simp; done) | (simp [ms_0]; done)), show (Int32.ofNat (hs_L.getD 53 (0, 0)).2).toInt = 16 by decide +kernel]; omega)
  obtain ⟨c3, ec3, -, c4, ec4, u4, n4, sl4, SH4, FI4, FL4, FR4, h4, c6, ec6, c7, ec7, -, e1⟩ := h1
  rw [ht.1] at ec3
  cases ec3
  have ei : (FI0 52 1).toInt.toNat = s.2.2.length := by omega
  rw [ei, ht.2 _ hn] at ec4 ec6 ec7
  cases ec4; cases ec6; cases ec7
  obtain ⟨F4, e4, f1, f2, f3, f4⟩ := c_takeI (q := 54 + s.2.2.length) hr (by omega) (by omega) v4.1 h4
  cases e4
  cases e1
  generalize hq : 54 + s.2.2.length = q at f1 f2 f3 f4 h2
  have o1 : (h_up (h_up FI4 q 2 w) q 3 f) 52 1 = FI0 52 1 := by rw [h_up_nc (by omega), h_up_nc (by omega), f1 52 (by omega)]
  have o2 : (h_up (h_up (h_up FI4 q 2 w) q 3 f) 52 1 ((h_up (h_up FI4 q 2 w) q 3 f) 52 1 + (1 : Int32))) 52 2 = FI0 52 2 := by rw [h_up_ne (by first | decide | (simp; done) | (simp [ms_0]; done)), h_up_nc (by omega), h_up_nc (by omega), f1 52 (by omega)]
  rw [o2, o1] at h2
  obtain ⟨-, e2⟩ := h2
  cases e2
  have r1 : ∀ r, r ≠ 51 → r ≠ 52 → r ≠ q → (h_up (h_up (h_up (h_up (h_up (h_up (h_up FI4 q 2 w) q 3 f) 52 1 (FI0 52 1 + (1 : Int32))) 52 2 (FI0 52 2 + w)) 51 0 (0 : Int32)) 51 2 (0 : Int32)) 51 3 (0 : Int32)) r = FI0 r := fun r q1 q2 q3 => by rw [h_up_nc q1, h_up_nc q1, h_up_nc q1, h_up_nc q2, h_up_nc q2, h_up_nc q3, h_up_nc q3]; exact f1 r q3
  have rq : (h_up (h_up (h_up (h_up (h_up (h_up (h_up FI4 q 2 w) q 3 f) 52 1 (FI0 52 1 + (1 : Int32))) 52 2 (FI0 52 2 + w)) 51 0 (0 : Int32)) 51 2 (0 : Int32)) 51 3 (0 : Int32)) q = (h_up (h_up FI4 q 2 w) q 3 f) q := by rw [h_up_nc (by omega), h_up_nc (by omega), h_up_nc (by omega), h_up_nc (by omega), h_up_nc (by omega)]
  have er : ∀ r, rw0 SH r → (h_up (h_up (h_up (h_up (h_up (h_up (h_up FI4 q 2 w) q 3 f) 52 1 (FI0 52 1 + (1 : Int32))) 52 2 (FI0 52 2 + w)) 51 0 (0 : Int32)) 51 2 (0 : Int32)) 51 3 (0 : Int32)) r = FI0 r := fun r h1 => r1 r (by have := hr r h1; omega) (by have := hr r h1; omega) (by have := hr r h1; omega)
  have kF : kzI FI FL FR (h_up (h_up (h_up (h_up (h_up (h_up (h_up (h_up FI4 q 2 w) q 3 f) 52 1 (FI0 52 1 + (1 : Int32))) 52 2 (FI0 52 2 + w)) 51 0 (0 : Int32)) 51 2 (0 : Int32)) 51 3 (0 : Int32)) 49 5 (0 : Int32)) (h_up (h_up FL0 q 1 (FL0 51 1)) 51 1 (0 : Int64)) (h_up FR q 4 (FR 51 4)) := by
    refine kzI_tr k0 ⟨fun c hc => ⟨?_, ?_, ?_⟩, fun c hc => ?_⟩
    · rw [h_up_nc (by omega)]; exact r1 c (by omega) (by omega) (by omega)
    · rw [h_up_nc (by omega), h_up_nc (by omega)]
    · rw [h_up_nc (by omega)]
    · rw [h_up_nc (by omega)]
  refine ⟨by rw [ev]; (first | decide | (simp; done) | (simp [ms_0]; done)), _, _, _, e, kF, ?_, ?_, ?_, ?_, ?_, ?_⟩
  · have er2 : ∀ r, rw0 SH r → (h_up (h_up (h_up (h_up (h_up (h_up (h_up (h_up FI4 q 2 w) q 3 f) 52 1 (FI0 52 1 + (1 : Int32))) 52 2 (FI0 52 2 + w)) 51 0 (0 : Int32)) 51 2 (0 : Int32)) 51 3 (0 : Int32)) 49 5 (0 : Int32)) r = FI0 r := fun r h1 => by rw [h_up_nc (by have := hr r h1; omega)]; exact er r h1
    refine ⟨by rw [h_up_eq]; (first | decide | (simp; done) | (simp [ms_0]; done)), by first | decide | (simp; done) | (simp [ms_0]; done), trivial, ⟨⟨?_, ?_, Or.inl ⟨rfl, rfl⟩, fun e => absurd e (by first | decide | (simp; done) | (simp [ms_0]; done))⟩, ?_, ?_⟩, ?_, hn, ?_, ?_, ?_, ⟨⟨?_, ?_, ?_, hW.1, hW.2, hD.1, hD.2⟩, ?_⟩⟩
    · rw [h_up_nc (by first | decide | (simp; done) | (simp [ms_0]; done)), h_up_ne (by first | decide | (simp; done) | (simp [ms_0]; done)), h_up_ne (by first | decide | (simp; done) | (simp [ms_0]; done)), h_up_eq]; (first | decide | (simp; done) | (simp [ms_0]; done))
    · rw [h_up_eq]; rfl
    · rw [h_up_nc (by first | decide | (simp; done) | (simp [ms_0]; done)), h_up_ne (by first | decide | (simp; done) | (simp [ms_0]; done)), h_up_eq]
    · rw [h_up_nc (by first | decide | (simp; done) | (simp [ms_0]; done)), h_up_eq]
    · rw [h_up_nc (by first | decide | (simp; done) | (simp [ms_0]; done)), h_up_nc (by first | decide | (simp; done) | (simp [ms_0]; done)), h_up_nc (by first | decide | (simp; done) | (simp [ms_0]; done)), h_up_nc (by first | decide | (simp; done) | (simp [ms_0]; done)), h_up_ne (by first | decide | (simp; done) | (simp [ms_0]; done)), h_up_eq, i_add v5 (by first | decide | (simp; done) | (simp [ms_0]; done) : ((1 : Int32)).toInt = 1) (by omega) (by omega)]
      simp only [List.length_cons]
      omega
    · rw [h_up_nc (by first | decide | (simp; done) | (simp [ms_0]; done)), h_up_nc (by first | decide | (simp; done) | (simp [ms_0]; done)), h_up_nc (by first | decide | (simp; done) | (simp [ms_0]; done)), h_up_nc (by first | decide | (simp; done) | (simp [ms_0]; done)), h_up_eq, i_add v7 hw (by omega) (by omega)]
      show _ = W + ms_tb s.2.2
      omega
    · show 0 ≤ W + ms_tb s.2.2
      omega
    · show W + ms_tb s.2.2 ≤ 4096
      omega
    · rw [hq]
      refine ct_cp f2 (fun r h1 => ?_) ?_ ?_ rfl ?_
      · rw [er2 r h1, f1 r (by have := hr r h1; omega)]
      · rw [h_up_nc (by omega), rq, h_up_ne (by first | decide | (simp; done) | (simp [ms_0]; done)), h_up_ne (by first | decide | (simp; done) | (simp [ms_0]; done))]
      · rw [h_up_nc (by omega)]
      · rw [h_up_nc (by omega), rq, h_up_ne (by first | decide | (simp; done) | (simp [ms_0]; done)), h_up_ne (by first | decide | (simp; done) | (simp [ms_0]; done))]
    · rw [hq, h_up_nc (by omega), rq, h_up_ne (by first | decide | (simp; done) | (simp [ms_0]; done)), h_up_eq]; exact hw
    · rw [hq, h_up_nc (by omega), rq, h_up_eq]; exact hf
    · exact lv_mono (fun i p hi _ hp => cq_fr hp er2 (by rw [h_up_nc (by omega)]; exact r1 _ (by omega) (by omega) (by omega)) (by rw [h_up_nc (by omega), h_up_nc (by omega)]) (by rw [h_up_nc (by omega)])) v10
  · rw [h_up_ne (by first | decide | (simp; done) | (simp [ms_0]; done)), r1 _ (by omega) (by omega) (by omega), g0 _ (by omega)]
  · rw [h_up_ne (by first | decide | (simp; done) | (simp [ms_0]; done)), r1 _ (by omega) (by omega) (by omega), g0 _ (by omega)]
  · rw [h_up_ne (by first | decide | (simp; done) | (simp [ms_0]; done)), r1 _ (by omega) (by omega) (by omega), g0 _ (by omega)]
  · rw [h_up_nc (by omega), h_up_nc (by omega), g0l _ (by omega)]
  · rw [h_up_nc (by omega), h_up_nc (by omega), g0l _ (by omega)]
/-- a run begins -/
theorem c_resetI {a1 a2 : Int32} {f : Nat} (hS : h_S n SH) (ht : thI FR) (h1 : a1.toInt - a2.toInt = f) (h2 : 0 ≤ a2.toInt) (h3 : a1.toInt ≤ 1000) (h : RX9_resetI a1 a2 n sl SH FI FL FR u st) : ∃ F2 L2, st = (n, sl, SH, F2, L2, FR) ∧ kzI FI FL FR F2 L2 FR ∧ cvI F2 L2 FR SH ([], ms_0, []) ∧ cuI F2 f := by
  obtain ⟨u1, n1, sl1, SH1, FI1, FL1, FR1, ⟨-, e1⟩, u2, n2, sl2, SH2, FI2, FL2, FR2, hc, -, e⟩ := h
  cases e1
  obtain ⟨v2, n3, sl3, SH3, FI3, FL3, FR3, ⟨c1, ec1, -, ev, e3⟩, c4, ec4, u5, n5, sl5, SH5, FI5, FL5, FR5, ⟨-, e5⟩, -, e2⟩ := hc
  cases e3
  rw [ht.1] at ec1
  cases ec1
  rw [ev, ht.2 0 (by first | decide | (simp; done) | (simp [ms_0]; done))] at ec4
  cases ec4
  cases e5
  cases e2
  refine ⟨_, _, e, ⟨fun c hc => ⟨?_, ?_, rfl⟩, fun c _ => rfl⟩, ⟨?_, by first | decide | (simp; done) | (simp [ms_0]; done), trivial, ⟨⟨?_, ?_, Or.inl ⟨rfl, rfl⟩, fun e => absurd e (by first | decide | (simp; done) | (simp [ms_0]; done))⟩, ?_, ?_⟩, ?_, by first | decide | (simp; done) | (simp [ms_0]; done), ?_, by first | decide | (simp; done) | (simp [ms_0]; done), by first | decide | (simp; done) | (simp [ms_0]; done), trivial⟩, ?_, ?_, ?_⟩
  · rw [h_up_nc (by omega), h_up_nc (by omega), h_up_nc (by omega), h_up_nc (by omega), h_up_nc (by omega), h_up_nc (by omega), h_up_nc (by omega), h_up_nc (by omega), h_up_nc (by omega), h_up_nc (by omega), h_up_nc (by omega), h_up_nc (by omega)]
  · rw [h_up_nc (by omega), h_up_nc (by omega)]
  · rw [h_up_nc (by first | decide | (simp; done) | (simp [ms_0]; done)), h_up_nc (by first | decide | (simp; done) | (simp [ms_0]; done)), h_up_nc (by first | decide | (simp; done) | (simp [ms_0]; done)), h_up_nc (by first | decide | (simp; done) | (simp [ms_0]; done)), h_up_nc (by first | decide | (simp; done) | (simp [ms_0]; done)), h_up_nc (by first | decide | (simp; done) | (simp [ms_0]; done)), h_up_nc (by first | decide | (simp; done) | (simp [ms_0]; done)), h_up_nc (by first | decide | (simp; done) | (simp [ms_0]; done)), h_up_eq]; (first | decide | (simp; done) | (simp [ms_0]; done))
  · rw [h_up_nc (by first | decide | (simp; done) | (simp [ms_0]; done)), h_up_nc (by first | decide | (simp; done) | (simp [ms_0]; done)), h_up_nc (by first | decide | (simp; done) | (simp [ms_0]; done)), h_up_nc (by first | decide | (simp; done) | (simp [ms_0]; done)), h_up_nc (by first | decide | (simp; done) | (simp [ms_0]; done)), h_up_ne (by first | decide | (simp; done) | (simp [ms_0]; done)), h_up_ne (by first | decide | (simp; done) | (simp [ms_0]; done)), h_up_eq]; (first | decide | (simp; done) | (simp [ms_0]; done))
  · rw [h_up_nc (by first | decide | (simp; done) | (simp [ms_0]; done)), h_up_eq]; rfl
  · rw [h_up_nc (by first | decide | (simp; done) | (simp [ms_0]; done)), h_up_nc (by first | decide | (simp; done) | (simp [ms_0]; done)), h_up_nc (by first | decide | (simp; done) | (simp [ms_0]; done)), h_up_nc (by first | decide | (simp; done) | (simp [ms_0]; done)), h_up_nc (by first | decide | (simp; done) | (simp [ms_0]; done)), h_up_ne (by first | decide | (simp; done) | (simp [ms_0]; done)), h_up_eq]
  · rw [h_up_nc (by first | decide | (simp; done) | (simp [ms_0]; done)), h_up_nc (by first | decide | (simp; done) | (simp [ms_0]; done)), h_up_nc (by first | decide | (simp; done) | (simp [ms_0]; done)), h_up_nc (by first | decide | (simp; done) | (simp [ms_0]; done)), h_up_nc (by first | decide | (simp; done) | (simp [ms_0]; done)), h_up_eq]
  · rw [h_up_nc (by first | decide | (simp; done) | (simp [ms_0]; done)), h_up_nc (by first | decide | (simp; done) | (simp [ms_0]; done)), h_up_nc (by first | decide | (simp; done) | (simp [ms_0]; done)), h_up_ne (by first | decide | (simp; done) | (simp [ms_0]; done)), h_up_eq]; (first | decide | (simp; done) | (simp [ms_0]; done))
  · rw [h_up_nc (by first | decide | (simp; done) | (simp [ms_0]; done)), h_up_nc (by first | decide | (simp; done) | (simp [ms_0]; done)), h_up_nc (by first | decide | (simp; done) | (simp [ms_0]; done)), h_up_eq]; (first | decide | (simp; done) | (simp [ms_0]; done))
  · rw [h_up_nc (by first | decide | (simp; done) | (simp [ms_0]; done)), h_up_nc (by first | decide | (simp; done) | (simp [ms_0]; done)), h_up_nc (by first | decide | (simp; done) | (simp [ms_0]; done)), h_up_nc (by first | decide | (simp; done) | (simp [ms_0]; done)), h_up_nc (by first | decide | (simp; done) | (simp [ms_0]; done)), h_up_nc (by first | decide | (simp; done) | (simp [ms_0]; done)), h_up_nc (by first | decide | (simp; done) | (simp [ms_0]; done)), h_up_nc (by first | decide | (simp; done) | (simp [ms_0]; done)), h_up_ne (by first | decide | (simp; done) | (simp [ms_0]; done)), h_up_ne (by first | decide | (simp; done) | (simp [ms_0]; done)), h_up_ne (by first | decide | (simp; done) | (simp [ms_0]; done)), h_up_eq, h_up_ne (by first | decide | (simp; done) | (simp [ms_0]; done)), h_up_ne (by first | decide | (simp; done) | (simp [ms_0]; done)), h_up_eq]; exact h1
  · rw [h_up_nc (by first | decide | (simp; done) | (simp [ms_0]; done)), h_up_nc (by first | decide | (simp; done) | (simp [ms_0]; done)), h_up_nc (by first | decide | (simp; done) | (simp [ms_0]; done)), h_up_nc (by first | decide | (simp; done) | (simp [ms_0]; done)), h_up_nc (by first | decide | (simp; done) | (simp [ms_0]; done)), h_up_nc (by first | decide | (simp; done) | (simp [ms_0]; done)), h_up_nc (by first | decide | (simp; done) | (simp [ms_0]; done)), h_up_nc (by first | decide | (simp; done) | (simp [ms_0]; done)), h_up_ne (by first | decide | (simp; done) | (simp [ms_0]; done)), h_up_ne (by first | decide | (simp; done) | (simp [ms_0]; done)), h_up_eq]; exact h2
  · rw [h_up_nc (by first | decide | (simp; done) | (simp [ms_0]; done)), h_up_nc (by first | decide | (simp; done) | (simp [ms_0]; done)), h_up_nc (by first | decide | (simp; done) | (simp [ms_0]; done)), h_up_nc (by first | decide | (simp; done) | (simp [ms_0]; done)), h_up_nc (by first | decide | (simp; done) | (simp [ms_0]; done)), h_up_nc (by first | decide | (simp; done) | (simp [ms_0]; done)), h_up_nc (by first | decide | (simp; done) | (simp [ms_0]; done)), h_up_nc (by first | decide | (simp; done) | (simp [ms_0]; done)), h_up_ne (by first | decide | (simp; done) | (simp [ms_0]; done)), h_up_ne (by first | decide | (simp; done) | (simp [ms_0]; done)), h_up_ne (by first | decide | (simp; done) | (simp [ms_0]; done)), h_up_eq]; exact h3
/-- a run ends -/
theorem c_settleI (hS : h_S n SH) (ht : thI FR) (hv : cvI FI FL FR SH s) (h : RX9_settleI n sl SH FI FL FR v st) : ∃ F2 L2 R2, st = (n, sl, SH, F2, L2, R2) ∧ kzI FI FL FR F2 L2 R2 ∧ F2 49 = FI 49 ∧ ((s.2.2 ≠ [] ∧ (s.2.1.1 ≠ 0 ∨ s.1 ≠ []) ∧ v.toInt = 13) ∨ (s.2.2 ≠ [] ∧ ¬ (s.2.1.1 ≠ 0 ∨ s.1 ≠ []) ∧ v.toInt = 0 ∧ F2 = FI ∧ L2 = FL ∧ R2 = FR) ∨ (s.2.2 = [] ∧ v.toInt = 0 ∧ (F2 52 1).toInt = 0 ∧ cq F2 L2 R2 SH 54 (ms_tg s, 0, 0))) := by
  have hr := rg_of hS
  obtain ⟨v1, v2, v3, v4, v5, v6, v7, v8, v9, v10⟩ := id hv
  unfold RX9_settleI at h
  rw [v4.1.1, v1, v5] at h
  rcases h with ⟨h0, h⟩ | ⟨h0, h⟩
  · have hne : s.2.2 ≠ [] := fun e => by rw [e] at h0; exact absurd h0 (by first | decide | (simp; done) | (simp [ms_0]; done))
    rcases h with ⟨h1, h⟩ | ⟨h1, e1, e⟩
    · rcases h with ⟨h2, e1, e⟩ | ⟨h2, e1, e⟩
      · exact ⟨_, _, _, e, kzI_rf, rfl, Or.inl ⟨hne, Or.inr (fun e => by rw [e] at h2; exact absurd h2 (by first | decide | (simp; done) | (simp [ms_0]; done))), by rw [e1]; (first | decide | (simp; done) | (simp [ms_0]; done))⟩⟩
      · refine ⟨_, _, _, e, kzI_rf, rfl, Or.inr (Or.inl ⟨hne, ?_, by rw [e1]; (first | decide | (simp; done) | (simp [ms_0]; done)), rfl, rfl, rfl⟩)⟩
        intro q
        rcases q with q | q
        · exact q h1
        · cases hs : s.1 with
          | nil => exact q hs
          | cons a r => rw [hs] at h2; simp only [List.length_cons] at h2; omega
    · exact ⟨_, _, _, e, kzI_rf, rfl, Or.inl ⟨hne, Or.inl h1, by rw [e1]; (first | decide | (simp; done) | (simp [ms_0]; done))⟩⟩
  · have hnil : s.2.2 = [] := by
      cases hs : s.2.2 with
      | nil => rfl
      | cons a r => rw [hs] at h0; simp only [List.length_cons] at h0; exfalso; omega
    obtain ⟨u1, n1, sl1, SH1, FI1, FL1, FR1, h1, v2', n2, sl2, SH2, FI2, FL2, FR2, ⟨c1, ec1, -, ev, e2⟩, c6, ec6, u6, n6, sl6, SH6, FI6, FL6, FR6, h6, e7, e⟩ := h
    obtain ⟨F0, L0, e0, k0, c0, g0, g0l⟩ := c_topI hS hv h1
    cases e0
    cases e2
    rw [ht.1] at ec1
    cases ec1
    rw [ev, ht.2 0 (by first | decide | (simp; done) | (simp [ms_0]; done))] at ec6
    cases ec6
    obtain ⟨F4, e4, f1, f2, f3, f4⟩ := c_takeI (q := 54 + 0) hr (by first | decide | (simp; done) | (simp [ms_0]; done)) (by first | decide | (simp; done) | (simp [ms_0]; done)) c0.2.2.2.1.1 h6
    cases e4
    refine ⟨_, _, _, e, kzI_tr k0 ⟨fun c hc => ⟨f1 c (by omega), h_up_nc (by omega), h_up_nc (by omega)⟩, fun c hc => h_up_nc (by omega)⟩, by rw [f1 _ (by first | decide | (simp; done) | (simp [ms_0]; done)), g0 _ (by first | decide | (simp; done) | (simp [ms_0]; done))], Or.inr (Or.inr ⟨hnil, by rw [e7]; (first | decide | (simp; done) | (simp [ms_0]; done)), ?_, f2, ?_, ?_, by first | decide | (simp; done) | (simp [ms_0]; done), by first | decide | (simp; done) | (simp [ms_0]; done), by first | decide | (simp; done) | (simp [ms_0]; done), by first | decide | (simp; done) | (simp [ms_0]; done)⟩)⟩
    · rw [f1 _ (by first | decide | (simp; done) | (simp [ms_0]; done)), g0 _ (by first | decide | (simp; done) | (simp [ms_0]; done)), v5, hnil]; rfl
    · rw [show (54 : Nat) = 54 + 0 from rfl, f3, c0.2.2.2.1.2.1]; (first | decide | (simp; done) | (simp [ms_0]; done))
    · rw [show (54 : Nat) = 54 + 0 from rfl, f4, c0.2.2.2.1.2.2]; (first | decide | (simp; done) | (simp [ms_0]; done))
end CPI
def th (FR : Nat → Nat → Option Nat) : Prop := FR 72 0 = some 73 ∧ ∀ i, i < 16 → FR 73 i = some (74 + i)
theorem th_of {FR : Nat → Nat → Option Nat} (h : h_FR FR) : th FR := by
  refine ⟨h (72, 0, 73) (by decide +kernel), fun i hi => ?_⟩
  have key : ∀ i : Nat, i < 16 → (73, i, 74 + i) ∈ hf_L := by decide +kernel
  exact h (73, i, 74 + i) (key i hi)
theorem th_k {FI F2 : Nat → Nat → Int32} {FL L2 : Nat → Nat → Int64} {FR R2 : Nat → Nat → Option Nat} (h : th FR) (k : kz FI FL FR F2 L2 R2) : th R2 := by
  unfold th
  rw [k.2 72 (by first | decide | (simp; done) | (simp [ms_0]; done)), k.2 73 (by first | decide | (simp; done) | (simp [ms_0]; done))]
  exact h
section CP
variable {n sl : Nat} {SH : Nat → Nat × Nat} {FI F1 : Nat → Nat → Int32} {FL L1 : Nat → Nat → Int64} {FR R1 : Nat → Nat → Option Nat} {v : Int32} {u : Unit} {st : hS} {s : ms_S} {E : ms_E}
theorem c_top (hS : h_S n SH) (hv : cv FI FL FR SH s) (h : RX9_holdTop n sl SH FI FL FR u st) : ∃ F2 L2, st = (n, sl, SH, F2, L2, FR) ∧ kz FI FL FR F2 L2 FR ∧ cv F2 L2 FR SH (s.1, ms_tg s, s.2.2) ∧ (∀ r, r ≠ 71 → F2 r = FI r) ∧ (∀ r, r ≠ 71 → L2 r = FL r) := by
  obtain ⟨v1, v2, v3, v4, v5, v6, v7, v8, v9, v10⟩ := id hv
  unfold RX9_holdTop at h
  rw [v4.1.1, v1] at h
  unfold ms_tg
  rcases h with ⟨h0, h⟩ | ⟨h0, e1, e⟩
  · rw [if_pos h0]
    obtain ⟨S, sr⟩ := s
    (try dsimp only at h ⊢)
    rcases h with ⟨h2, h⟩ | ⟨h2, e1, e⟩
    · cases S with
      | nil => exact absurd h2 (by first | decide | (simp; done) | (simp [ms_0]; done))
      | cons t R =>
        obtain ⟨w, n1, sl1, SH1, FI1, FL1, FR1, h, e1, e⟩ := h
        rw [c_below (y := t) (k := 0) hS hv (by first | decide | (simp; done) | (simp [ms_0]; done)) rfl] at h
        obtain ⟨F2, L2, e2, q1, q2, q3, q4, -, -⟩ := c_become (H := (1, t, [])) hS hv (by first | decide | (simp; done) | (simp [ms_0]; done)) rfl (Or.inr (Or.inl ⟨rfl, rfl⟩)) (by first | decide | (simp; done) | (simp [ms_0]; done)) h
        cases e2
        exact ⟨_, _, e, q1, q2, q3, q4⟩
    · cases S with
      | cons t R => exfalso; simp only [List.length_cons] at h2; omega
      | nil =>
        have e9 := ms_ok0 v4.1.2.2.1 h0
        refine ⟨_, _, e, kz_rf, ?_, fun _ _ => rfl, fun _ _ => rfl⟩
        rw [← e9]
        exact hv
  · rw [if_neg h0]
    exact ⟨_, _, e, kz_rf, hv, fun _ _ => rfl, fun _ _ => rfl⟩
/-- a Part takes what another has -/
theorem c_take {q : Nat} {H : ms_H} (hr : rg SH) (hq : q ≠ 71) (hq2 : 48 ≤ q ∧ q ≤ 109) (hc : ct FI FL FR SH 71 H) (h : RX5_take q (some 71) n sl SH FI FL FR u st) : ∃ F2, st = (n, sl, SH, F2, h_up FL q 1 (FL 71 1), h_up FR q 4 (FR 71 4)) ∧ (∀ r, r ≠ q → F2 r = FI r) ∧ ct F2 (h_up FL q 1 (FL 71 1)) (h_up FR q 4 (FR 71 4)) SH q H ∧ F2 q 2 = FI 71 2 ∧ F2 q 3 = FI 71 3 := by
  obtain ⟨c1, e1, c2, e2, c3, e3, c4, e4, c5, e5, c6, e6, -, e⟩ := h
  cases e1; cases e2; cases e3; cases e4; cases e5; cases e6
  have a1 : (h_up FI q 0 (FI 71 0)) 71 = FI 71 := h_up_nc (Ne.symm hq)
  have a2 : (h_up (h_up FI q 0 (FI 71 0)) q 2 ((h_up FI q 0 (FI 71 0)) 71 2)) 71 = FI 71 := by rw [h_up_nc (Ne.symm hq), a1]
  have a3 : (h_up (h_up (h_up FI q 0 (FI 71 0)) q 2 ((h_up FI q 0 (FI 71 0)) 71 2)) q 3 ((h_up (h_up FI q 0 (FI 71 0)) q 2 ((h_up FI q 0 (FI 71 0)) 71 2)) 71 3)) 71 = FI 71 := by rw [h_up_nc (Ne.symm hq), a2]
  rw [a3, a2, a1] at e
  refine ⟨_, e, fun r h1 => by rw [h_up_nc h1, h_up_nc h1, h_up_nc h1, h_up_nc h1], ct_cp hc (fun r h1 => ?_) ?_ h_up_eq h_up_eq h_up_eq, ?_, ?_⟩
  · have := hr r h1
    rw [h_up_nc (by omega), h_up_nc (by omega), h_up_nc (by omega), h_up_nc (by omega)]
  · rw [h_up_ne (by first | decide | (simp; done) | (simp [ms_0]; done)), h_up_ne (by first | decide | (simp; done) | (simp [ms_0]; done)), h_up_ne (by first | decide | (simp; done) | (simp [ms_0]; done)), h_up_eq]
  · rw [h_up_ne (by first | decide | (simp; done) | (simp [ms_0]; done)), h_up_ne (by first | decide | (simp; done) | (simp [ms_0]; done)), h_up_eq]
  · rw [h_up_ne (by first | decide | (simp; done) | (simp [ms_0]; done)), h_up_eq]
theorem c_add {w f : Int32} {W D : Int} (hS : h_S n SH) (ht : th FR) (hv : cv FI FL FR SH s) (hn : s.2.2.length < 16) (hw : w.toInt = W) (hf : f.toInt = D) (hW : 0 ≤ W ∧ W ≤ 4096) (hD : 0 ≤ D ∧ D ≤ 4096) (hb : ms_tb s.2.2 + W ≤ 4096) (h : RX9_addPiece w f n sl SH FI FL FR v st) : cr n sl SH FI FL FR v st (.inr ([], ms_0, (ms_tg s, W, D) :: s.2.2)) := by
  have hr := rg_of hS
  obtain ⟨u0, n0, sl0, SH0, FI0, FL0, FR0, h0, u1, n1, sl1, SH1, FI1, FL1, FR1, h1, u2, n2, sl2, SH2, FI2, FL2, FR2, h2, ev, e⟩ := h
  obtain ⟨F0, L0, e0, k0, c0, g0, g0l⟩ := c_top hS hv h0
  cases e0
  obtain ⟨v1, v2, v3, v4, v5, v6, v7, v8, v9, v10⟩ := id c0
  (try dsimp only at v1 v2 v3 v4 v5 v6 v7 v8 v9 v10)
  obtain ⟨c1, ec1, h1⟩ := h1
  rw [ht.1] at ec1
  cases ec1
  have h1 := P_p h1 (by rw [v5, hS.2 73 (by first | decide | (simp; done) | (simp [ms_0]; done)), show (Int32.ofNat (hs_L.getD 73 (0, 0)).2).toInt = 16 by decide +kernel]; omega)
  obtain ⟨c3, ec3, -, c4, ec4, u4, n4, sl4, SH4, FI4, FL4, FR4, h4, c6, ec6, c7, ec7, -, e1⟩ := h1
  rw [ht.1] at ec3
  cases ec3
  have ei : (FI0 72 1).toInt.toNat = s.2.2.length := by omega
  rw [ei, ht.2 _ hn] at ec4 ec6 ec7
  cases ec4; cases ec6; cases ec7
  obtain ⟨F4, e4, f1, f2, f3, f4⟩ := c_take (q := 74 + s.2.2.length) hr (by omega) (by omega) v4.1 h4
  cases e4
  cases e1
  generalize hq : 74 + s.2.2.length = q at f1 f2 f3 f4 h2
  have o1 : (h_up (h_up FI4 q 2 w) q 3 f) 72 1 = FI0 72 1 := by rw [h_up_nc (by omega), h_up_nc (by omega), f1 72 (by omega)]
  have o2 : (h_up (h_up (h_up FI4 q 2 w) q 3 f) 72 1 ((h_up (h_up FI4 q 2 w) q 3 f) 72 1 + (1 : Int32))) 72 2 = FI0 72 2 := by rw [h_up_ne (by first | decide | (simp; done) | (simp [ms_0]; done)), h_up_nc (by omega), h_up_nc (by omega), f1 72 (by omega)]
  rw [o2, o1] at h2
  obtain ⟨-, e2⟩ := h2
  cases e2
  have r1 : ∀ r, r ≠ 71 → r ≠ 72 → r ≠ q → (h_up (h_up (h_up (h_up (h_up (h_up (h_up FI4 q 2 w) q 3 f) 72 1 (FI0 72 1 + (1 : Int32))) 72 2 (FI0 72 2 + w)) 71 0 (0 : Int32)) 71 2 (0 : Int32)) 71 3 (0 : Int32)) r = FI0 r := fun r q1 q2 q3 => by rw [h_up_nc q1, h_up_nc q1, h_up_nc q1, h_up_nc q2, h_up_nc q2, h_up_nc q3, h_up_nc q3]; exact f1 r q3
  have rq : (h_up (h_up (h_up (h_up (h_up (h_up (h_up FI4 q 2 w) q 3 f) 72 1 (FI0 72 1 + (1 : Int32))) 72 2 (FI0 72 2 + w)) 71 0 (0 : Int32)) 71 2 (0 : Int32)) 71 3 (0 : Int32)) q = (h_up (h_up FI4 q 2 w) q 3 f) q := by rw [h_up_nc (by omega), h_up_nc (by omega), h_up_nc (by omega), h_up_nc (by omega), h_up_nc (by omega)]
  have er : ∀ r, rw0 SH r → (h_up (h_up (h_up (h_up (h_up (h_up (h_up FI4 q 2 w) q 3 f) 72 1 (FI0 72 1 + (1 : Int32))) 72 2 (FI0 72 2 + w)) 71 0 (0 : Int32)) 71 2 (0 : Int32)) 71 3 (0 : Int32)) r = FI0 r := fun r h1 => r1 r (by have := hr r h1; omega) (by have := hr r h1; omega) (by have := hr r h1; omega)
  have kF : kz FI FL FR (h_up (h_up (h_up (h_up (h_up (h_up (h_up (h_up FI4 q 2 w) q 3 f) 72 1 (FI0 72 1 + (1 : Int32))) 72 2 (FI0 72 2 + w)) 71 0 (0 : Int32)) 71 2 (0 : Int32)) 71 3 (0 : Int32)) 48 5 (0 : Int32)) (h_up (h_up FL0 q 1 (FL0 71 1)) 71 1 (0 : Int64)) (h_up FR q 4 (FR 71 4)) := by
    refine kz_tr k0 ⟨fun c hc => ⟨?_, ?_, ?_⟩, fun c hc => ?_⟩
    · rw [h_up_nc (by omega)]; exact r1 c (by omega) (by omega) (by omega)
    · rw [h_up_nc (by omega), h_up_nc (by omega)]
    · rw [h_up_nc (by omega)]
    · rw [h_up_nc (by omega)]
  refine ⟨by rw [ev]; (first | decide | (simp; done) | (simp [ms_0]; done)), _, _, _, e, kF, ?_, ?_, ?_, ?_, ?_, ?_⟩
  · have er2 : ∀ r, rw0 SH r → (h_up (h_up (h_up (h_up (h_up (h_up (h_up (h_up FI4 q 2 w) q 3 f) 72 1 (FI0 72 1 + (1 : Int32))) 72 2 (FI0 72 2 + w)) 71 0 (0 : Int32)) 71 2 (0 : Int32)) 71 3 (0 : Int32)) 48 5 (0 : Int32)) r = FI0 r := fun r h1 => by rw [h_up_nc (by have := hr r h1; omega)]; exact er r h1
    refine ⟨by rw [h_up_eq]; (first | decide | (simp; done) | (simp [ms_0]; done)), by first | decide | (simp; done) | (simp [ms_0]; done), trivial, ⟨⟨?_, ?_, Or.inl ⟨rfl, rfl⟩, fun e => absurd e (by first | decide | (simp; done) | (simp [ms_0]; done))⟩, ?_, ?_⟩, ?_, hn, ?_, ?_, ?_, ⟨⟨?_, ?_, ?_, hW.1, hW.2, hD.1, hD.2⟩, ?_⟩⟩
    · rw [h_up_nc (by first | decide | (simp; done) | (simp [ms_0]; done)), h_up_ne (by first | decide | (simp; done) | (simp [ms_0]; done)), h_up_ne (by first | decide | (simp; done) | (simp [ms_0]; done)), h_up_eq]; (first | decide | (simp; done) | (simp [ms_0]; done))
    · rw [h_up_eq]; rfl
    · rw [h_up_nc (by first | decide | (simp; done) | (simp [ms_0]; done)), h_up_ne (by first | decide | (simp; done) | (simp [ms_0]; done)), h_up_eq]
    · rw [h_up_nc (by first | decide | (simp; done) | (simp [ms_0]; done)), h_up_eq]
    · rw [h_up_nc (by first | decide | (simp; done) | (simp [ms_0]; done)), h_up_nc (by first | decide | (simp; done) | (simp [ms_0]; done)), h_up_nc (by first | decide | (simp; done) | (simp [ms_0]; done)), h_up_nc (by first | decide | (simp; done) | (simp [ms_0]; done)), h_up_ne (by first | decide | (simp; done) | (simp [ms_0]; done)), h_up_eq, i_add v5 (by first | decide | (simp; done) | (simp [ms_0]; done) : ((1 : Int32)).toInt = 1) (by omega) (by omega)]
      simp only [List.length_cons]
      omega
    · rw [h_up_nc (by first | decide | (simp; done) | (simp [ms_0]; done)), h_up_nc (by first | decide | (simp; done) | (simp [ms_0]; done)), h_up_nc (by first | decide | (simp; done) | (simp [ms_0]; done)), h_up_nc (by first | decide | (simp; done) | (simp [ms_0]; done)), h_up_eq, i_add v7 hw (by omega) (by omega)]
      show _ = W + ms_tb s.2.2
      omega
    · show 0 ≤ W + ms_tb s.2.2
      omega
    · show W + ms_tb s.2.2 ≤ 4096
      omega
    · rw [hq]
      refine ct_cp f2 (fun r h1 => ?_) ?_ ?_ rfl ?_
      · rw [er2 r h1, f1 r (by have := hr r h1; omega)]
      · rw [h_up_nc (by omega), rq, h_up_ne (by first | decide | (simp; done) | (simp [ms_0]; done)), h_up_ne (by first | decide | (simp; done) | (simp [ms_0]; done))]
      · rw [h_up_nc (by omega)]
      · rw [h_up_nc (by omega), rq, h_up_ne (by first | decide | (simp; done) | (simp [ms_0]; done)), h_up_ne (by first | decide | (simp; done) | (simp [ms_0]; done))]
    · rw [hq, h_up_nc (by omega), rq, h_up_ne (by first | decide | (simp; done) | (simp [ms_0]; done)), h_up_eq]; exact hw
    · rw [hq, h_up_nc (by omega), rq, h_up_eq]; exact hf
    · exact lv_mono (fun i p hi _ hp => cq_fr hp er2 (by rw [h_up_nc (by omega)]; exact r1 _ (by omega) (by omega) (by omega)) (by rw [h_up_nc (by omega), h_up_nc (by omega)]) (by rw [h_up_nc (by omega)])) v10
  · rw [h_up_ne (by first | decide | (simp; done) | (simp [ms_0]; done)), r1 _ (by omega) (by omega) (by omega), g0 _ (by omega)]
  · rw [h_up_ne (by first | decide | (simp; done) | (simp [ms_0]; done)), r1 _ (by omega) (by omega) (by omega), g0 _ (by omega)]
  · rw [h_up_ne (by first | decide | (simp; done) | (simp [ms_0]; done)), r1 _ (by omega) (by omega) (by omega), g0 _ (by omega)]
  · rw [h_up_nc (by omega), h_up_nc (by omega), g0l _ (by omega)]
  · rw [h_up_nc (by omega), h_up_nc (by omega), g0l _ (by omega)]
/-- a run begins -/
theorem c_reset {a1 a2 : Int32} {f : Nat} (hS : h_S n SH) (ht : th FR) (h1 : a1.toInt - a2.toInt = f) (h2 : 0 ≤ a2.toInt) (h3 : a1.toInt ≤ 1000) (h : RX9_reset a1 a2 n sl SH FI FL FR u st) : ∃ F2 L2, st = (n, sl, SH, F2, L2, FR) ∧ kz FI FL FR F2 L2 FR ∧ cv F2 L2 FR SH ([], ms_0, []) ∧ cu F2 f := by
  obtain ⟨u1, n1, sl1, SH1, FI1, FL1, FR1, ⟨-, e1⟩, u2, n2, sl2, SH2, FI2, FL2, FR2, hc, -, e⟩ := h
  cases e1
  obtain ⟨v2, n3, sl3, SH3, FI3, FL3, FR3, ⟨c1, ec1, -, ev, e3⟩, c4, ec4, u5, n5, sl5, SH5, FI5, FL5, FR5, ⟨-, e5⟩, -, e2⟩ := hc
  cases e3
  rw [ht.1] at ec1
  cases ec1
  rw [ev, ht.2 0 (by first | decide | (simp; done) | (simp [ms_0]; done))] at ec4
  cases ec4
  cases e5
  cases e2
  refine ⟨_, _, e, ⟨fun c hc => ⟨?_, ?_, rfl⟩, fun c _ => rfl⟩, ⟨?_, by first | decide | (simp; done) | (simp [ms_0]; done), trivial, ⟨⟨?_, ?_, Or.inl ⟨rfl, rfl⟩, fun e => absurd e (by first | decide | (simp; done) | (simp [ms_0]; done))⟩, ?_, ?_⟩, ?_, by first | decide | (simp; done) | (simp [ms_0]; done), ?_, by first | decide | (simp; done) | (simp [ms_0]; done), by first | decide | (simp; done) | (simp [ms_0]; done), trivial⟩, ?_, ?_, ?_⟩
  · rw [h_up_nc (by omega), h_up_nc (by omega), h_up_nc (by omega), h_up_nc (by omega), h_up_nc (by omega), h_up_nc (by omega), h_up_nc (by omega), h_up_nc (by omega), h_up_nc (by omega), h_up_nc (by omega), h_up_nc (by omega), h_up_nc (by omega)]
  · rw [h_up_nc (by omega), h_up_nc (by omega)]
  · rw [h_up_nc (by first | decide | (simp; done) | (simp [ms_0]; done)), h_up_nc (by first | decide | (simp; done) | (simp [ms_0]; done)), h_up_nc (by first | decide | (simp; done) | (simp [ms_0]; done)), h_up_nc (by first | decide | (simp; done) | (simp [ms_0]; done)), h_up_nc (by first | decide | (simp; done) | (simp [ms_0]; done)), h_up_nc (by first | decide | (simp; done) | (simp [ms_0]; done)), h_up_nc (by first | decide | (simp; done) | (simp [ms_0]; done)), h_up_nc (by first | decide | (simp; done) | (simp [ms_0]; done)), h_up_eq]; (first | decide | (simp; done) | (simp [ms_0]; done))
  · rw [h_up_nc (by first | decide | (simp; done) | (simp [ms_0]; done)), h_up_nc (by first | decide | (simp; done) | (simp [ms_0]; done)), h_up_nc (by first | decide | (simp; done) | (simp [ms_0]; done)), h_up_nc (by first | decide | (simp; done) | (simp [ms_0]; done)), h_up_nc (by first | decide | (simp; done) | (simp [ms_0]; done)), h_up_ne (by first | decide | (simp; done) | (simp [ms_0]; done)), h_up_ne (by first | decide | (simp; done) | (simp [ms_0]; done)), h_up_eq]; (first | decide | (simp; done) | (simp [ms_0]; done))
  · rw [h_up_nc (by first | decide | (simp; done) | (simp [ms_0]; done)), h_up_eq]; rfl
  · rw [h_up_nc (by first | decide | (simp; done) | (simp [ms_0]; done)), h_up_nc (by first | decide | (simp; done) | (simp [ms_0]; done)), h_up_nc (by first | decide | (simp; done) | (simp [ms_0]; done)), h_up_nc (by first | decide | (simp; done) | (simp [ms_0]; done)), h_up_nc (by first | decide | (simp; done) | (simp [ms_0]; done)), h_up_ne (by first | decide | (simp; done) | (simp [ms_0]; done)), h_up_eq]
  · rw [h_up_nc (by first | decide | (simp; done) | (simp [ms_0]; done)), h_up_nc (by first | decide | (simp; done) | (simp [ms_0]; done)), h_up_nc (by first | decide | (simp; done) | (simp [ms_0]; done)), h_up_nc (by first | decide | (simp; done) | (simp [ms_0]; done)), h_up_nc (by first | decide | (simp; done) | (simp [ms_0]; done)), h_up_eq]
  · rw [h_up_nc (by first | decide | (simp; done) | (simp [ms_0]; done)), h_up_nc (by first | decide | (simp; done) | (simp [ms_0]; done)), h_up_nc (by first | decide | (simp; done) | (simp [ms_0]; done)), h_up_ne (by first | decide | (simp; done) | (simp [ms_0]; done)), h_up_eq]; (first | decide | (simp; done) | (simp [ms_0]; done))
  · rw [h_up_nc (by first | decide | (simp; done) | (simp [ms_0]; done)), h_up_nc (by first | decide | (simp; done) | (simp [ms_0]; done)), h_up_nc (by first | decide | (simp; done) | (simp [ms_0]; done)), h_up_eq]; (first | decide | (simp; done) | (simp [ms_0]; done))
  · rw [h_up_nc (by first | decide | (simp; done) | (simp [ms_0]; done)), h_up_nc (by first | decide | (simp; done) | (simp [ms_0]; done)), h_up_nc (by first | decide | (simp; done) | (simp [ms_0]; done)), h_up_nc (by first | decide | (simp; done) | (simp [ms_0]; done)), h_up_nc (by first | decide | (simp; done) | (simp [ms_0]; done)), h_up_nc (by first | decide | (simp; done) | (simp [ms_0]; done)), h_up_nc (by first | decide | (simp; done) | (simp [ms_0]; done)), h_up_nc (by first | decide | (simp; done) | (simp [ms_0]; done)), h_up_ne (by first | decide | (simp; done) | (simp [ms_0]; done)), h_up_ne (by first | decide | (simp; done) | (simp [ms_0]; done)), h_up_ne (by first | decide | (simp; done) | (simp [ms_0]; done)), h_up_eq, h_up_ne (by first | decide | (simp; done) | (simp [ms_0]; done)), h_up_ne (by first | decide | (simp; done) | (simp [ms_0]; done)), h_up_eq]; exact h1
  · rw [h_up_nc (by first | decide | (simp; done) | (simp [ms_0]; done)), h_up_nc (by first | decide | (simp; done) | (simp [ms_0]; done)), h_up_nc (by first | decide | (simp; done) | (simp [ms_0]; done)), h_up_nc (by first | decide | (simp; done) | (simp [ms_0]; done)), h_up_nc (by first | decide | (simp; done) | (simp [ms_0]; done)), h_up_nc (by first | decide | (simp; done) | (simp [ms_0]; done)), h_up_nc (by first | decide | (simp; done) | (simp [ms_0]; done)), h_up_nc (by first | decide | (simp; done) | (simp [ms_0]; done)), h_up_ne (by first | decide | (simp; done) | (simp [ms_0]; done)), h_up_ne (by first | decide | (simp; done) | (simp [ms_0]; done)), h_up_eq]; exact h2
  · rw [h_up_nc (by first | decide | (simp; done) | (simp [ms_0]; done)), h_up_nc (by first | decide | (simp; done) | (simp [ms_0]; done)), h_up_nc (by first | decide | (simp; done) | (simp [ms_0]; done)), h_up_nc (by first | decide | (simp; done) | (simp [ms_0]; done)), h_up_nc (by first | decide | (simp; done) | (simp [ms_0]; done)), h_up_nc (by first | decide | (simp; done) | (simp [ms_0]; done)), h_up_nc (by first | decide | (simp; done) | (simp [ms_0]; done)), h_up_nc (by first | decide | (simp; done) | (simp [ms_0]; done)), h_up_ne (by first | decide | (simp; done) | (simp [ms_0]; done)), h_up_ne (by first | decide | (simp; done) | (simp [ms_0]; done)), h_up_ne (by first | decide | (simp; done) | (simp [ms_0]; done)), h_up_eq]; exact h3
/-- a run ends -/
theorem c_settle (hS : h_S n SH) (ht : th FR) (hv : cv FI FL FR SH s) (h : RX9_settle n sl SH FI FL FR v st) : ∃ F2 L2 R2, st = (n, sl, SH, F2, L2, R2) ∧ kz FI FL FR F2 L2 R2 ∧ F2 48 = FI 48 ∧ ((s.2.2 ≠ [] ∧ (s.2.1.1 ≠ 0 ∨ s.1 ≠ []) ∧ v.toInt = 13) ∨ (s.2.2 ≠ [] ∧ ¬ (s.2.1.1 ≠ 0 ∨ s.1 ≠ []) ∧ v.toInt = 0 ∧ F2 = FI ∧ L2 = FL ∧ R2 = FR) ∨ (s.2.2 = [] ∧ v.toInt = 0 ∧ (F2 72 1).toInt = 0 ∧ cq F2 L2 R2 SH 74 (ms_tg s, 0, 0))) := by
  have hr := rg_of hS
  obtain ⟨v1, v2, v3, v4, v5, v6, v7, v8, v9, v10⟩ := id hv
  unfold RX9_settle at h
  rw [v4.1.1, v1, v5] at h
  rcases h with ⟨h0, h⟩ | ⟨h0, h⟩
  · have hne : s.2.2 ≠ [] := fun e => by rw [e] at h0; exact absurd h0 (by first | decide | (simp; done) | (simp [ms_0]; done))
    rcases h with ⟨h1, h⟩ | ⟨h1, e1, e⟩
    · rcases h with ⟨h2, e1, e⟩ | ⟨h2, e1, e⟩
      · exact ⟨_, _, _, e, kz_rf, rfl, Or.inl ⟨hne, Or.inr (fun e => by rw [e] at h2; exact absurd h2 (by first | decide | (simp; done) | (simp [ms_0]; done))), by rw [e1]; (first | decide | (simp; done) | (simp [ms_0]; done))⟩⟩
      · refine ⟨_, _, _, e, kz_rf, rfl, Or.inr (Or.inl ⟨hne, ?_, by rw [e1]; (first | decide | (simp; done) | (simp [ms_0]; done)), rfl, rfl, rfl⟩)⟩
        intro q
        rcases q with q | q
        · exact q h1
        · cases hs : s.1 with
          | nil => exact q hs
          | cons a r => rw [hs] at h2; simp only [List.length_cons] at h2; omega
    · exact ⟨_, _, _, e, kz_rf, rfl, Or.inl ⟨hne, Or.inl h1, by rw [e1]; (first | decide | (simp; done) | (simp [ms_0]; done))⟩⟩
  · have hnil : s.2.2 = [] := by
      cases hs : s.2.2 with
      | nil => rfl
      | cons a r => rw [hs] at h0; simp only [List.length_cons] at h0; exfalso; omega
    obtain ⟨u1, n1, sl1, SH1, FI1, FL1, FR1, h1, v2', n2, sl2, SH2, FI2, FL2, FR2, ⟨c1, ec1, -, ev, e2⟩, c6, ec6, u6, n6, sl6, SH6, FI6, FL6, FR6, h6, e7, e⟩ := h
    obtain ⟨F0, L0, e0, k0, c0, g0, g0l⟩ := c_top hS hv h1
    cases e0
    cases e2
    rw [ht.1] at ec1
    cases ec1
    rw [ev, ht.2 0 (by first | decide | (simp; done) | (simp [ms_0]; done))] at ec6
    cases ec6
    obtain ⟨F4, e4, f1, f2, f3, f4⟩ := c_take (q := 74 + 0) hr (by first | decide | (simp; done) | (simp [ms_0]; done)) (by first | decide | (simp; done) | (simp [ms_0]; done)) c0.2.2.2.1.1 h6
    cases e4
    refine ⟨_, _, _, e, kz_tr k0 ⟨fun c hc => ⟨f1 c (by omega), h_up_nc (by omega), h_up_nc (by omega)⟩, fun c hc => h_up_nc (by omega)⟩, by rw [f1 _ (by first | decide | (simp; done) | (simp [ms_0]; done)), g0 _ (by first | decide | (simp; done) | (simp [ms_0]; done))], Or.inr (Or.inr ⟨hnil, by rw [e7]; (first | decide | (simp; done) | (simp [ms_0]; done)), ?_, f2, ?_, ?_, by first | decide | (simp; done) | (simp [ms_0]; done), by first | decide | (simp; done) | (simp [ms_0]; done), by first | decide | (simp; done) | (simp [ms_0]; done), by first | decide | (simp; done) | (simp [ms_0]; done)⟩)⟩
    · rw [f1 _ (by first | decide | (simp; done) | (simp [ms_0]; done)), g0 _ (by first | decide | (simp; done) | (simp [ms_0]; done)), v5, hnil]; rfl
    · rw [show (74 : Nat) = 74 + 0 from rfl, f3, c0.2.2.2.1.2.1]; (first | decide | (simp; done) | (simp [ms_0]; done))
    · rw [show (74 : Nat) = 74 + 0 from rfl, f4, c0.2.2.2.1.2.2]; (first | decide | (simp; done) | (simp [ms_0]; done))
end CP
