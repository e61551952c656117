section
/-! THE TREES THAT COMPILE LEAVES, and what keeps them. -/
def nd_ag (FI : Nat → Nat → Int32) (FL : Nat → Nat → Int64) (FR : Nat → Nat → Option Nat) (F2 : Nat → Nat → Int32) (L2 : Nat → Nat → Int64) (R2 : Nat → Nat → Option Nat) (c : Nat) : Prop := F2 c 0 = FI c 0 ∧ F2 c 2 = FI c 2 ∧ L2 c 1 = FL c 1 ∧ R2 c 3 = FR c 3 ∧ R2 c 4 = FR c 4 ∧ R2 c 5 = FR c 5 ∧ R2 c 6 = FR c 6
/-- what two descriptions must share of the cells that came later -/
def ty_ag (n : Nat) (SH : Nat → Nat × Nat) (FI : Nat → Nat → Int32) (FL : Nat → Nat → Int64) (FR : Nat → Nat → Option Nat) (S2 : Nat → Nat × Nat) (F2 : Nat → Nat → Int32) (L2 : Nat → Nat → Int64) (R2 : Nat → Nat → Option Nat) : Prop := ∀ c, 176 ≤ c → c < n → ((SH c).1 = 3 → nd_ag FI FL FR F2 L2 R2 c) ∧ ((SH c).1 = 6 → F2 c 0 = FI c 0 ∧ L2 c 1 = FL c 1 ∧ R2 c 2 = FR c 2 ∧ R2 c 3 = FR c 3 ∧ F2 c 4 = FI c 4 ∧ R2 c 5 = FR c 5) ∧ ((SH c).1 = 10 → F2 c 5 = FI c 5 ∧ R2 c 2 = FR c 2 ∧ R2 c 3 = FR c 3 ∧ R2 c 4 = FR c 4) ∧ ((SH c).1 = 100 → F2 c = FI c ∧ S2 c = SH c) ∧ ((SH c).1 = 101 → L2 c = FL c) ∧ ((SH c).1 = 104 ∨ (SH c).1 = 105 → R2 c = FR c ∧ S2 c = SH c)
section TY
variable {base n sl n2 sl2 : Nat} {SH SH2 S2 : Nat → Nat × Nat} {FI F2 : Nat → Nat → Int32} {FL L2 : Nat → Nat → Int64} {FR R2 : Nat → Nat → Option Nat} {c x m : Nat} {code C : List Int} {V : List lp_V}
theorem sm_rk {j : Nat} (h : h_sm base (n, sl, SH, FI, FL, FR) (n2, sl2, SH2, F2, L2, R2)) (hc : c < n) (hj : j = 4 ∨ j = 5 ∨ j = 6) (hs : (SH c).1 = 100 + j) : SH2 c = SH c ∧ FR c = R2 c := by
  have e : SH c = (100 + j, (SH c).2) := Prod.ext hs rfl
  obtain ⟨a, b⟩ := sm_a h hc e
  have b2 : (fun i => h_rf base (FR c i)) = fun i => h_rf base (R2 c i) := by
    rcases hj with rfl | rfl | rfl
    · exact Sum.inr.inj (Sum.inr.inj (Sum.inr.inj (Sum.inr.inj b)))
    · exact Sum.inr.inj (Sum.inr.inj (Sum.inr.inj (Sum.inr.inj b)))
    · exact Sum.inr.inj (Sum.inr.inj (Sum.inr.inj (Sum.inr.inj b)))
  refine ⟨a.trans e.symm, funext fun i => rf_inj (base := base) ?_⟩
  have this : h_rf base (FR c i) = h_rf base (R2 c i) := congrFun b2 i
  rw [this]
theorem ty_eq (e : ∀ c k, 176 ≤ c → c < n → F2 c k = FI c k ∧ L2 c k = FL c k ∧ R2 c k = FR c k) (s : ∀ c, c < n → S2 c = SH c) : ty_ag n SH FI FL FR S2 F2 L2 R2 := fun c h1 h2 =>
  ⟨fun _ => ⟨(e c 0 h1 h2).1, (e c 2 h1 h2).1, (e c 1 h1 h2).2.1, (e c 3 h1 h2).2.2, (e c 4 h1 h2).2.2, (e c 5 h1 h2).2.2, (e c 6 h1 h2).2.2⟩, fun _ => ⟨(e c 0 h1 h2).1, (e c 1 h1 h2).2.1, (e c 2 h1 h2).2.2, (e c 3 h1 h2).2.2, (e c 4 h1 h2).1, (e c 5 h1 h2).2.2⟩, fun _ => ⟨(e c 5 h1 h2).1, (e c 2 h1 h2).2.2, (e c 3 h1 h2).2.2, (e c 4 h1 h2).2.2⟩, fun _ => ⟨funext fun k => (e c k h1 h2).1, s c h2⟩, fun _ => funext fun k => (e c k h1 h2).2.1, fun _ => ⟨funext fun k => (e c k h1 h2).2.2, s c h2⟩⟩
theorem ty_sm (sm : h_sm base (n, sl, SH, FI, FL, FR) (n2, sl2, S2, F2, L2, R2)) : ty_ag n SH FI FL FR S2 F2 L2 R2 := by
  intro c h1 h2
  refine ⟨fun h => ⟨?_, ?_, ?_, ?_, ?_, ?_, ?_⟩, fun h => ⟨?_, ?_, ?_, ?_, ?_, ?_⟩, fun h => ⟨?_, ?_, ?_, ?_⟩, fun h => ?_, fun h => ?_, fun h => ?_⟩
  · exact (sm_i sm h2 h (by first | decide | (simp; done) | (simp [ms_0]; done)) (by first | decide | (simp; done) | (simp [ms_0]; done)) (fun _ _ _ => rfl)).symm
  · exact (sm_i sm h2 h (by first | decide | (simp; done) | (simp [ms_0]; done)) (by first | decide | (simp; done) | (simp [ms_0]; done)) (fun _ _ _ => rfl)).symm
  · exact (sm_l sm h2 h (by first | decide | (simp; done) | (simp [ms_0]; done)) (by first | decide | (simp; done) | (simp [ms_0]; done)) (fun _ _ _ => rfl)).symm
  · exact (sm_r sm h2 h (by first | decide | (simp; done) | (simp [ms_0]; done)) (by first | decide | (simp; done) | (simp [ms_0]; done)) (fun _ _ _ => rfl)).symm
  · exact (sm_r sm h2 h (by first | decide | (simp; done) | (simp [ms_0]; done)) (by first | decide | (simp; done) | (simp [ms_0]; done)) (fun _ _ _ => rfl)).symm
  · exact (sm_r sm h2 h (by first | decide | (simp; done) | (simp [ms_0]; done)) (by first | decide | (simp; done) | (simp [ms_0]; done)) (fun _ _ _ => rfl)).symm
  · exact (sm_r sm h2 h (by first | decide | (simp; done) | (simp [ms_0]; done)) (by first | decide | (simp; done) | (simp [ms_0]; done)) (fun _ _ _ => rfl)).symm
  · exact (sm_i sm h2 h (by first | decide | (simp; done) | (simp [ms_0]; done)) (by first | decide | (simp; done) | (simp [ms_0]; done)) (fun _ _ _ => rfl)).symm
  · exact (sm_l sm h2 h (by first | decide | (simp; done) | (simp [ms_0]; done)) (by first | decide | (simp; done) | (simp [ms_0]; done)) (fun _ _ _ => rfl)).symm
  · exact (sm_r sm h2 h (by first | decide | (simp; done) | (simp [ms_0]; done)) (by first | decide | (simp; done) | (simp [ms_0]; done)) (fun _ _ _ => rfl)).symm
  · exact (sm_r sm h2 h (by first | decide | (simp; done) | (simp [ms_0]; done)) (by first | decide | (simp; done) | (simp [ms_0]; done)) (fun _ _ _ => rfl)).symm
  · exact (sm_i sm h2 h (by first | decide | (simp; done) | (simp [ms_0]; done)) (by first | decide | (simp; done) | (simp [ms_0]; done)) (fun _ _ _ => rfl)).symm
  · exact (sm_r sm h2 h (by first | decide | (simp; done) | (simp [ms_0]; done)) (by first | decide | (simp; done) | (simp [ms_0]; done)) (fun _ _ _ => rfl)).symm
  · exact (sm_i sm h2 h (by first | decide | (simp; done) | (simp [ms_0]; done)) (by first | decide | (simp; done) | (simp [ms_0]; done)) (fun _ _ _ => rfl)).symm
  · exact (sm_r sm h2 h (by first | decide | (simp; done) | (simp [ms_0]; done)) (by first | decide | (simp; done) | (simp [ms_0]; done)) (fun _ _ _ => rfl)).symm
  · exact (sm_r sm h2 h (by first | decide | (simp; done) | (simp [ms_0]; done)) (by first | decide | (simp; done) | (simp [ms_0]; done)) (fun _ _ _ => rfl)).symm
  · exact (sm_r sm h2 h (by first | decide | (simp; done) | (simp [ms_0]; done)) (by first | decide | (simp; done) | (simp [ms_0]; done)) (fun _ _ _ => rfl)).symm
  · exact ⟨(sm_ia sm h2 h).2.symm, (sm_ia sm h2 h).1⟩
  · exact (sm_la sm h2 h).2.symm
  · rcases h with h | h
    · have q := sm_rk (j := 4) sm h2 (by first | decide | (simp; done) | (simp [ms_0]; done)) h
      exact ⟨q.2.symm, q.1⟩
    · have q := sm_rk (j := 5) sm h2 (by first | decide | (simp; done) | (simp [ms_0]; done)) h
      exact ⟨q.2.symm, q.1⟩
/-- a tree's code, in cells that are shared -/
theorem n_cd_ty {D : Nat → Prop} (ha : ∀ c, D c → nd_ag FI FL FR F2 L2 R2 c) (hc : ∀ c k r, D c → FR c k = some r → D r) : ∀ (f m : Nat) (o : Option Nat) (d : Int), (∀ c, o = some c → D c) → n_cd F2 L2 R2 f m o d = n_cd FI FL FR f m o d := by
  intro f
  induction f with
  | zero => intro m o d _; rfl
  | succ f ih =>
    intro m o d ho
    cases o with
    | none => rfl
    | some c =>
      have Dc := ho c rfl
      obtain ⟨a0, a2, a1, a3, a4, a5, a6⟩ := ha c Dc
      have nx : n_nx F2 L2 R2 c = n_nx FI FL FR c ∧ ∀ e, n_nx FI FL FR c = some e → D e := by
        unfold n_nx
        rw [a0, a6]
        cases e6 : FR c 6 with
        | none =>
          refine ⟨rfl, fun e h => ?_⟩
          split at h <;> cases h
        | some e =>
          have De := hc c 6 e Dc e6
          obtain ⟨b0, b2, b1, -⟩ := ha e De
          (try dsimp only)
          rw [b0, b2, b1]
          refine ⟨rfl, fun x h => ?_⟩
          split at h
          · split at h
            · cases h; exact De
            · cases h
          · cases h
      have r3 : ∀ m d, n_cd F2 L2 R2 f m (FR c 3) d = n_cd FI FL FR f m (FR c 3) d := fun m d => ih m _ d (fun x hx => hc c 3 x Dc hx)
      have r4 : ∀ m d, n_cd F2 L2 R2 f m (FR c 4) d = n_cd FI FL FR f m (FR c 4) d := fun m d => ih m _ d (fun x hx => hc c 4 x Dc hx)
      have r5 : ∀ m d, n_cd F2 L2 R2 f m (FR c 5) d = n_cd FI FL FR f m (FR c 5) d := fun m d => ih m _ d (fun x hx => hc c 5 x Dc hx)
      have r6 : ∀ m d, n_cd F2 L2 R2 f m (FR c 6) d = n_cd FI FL FR f m (FR c 6) d := fun m d => ih m _ d (fun x hx => hc c 6 x Dc hx)
      have rc : ∀ m d, n_cd F2 L2 R2 f m (some c) d = n_cd FI FL FR f m (some c) d := fun m d => ih m _ d (fun x hx => by cases hx; exact Dc)
      show n_st F2 L2 R2 (n_cd F2 L2 R2 f) m c d = n_st FI FL FR (n_cd FI FL FR f) m c d
      unfold n_st
      rw [nx.1]
      simp only [a0, a1, a2, a3, a4, a5, a6, r3, r4, r5, r6, rc]
      cases hx : n_nx FI FL FR c with
      | none => rfl
      | some e =>
        have De := nx.2 e hx
        obtain ⟨b0, b2, b1, -, -, -, b6⟩ := ha e De
        have r6e : ∀ m d, n_cd F2 L2 R2 f m (FR e 6) d = n_cd FI FL FR f m (FR e 6) d := fun m d => ih m _ d (fun x hx => hc e 6 x De hx)
        simp only [b2, b1, b6, r6e]
theorem n_cd_tR (t : ty_ag n SH FI FL FR S2 F2 L2 R2) (hR : g_R n SH FR) (f m : Nat) (o : Option Nat) (d : Int) (ho : ∀ c, o = some c → 176 ≤ c ∧ c < n ∧ (SH c).1 = 3) : n_cd F2 L2 R2 f m o d = n_cd FI FL FR f m o d := by
  refine n_cd_ty (D := fun c => 176 ≤ c ∧ c < n ∧ (SH c).1 = 3) (fun c h => (t c h.1 h.2.1).1 h.2.2) (fun c k r h hr => ?_) f m o d ho
  obtain ⟨g1, g2, g3, g4⟩ := hR.2.1 c k r h.2.1 (Or.inr h.1) hr
  rw [h.2.2] at g3
  exact ⟨g4 h.1, g1, g3⟩
theorem w_pl_ty (t : ty_ag n SH FI FL FR S2 F2 L2 R2) (hR : g_R n SH FR) (h1 : 176 ≤ c) (h2 : c < n) (h3 : (SH c).1 = 6) : w_pl F2 L2 R2 S2 c code ↔ w_pl FI FL FR SH c code := by
  obtain ⟨a0, a1, a2, a3, a4, a5⟩ := (t c h1 h2).2.1 h3
  have nd : ∀ f, n_cd F2 L2 R2 f 0 (FR c 2) 0 = n_cd FI FL FR f 0 (FR c 2) 0 := fun f => n_cd_tR t hR f 0 _ 0 (fun r hr => by
    obtain ⟨g1, g2, g3, g4⟩ := hR.2.1 c 2 r h2 (Or.inr h1) hr
    rw [h3] at g3
    exact ⟨g4 h1, g1, g3.trans (by first | decide | (simp; done) | (simp [ms_0]; done))⟩)
  have bl : ∀ b, FR c 3 = some b → F2 b = FI b ∧ S2 b = SH b := fun b hb => by
    obtain ⟨g1, g2, g3, g4⟩ := hR.2.1 c 3 b h2 (Or.inr h1) hb
    rw [h3] at g3
    exact (t b (g4 h1) g1).2.2.2.1 (g3.trans (by first | decide | (simp; done) | (simp [ms_0]; done)))
  unfold w_pl
  rw [a0, a1, a2, a3]
  simp only [nd]
  constructor
  · rintro ⟨w0, w⟩
    refine ⟨w0, ?_⟩
    rcases w with w | w | w | ⟨k, b, bs, q1, q2, q3, q4, q5, q6⟩ | w
    · exact Or.inl w
    · exact Or.inr (Or.inl w)
    · exact Or.inr (Or.inr (Or.inl w))
    · obtain ⟨y1, y2⟩ := bl b q1
      rw [y2] at q3
      rw [y1] at q5
      exact Or.inr (Or.inr (Or.inr (Or.inl ⟨k, b, bs, q1, q2, q3, q4, q5, q6⟩)))
    · exact Or.inr (Or.inr (Or.inr (Or.inr w)))
  · rintro ⟨w0, w⟩
    refine ⟨w0, ?_⟩
    rcases w with w | w | w | ⟨k, b, bs, q1, q2, q3, q4, q5, q6⟩ | w
    · exact Or.inl w
    · exact Or.inr (Or.inl w)
    · exact Or.inr (Or.inr (Or.inl w))
    · obtain ⟨y1, y2⟩ := bl b q1
      rw [← y2] at q3
      rw [← y1] at q5
      exact Or.inr (Or.inr (Or.inr (Or.inl ⟨k, b, bs, q1, q2, q3, q4, q5, q6⟩)))
    · exact Or.inr (Or.inr (Or.inr (Or.inr w)))
theorem w_ls_ty (t : ty_ag n SH FI FL FR S2 F2 L2 R2) (hR : g_R n SH FR) : ∀ (f : Nat) (o : Option Nat) (code : List Int), (∀ c, o = some c → 176 ≤ c ∧ c < n ∧ (SH c).1 = 6) → (w_ls F2 L2 R2 S2 f o code ↔ w_ls FI FL FR SH f o code) := by
  intro f
  induction f with
  | zero => intro o code _; exact Iff.rfl
  | succ f ih =>
    intro o code ho
    cases o with
    | none => exact Iff.rfl
    | some c =>
      obtain ⟨h1, h2, h3⟩ := ho c rfl
      obtain ⟨a0, a1, a2, a3, a4, a5⟩ := (t c h1 h2).2.1 h3
      have nx : ∀ d, FR c 5 = some d → 176 ≤ d ∧ d < n ∧ (SH d).1 = 6 := fun d hd => by
        obtain ⟨g1, g2, g3, g4⟩ := hR.2.1 c 5 d h2 (Or.inr h1) hd
        rw [h3] at g3
        exact ⟨g4 h1, g1, g3.trans (by first | decide | (simp; done) | (simp [ms_0]; done))⟩
      have e4 : ∀ d, FR c 5 = some d → F2 d 4 = FI d 4 := fun d hd => by
        obtain ⟨g1, g2, g3⟩ := nx d hd
        exact ((t d g1 g2).2.1 g3).2.2.2.2.1
      constructor
      · rintro ⟨a, r, p1, p2, ⟨p3, p4, p5⟩, p6⟩
        rw [a5] at p2 p4 p5
        rw [a4] at p3 p4 p6
        exact ⟨a, r, (w_pl_ty t hR h1 h2 h3).mp p1, (ih _ r nx).mp p2, ⟨p3, p4, fun d hd => by rw [← e4 d hd]; exact p5 d hd⟩, p6⟩
      · rintro ⟨a, r, p1, p2, ⟨p3, p4, p5⟩, p6⟩
        refine ⟨a, r, (w_pl_ty t hR h1 h2 h3).mpr p1, by rw [a5]; exact (ih _ r nx).mpr p2, ⟨by rw [a4]; exact p3, by rw [a4, a5]; exact p4, fun d hd => ?_⟩, by rw [a4]; exact p6⟩
        rw [a5] at hd
        rw [e4 d hd]
        exact p5 d hd
theorem v_ms_ty (t : ty_ag n SH FI FL FR S2 F2 L2 R2) (hR : g_R n SH FR) (h1 : 176 ≤ x) (h2 : x < n) (h3 : (SH x).1 = 10) : v_ms F2 L2 R2 S2 x m C ↔ v_ms FI FL FR SH x m C := by
  obtain ⟨a5, a2, a3, a4⟩ := (t x h1 h2).2.2.1 h3
  have key : FR x 2 = some (x + 1) → FR x 3 = some (x + 2) → FR x 4 = some (x + 3) → L2 (x + 1) = FL (x + 1) ∧ L2 (x + 2) = FL (x + 2) ∧ R2 (x + 3) = FR (x + 3) ∧ ∀ j a, FR (x + 3) j = some a → ∀ f code, w_ls F2 L2 R2 S2 f (some a) code ↔ w_ls FI FL FR SH f (some a) code := by
    intro k2 k3 k4
    obtain ⟨g1, g2, g3, g4⟩ := hR.2.1 x 2 _ h2 (Or.inr h1) k2
    obtain ⟨g5, g6, g7, g8⟩ := hR.2.1 x 3 _ h2 (Or.inr h1) k3
    obtain ⟨g9, ga, gb, gc⟩ := hR.2.1 x 4 _ h2 (Or.inr h1) k4
    rw [h3] at g3 g7 gb
    have t5 : (SH (x + 3)).1 = 105 := gb.trans (by first | decide | (simp; done) | (simp [ms_0]; done))
    refine ⟨(t _ (g4 h1) g1).2.2.2.2.1 (g3.trans (by first | decide | (simp; done) | (simp [ms_0]; done))), (t _ (g8 h1) g5).2.2.2.2.1 (g7.trans (by first | decide | (simp; done) | (simp [ms_0]; done))), ((t _ (gc h1) g9).2.2.2.2.2 (Or.inr t5)).1, fun j a ha f code => w_ls_ty t hR f _ code (fun c hc => ?_)⟩
    cases hc
    obtain ⟨y1, y2, y3, y4⟩ := hR.2.1 (x + 3) j a g9 ga ha
    rw [t5] at y3
    exact ⟨y4 (gc h1), y1, y3⟩
  unfold v_ms
  rw [a5, a2, a3, a4]
  constructor
  · rintro ⟨w0, w1, w2, w3, w⟩
    obtain ⟨b1, b2, b3, b4⟩ := key w1 w2 w3
    rw [b1, b2, b3] at w
    refine ⟨w0, w1, w2, w3, ?_⟩
    rcases w with ⟨m0, f0, a, f, ha, hw⟩ | ⟨Q, q0, q1, q2, q3, q4, q5⟩
    · exact Or.inl ⟨m0, f0, a, f, ha, (b4 0 a ha f _).mp hw⟩
    · refine Or.inr ⟨Q, q0, q1, q2, q3, q4, fun j q hq => ?_⟩
      obtain ⟨y1, y2, y3, y4, a, f, y5, y6⟩ := q5 j q hq
      exact ⟨y1, y2, y3, y4, a, f, y5, (b4 j a y5 f _).mp y6⟩
  · rintro ⟨w0, w1, w2, w3, w⟩
    obtain ⟨b1, b2, b3, b4⟩ := key w1 w2 w3
    rw [b1, b2, b3]
    refine ⟨w0, w1, w2, w3, ?_⟩
    rcases w with ⟨m0, f0, a, f, ha, hw⟩ | ⟨Q, q0, q1, q2, q3, q4, q5⟩
    · exact Or.inl ⟨m0, f0, a, f, ha, (b4 0 a ha f _).mpr hw⟩
    · refine Or.inr ⟨Q, q0, q1, q2, q3, q4, fun j q hq => ?_⟩
      obtain ⟨y1, y2, y3, y4, a, f, y5, y6⟩ := q5 j q hq
      exact ⟨y1, y2, y3, y4, a, f, y5, (b4 j a y5 f _).mpr y6⟩
end TY
/-- the variables' trees -/
def v_cm (F : Nat → Nat → Int32) (L : Nat → Nat → Int64) (R : Nat → Nat → Option Nat) (SH : Nat → Nat × Nat) (n : Nat) (V : List lp_V) : Prop := ∃ vc, R 0 11 = some vc ∧ 176 ≤ vc ∧ vc < n ∧ (SH vc).2 = 12 ∧ ∀ (i : Nat) (v : lp_V), V[i]? = some v → ∃ x, R vc i = some x ∧ v_ms F L R SH x v.2.2.1 v.2.2.2.1
section VM
variable {n n2 : Nat} {SH S2 : Nat → Nat × Nat} {FI F2 : Nat → Nat → Int32} {FL L2 : Nat → Nat → Int64} {FR R2 : Nat → Nat → Option Nat} {V : List lp_V}
theorem v_cm_ty (t : ty_ag n SH FI FL FR S2 F2 L2 R2) (hS : h_S n SH) (hR : g_R n SH FR) (e : R2 0 11 = FR 0 11) (hn : n ≤ n2) (h : v_cm FI FL FR SH n V) : v_cm F2 L2 R2 S2 n2 V := by
  obtain ⟨vc, y1, y2, y3, y4, y5⟩ := h
  obtain ⟨g1, g2, g3, -⟩ := hR.2.1 0 11 vc (c0 hS) (Or.inl (by first | decide | (simp; done) | (simp [ms_0]; done))) y1
  rw [s0 hS] at g3
  have g3 : (SH vc).1 = 104 := g3.trans (by first | decide | (simp; done) | (simp [ms_0]; done))
  obtain ⟨b1, b2⟩ := (t vc y2 y3).2.2.2.2.2 (Or.inl g3)
  refine ⟨vc, e.trans y1, y2, by omega, by rw [b2]; exact y4, fun i v hv => ?_⟩
  obtain ⟨x, x1, x2⟩ := y5 i v hv
  obtain ⟨q1, q2, q3, q4⟩ := hR.2.1 vc i x y3 g2 x1
  rw [g3] at q3
  exact ⟨x, by rw [b1]; exact x1, (v_ms_ty t hR (q4 y2) q1 (q3.trans rfl)).mpr x2⟩
theorem v_cm_dn (t : ty_ag n SH FI FL FR S2 F2 L2 R2) (hS : h_S n SH) (hR : g_R n SH FR) (e : R2 0 11 = FR 0 11) (h : v_cm F2 L2 R2 S2 n V) : v_cm FI FL FR SH n V := by
  obtain ⟨vc, y1, y2, y3, y4, y5⟩ := h
  rw [e] at y1
  obtain ⟨g1, g2, g3, -⟩ := hR.2.1 0 11 vc (c0 hS) (Or.inl (by first | decide | (simp; done) | (simp [ms_0]; done))) y1
  rw [s0 hS] at g3
  have g3 : (SH vc).1 = 104 := g3.trans (by first | decide | (simp; done) | (simp [ms_0]; done))
  obtain ⟨b1, b2⟩ := (t vc y2 y3).2.2.2.2.2 (Or.inl g3)
  refine ⟨vc, y1, y2, y3, by rw [← b2]; exact y4, fun i v hv => ?_⟩
  obtain ⟨x, x1, x2⟩ := y5 i v hv
  rw [b1] at x1
  obtain ⟨q1, q2, q3, q4⟩ := hR.2.1 vc i x y3 g2 x1
  rw [g3] at q3
  exact ⟨x, x1, (v_ms_ty t hR (q4 y2) q1 (q3.trans rfl)).mp x2⟩
end VM
theorem w_lc_ls {F : Nat → Nat → Int32} {L : Nat → Nat → Int64} {R : Nat → Nat → Option Nat} {SH : Nat → Nat × Nat} : ∀ (f : Nat) (o : Option Nat) (code : List Int), w_lc F L R SH f o code → w_ls F L R SH f o code := by
  intro f
  induction f with
  | zero => intro o code h; exact h.elim
  | succ f ih =>
    intro o code h
    cases o with
    | none => exact h
    | some c =>
      obtain ⟨a, r, h1, h2, h3, h4⟩ := h
      exact ⟨a, r, h1, ih _ _ h2, h3, h4⟩
theorem v_ms_of {F : Nat → Nat → Int32} {L : Nat → Nat → Int64} {R : Nat → Nat → Option Nat} {SH : Nat → Nat × Nat} {n vc x : Nat} {v : lp_V} (h : d_va F L R SH n vc x v) (hv : 176 ≤ vc) : v_ms F L R SH x v.2.2.1 v.2.2.2.1 := by
  obtain ⟨h1, h2, h3, h4, h5, -, h6⟩ := h
  have al : ∀ lo hi, m_al lo hi F L R SH F L R SH := fun lo hi => ⟨fun _ _ _ _ => rfl, fun _ _ _ _ => rfl, fun _ _ _ _ => rfl, fun _ _ _ => rfl⟩
  refine ⟨by omega, h3, h4, h5, ?_⟩
  rcases h6 with ⟨y1, y2, y3, a, lo, hi, -, -, y6, y7⟩ | ⟨Q, y1, y2, y3, y4, y5, y6, y7⟩
  · obtain ⟨f, hf⟩ := y7.2 F L R SH (al _ _)
    exact Or.inl ⟨y1, y2, a, f, y6, w_lc_ls f _ _ hf⟩
  · refine Or.inr ⟨Q, y1, y2, y3, y4, y5, fun j q hj => ?_⟩
    obtain ⟨z1, z2, z3, z4, a, lo, hi, -, -, z7, z8⟩ := y7 j q hj
    obtain ⟨f, hf⟩ := z8.2 F L R SH (al _ _)
    exact ⟨z1, z2, z3, z4, a, f, z7, w_lc_ls f _ _ hf⟩
section CLT
variable {vc : Nat} {V : List lp_V} {xs ns : Nat → Nat}
theorem s_71t {lo : Nat} (hlo : 176 ≤ lo) (hvc : lo ≤ vc) (hB : ∀ v, v ∈ V → v.2.2.2.1.length ≤ 100000) : ∀ (g : Nat) (l2 l3 l4 : Int32) (n sl : Nat) (SH : Nat → Nat × Nat) (FI : Nat → Nat → Int32) (FL : Nat → Nat → Int64) (FR : Nat → Nat → Option Nat) (v : Int32) (s : hS) (i : Nat), GX11_compile_71 g l2 l3 l4 n sl SH FI FL FR v s → h_S n SH → FR 110 2 = some vc → vc < n → (FI 110 3).toInt = V.length → V.length ≤ 12 → d_xs FI FL FR SH n vc xs ns V → l2.toInt = 0 → l4.toInt = i → i ≤ V.length → (∀ (j : Nat) (v : lp_V), j < i → V[j]? = some v → v_ok v ∧ d_cd FI FR SH n (xs j) v) → ∃ l2' l3' n2 sl2 SH2 F2 L2 R2, RX11_compile_136 l2' l3' n2 sl2 SH2 F2 L2 R2 v s ∧ b_ce lo SH FI FL FR n2 SH2 F2 L2 R2 ∧ n ≤ n2 ∧ ((l2'.toInt = 0 ∧ (∀ x, x ∈ V → v_ok x) ∧ (∀ k, R2 vc k = FR vc k) ∧ SH2 vc = SH vc ∧ (∀ (j : Nat) (v : lp_V), V[j]? = some v → d_cd F2 R2 SH2 n2 (xs j) v) ∧ d_xs F2 L2 R2 SH2 n2 vc xs ns V) ∨ (l2'.toInt ≠ 0 ∧ ∃ x, x ∈ V ∧ ¬ v_ok x)) := by
  intro g
  induction g with
  | zero => intro l2 l3 l4 n sl SH FI FL FR v s i h; exact h.elim
  | succ g ih =>
    intro l2 l3 l4 n sl SH FI FL FR v s i h hQ hr hvn hc h12 hx h2 h4 hi hcd
    have h176 := hQ.1
    rcases h with ⟨hlt, h⟩ | ⟨hlt, h⟩
    · have hil : i < V.length := by omega
      rcases h with ⟨-, h⟩ | ⟨hn, -⟩
      · obtain ⟨c3, e3, -, v3, n3, sl3, SH3, FI3, FL3, FR3, hk, c5, e5, c6, e6, h⟩ := h
        rw [hr] at e3
        cases e3
        have em : l4.toInt.toNat = i := by omega
        have hvi : V[i]? = some V[i] := List.getElem?_eq_getElem hil
        obtain ⟨y1, y2, y3, y4⟩ := hx i V[i] hvi
        rw [em, y1] at hk e5 e6
        cases e5
        cases e6
        have x1 := y4.1
        have x2 := y4.2.1
        obtain ⟨nm, z1, z2, z3, z4⟩ := y4.2.2.2.2.2.1
        obtain ⟨F1, fr, res⟩ := c_code hQ (by omega) y4.2.2.1 y4.2.2.2.1 y4.2.2.2.2.1 (v_is_bd y4.2.2.2.2.2.2 (hB _ (List.mem_of_getElem? hvi))) hk
        rcases res with ⟨bad, rfl, e⟩ | ⟨good, rfl, sl4, SH4, F4, L4, R4, e, k1, k2, k3, k4, k5, k6⟩
        · cases e
          rcases h with ⟨-, h⟩ | ⟨hn, -⟩
          · obtain ⟨c8, e8, h⟩ := h
            have h136 := s_71f (by first | decide | (simp; done) | (simp [ms_0]; done)) h
            refine ⟨_, _, _, _, _, _, _, _, h136, ⟨by omega, hQ, fun c k g1 g2 g3 => fr c k g2 g3, fun _ _ _ => rfl, fun c k g1 => by rw [h_up_nc (by omega)], fun _ _ => rfl⟩, Nat.le_refl _, Or.inr ⟨by first | decide | (simp; done) | (simp [ms_0]; done), V[i], List.mem_of_getElem? hvi, fun hh => ?_⟩⟩
            rcases bad with bad | bad
            · rw [hh.1] at bad; cases bad
            · have := hh.2; omega
          · exfalso
            exact hn h_up_eq
        · cases e
          rcases h with ⟨hn, -⟩ | ⟨-, h⟩
          · exfalso
            rw [h_up_eq] at hn
            cases hn
          · have vok : v_ok V[i] := by
              constructor
              · cases eb : (V[i]).2.2.2.2 with
                | false => rfl
                | true => exact absurd (Or.inl eb) good
              · omega
            have g0 : ∀ q k, 119 ≠ q → 120 ≠ q → q < n → FI3 q k = FI q k := fun q k w1 w2 w3 => by rw [k4 q (by omega)]; exact fr q k (by omega) (by omega)
            have g2 : ∀ q k, q < n → ¬ (q = xs i ∧ k = 6) → h_up FR3 (xs i) 6 (some n) q k = FR q k := fun q k w3 w4 => by rw [h_up_x w4, k6 q (by omega)]
            have bce : b_ce lo SH FI FL FR (n + 1) SH3 FI3 FL3 (h_up FR3 (xs i) 6 (some n)) := ⟨by omega, ⟨by omega, fun q hq => (k3 q (by omega)).trans (hQ.2 q hq)⟩, fun c k w1 w2 w3 => g0 c k (by omega) (by omega) (by omega), fun c k w1 => by rw [k5 c (by omega)], fun c k w1 => g2 c k (by omega) (by omega), fun c w1 => k3 c (by omega)⟩
            have hx2 : d_xs FI3 FL3 (h_up FR3 (xs i) 6 (some n)) SH3 (n + 1) vc xs ns V := by
              intro j v' hj
              obtain ⟨p1, p2, p3, p4⟩ := hx j v' hj
              have q1 := p4.1
              have q2 := p4.2.1
              refine ⟨by rw [g2 vc j hvn (by omega)]; exact p1, by omega, p3, d_va_fr p4 (fun q k w1 w2 => g0 q k (by omega) (by omega) (by omega)) (fun q k w1 w2 => by rw [k5 q (by omega)]) (fun q k w1 w2 w3 => ?_) (fun q w1 w2 => k3 q (by omega))⟩
              rcases Nat.lt_trichotomy i j with hij | hij | hij
              · have := p3 i hij
                exact g2 q k (by omega) (by omega)
              · subst hij
                exact g2 q k (by omega) w3
              · have := y3 j hij
                exact g2 q k (by omega) (by omega)
            obtain ⟨l2', l3', n5, sl5, SH5, F5, L5, R5, h5, b5, nn5, res⟩ := ih l2 l3 _ (n + 1) sl3 SH3 FI3 FL3 _ v s (i + 1) h bce.2.1 (by rw [g2 110 2 (by omega) (by omega)]; exact hr) (by omega) (by rw [g0 110 3 (by omega) (by omega) (by omega)]; exact hc) h12 hx2 h2 (by rw [i_add h4 (by first | decide | (simp; done) | (simp [ms_0]; done) : ((1 : Int32)).toInt = 1) (by omega) (by omega)]; omega) (by omega) (fun j v' hj hv' => by
              obtain ⟨p1, p2, p3, p4⟩ := hx j v' hv'
              have q1 := p4.1
              have q2 := p4.2.1
              obtain ⟨nm', w1, w2, w3, w4⟩ := p4.2.2.2.2.2.1
              by_cases e : j = i
              · subst e
                rw [hvi] at hv'
                cases hv'
                refine ⟨vok, by rw [g0 (xs j) 5 (by omega) (by omega) (by omega)]; exact v_is_r y4.2.2.2.2.2.2, ⟨nm, by rw [h_up_ne (by first | decide | (simp; done) | (simp [ms_0]; done)), k6 (xs j) (by omega)]; exact z1, by omega, by omega, nm_fr z4 (by funext k; exact g0 nm k (by omega) (by omega) (by omega)) (k3 nm (by omega))⟩, n, h_up_eq, by omega, by omega, k1, vok.2, k2⟩
              · obtain ⟨o1, o2⟩ := hcd j v' (by omega) hv'
                have hne : xs j ≠ xs i := by
                  have := y3 j (by omega)
                  omega
                exact ⟨o1, d_cd_fr o2 ⟨by omega, by omega⟩ g0 (fun k => g2 (xs j) k (by omega) (by omega)) (fun q w => k3 q (by omega)) (by omega)⟩)
            refine ⟨l2', l3', _, _, _, _, _, _, h5, b_ce_t bce b5, by omega, ?_⟩
            rcases res with ⟨r1, r2, r3, r4, r5⟩ | res
            · exact Or.inl ⟨r1, r2, fun k => (r3 k).trans (g2 vc k hvn (by omega)), r4.trans (k3 vc (by omega)), r5⟩
            · exact Or.inr res
      · exact absurd h2 hn
    · have hie : i = V.length := by omega
      refine ⟨l2, l3, _, _, _, _, _, _, h, ⟨by omega, hQ, fun _ _ _ _ _ => rfl, fun _ _ _ => rfl, fun _ _ _ => rfl, fun _ _ => rfl⟩, Nat.le_refl _, Or.inl ⟨h2, fun x hx' => ?_, fun _ => rfl, rfl, fun j v' hj => ?_, hx⟩⟩
      · obtain ⟨j, hj⟩ := List.mem_iff_getElem?.mp hx'
        have := (List.getElem?_eq_some_iff.mp hj).1
        exact (hcd j x (by omega) hj).1
      · have := (List.getElem?_eq_some_iff.mp hj).1
        exact (hcd j v' (by omega) hj).2
end CLT
theorem s_compilet {n sl N T : Nat} {P : Nat → Nat} {X K W : Nat → Int} {SH : Nat → Nat × Nat} {FI : Nat → Nat → Int32} {FL : Nat → Nat → Int64} {FR : Nat → Nat → Option Nat} {v : Int32} {s : hS} (hQ : h_S n SH) (h : RX11_compile n sl SH FI FL FR v s) (ha : (FI 0 9).toInt = N) (hN : N ≤ 1000) (hX : ∀ i, i < N → (FI 19 i).toInt = X i ∧ 0 ≤ X i ∧ X i ≤ 255) (hK : ∀ i x, (t_tl X N 1001 0)[i]? = some x → K i = x.1 ∧ W i = x.2.1) (hk : tk_ok K W P T) (hT : (t_tl X N 1001 0).length = T + 1) : ∃ n2 sl2 SH2 F2 L2 R2, s = (n2, sl2, SH2, F2, L2, R2) ∧ b_cp n SH FI FL FR n2 SH2 F2 L2 R2 ∧ (F2 0 9).toInt = 0 ∧ ∃ F0, ∀ f, F0 ≤ f → match lp_tx K W f 1100 0 [] with
    | none => v = -1 ∧ F2 0 12 = FI 0 12 ∧ R2 0 11 = FR 0 11
    | some V => ((∃ x, x ∈ V ∧ ¬ v_ok x) ∧ v = -1 ∧ F2 0 12 = FI 0 12 ∧ R2 0 11 = FR 0 11) ∨ ((∀ x, x ∈ V → v_ok x) ∧ v.toInt = V.length ∧ v_cl F2 R2 SH2 n2 V ∧ v_cm F2 L2 R2 SH2 n2 V) := by
  have h176 := hQ.1
  obtain ⟨v1, n1, sl1, SH1, FI1, FL1, FR1, hb, g, h⟩ := h
  obtain ⟨M, sl2, SH2, F2, L2, R2, e, hMN, hMl, hQ1, hq, hm, hv, hd, f1, l1, r1, s1⟩ := s_begin (K := K) (W := W) (X := X) (N := N) hQ hb ha hN (fun i hi => by rw [h_up_nc (by first | decide | (simp; done) | (simp [ms_0]; done))]; exact hX i hi) hK
  cases e
  have hM := hq.1
  obtain ⟨n3, sl3, SH3, F3, L3, R3, h3, nn3, bd3, res⟩ := s_text hk.2.1 h176 (Nat.le_refl n) ha hMN hN g _ (n + 1) sl1 SH1 FI1 FL1 FR1 v s 0 0 [] h hQ1 hq hm hv hd (by first | decide | (simp; done) | (simp [ms_0]; done)) (Nat.zero_le _) (Nat.zero_le _)
  have f09 : FI1 0 9 = 0 := by rw [f1 0 9 (by omega) (by omega), h_up_eq]
  obtain ⟨g3, h3⟩ := h3
  rcases res with ⟨V, ⟨a, lt⟩, h5, d3, t', ht', hz'⟩ | ⟨⟨a, lt⟩, ft⟩
  · obtain ⟨d1, d2, dn, d4, d5, d6, xs, ns, d7⟩ := d3
    have hBV : ∀ v, v ∈ V → v.2.2.2.1.length ≤ 100000 := fun v hv' => by
      have x1 := lp_fl_mem hv'
      have x2 := tk_P_le hk.2.1 hk.2.2.2.2.1 (i := t') (j := T) (by omega) (Nat.le_refl _)
      have x3 := hk.2.2.2.2.2
      omega
    obtain ⟨l2', l3', n4, sl4, SH4, F4, L4, R4, h4, b4, nn4, res⟩ := s_71t (vc := n) (lo := n) h176 (Nat.le_refl n) hBV g3 _ _ _ n3 sl3 SH3 F3 L3 R3 v s 0 h3 bd3.2.1 d1 dn d5 d6 d7 h5 (by first | decide | (simp; done) | (simp [ms_0]; done)) (Nat.zero_le _) (fun j v hj => by omega)
    obtain ⟨F5, hF5, r5⟩ := s_136 h4
    have fz : ∀ c k, c < n → ¬ (c = 21 ∨ (110 ≤ c ∧ c ≤ 120)) → F5 c k = FI1 c k := fun c k y1 y2 => by rw [hF5 c k (by omega), b4.2.2.1 c k y1 (by omega) (by omega), bd3.2.2.1 c k y1 (by omega) (by omega)]
    have lz : ∀ c k, c < n → c ≠ 110 → L4 c k = FL1 c k := fun c k y1 y2 => by rw [b4.2.2.2.1 c k y1, bd3.2.2.2.1 c k y1 y2]
    have rz : ∀ c k, c < n → R4 c k = FR1 c k := fun c k y1 => by rw [b4.2.2.2.2.1 c k y1, bd3.2.2.2.2.1 c k y1]
    have sz : ∀ c, c < n → SH4 c = SH c := fun c y1 => by rw [b4.2.2.2.2.2 c y1, bd3.2.2.2.2.2 c y1, s1 c y1]
    rcases r5 with ⟨z0, rfl, rfl⟩ | ⟨z0, rfl, rfl⟩
    · rcases res with ⟨-, p2, p3, p4, p5, p6⟩ | ⟨p1, -⟩
      · refine ⟨_, _, _, _, _, _, rfl, ⟨by omega, b4.2.1, fun c k y1 y2 y3 => ?_, fun c k y1 y2 => by rw [lz c k y1 (by omega)]; exact l1 c k y1 y2, fun c k y1 y2 y3 => ?_, sz⟩, ?_, a, fun f hf => ?_⟩
        · rw [h_up_x (by omega), fz c k y1 y3, f1 c k y1 (by omega), h_up_x (by omega)]
        · rw [h_up_x y2, rz c k y1]; exact r1 c k y1 y3
        · rw [h_up_ne (by first | decide | (simp; done) | (simp [ms_0]; done)), fz 0 9 (by omega) (by omega), f09]; (first | decide | (simp; done) | (simp [ms_0]; done))
        · rw [lt f 1100 hf (by omega)]
          have e3 : (F4 110 3).toInt = V.length := by rw [b4.2.2.1 110 3 (by omega) (by omega) (by omega)]; exact d5
          have e2 : R4 110 2 = some n := by rw [b4.2.2.2.2.1 110 2 (by omega)]; exact d1
          refine Or.inr ⟨p2, e3, ⟨n, by rw [h_up_eq]; exact e2, by omega, by rw [p4]; exact d4, by rw [h_up_eq]; exact e3, d6, fun i v' hv' => ?_⟩, ⟨n, by rw [h_up_eq]; exact e2, d2, by omega, by rw [p4]; exact d4, fun i v' hv' => ?_⟩⟩
          rotate_left
          · obtain ⟨q1, q2, q3, q4⟩ := p6 i v' hv'
            have q5 := q4.1
            have q6 := q4.2.1
            refine ⟨xs i, by rw [h_up_nc (by omega)]; exact q1, v_ms_of (n := ns i) (vc := n) (d_va_fr q4 (fun q k w1 w2 => ?_) (fun _ _ _ _ => rfl) (fun q k w1 w2 _ => by rw [h_up_nc (by omega)]) (fun _ _ _ => rfl)) (by omega)⟩
            rw [h_up_nc (by omega)]
            exact hF5 q k (by omega)
          obtain ⟨q1, q2, q3, q4⟩ := d7 i v' hv'
          have q5 := q4.1
          have q6 := q4.2.1
          obtain ⟨nm, w1, w2, w3, w4⟩ := q4.2.2.2.2.2.1
          refine ⟨xs i, by rw [h_up_nc (by omega), p3 i]; exact q1, by omega, ?_⟩
          obtain ⟨o1, ⟨nm2, u1, hnm2, u2, u3⟩, cc, t1, t2, t3, t4, t5, t6⟩ := p5 i v' hv'
          -- 21 and 0 are none of these cells
          have ge : ∀ q k, 176 ≤ q → h_up F5 0 12 (F4 110 3) q k = F4 q k := fun q k hq' => by rw [h_up_nc (by omega)]; exact hF5 q k (by omega)
          exact ⟨by rw [ge (xs i) 5 (by omega)]; exact o1, ⟨nm2, by rw [h_up_nc (by omega)]; exact u1, hnm2, u2, nm_fr u3 (by funext k; exact ge nm2 k hnm2) rfl⟩, cc, by rw [h_up_nc (by omega)]; exact t1, t2, t3, t4, t5, fun k hk => by rw [ge cc k t3]; exact t6 k hk⟩
      · exact absurd z0 p1
    · rcases res with ⟨p1, -⟩ | ⟨-, p2⟩
      · exact absurd p1 z0
      · refine ⟨_, _, _, _, _, _, rfl, ⟨by omega, b4.2.1, fun c k y1 y2 y3 => ?_, fun c k y1 y2 => by rw [lz c k y1 (by omega)]; exact l1 c k y1 y2, fun c k y1 y2 y3 => by rw [rz c k y1]; exact r1 c k y1 y3, sz⟩, ?_, a, fun f hf => ?_⟩
        · rw [fz c k y1 y3, f1 c k y1 (by omega), h_up_x (by omega)]
        · rw [fz 0 9 (by omega) (by omega), f09]; (first | decide | (simp; done) | (simp [ms_0]; done))
        · rw [lt f 1100 hf (by omega)]
          exact Or.inl ⟨p2, rfl, by rw [fz 0 12 (by omega) (by omega), f1 0 12 (by omega) (by omega), h_up_ne (by first | decide | (simp; done) | (simp [ms_0]; done))], by rw [rz 0 11 (by omega)]; exact r1 0 11 (by omega) (by omega)⟩
  · have h136 := s_71f ft.1 h3
    obtain ⟨F5, hF5, r5⟩ := s_136 h136
    rcases r5 with ⟨z0, -, -⟩ | ⟨-, rfl, rfl⟩
    · exact absurd z0 ft.1
    · have fz : ∀ c k, c < n → ¬ (c = 21 ∨ (110 ≤ c ∧ c ≤ 120)) → F5 c k = FI1 c k := fun c k y1 y2 => by rw [hF5 c k (by omega), bd3.2.2.1 c k y1 (by omega) (by omega)]
      refine ⟨_, _, _, _, _, _, rfl, ⟨by omega, bd3.2.1, fun c k y1 y2 y3 => ?_, fun c k y1 y2 => by rw [bd3.2.2.2.1 c k y1 (by omega)]; exact l1 c k y1 y2, fun c k y1 y2 y3 => by rw [bd3.2.2.2.2.1 c k y1]; exact r1 c k y1 y3, fun c y1 => by rw [bd3.2.2.2.2.2 c y1, s1 c y1]⟩, ?_, a, fun f hf => ?_⟩
      · rw [fz c k y1 y3, f1 c k y1 (by omega), h_up_x (by omega)]
      · rw [fz 0 9 (by omega) (by omega), f09]; (first | decide | (simp; done) | (simp [ms_0]; done))
      · rw [lt f 1100 hf (by omega)]
        exact ⟨rfl, by rw [fz 0 12 (by omega) (by omega), f1 0 12 (by omega) (by omega), h_up_ne (by first | decide | (simp; done) | (simp [ms_0]; done))], by rw [bd3.2.2.2.2.1 0 11 (by omega)]; exact r1 0 11 (by omega) (by omega)⟩
/-! THE REFERENCE'S COMPILE: where bodies begin. -/
def lp_in (K W : Nat → Int) (f T : Nat) (V : List lp_V) : Prop := ∀ v, v ∈ V → v.2.1 ≤ T ∧ ∃ t1, lp_bd K W f v.2.1 = some (t1, v.2.2.1, v.2.2.2.1, v.2.2.2.2) ∧ K t1 = 5 ∧ W t1 = 59
section CPT
variable {K W : Nat → Int} {P : Nat → Nat} {T f : Nat}
theorem lp_st_in {t t1 : Nat} {V V2 : List lp_V} (hT : K T = 0) (ht : t ≤ T) (h : lp_st K W f t V = some (t1, V2)) (hV : lp_in K W f T V) : lp_in K W f T V2 := by
  unfold lp_st at h
  by_cases h1 : K t = 1 ∧ (∀ v, v ∈ V → v.1 ≠ W t) ∧ V.length < 12 ∧ K (t + 1) = 5 ∧ W (t + 1) = 61
  · rw [if_pos h1] at h
    obtain ⟨k1, -, -, k2, -⟩ := h1
    have t1' : t + 1 ≤ T := lt_T hT ht (by omega)
    have t2' : t + 1 + 1 ≤ T := lt_T (t := t + 1) hT t1' (by omega)
    cases hb : lp_bd K W f (t + 2) with
    | none => rw [hb] at h; cases h
    | some p =>
      obtain ⟨tt, mm, cc, bb⟩ := p
      rw [hb] at h
      (try dsimp only at h)
      by_cases h2 : K tt = 5 ∧ W tt = 59
      · rw [if_pos h2] at h
        have e : V ++ [(W t, t + 2, mm, cc, bb)] = V2 := congrArg Prod.snd (Option.some.inj h)
        rw [← e]
        intro v hv
        rcases List.mem_append.mp hv with hv | hv
        · exact hV v hv
        · rw [List.mem_singleton.mp hv]
          exact ⟨t2', tt, hb, h2⟩
      · rw [if_neg h2] at h; cases h
  · rw [if_neg h1] at h; cases h
theorem c_34t (hk : tk_ok K W P T) (hf : 12 * T + 20 < f) : ∀ (g n sl : Nat) (SH : Nat → Nat × Nat) (FI : Nat → Nat → Int32) (FL : Nat → Nat → Int64) (FR : Nat → Nat → Option Nat) (v : Int32) (s : hS) (g2 t : Nat) (o : Int) (V V1 : List lp_V), GX12_compile_34 g n sl SH FI FL FR v s → h_S n SH → d_vw K W FI FL t o (lp_fl V) → v_vw FI FL V → t ≤ T → lp_in K W f T V → lp_tx K W f g2 t V = some V1 → lp_in K W f T V1 := by
  intro g
  induction g with
  | zero => intro n sl SH FI FL FR v s g2 t o V V1 h; exact h.elim
  | succ g ih =>
    intro n sl SH FI FL FR v s g2 t o V V1 h hS hd hv ht hV hx
    have hK : (FI 149 (FI 121 68).toInt.toNat).toInt = K t := by rw [tk_i hd.1, tk_K hd.1]
    cases g2 with
    | zero => rw [lp_tx] at hx; cases hx
    | succ g2 =>
      rw [lp_tx_st] at hx
      rcases h with ⟨h1, h⟩ | ⟨h1, h⟩
      · obtain ⟨-, h⟩ := h
        rcases h with ⟨h2, h⟩ | ⟨h2, h⟩
        · rw [hK] at h2
          rw [if_pos h2] at hx
          cases hx
          exact hV
        · rw [hK] at h2
          rw [if_neg h2] at hx
          obtain ⟨v2, n2, sl2, SH2, FI2, FL2, FR2, hc, h⟩ := h
          have kc := kX12_declared hc
          have hS2 : h_S n2 SH2 := by rw [show n2 = n from kc.1, show SH2 = SH from kc.2.2.1]; exact hS
          have q := d_declared (f := f) hc hS hk hf ht hd hv
          cases hr : lp_st K W f t V with
          | none => rw [hr] at hx; cases hx
          | some r =>
            obtain ⟨t1, V2⟩ := r
            rw [hr] at q hx
            obtain ⟨q1, q2, ⟨o1, q3⟩, q4⟩ := q
            exact ih n2 sl2 SH2 FI2 FL2 FR2 v s g2 t1 o1 V2 V1 h hS2 q3 q4 q2 (lp_st_in hk.2.2.1 ht hr hV) hx
      · exact absurd hd.2.1 h1
end CPT
theorem r_compilet {n sl N : Nat} {X : Nat → Int} {SH : Nat → Nat × Nat} {FI : Nat → Nat → Int32} {FL : Nat → Nat → Int64} {FR : Nat → Nat → Option Nat} {v : Int32} {s : hS} (hS : h_S n SH) (h : RX12_compile n sl SH FI FL FR v s) (hx : x_vw FI X N) (hr : rl_t (FI 149) (FL 150)) : ∃ K W P T, (t_tl X N 1001 0).length = T + 1 ∧ tk_ok K W P T ∧ (∀ i x, (t_tl X N 1001 0)[i]? = some x → K i = x.1 ∧ W i = x.2.1) ∧ ∀ f, 12 * T + 20 < f → (∀ V, lp_tx K W f 1100 0 [] = some V → lp_in K W f T V) ∧ match lp_tx K W f 1100 0 [] with
    | none => v = -1 ∧ u_eq FI s.2.2.2.1 FL s.2.2.2.2.1
    | some V => ((∃ x, x ∈ V ∧ ¬ (x.2.2.2.2 = false ∧ x.2.2.2.1.length ≤ 600)) ∧ v = -1 ∧ u_eq FI s.2.2.2.1 FL s.2.2.2.2.1) ∨ ((∀ x, x ∈ V → x.2.2.2.2 = false ∧ x.2.2.2.1.length ≤ 600) ∧ v.toInt = V.length ∧ u_vw s.2.2.2.1 s.2.2.2.2.1 K W T V) := by
  obtain ⟨v1, n1, sl1, SH1, FI1, FL1, FR1, ht, h⟩ := h
  have kt := kX12_tokens ht
  have e1 : n1 = n := kt.1
  have e2 : SH1 = SH := kt.2.2.1
  subst e1 e2
  have hx2 : x_vw (h_up FI 121 0 0) X N := ⟨by rw [h_up_x (by first | decide | (simp; done) | (simp [ms_0]; done))]; exact hx.1, hx.2.1, by rw [h_up_nc (by first | decide | (simp; done) | (simp [ms_0]; done))]; exact hx.2.2⟩
  obtain ⟨P, T, r1, r2, r3, r4⟩ := t_tokens ht hx2 (by rw [h_up_nc (by first | decide | (simp; done) | (simp [ms_0]; done))]; exact hr)
  refine ⟨_, _, P, T, r1, r2, fun i x hi => ⟨(r4 i x hi).1, (r4 i x hi).2.1⟩, fun f hf => ?_⟩
  have ux : u_eq FI (h_up FI 121 0 0) FL FL := ⟨h_up_nc (by first | decide | (simp; done) | (simp [ms_0]; done)), h_up_nc (by first | decide | (simp; done) | (simp [ms_0]; done)), h_up_nc (by first | decide | (simp; done) | (simp [ms_0]; done)), h_up_nc (by first | decide | (simp; done) | (simp [ms_0]; done)), h_up_nc (by first | decide | (simp; done) | (simp [ms_0]; done)), rfl, rfl, h_up_x (by first | decide | (simp; done) | (simp [ms_0]; done))⟩
  have u1 : u_eq (h_up FI 121 0 0) FI1 FL FL1 := u_kq kt (by first | decide | (simp; done) | (simp [ms_0]; done))
  have u2 : u_eq FI1 (h_up (h_up (h_up (h_up (h_up FI1 121 13 ((0 : Int32))) 121 68 ((0 : Int32))) 121 69 ((0 : Int32))) 121 78 ((0 : Int32))) 121 73 ((0 : Int32))) FL1 FL1 := by
    refine ⟨?_, ?_, ?_, ?_, ?_, rfl, rfl, ?_⟩
    · rw [h_up_nc (by first | decide | (simp; done) | (simp [ms_0]; done)), h_up_nc (by first | decide | (simp; done) | (simp [ms_0]; done)), h_up_nc (by first | decide | (simp; done) | (simp [ms_0]; done)), h_up_nc (by first | decide | (simp; done) | (simp [ms_0]; done)), h_up_nc (by first | decide | (simp; done) | (simp [ms_0]; done))]
    · rw [h_up_nc (by first | decide | (simp; done) | (simp [ms_0]; done)), h_up_nc (by first | decide | (simp; done) | (simp [ms_0]; done)), h_up_nc (by first | decide | (simp; done) | (simp [ms_0]; done)), h_up_nc (by first | decide | (simp; done) | (simp [ms_0]; done)), h_up_nc (by first | decide | (simp; done) | (simp [ms_0]; done))]
    · rw [h_up_nc (by first | decide | (simp; done) | (simp [ms_0]; done)), h_up_nc (by first | decide | (simp; done) | (simp [ms_0]; done)), h_up_nc (by first | decide | (simp; done) | (simp [ms_0]; done)), h_up_nc (by first | decide | (simp; done) | (simp [ms_0]; done)), h_up_nc (by first | decide | (simp; done) | (simp [ms_0]; done))]
    · rw [h_up_nc (by first | decide | (simp; done) | (simp [ms_0]; done)), h_up_nc (by first | decide | (simp; done) | (simp [ms_0]; done)), h_up_nc (by first | decide | (simp; done) | (simp [ms_0]; done)), h_up_nc (by first | decide | (simp; done) | (simp [ms_0]; done)), h_up_nc (by first | decide | (simp; done) | (simp [ms_0]; done))]
    · rw [h_up_nc (by first | decide | (simp; done) | (simp [ms_0]; done)), h_up_nc (by first | decide | (simp; done) | (simp [ms_0]; done)), h_up_nc (by first | decide | (simp; done) | (simp [ms_0]; done)), h_up_nc (by first | decide | (simp; done) | (simp [ms_0]; done)), h_up_nc (by first | decide | (simp; done) | (simp [ms_0]; done))]
    · rw [h_up_x (by first | decide | (simp; done) | (simp [ms_0]; done)), h_up_x (by first | decide | (simp; done) | (simp [ms_0]; done)), h_up_x (by first | decide | (simp; done) | (simp [ms_0]; done)), h_up_x (by first | decide | (simp; done) | (simp [ms_0]; done)), h_up_x (by first | decide | (simp; done) | (simp [ms_0]; done))]
  have ut := u_tr ux (u_tr u1 u2)
  have hdv := (⟨⟨by rw [h_up_nc (by first | decide | (simp; done) | (simp [ms_0]; done)), h_up_nc (by first | decide | (simp; done) | (simp [ms_0]; done)), h_up_nc (by first | decide | (simp; done) | (simp [ms_0]; done)), h_up_nc (by first | decide | (simp; done) | (simp [ms_0]; done)), h_up_nc (by first | decide | (simp; done) | (simp [ms_0]; done))], rfl, by rw [h_up_x (by first | decide | (simp; done) | (simp [ms_0]; done)), h_up_x (by first | decide | (simp; done) | (simp [ms_0]; done)), h_up_x (by first | decide | (simp; done) | (simp [ms_0]; done)), h_up_eq]; rfl, Nat.zero_le _⟩, by rw [h_up_x (by first | decide | (simp; done) | (simp [ms_0]; done)), h_up_x (by first | decide | (simp; done) | (simp [ms_0]; done)), h_up_eq]; (first | decide | (simp; done) | (simp [ms_0]; done)), rfl, by rw [h_up_eq]; rfl, fun _ i hi => by rw [List.length_nil] at hi; omega⟩ : d_vw (kf (FI1 149)) (wf (FL1 150)) (h_up (h_up (h_up (h_up (h_up FI1 121 13 ((0 : Int32))) 121 68 ((0 : Int32))) 121 69 ((0 : Int32))) 121 78 ((0 : Int32))) 121 73 ((0 : Int32))) FL1 0 ((h_up (h_up (h_up (h_up (h_up FI1 121 13 ((0 : Int32))) 121 68 ((0 : Int32))) 121 69 ((0 : Int32))) 121 78 ((0 : Int32))) 121 73 ((0 : Int32))) 121 71).toInt [])
  have h78 := ((by rw [h_up_x (by first | decide | (simp; done) | (simp [ms_0]; done)), h_up_eq]; (first | decide | (simp; done) | (simp [ms_0]; done))) : ((h_up (h_up (h_up (h_up (h_up FI1 121 13 ((0 : Int32))) 121 68 ((0 : Int32))) 121 69 ((0 : Int32))) 121 78 ((0 : Int32))) 121 73 ((0 : Int32))) 121 78).toInt = 0)
  have hin : ∀ V, lp_tx (kf (FI1 149)) (wf (FL1 150)) f 1100 0 [] = some V → lp_in (kf (FI1 149)) (wf (FL1 150)) f T V := by
    intro V hx
    obtain ⟨g, h⟩ := h
    exact c_34t r2 hf g _ _ _ _ _ _ _ _ 1100 0 _ [] V h hS hdv ⟨h78, by first | decide | (simp; done) | (simp [ms_0]; done), fun i v hv => by simp at hv, fun e => absurd rfl e⟩ (Nat.zero_le _) (fun v hv => by simp at hv) hx
  refine ⟨hin, ?_⟩
  have q := c_compile r2 hf h hS hdv h78 (by rw [h_up_x (by first | decide | (simp; done) | (simp [ms_0]; done)), h_up_x (by first | decide | (simp; done) | (simp [ms_0]; done)), h_up_x (by first | decide | (simp; done) | (simp [ms_0]; done)), h_up_x (by first | decide | (simp; done) | (simp [ms_0]; done)), h_up_x (by first | decide | (simp; done) | (simp [ms_0]; done))]; exact r3)
  generalize lp_tx (kf (FI1 149)) (wf (FL1 150)) f 1100 0 [] = r at q
  match r, q with
  | none, q => exact ⟨q.1, u_tr ut q.2⟩
  | some V, q =>
    rcases q with ⟨q1, q2, q3⟩ | q
    · exact Or.inl ⟨q1, q2, u_tr ut q3⟩
    · exact Or.inr q
end
section
/-! THE LAW'S STATE: what both sides hold between two calls, and the plain calls. -/
/-- what operations ask for; the lists; the result; OUT -/
abbrev ab_A := ms_E × (Nat → List Int32) × ms_Q × (Nat × (Nat → Int32))
def cL (FI : Nat → Nat → Int32) (FR : Nat → Nat → Option Nat) (SH : Nat → Nat × Nat) (LS : Nat → List Int32) : Prop := ∀ k, k < 4 → ∃ r, FR 43 k = some r ∧ (SH r).2 = (LS k).length ∧ (LS k).length ≤ 600 ∧ bk FI SH r 0 (LS k)
def rL (FI : Nat → Nat → Int32) (SH : Nat → Nat × Nat) (LS : Nat → List Int32) : Prop := ∀ k, k < 4 → (FI 125 (16 + k)).toInt = ((LS k).length : Int) ∧ (LS k).length ≤ 600 ∧ bk FI SH 124 (600 * (16 + k)) (LS k)
def oV (N : Int32) (R : Nat → Int32) (O : Nat × (Nat → Int32)) : Prop := N.toInt = (O.1 : Int) ∧ O.1 ≤ 64 ∧ ∀ x, x < O.1 → R x = O.2 x
def cB (SH : Nat → Nat × Nat) (FI : Nat → Nat → Int32) (FL : Nat → Nat → Int64) (FR : Nat → Nat → Option Nat) (A : ab_A) : Prop := cE FI FL FR SH A.1 ∧ cL FI FR SH A.2.1 ∧ crx FI FL FR SH 1 3 A.2.2.1 ∧ oV (FI 0 10) (FI 20) A.2.2.2
def rB (SH : Nat → Nat × Nat) (FI : Nat → Nat → Int32) (FL : Nat → Nat → Int64) (A : ab_A) : Prop := rE FI FL SH A.1 ∧ rL FI SH A.2.1 ∧ rr FI FL A.2.2.1 ∧ oV (FI 121 61) (FI 148) A.2.2.2
/-- what two descriptions must share for the class -/
def cb_ag (SH : Nat → Nat × Nat) (FI : Nat → Nat → Int32) (FL : Nat → Nat → Int64) (FR : Nat → Nat → Option Nat) (S2 : Nat → Nat × Nat) (F2 : Nat → Nat → Int32) (L2 : Nat → Nat → Int64) (R2 : Nat → Nat → Option Nat) : Prop := (FL 24 = L2 24 ∧ FI 25 = F2 25 ∧ FR 26 = R2 26 ∧ FR 43 = R2 43) ∧ (FI 23 4 = F2 23 4 ∧ FI 23 5 = F2 23 5 ∧ FI 23 7 = F2 23 7 ∧ FI 23 9 = F2 23 9 ∧ FL 23 6 = L2 23 6 ∧ FL 23 8 = L2 23 8 ∧ FL 23 10 = L2 23 10) ∧ (FI 0 10 = F2 0 10 ∧ FI 20 = F2 20 ∧ FI 1 1 = F2 1 1) ∧ (∀ q, 3 ≤ q → q < 19 → FI q 0 = F2 q 0 ∧ FI q 2 = F2 q 2 ∧ FI q 3 = F2 q 3 ∧ FI q 5 = F2 q 5 ∧ FL q 1 = L2 q 1 ∧ FR q 4 = R2 q 4) ∧ (∀ r, (r = 124 ∨ (27 ≤ r ∧ r ≤ 47) ∨ 176 ≤ r) → ((∃ k, FR 26 k = some r) ∨ (∃ k, FR 43 k = some r) ∨ (∃ q, 3 ≤ q ∧ q < 19 ∧ FR q 4 = some r)) → FI r = F2 r ∧ SH r = S2 r)
section AB
variable {base n sl n2 sl2 : Nat} {SH SH2 S2 : Nat → Nat × Nat} {FI F2 : Nat → Nat → Int32} {FL L2 : Nat → Nat → Int64} {FR R2 : Nat → Nat → Option Nat} {A : ab_A} {s : hS}
theorem bk_ag {r B : Nat} {L : List Int32} (e1 : FI r = F2 r) (e2 : SH r = S2 r) (h : bk F2 S2 r B L) : bk FI SH r B L := by
  obtain ⟨⟨g1, g2⟩, g3, g4, g5⟩ := h
  refine ⟨⟨Nat.zero_le _, g2⟩, by rw [e2]; exact g3, by rw [e2]; exact g4, fun i b hi => ?_⟩
  rw [e1]
  exact g5 i b hi
theorem cB_ag (g : cb_ag SH FI FL FR S2 F2 L2 R2) (h : cB S2 F2 L2 R2 A) : cB SH FI FL FR A := by
  obtain ⟨⟨a1, a2, a3, a4⟩, ⟨b1, b2, b3, b4, b5, b6, b7⟩, ⟨c1, c2, c3⟩, dq, er⟩ := g
  obtain ⟨⟨e1, e2, e3, e4, e5, e6, e7, e8⟩, hl, ⟨q1, q2, q3, q4, q5⟩, o⟩ := h
  refine ⟨⟨by rw [a1]; exact e1, by rw [a2]; exact e2, fun k hk => ?_, by rw [b1]; exact e4, by rw [b2]; exact e5, by rw [b5]; exact e6, by rw [b3, b6]; exact e7, by rw [b4, b7]; exact e8⟩, fun k hk => ?_, ⟨by rw [c3]; exact q1, by rw [c3]; exact q2, q3, q4, ?_⟩, by rw [c1, c2]; exact o⟩
  · obtain ⟨r, r1, r2, r3, r4⟩ := e3 k hk
    rw [← a3] at r1
    obtain ⟨y1, y2⟩ := er r r4.1.2 (Or.inl ⟨k, r1⟩)
    exact ⟨r, r1, by rw [y2]; exact r2, r3, bk_ag y1 y2 r4⟩
  · obtain ⟨r, r1, r2, r3, r4⟩ := hl k hk
    rw [← a4] at r1
    obtain ⟨y1, y2⟩ := er r r4.1.2 (Or.inr (Or.inl ⟨k, r1⟩))
    exact ⟨r, r1, by rw [y2]; exact r2, r3, bk_ag y1 y2 r4⟩
  · refine lv_mono (fun i p hi _ hp => ?_) q5
    obtain ⟨d0, d2, d3, d5, d1, d4⟩ := dq (3 + i) (by omega) (by omega)
    obtain ⟨⟨p1, p2, p3, p4⟩, p5⟩ := hp
    refine ⟨⟨by rw [d0]; exact p1, by rw [d1]; exact p2, p3, fun h4 => ?_⟩, by rw [d2, d3]; exact p5⟩
    obtain ⟨r, B, x1, x2, x3⟩ := p4 h4
    rw [← d4] at x1
    obtain ⟨y1, y2⟩ := er r x3.1.2 (Or.inr (Or.inr ⟨3 + i, by omega, by omega, x1⟩))
    exact ⟨r, B, x1, by rw [d5]; exact x2, bk_ag y1 y2 x3⟩
theorem q_ty (hS : h_S n SH) : ∀ q, 3 ≤ q → q < 19 → (SH q).1 = 5 := by
  intro q h1 h2
  have key : ∀ i : Nat, i < 16 → (hs_L.getD (3 + i) (0, 0)).1 = 5 := by decide +kernel
  have e := hS.2 q (by omega)
  rw [e]
  have k := key (q - 3) (by omega)
  rw [show 3 + (q - 3) = q by omega] at k
  exact k
/-- every row that the class's views read -/
theorem cb_rows (hS : h_S n SH) (hR : g_R n SH FR) (r : Nat) (h : (∃ k, FR 26 k = some r) ∨ (∃ k, FR 43 k = some r) ∨ (∃ q, 3 ≤ q ∧ q < 19 ∧ FR q 4 = some r)) : r < n ∧ (r < 121 ∨ 176 ≤ r) ∧ (SH r).1 = 100 := by
  have h176 := hS.1
  rcases h with ⟨k, h⟩ | ⟨k, h⟩ | ⟨q, q1, q2, h⟩
  · obtain ⟨g1, g2, g3, -⟩ := hR.2.1 26 k r (c26 hS) (Or.inl (by first | decide | (simp; done) | (simp [ms_0]; done))) h
    rw [s26 hS] at g3
    exact ⟨g1, g2, g3⟩
  · obtain ⟨g1, g2, g3, -⟩ := hR.2.1 43 k r (c43 hS) (Or.inl (by first | decide | (simp; done) | (simp [ms_0]; done))) h
    rw [s43 hS] at g3
    exact ⟨g1, g2, g3⟩
  · obtain ⟨g1, g2, g3, -⟩ := hR.2.1 q 4 r (by omega) (Or.inl (by omega)) h
    rw [q_ty hS q q1 q2] at g3
    exact ⟨g1, g2, g3⟩
theorem cb_sm (sm : h_sm base (n, sl, SH, FI, FL, FR) (n2, sl2, S2, F2, L2, R2)) (hS : h_S n SH) (hR : g_R n SH FR) : cb_ag SH FI FL FR S2 F2 L2 R2 := by
  have h176 := hS.1
  have t0 : (SH 0).1 = 11 := by rw [s0 hS]
  have t1 : (SH 1).1 = 8 := by rw [s1 hS]
  have t23 : (SH 23).1 = 1 := by rw [s23 hS]
  refine ⟨⟨(sm_la sm (c24 hS) (by rw [s24 hS])).2, (sm_ia sm (c25 hS) (by rw [s25 hS])).2, (sm_rk (j := 6) sm (c26 hS) (by first | decide | (simp; done) | (simp [ms_0]; done)) (by rw [s26 hS])).2, (sm_rk (j := 6) sm (c43 hS) (by first | decide | (simp; done) | (simp [ms_0]; done)) (by rw [s43 hS])).2⟩, ⟨?_, ?_, ?_, ?_, ?_, ?_, ?_⟩, ⟨?_, (sm_ia sm (c20 hS) (by rw [s20 hS])).2, ?_⟩, fun q h1 h2 => ?_, fun r _ hr => ?_⟩
  · exact sm_i sm (c23 hS) t23 (by first | decide | (simp; done) | (simp [ms_0]; done)) (by first | decide | (simp; done) | (simp [ms_0]; done)) (fun _ _ _ => rfl)
  · exact sm_i sm (c23 hS) t23 (by first | decide | (simp; done) | (simp [ms_0]; done)) (by first | decide | (simp; done) | (simp [ms_0]; done)) (fun _ _ _ => rfl)
  · exact sm_i sm (c23 hS) t23 (by first | decide | (simp; done) | (simp [ms_0]; done)) (by first | decide | (simp; done) | (simp [ms_0]; done)) (fun _ _ _ => rfl)
  · exact sm_i sm (c23 hS) t23 (by first | decide | (simp; done) | (simp [ms_0]; done)) (by first | decide | (simp; done) | (simp [ms_0]; done)) (fun _ _ _ => rfl)
  · exact sm_l sm (c23 hS) t23 (by first | decide | (simp; done) | (simp [ms_0]; done)) (by first | decide | (simp; done) | (simp [ms_0]; done)) (fun _ _ _ => rfl)
  · exact sm_l sm (c23 hS) t23 (by first | decide | (simp; done) | (simp [ms_0]; done)) (by first | decide | (simp; done) | (simp [ms_0]; done)) (fun _ _ _ => rfl)
  · exact sm_l sm (c23 hS) t23 (by first | decide | (simp; done) | (simp [ms_0]; done)) (by first | decide | (simp; done) | (simp [ms_0]; done)) (fun _ _ _ => rfl)
  · exact sm_i sm (c0 hS) t0 (by first | decide | (simp; done) | (simp [ms_0]; done)) (by first | decide | (simp; done) | (simp [ms_0]; done)) (fun _ _ _ => rfl)
  · exact sm_i sm (c1 hS) t1 (by first | decide | (simp; done) | (simp [ms_0]; done)) (by first | decide | (simp; done) | (simp [ms_0]; done)) (fun _ _ _ => rfl)
  · have t := q_ty hS q h1 h2
    have hq : q < n := by omega
    exact ⟨sm_i sm hq t (by first | decide | (simp; done) | (simp [ms_0]; done)) (by first | decide | (simp; done) | (simp [ms_0]; done)) (fun _ _ _ => rfl), sm_i sm hq t (by first | decide | (simp; done) | (simp [ms_0]; done)) (by first | decide | (simp; done) | (simp [ms_0]; done)) (fun _ _ _ => rfl), sm_i sm hq t (by first | decide | (simp; done) | (simp [ms_0]; done)) (by first | decide | (simp; done) | (simp [ms_0]; done)) (fun _ _ _ => rfl), sm_i sm hq t (by first | decide | (simp; done) | (simp [ms_0]; done)) (by first | decide | (simp; done) | (simp [ms_0]; done)) (fun _ _ _ => rfl), sm_l sm hq t (by first | decide | (simp; done) | (simp [ms_0]; done)) (by first | decide | (simp; done) | (simp [ms_0]; done)) (fun _ _ _ => rfl), sm_r sm hq t (by first | decide | (simp; done) | (simp [ms_0]; done)) (by first | decide | (simp; done) | (simp [ms_0]; done)) (fun _ _ _ => rfl)⟩
  · obtain ⟨g1, g2, g3⟩ := cb_rows hS hR r hr
    exact ⟨(sm_ia sm g1 g3).2, (sm_ia sm g1 g3).1.symm⟩
/-- a call of the reference leaves the class's view alone -/
theorem cB_gr (hS : h_S n SH) (hR : g_R n SH FR) (e : ∀ c, c < n → (c < 121 ∨ 176 ≤ c) → F2 c = FI c ∧ L2 c = FL c) (h : cB SH FI FL FR A) : cB SH F2 L2 FR A := by
  have h176 := hS.1
  have u : ∀ c, c < 121 → F2 c = FI c ∧ L2 c = FL c := fun c hc => e c (by omega) (Or.inl hc)
  refine cB_ag (S2 := SH) (F2 := FI) (L2 := FL) (R2 := FR) ⟨⟨(u 24 (by first | decide | (simp; done) | (simp [ms_0]; done))).2, (u 25 (by first | decide | (simp; done) | (simp [ms_0]; done))).1, rfl, rfl⟩, ⟨by rw [(u 23 (by first | decide | (simp; done) | (simp [ms_0]; done))).1], by rw [(u 23 (by first | decide | (simp; done) | (simp [ms_0]; done))).1], by rw [(u 23 (by first | decide | (simp; done) | (simp [ms_0]; done))).1], by rw [(u 23 (by first | decide | (simp; done) | (simp [ms_0]; done))).1], by rw [(u 23 (by first | decide | (simp; done) | (simp [ms_0]; done))).2], by rw [(u 23 (by first | decide | (simp; done) | (simp [ms_0]; done))).2], by rw [(u 23 (by first | decide | (simp; done) | (simp [ms_0]; done))).2]⟩, ⟨by rw [(u 0 (by first | decide | (simp; done) | (simp [ms_0]; done))).1], (u 20 (by first | decide | (simp; done) | (simp [ms_0]; done))).1, by rw [(u 1 (by first | decide | (simp; done) | (simp [ms_0]; done))).1]⟩, fun q h1 h2 => ?_, fun r _ hr => ?_⟩ h
  · rw [(u q (by omega)).1, (u q (by omega)).2]
    exact ⟨rfl, rfl, rfl, rfl, rfl, rfl⟩
  · obtain ⟨g1, g2, -⟩ := cb_rows hS hR r hr
    exact ⟨(e r g1 g2).1, rfl⟩
/-- behind run, find, where, means -/
theorem cB_kc {Q : ms_Q} (h : cB SH FI FL FR A) (k : kc FI FL FR F2 L2 R2) (hq : crx F2 L2 R2 SH 1 3 Q) : cB SH F2 L2 R2 (A.1, A.2.1, Q, A.2.2.2) := by
  obtain ⟨⟨e1, e2, e3, e4, e5, e6, e7, e8⟩, hl, -, o⟩ := h
  have a := (k 23 (by omega)).1
  have b := (k 23 (by omega)).2.1
  have rw9 : ∀ r, rw0 SH r → F2 r = FI r := fun r hr => (k r (by have := hr.2; omega)).1
  refine ⟨⟨by rw [(k 24 (by omega)).2.1]; exact e1, by rw [(k 25 (by omega)).1]; exact e2, fun j hj => ?_, by rw [a]; exact e4, by rw [a]; exact e5, by rw [b]; exact e6, by rw [a, b]; exact e7, by rw [a, b]; exact e8⟩, fun j hj => ?_, hq, ?_⟩
  · obtain ⟨r, r1, r2, r3, r4⟩ := e3 j hj
    exact ⟨r, by rw [(k 26 (by omega)).2.2]; exact r1, r2, r3, bk_fr r4 (rw9 r r4.1)⟩
  · obtain ⟨r, r1, r2, r3, r4⟩ := hl j hj
    exact ⟨r, by rw [(k 43 (by omega)).2.2]; exact r1, r2, r3, bk_fr r4 (rw9 r r4.1)⟩
  · rw [(k 0 (by omega)).1, (k 20 (by omega)).1]
    exact o
/-- a call of the class leaves the reference's view alone -/
theorem rB_gr (e : ∀ c, 121 ≤ c → c < 176 → F2 c = FI c ∧ L2 c = FL c) (es : S2 124 = SH 124) (h : rB SH FI FL A) : rB S2 F2 L2 A := by
  have sb : ∀ {B : Nat} {L : List Int32}, bk FI SH 124 B L → bk F2 S2 124 B L := fun hb => bk_ag (e 124 (by first | decide | (simp; done) | (simp [ms_0]; done)) (by first | decide | (simp; done) | (simp [ms_0]; done))).1 es hb
  obtain ⟨⟨e1, e2, e3, e4, e5, e6, e7, e8⟩, hl, hq, o⟩ := h
  have a := (e 121 (by first | decide | (simp; done) | (simp [ms_0]; done)) (by first | decide | (simp; done) | (simp [ms_0]; done))).1
  have b := (e 121 (by first | decide | (simp; done) | (simp [ms_0]; done)) (by first | decide | (simp; done) | (simp [ms_0]; done))).2
  refine ⟨⟨by rw [(e 122 (by first | decide | (simp; done) | (simp [ms_0]; done)) (by first | decide | (simp; done) | (simp [ms_0]; done))).2]; exact e1, by rw [(e 123 (by first | decide | (simp; done) | (simp [ms_0]; done)) (by first | decide | (simp; done) | (simp [ms_0]; done))).1]; exact e2, fun k hk => ?_, by rw [a]; exact e4, by rw [a]; exact e5, by rw [b]; exact e6, by rw [a, b]; exact e7, by rw [a, b]; exact e8⟩, fun k hk => ?_, rr_fr hq (fun c hc => (e c (by omega) (by omega)).1) (e 144 (by first | decide | (simp; done) | (simp [ms_0]; done)) (by first | decide | (simp; done) | (simp [ms_0]; done))).2 (by rw [a]) (by rw [a]), ?_⟩
  · obtain ⟨r1, r2, r3⟩ := e3 k hk
    exact ⟨by rw [(e 125 (by first | decide | (simp; done) | (simp [ms_0]; done)) (by first | decide | (simp; done) | (simp [ms_0]; done))).1]; exact r1, r2, sb r3⟩
  · obtain ⟨r1, r2, r3⟩ := hl k hk
    exact ⟨by rw [(e 125 (by first | decide | (simp; done) | (simp [ms_0]; done)) (by first | decide | (simp; done) | (simp [ms_0]; done))).1]; exact r1, r2, sb r3⟩
  · rw [a, (e 148 (by first | decide | (simp; done) | (simp [ms_0]; done)) (by first | decide | (simp; done) | (simp [ms_0]; done))).1]
    exact o
/-- the reference's view, behind changes elsewhere -/
theorem rB_fr (e1 : ∀ c, 121 < c → c < 149 → F2 c = FI c ∧ L2 c = FL c) (e2 : ∀ k, k ≠ 0 → F2 121 k = FI 121 k) (e3 : L2 121 = FL 121) (h : rB SH FI FL A) : rB SH F2 L2 A := by
  obtain ⟨he, hl, hq, o⟩ := h
  refine ⟨rE_f2 he (e1 123 (by first | decide | (simp; done) | (simp [ms_0]; done)) (by first | decide | (simp; done) | (simp [ms_0]; done))).1 (e1 124 (by first | decide | (simp; done) | (simp [ms_0]; done)) (by first | decide | (simp; done) | (simp [ms_0]; done))).1 (e1 125 (by first | decide | (simp; done) | (simp [ms_0]; done)) (by first | decide | (simp; done) | (simp [ms_0]; done))).1 (fun k h1 h2 => e2 k (by omega)) (fun k h1 h2 => by rw [e3]) (e1 122 (by first | decide | (simp; done) | (simp [ms_0]; done)) (by first | decide | (simp; done) | (simp [ms_0]; done))).2, fun k hk => ?_, rr_fr hq (fun c hc => (e1 c (by omega) (by omega)).1) (e1 144 (by first | decide | (simp; done) | (simp [ms_0]; done)) (by first | decide | (simp; done) | (simp [ms_0]; done))).2 (e2 46 (by first | decide | (simp; done) | (simp [ms_0]; done))) (e2 47 (by first | decide | (simp; done) | (simp [ms_0]; done))), ?_⟩
  · obtain ⟨r1, r2, r3⟩ := hl k hk
    exact ⟨by rw [(e1 125 (by first | decide | (simp; done) | (simp [ms_0]; done)) (by first | decide | (simp; done) | (simp [ms_0]; done))).1]; exact r1, r2, bk_fr r3 (e1 124 (by first | decide | (simp; done) | (simp [ms_0]; done)) (by first | decide | (simp; done) | (simp [ms_0]; done))).1⟩
  · rw [e2 61 (by first | decide | (simp; done) | (simp [ms_0]; done)), (e1 148 (by first | decide | (simp; done) | (simp [ms_0]; done)) (by first | decide | (simp; done) | (simp [ms_0]; done))).1]
    exact o
theorem rB_0 {x : Int32} (h : rB SH FI FL A) : rB SH (h_up FI 121 0 x) FL A := rB_fr (fun c h1 h2 => ⟨h_up_nc (by omega), rfl⟩) (fun k hk => h_up_ne hk) rfl h
/-- both descriptions of the reference's cells -/
theorem rb_sm (sm : h_sm base (n, sl, SH, FI, FL, FR) (n2, sl2, S2, F2, L2, R2)) (hS : h_S n SH) (h : rB S2 F2 L2 A) : rB SH FI FL A := by
  have t : (SH 121).1 = 12 := by rw [s121 hS]
  have i124 := sm_ia sm (c124 hS) (by rw [s124 hS])
  have i125 := (sm_ia sm (c125 hS) (by rw [s125 hS])).2
  have sb : ∀ {B : Nat} {L : List Int32}, bk F2 S2 124 B L → bk FI SH 124 B L := fun hb => bk_ag i124.2 i124.1.symm hb
  have f5 : FI 121 5 = F2 121 5 := sm_i sm (c121 hS) t (by first | decide | (simp; done) | (simp [ms_0]; done)) (by first | decide | (simp; done) | (simp [ms_0]; done)) (fun _ _ _ => rfl)
  have f6 : FI 121 6 = F2 121 6 := sm_i sm (c121 hS) t (by first | decide | (simp; done) | (simp [ms_0]; done)) (by first | decide | (simp; done) | (simp [ms_0]; done)) (fun _ _ _ => rfl)
  have f10 : FI 121 10 = F2 121 10 := sm_i sm (c121 hS) t (by first | decide | (simp; done) | (simp [ms_0]; done)) (by first | decide | (simp; done) | (simp [ms_0]; done)) (fun _ _ _ => rfl)
  have f11 : FI 121 11 = F2 121 11 := sm_i sm (c121 hS) t (by first | decide | (simp; done) | (simp [ms_0]; done)) (by first | decide | (simp; done) | (simp [ms_0]; done)) (fun _ _ _ => rfl)
  have f46 : FI 121 46 = F2 121 46 := sm_i sm (c121 hS) t (by first | decide | (simp; done) | (simp [ms_0]; done)) (by first | decide | (simp; done) | (simp [ms_0]; done)) (fun _ _ _ => rfl)
  have f47 : FI 121 47 = F2 121 47 := sm_i sm (c121 hS) t (by first | decide | (simp; done) | (simp [ms_0]; done)) (by first | decide | (simp; done) | (simp [ms_0]; done)) (fun _ _ _ => rfl)
  have f61 : FI 121 61 = F2 121 61 := sm_i sm (c121 hS) t (by first | decide | (simp; done) | (simp [ms_0]; done)) (by first | decide | (simp; done) | (simp [ms_0]; done)) (fun _ _ _ => rfl)
  have l7 : FL 121 7 = L2 121 7 := sm_l sm (c121 hS) t (by first | decide | (simp; done) | (simp [ms_0]; done)) (by first | decide | (simp; done) | (simp [ms_0]; done)) (fun _ _ _ => rfl)
  have l8 : FL 121 8 = L2 121 8 := sm_l sm (c121 hS) t (by first | decide | (simp; done) | (simp [ms_0]; done)) (by first | decide | (simp; done) | (simp [ms_0]; done)) (fun _ _ _ => rfl)
  have l9 : FL 121 9 = L2 121 9 := sm_l sm (c121 hS) t (by first | decide | (simp; done) | (simp [ms_0]; done)) (by first | decide | (simp; done) | (simp [ms_0]; done)) (fun _ _ _ => rfl)
  obtain ⟨⟨e1, e2, e3, e4, e5, e6, e7, e8⟩, hl, hq, o⟩ := h
  refine ⟨⟨by rw [(sm_la sm (c122 hS) (by rw [s122 hS])).2]; exact e1, by rw [(sm_ia sm (c123 hS) (by rw [s123 hS])).2]; exact e2, fun k hk => ?_, by rw [f5]; exact e4, by rw [f6]; exact e5, by rw [l7]; exact e6, by rw [f10, l8]; exact e7, by rw [f11, l9]; exact e8⟩, fun k hk => ?_, rr_fr hq (fun c hc => ?_) (sm_la sm (c144 hS) (by rw [s144 hS])).2 f46 f47, ?_⟩
  · obtain ⟨r1, r2, r3⟩ := e3 k hk
    exact ⟨by rw [i125]; exact r1, r2, sb r3⟩
  · obtain ⟨r1, r2, r3⟩ := hl k hk
    exact ⟨by rw [i125]; exact r1, r2, sb r3⟩
  · rcases hc with rfl | rfl | rfl | rfl
    · exact (sm_ia sm (c143 hS) (by rw [s143 hS])).2
    · exact (sm_ia sm (c145 hS) (by rw [s145 hS])).2
    · exact (sm_ia sm (c146 hS) (by rw [s146 hS])).2
    · exact (sm_ia sm (c147 hS) (by rw [s147 hS])).2
  · rw [f61, (sm_ia sm (c148 hS) (by rw [s148 hS])).2]
    exact o
end AB
/-! THE PLAIN CALLS. -/
def ab_ld (a1 : Int32) (a2 : Int64) (A : ab_A) : ab_A := if 0 ≤ a1.toInt ∧ a1.toInt ≤ 31 then (ms_ur A.1 a1.toInt.toNat a2, A.2) else A
def ab_po (a1 a2 : Int32) (A : ab_A) : ab_A := if 0 ≤ a1.toInt ∧ a1.toInt ≤ 4095 then (ms_um A.1 a1.toInt.toNat (a2 &&& (255 : Int32)), A.2) else A
def ms_uf (E : ms_E) (x : Int) : ms_E := (E.1, E.2.1, E.2.2.1, x, E.2.2.2.2)
def ms_uc (E : ms_E) (x : Int) (y : Int64) : ms_E := (E.1, E.2.1, E.2.2.1, E.2.2.2.1, x, y, E.2.2.2.2.2.2)
def ms_uo (E : ms_E) (x : Option Int64) : ms_E := (E.1, E.2.1, E.2.2.1, E.2.2.2.1, E.2.2.2.2.1, E.2.2.2.2.2.1, x, E.2.2.2.2.2.2.2)
def ms_ut (E : ms_E) (x : Option Int64) : ms_E := (E.1, E.2.1, E.2.2.1, E.2.2.2.1, E.2.2.2.2.1, E.2.2.2.2.2.1, E.2.2.2.2.2.2.1, x)
def ab_fr (a1 : Int32) (A : ab_A) : ab_A := if -1 ≤ a1.toInt ∧ a1.toInt ≤ 15 then (ms_uf A.1 a1.toInt, A.2) else A
def ab_cf (a1 : Int32) (a2 : Int64) (A : ab_A) : ab_A := if -1 ≤ a1.toInt ∧ a1.toInt ≤ 31 then (ms_uc A.1 a1.toInt a2, A.2) else A
def ab_se (a1 : Int32) (a2 : Int64) (a3 : Int32) (A : ab_A) : ab_A := if a1.toInt = 0 then (ms_uo A.1 (if a3.toInt = 0 then none else some a2), A.2) else if a1.toInt = 1 then (ms_ut A.1 (if a3.toInt = 0 then none else some a2), A.2) else A
def ab_rg (a1 : Int32) (A : ab_A) : Int64 := if 0 ≤ a1.toInt ∧ a1.toInt ≤ 31 then ms_rg A.1 a1.toInt.toNat else 0
def ab_pk (a1 : Int32) (A : ab_A) : Int32 := if 0 ≤ a1.toInt ∧ a1.toInt ≤ 4095 then ms_mm A.1 a1.toInt.toNat else -1
def ab_ou (a1 : Int32) (A : ab_A) : Int32 := if 0 ≤ a1.toInt ∧ a1.toInt < (A.2.2.2.1 : Int) then A.2.2.2.2 a1.toInt.toNat else -1
theorem i_255 (x : Int32) : 0 ≤ (x &&& (255 : Int32)).toInt ∧ (x &&& (255 : Int32)).toInt ≤ 255 := by
  have h := i_and (x := x) (m := (255 : Int32)) (M := 255) (by first | decide | (simp; done) | (simp [ms_0]; done)) (by first | decide | (simp; done) | (simp [ms_0]; done))
  omega
section PLC
variable {n sl : Nat} {SH : Nat → Nat × Nat} {FI : Nat → Nat → Int32} {FL : Nat → Nat → Int64} {FR : Nat → Nat → Option Nat} {A : ab_A} {s : hS} {v a1 a2 a3 : Int32} {w x : Int64}
theorem n_24 (hS : h_S n SH) : (Int32.ofNat (SH 24).2).toInt = 32 := (congrArg (fun p : Nat × Nat => (Int32.ofNat p.2).toInt) (s24 hS)).trans (by first | decide | (simp; done) | (simp [ms_0]; done))
theorem n_25 (hS : h_S n SH) : (Int32.ofNat (SH 25).2).toInt = 4096 := (congrArg (fun p : Nat × Nat => (Int32.ofNat p.2).toInt) (s25 hS)).trans (by first | decide | (simp; done) | (simp [ms_0]; done))
theorem n_26 (hS : h_S n SH) : (Int32.ofNat (SH 26).2).toInt = 16 := (congrArg (fun p : Nat × Nat => (Int32.ofNat p.2).toInt) (s26 hS)).trans (by first | decide | (simp; done) | (simp [ms_0]; done))
theorem n_43 (hS : h_S n SH) : (Int32.ofNat (SH 43).2).toInt = 4 := (congrArg (fun p : Nat × Nat => (Int32.ofNat p.2).toInt) (s43 hS)).trans (by first | decide | (simp; done) | (simp [ms_0]; done))
theorem cl_load (hS : h_S n SH) (hB : cB SH FI FL FR A) (h : RX11_load a1 x n sl SH FI FL FR v s) : ∃ F2 L2, s = (n, sl, SH, F2, L2, FR) ∧ cB SH F2 L2 FR (ab_ld a1 x A) := by
  unfold ab_ld
  rcases h with ⟨h0, -, e⟩ | ⟨h0, h⟩
  · exact ⟨FI, FL, e, by rw [if_neg (by omega)]; exact hB⟩
  · rw [n_24 hS] at h
    rcases h with ⟨h1, -, -, e⟩ | ⟨h1, -, e⟩
    · refine ⟨FI, _, e, ?_⟩
      rw [if_pos (by omega)]
      exact ⟨cE_ur hB.1, hB.2.1, crx_24 hB.2.2.1 (fun _ _ => rfl) (fun c hc => h_up_nc hc), hB.2.2.2⟩
    · exact ⟨FI, FL, e, by rw [if_neg (by omega)]; exact hB⟩
theorem rl_load (hB : rB SH FI FL A) (h : RX12_load a1 x n sl SH FI FL FR v s) : ∃ F2 L2, s = (n, sl, SH, F2, L2, FR) ∧ rB SH F2 L2 (ab_ld a1 x A) := by
  have z : ((31 : Int32)).toInt = 31 := by first | decide | (simp; done) | (simp [ms_0]; done)
  unfold ab_ld
  rcases h with ⟨h0, -, e⟩ | ⟨h0, h⟩
  · exact ⟨_, FL, e, by rw [if_neg (by omega)]; exact rB_0 hB⟩
  · rw [z] at h
    rcases h with ⟨h1, -, e⟩ | ⟨h1, -, -, e⟩
    · exact ⟨_, FL, e, by rw [if_neg (by omega)]; exact rB_0 hB⟩
    · refine ⟨_, _, e, ?_⟩
      rw [if_pos (by omega)]
      have hB := rB_0 (x := (0 : Int32)) hB
      exact ⟨rE_ur hB.1, hB.2.1, rr_fr hB.2.2.1 (fun _ _ => rfl) (h_up_nc (by first | decide | (simp; done) | (simp [ms_0]; done))) rfl rfl, hB.2.2.2⟩
theorem cl_poke (hS : h_S n SH) (hB : cB SH FI FL FR A) (h : RX11_poke a1 a2 n sl SH FI FL FR v s) : ∃ F2 L2, s = (n, sl, SH, F2, L2, FR) ∧ cB SH F2 L2 FR (ab_po a1 a2 A) := by
  unfold ab_po
  rcases h with ⟨h0, -, e⟩ | ⟨h0, h⟩
  · exact ⟨FI, FL, e, by rw [if_neg (by omega)]; exact hB⟩
  · rw [n_25 hS] at h
    rcases h with ⟨h1, -, -, e⟩ | ⟨h1, -, e⟩
    · refine ⟨_, FL, e, ?_⟩
      rw [if_pos (by omega)]
      refine ⟨cE_um hB.1 (i_255 a2), fun k hk => ?_, crx_24 hB.2.2.1 (fun c hc => h_up_nc hc) (fun _ _ => rfl), ?_⟩
      · obtain ⟨r, r1, r2, r3, r4⟩ := hB.2.1 k hk
        exact ⟨r, r1, r2, r3, bk_fr r4 (h_up_nc (by have := r4.1.2; omega))⟩
      · rw [h_up_nc (by first | decide | (simp; done) | (simp [ms_0]; done)), h_up_nc (by first | decide | (simp; done) | (simp [ms_0]; done))]
        exact hB.2.2.2
    · exact ⟨FI, FL, e, by rw [if_neg (by omega)]; exact hB⟩
theorem rl_poke (hB : rB SH FI FL A) (h : RX12_poke a1 a2 n sl SH FI FL FR v s) : ∃ F2 L2, s = (n, sl, SH, F2, L2, FR) ∧ rB SH F2 L2 (ab_po a1 a2 A) := by
  have z : ((4095 : Int32)).toInt = 4095 := by first | decide | (simp; done) | (simp [ms_0]; done)
  unfold ab_po
  rcases h with ⟨h0, -, e⟩ | ⟨h0, h⟩
  · exact ⟨_, FL, e, by rw [if_neg (by omega)]; exact rB_0 hB⟩
  · rw [z] at h
    rcases h with ⟨h1, -, e⟩ | ⟨h1, -, -, e⟩
    · exact ⟨_, FL, e, by rw [if_neg (by omega)]; exact rB_0 hB⟩
    · refine ⟨_, _, e, ?_⟩
      rw [if_pos (by omega)]
      have hB := rB_0 (x := (0 : Int32)) hB
      refine ⟨rE_um hB.1, fun k hk => ?_, rr_fr hB.2.2.1 (fun c hc => h_up_nc (by omega)) rfl ?_ ?_, ?_⟩
      · rw [h_up_nc (c2 := 125) (by first | decide | (simp; done) | (simp [ms_0]; done))]
        obtain ⟨r1, r2, r3⟩ := hB.2.1 k hk
        exact ⟨r1, r2, bk_fr r3 (h_up_nc (by first | decide | (simp; done) | (simp [ms_0]; done)))⟩
      · rw [h_up_nc (c2 := 121) (by first | decide | (simp; done) | (simp [ms_0]; done))]
      · rw [h_up_nc (c2 := 121) (by first | decide | (simp; done) | (simp [ms_0]; done))]
      · rw [h_up_nc (c2 := 121) (by first | decide | (simp; done) | (simp [ms_0]; done)), h_up_nc (c2 := 148) (by first | decide | (simp; done) | (simp [ms_0]; done))]
        exact hB.2.2.2
/-- changes of the desk's own fields in the class -/
theorem cB_23 {F2 : Nat → Nat → Int32} {L2 : Nat → Nat → Int64} {E : ms_E} (hB : cB SH FI FL FR A) (e1 : ∀ c, c ≠ 23 → F2 c = FI c) (e2 : ∀ c, c ≠ 23 → L2 c = FL c) (hE : cE F2 L2 FR SH E) : cB SH F2 L2 FR (E, A.2) := by
  refine ⟨hE, fun k hk => ?_, crx_fr hB.2.2.1 (fun r hr => e1 r (by have := hr.2; omega)) (e1 1 (by first | decide | (simp; done) | (simp [ms_0]; done))) (fun i hi => ⟨e1 (3 + i) (by omega), e2 (3 + i) (by omega), rfl⟩), ?_⟩
  · obtain ⟨r, r1, r2, r3, r4⟩ := hB.2.1 k hk
    exact ⟨r, r1, r2, r3, bk_fr r4 (e1 r (by have := r4.1.2; omega))⟩
  · rw [e1 0 (by first | decide | (simp; done) | (simp [ms_0]; done)), e1 20 (by first | decide | (simp; done) | (simp [ms_0]; done))]
    exact hB.2.2.2
/-- and in the reference -/
theorem rB_121 {F2 : Nat → Nat → Int32} {L2 : Nat → Nat → Int64} {E : ms_E} (hB : rB SH FI FL A) (e1 : ∀ c, c ≠ 121 → F2 c = FI c) (e2 : ∀ c, c ≠ 121 → L2 c = FL c) (e3 : ∀ k, (k = 46 ∨ k = 47 ∨ k = 61) → F2 121 k = FI 121 k) (hE : rE F2 L2 SH E) : rB SH F2 L2 (E, A.2) := by
  refine ⟨hE, fun k hk => ?_, rr_fr hB.2.2.1 (fun c hc => e1 c (by omega)) (e2 144 (by first | decide | (simp; done) | (simp [ms_0]; done))) (e3 46 (by first | decide | (simp; done) | (simp [ms_0]; done))) (e3 47 (by first | decide | (simp; done) | (simp [ms_0]; done))), ?_⟩
  · rw [e1 125 (by first | decide | (simp; done) | (simp [ms_0]; done))]
    obtain ⟨r1, r2, r3⟩ := hB.2.1 k hk
    exact ⟨r1, r2, bk_fr r3 (e1 124 (by first | decide | (simp; done) | (simp [ms_0]; done)))⟩
  · rw [e3 61 (by first | decide | (simp; done) | (simp [ms_0]; done)), e1 148 (by first | decide | (simp; done) | (simp [ms_0]; done))]
    exact hB.2.2.2
theorem cE_rows {F2 : Nat → Nat → Int32} {E : ms_E} (hE : cE FI FL FR SH E) (e1 : ∀ c, c ≠ 23 → F2 c = FI c) : ∀ k, k < 16 → ∃ r, FR 26 k = some r ∧ (SH r).2 = (ms_ex E k).length ∧ (ms_ex E k).length ≤ 600 ∧ bk F2 SH r 0 (ms_ex E k) := fun k hk => by
  obtain ⟨r, r1, r2, r3, r4⟩ := hE.2.2.1 k hk
  exact ⟨r, r1, r2, r3, bk_fr r4 (e1 r (by have := r4.1.2; omega))⟩
theorem cl_frame (hS : h_S n SH) (hB : cB SH FI FL FR A) (h : RX11_frame a1 n sl SH FI FL FR v s) : ∃ F2 L2, s = (n, sl, SH, F2, L2, FR) ∧ cB SH F2 L2 FR (ab_fr a1 A) := by
  have z : ((-1 : Int32)).toInt = -1 := by first | decide | (simp; done) | (simp [ms_0]; done)
  unfold ab_fr
  rcases h with ⟨h0, -, e⟩ | ⟨h0, h⟩
  · exact ⟨FI, FL, e, by rw [if_neg (by omega)]; exact hB⟩
  · rw [n_26 hS] at h
    rcases h with ⟨h1, -, e⟩ | ⟨h1, -, e⟩
    · refine ⟨_, FL, e, ?_⟩
      rw [if_pos (by omega)]
      have hr := cE_rows (F2 := h_up FI 23 4 a1) hB.1 (fun c hc => h_up_nc hc)
      obtain ⟨e1, e2, -, e4, e5, e6, e7, e8⟩ := hB.1
      refine cB_23 hB (fun c hc => h_up_nc hc) (fun _ _ => rfl) ⟨e1, by rw [h_up_nc (by first | decide | (simp; done) | (simp [ms_0]; done))]; exact e2, hr, ⟨by rw [h_up_eq]; rfl, ?_, ?_⟩, by rw [h_up_ne (by first | decide | (simp; done) | (simp [ms_0]; done))]; exact e5, e6, by rw [h_up_ne (by first | decide | (simp; done) | (simp [ms_0]; done))]; exact e7, by rw [h_up_ne (by first | decide | (simp; done) | (simp [ms_0]; done))]; exact e8⟩
      · show -1 ≤ a1.toInt
        omega
      · show a1.toInt ≤ 15
        omega
    · exact ⟨FI, FL, e, by rw [if_neg (by omega)]; exact hB⟩
theorem rE_rows {F2 : Nat → Nat → Int32} {E : ms_E} (hE : rE FI FL SH E) (e1 : ∀ c, c ≠ 121 → F2 c = FI c) : ∀ k, k < 16 → (F2 125 k).toInt = (ms_ex E k).length ∧ (ms_ex E k).length ≤ 600 ∧ bk F2 SH 124 (600 * k) (ms_ex E k) := fun k hk => by
  obtain ⟨r1, r2, r3⟩ := hE.2.2.1 k hk
  exact ⟨by rw [e1 125 (by first | decide | (simp; done) | (simp [ms_0]; done))]; exact r1, r2, bk_fr r3 (e1 124 (by first | decide | (simp; done) | (simp [ms_0]; done)))⟩
theorem rl_frame (hB : rB SH FI FL A) (h : RX12_frame a1 n sl SH FI FL FR v s) : ∃ F2 L2, s = (n, sl, SH, F2, L2, FR) ∧ rB SH F2 L2 (ab_fr a1 A) := by
  have z : ((-1 : Int32)).toInt = -1 := by first | decide | (simp; done) | (simp [ms_0]; done)
  have z2 : ((15 : Int32)).toInt = 15 := by first | decide | (simp; done) | (simp [ms_0]; done)
  unfold ab_fr
  rcases h with ⟨h0, -, e⟩ | ⟨h0, h⟩
  · exact ⟨_, FL, e, by rw [if_neg (by omega)]; exact rB_0 hB⟩
  · rw [z2] at h
    rcases h with ⟨h1, -, e⟩ | ⟨h1, -, e⟩
    · exact ⟨_, FL, e, by rw [if_neg (by omega)]; exact rB_0 hB⟩
    · refine ⟨_, _, e, ?_⟩
      rw [if_pos (by omega)]
      have hB := rB_0 (x := (0 : Int32)) hB
      have hr := rE_rows (F2 := h_up (h_up FI 121 0 ((0 : Int32))) 121 5 a1) hB.1 (fun c hc => h_up_nc hc)
      obtain ⟨e1, e2, -, e4, e5, e6, e7, e8⟩ := hB.1
      refine rB_121 hB (fun c hc => h_up_nc hc) (fun _ _ => rfl) (fun k hk => h_up_ne (by omega)) ⟨e1, by rw [h_up_nc (c2 := 123) (by first | decide | (simp; done) | (simp [ms_0]; done))]; exact e2, hr, ⟨by rw [h_up_eq]; rfl, ?_, ?_⟩, by rw [h_up_ne (k2 := 6) (by first | decide | (simp; done) | (simp [ms_0]; done))]; exact e5, e6, by rw [h_up_ne (k2 := 10) (by first | decide | (simp; done) | (simp [ms_0]; done))]; exact e7, by rw [h_up_ne (k2 := 11) (by first | decide | (simp; done) | (simp [ms_0]; done))]; exact e8⟩
      · show -1 ≤ a1.toInt
        omega
      · show a1.toInt ≤ 15
        omega
theorem cl_cfa (hS : h_S n SH) (hB : cB SH FI FL FR A) (h : RX11_cfa a1 x n sl SH FI FL FR v s) : ∃ F2 L2, s = (n, sl, SH, F2, L2, FR) ∧ cB SH F2 L2 FR (ab_cf a1 x A) := by
  have z : ((-1 : Int32)).toInt = -1 := by first | decide | (simp; done) | (simp [ms_0]; done)
  unfold ab_cf
  rcases h with ⟨h0, -, e⟩ | ⟨h0, h⟩
  · exact ⟨FI, FL, e, by rw [if_neg (by omega)]; exact hB⟩
  · rw [n_24 hS] at h
    rcases h with ⟨h1, -, e⟩ | ⟨h1, -, e⟩
    · refine ⟨_, _, e, ?_⟩
      rw [if_pos (by omega)]
      have hr := cE_rows (F2 := h_up FI 23 5 a1) hB.1 (fun c hc => h_up_nc hc)
      obtain ⟨e1, e2, -, e4, e5, e6, e7, e8⟩ := hB.1
      refine cB_23 hB (fun c hc => h_up_nc hc) (fun c hc => h_up_nc hc) ⟨by rw [h_up_nc (c2 := 24) (by first | decide | (simp; done) | (simp [ms_0]; done))]; exact e1, by rw [h_up_nc (by first | decide | (simp; done) | (simp [ms_0]; done))]; exact e2, hr, by rw [h_up_ne (by first | decide | (simp; done) | (simp [ms_0]; done))]; exact e4, ⟨by rw [h_up_eq]; rfl, ?_, ?_⟩, by rw [h_up_eq]; rfl, by rw [h_up_ne (k2 := 7) (by first | decide | (simp; done) | (simp [ms_0]; done)), h_up_ne (k2 := 8) (by first | decide | (simp; done) | (simp [ms_0]; done))]; exact e7, by rw [h_up_ne (k2 := 9) (by first | decide | (simp; done) | (simp [ms_0]; done)), h_up_ne (k2 := 10) (by first | decide | (simp; done) | (simp [ms_0]; done))]; exact e8⟩
      · show -1 ≤ a1.toInt
        omega
      · show a1.toInt ≤ 31
        omega
    · exact ⟨FI, FL, e, by rw [if_neg (by omega)]; exact hB⟩
theorem rl_cfa (hB : rB SH FI FL A) (h : RX12_cfa a1 x n sl SH FI FL FR v s) : ∃ F2 L2, s = (n, sl, SH, F2, L2, FR) ∧ rB SH F2 L2 (ab_cf a1 x A) := by
  have z : ((-1 : Int32)).toInt = -1 := by first | decide | (simp; done) | (simp [ms_0]; done)
  have z2 : ((31 : Int32)).toInt = 31 := by first | decide | (simp; done) | (simp [ms_0]; done)
  unfold ab_cf
  rcases h with ⟨h0, -, e⟩ | ⟨h0, h⟩
  · exact ⟨_, FL, e, by rw [if_neg (by omega)]; exact rB_0 hB⟩
  · rw [z2] at h
    rcases h with ⟨h1, -, e⟩ | ⟨h1, -, e⟩
    · exact ⟨_, FL, e, by rw [if_neg (by omega)]; exact rB_0 hB⟩
    · refine ⟨_, _, e, ?_⟩
      rw [if_pos (by omega)]
      have hB := rB_0 (x := (0 : Int32)) hB
      have hr := rE_rows (F2 := h_up (h_up FI 121 0 ((0 : Int32))) 121 6 a1) hB.1 (fun c hc => h_up_nc hc)
      obtain ⟨e1, e2, -, e4, e5, e6, e7, e8⟩ := hB.1
      refine rB_121 hB (fun c hc => h_up_nc hc) (fun c hc => h_up_nc hc) (fun k hk => h_up_ne (by omega)) ⟨by rw [h_up_nc (c2 := 122) (by first | decide | (simp; done) | (simp [ms_0]; done))]; exact e1, by rw [h_up_nc (c2 := 123) (by first | decide | (simp; done) | (simp [ms_0]; done))]; exact e2, hr, by rw [h_up_ne (k2 := 5) (by first | decide | (simp; done) | (simp [ms_0]; done))]; exact e4, ⟨by rw [h_up_eq]; rfl, ?_, ?_⟩, by rw [h_up_eq]; rfl, by rw [h_up_ne (k2 := 10) (by first | decide | (simp; done) | (simp [ms_0]; done)), h_up_ne (k2 := 8) (by first | decide | (simp; done) | (simp [ms_0]; done))]; exact e7, by rw [h_up_ne (k2 := 11) (by first | decide | (simp; done) | (simp [ms_0]; done)), h_up_ne (k2 := 9) (by first | decide | (simp; done) | (simp [ms_0]; done))]; exact e8⟩
      · show -1 ≤ a1.toInt
        omega
      · show a1.toInt ≤ 31
        omega
theorem op_is {a : Int32} {y : Int64} : (a.toInt = 0 ∧ (if a.toInt = 0 then none else some y) = none) ∨ (a.toInt ≠ 0 ∧ (if a.toInt = 0 then none else some y) = some y) := by
  by_cases h : a.toInt = 0
  · exact Or.inl ⟨h, if_pos h⟩
  · exact Or.inr ⟨h, if_neg h⟩
theorem cl_set (hB : cB SH FI FL FR A) (h : RX11_set a1 x a3 n sl SH FI FL FR v s) : ∃ F2 L2, s = (n, sl, SH, F2, L2, FR) ∧ cB SH F2 L2 FR (ab_se a1 x a3 A) := by
  have z : ((1 : Int32)).toInt = 1 := by first | decide | (simp; done) | (simp [ms_0]; done)
  unfold ab_se
  rcases h with ⟨h0, -, e⟩ | ⟨h0, h⟩
  · refine ⟨_, _, e, ?_⟩
    rw [if_pos h0]
    have hr := cE_rows (F2 := h_up FI 23 7 a3) hB.1 (fun c hc => h_up_nc hc)
    obtain ⟨e1, e2, -, e4, e5, e6, e7, e8⟩ := hB.1
    refine cB_23 hB (fun c hc => h_up_nc hc) (fun c hc => h_up_nc hc) ⟨by rw [h_up_nc (c2 := 24) (by first | decide | (simp; done) | (simp [ms_0]; done))]; exact e1, by rw [h_up_nc (by first | decide | (simp; done) | (simp [ms_0]; done))]; exact e2, hr, by rw [h_up_ne (k2 := 4) (by first | decide | (simp; done) | (simp [ms_0]; done))]; exact e4, by rw [h_up_ne (k2 := 5) (by first | decide | (simp; done) | (simp [ms_0]; done))]; exact e5, by rw [h_up_ne (k2 := 6) (by first | decide | (simp; done) | (simp [ms_0]; done))]; exact e6, by rw [h_up_eq, h_up_eq]; exact op_is, by rw [h_up_ne (k2 := 9) (by first | decide | (simp; done) | (simp [ms_0]; done)), h_up_ne (k2 := 10) (by first | decide | (simp; done) | (simp [ms_0]; done))]; exact e8⟩
  · rw [if_neg h0]
    rw [z] at h
    rcases h with ⟨h1, -, e⟩ | ⟨h1, -, e⟩
    · refine ⟨_, _, e, ?_⟩
      rw [if_pos h1]
      have hr := cE_rows (F2 := h_up FI 23 9 a3) hB.1 (fun c hc => h_up_nc hc)
      obtain ⟨e1, e2, -, e4, e5, e6, e7, e8⟩ := hB.1
      refine cB_23 hB (fun c hc => h_up_nc hc) (fun c hc => h_up_nc hc) ⟨by rw [h_up_nc (c2 := 24) (by first | decide | (simp; done) | (simp [ms_0]; done))]; exact e1, by rw [h_up_nc (by first | decide | (simp; done) | (simp [ms_0]; done))]; exact e2, hr, by rw [h_up_ne (k2 := 4) (by first | decide | (simp; done) | (simp [ms_0]; done))]; exact e4, by rw [h_up_ne (k2 := 5) (by first | decide | (simp; done) | (simp [ms_0]; done))]; exact e5, by rw [h_up_ne (k2 := 6) (by first | decide | (simp; done) | (simp [ms_0]; done))]; exact e6, by rw [h_up_ne (k2 := 7) (by first | decide | (simp; done) | (simp [ms_0]; done)), h_up_ne (k2 := 8) (by first | decide | (simp; done) | (simp [ms_0]; done))]; exact e7, by rw [h_up_eq, h_up_eq]; exact op_is⟩
    · exact ⟨FI, FL, e, by rw [if_neg h1]; exact hB⟩
theorem rl_set (hB : rB SH FI FL A) (h : RX12_set a1 x a3 n sl SH FI FL FR v s) : ∃ F2 L2, s = (n, sl, SH, F2, L2, FR) ∧ rB SH F2 L2 (ab_se a1 x a3 A) := by
  have z : ((1 : Int32)).toInt = 1 := by first | decide | (simp; done) | (simp [ms_0]; done)
  unfold ab_se
  rcases h with ⟨h0, -, e⟩ | ⟨h0, h⟩
  · exact ⟨_, FL, e, by rw [if_neg (by omega), if_neg (by omega)]; exact rB_0 hB⟩
  · rw [z] at h
    rcases h with ⟨h1, -, e⟩ | ⟨h1, h⟩
    · exact ⟨_, FL, e, by rw [if_neg (by omega), if_neg (by omega)]; exact rB_0 hB⟩
    · have hB := rB_0 (x := (0 : Int32)) hB
      rcases h with ⟨h2, -, e⟩ | ⟨h2, -, e⟩
      · refine ⟨_, _, e, ?_⟩
        rw [if_pos h2]
        have hr := rE_rows (F2 := h_up (h_up FI 121 0 ((0 : Int32))) 121 10 a3) hB.1 (fun c hc => h_up_nc hc)
        obtain ⟨e1, e2, -, e4, e5, e6, e7, e8⟩ := hB.1
        refine rB_121 hB (fun c hc => h_up_nc hc) (fun c hc => h_up_nc hc) (fun k hk => h_up_ne (by omega)) ⟨by rw [h_up_nc (c2 := 122) (by first | decide | (simp; done) | (simp [ms_0]; done))]; exact e1, by rw [h_up_nc (c2 := 123) (by first | decide | (simp; done) | (simp [ms_0]; done))]; exact e2, hr, by rw [h_up_ne (k2 := 5) (by first | decide | (simp; done) | (simp [ms_0]; done))]; exact e4, by rw [h_up_ne (k2 := 6) (by first | decide | (simp; done) | (simp [ms_0]; done))]; exact e5, by rw [h_up_ne (k2 := 7) (by first | decide | (simp; done) | (simp [ms_0]; done))]; exact e6, by rw [h_up_eq, h_up_eq]; exact op_is, by rw [h_up_ne (k2 := 11) (by first | decide | (simp; done) | (simp [ms_0]; done)), h_up_ne (k2 := 9) (by first | decide | (simp; done) | (simp [ms_0]; done))]; exact e8⟩
      · refine ⟨_, _, e, ?_⟩
        rw [if_neg h2, if_pos (by omega)]
        have hr := rE_rows (F2 := h_up (h_up FI 121 0 ((0 : Int32))) 121 11 a3) hB.1 (fun c hc => h_up_nc hc)
        obtain ⟨e1, e2, -, e4, e5, e6, e7, e8⟩ := hB.1
        refine rB_121 hB (fun c hc => h_up_nc hc) (fun c hc => h_up_nc hc) (fun k hk => h_up_ne (by omega)) ⟨by rw [h_up_nc (c2 := 122) (by first | decide | (simp; done) | (simp [ms_0]; done))]; exact e1, by rw [h_up_nc (c2 := 123) (by first | decide | (simp; done) | (simp [ms_0]; done))]; exact e2, hr, by rw [h_up_ne (k2 := 5) (by first | decide | (simp; done) | (simp [ms_0]; done))]; exact e4, by rw [h_up_ne (k2 := 6) (by first | decide | (simp; done) | (simp [ms_0]; done))]; exact e5, by rw [h_up_ne (k2 := 7) (by first | decide | (simp; done) | (simp [ms_0]; done))]; exact e6, by rw [h_up_ne (k2 := 10) (by first | decide | (simp; done) | (simp [ms_0]; done)), h_up_ne (k2 := 8) (by first | decide | (simp; done) | (simp [ms_0]; done))]; exact e7, by rw [h_up_eq, h_up_eq]; exact op_is⟩
theorem cl_register (hS : h_S n SH) (hB : cB SH FI FL FR A) : fX11_register a1 SH FI FL FR = ab_rg a1 A := by
  have q : (a1.toInt64).toInt = a1.toInt := i_2l rfl
  have q2 : ((Int32.ofNat (SH 24).2).toInt64).toInt = 32 := i_2l (n_24 hS)
  have z : ((0 : Int64)).toInt = 0 := by first | decide | (simp; done) | (simp [ms_0]; done)
  unfold fX11_register fX1_registerValue ab_rg
  rw [q, q2, z]
  by_cases h0 : a1.toInt < 0
  · rw [if_pos h0, if_neg (by omega)]
  · rw [if_neg h0]
    by_cases h1 : a1.toInt < 32
    · rw [if_pos h1, if_pos (by omega), l_2i q (by omega) (by omega)]
      exact hB.1.1 _ (by omega)
    · rw [if_neg h1, if_neg (by omega)]
theorem rl_register (hB : rB SH FI FL A) (h : RX12_register a1 n sl SH FI FL FR w s) : w = ab_rg a1 A ∧ ∃ F2 L2, s = (n, sl, SH, F2, L2, FR) ∧ rB SH F2 L2 A := by
  have z : ((31 : Int32)).toInt = 31 := by first | decide | (simp; done) | (simp [ms_0]; done)
  unfold ab_rg
  rcases h with ⟨h0, e1, e⟩ | ⟨h0, h⟩
  · exact ⟨by rw [if_neg (by omega)]; exact e1, _, FL, e, rB_0 hB⟩
  · rw [z] at h
    rcases h with ⟨h1, e1, e⟩ | ⟨h1, -, e1, e⟩
    · exact ⟨by rw [if_neg (by omega)]; exact e1, _, FL, e, rB_0 hB⟩
    · exact ⟨by rw [if_pos (by omega), e1]; exact hB.1.1 _ (by omega), _, FL, e, rB_0 hB⟩
theorem cl_peek (hS : h_S n SH) (hB : cB SH FI FL FR A) : fX11_peek a1 SH FI FL FR = ab_pk a1 A := by
  unfold fX11_peek ab_pk
  rw [n_25 hS]
  by_cases h0 : a1.toInt < 0
  · rw [if_pos h0, if_neg (by omega)]
  · rw [if_neg h0]
    by_cases h1 : a1.toInt < 4096
    · rw [if_pos h1, if_pos (by omega)]
      exact (hB.1.2.1 _ (by omega)).1
    · rw [if_neg h1, if_neg (by omega)]
theorem rl_peek (hB : rB SH FI FL A) (h : RX12_peek a1 n sl SH FI FL FR v s) : v = ab_pk a1 A ∧ ∃ F2 L2, s = (n, sl, SH, F2, L2, FR) ∧ rB SH F2 L2 A := by
  have z : ((4095 : Int32)).toInt = 4095 := by first | decide | (simp; done) | (simp [ms_0]; done)
  unfold ab_pk
  rcases h with ⟨h0, e1, e⟩ | ⟨h0, h⟩
  · exact ⟨by rw [if_neg (by omega)]; exact e1, _, FL, e, rB_0 hB⟩
  · rw [z] at h
    rcases h with ⟨h1, e1, e⟩ | ⟨h1, -, e1, e⟩
    · exact ⟨by rw [if_neg (by omega)]; exact e1, _, FL, e, rB_0 hB⟩
    · exact ⟨by rw [if_pos (by omega), e1]; exact hB.1.2.1 _ (by omega), _, FL, e, rB_0 hB⟩
theorem cl_out (hB : cB SH FI FL FR A) : fX11_out a1 SH FI FL FR = ab_ou a1 A := by
  obtain ⟨o1, o2, o3⟩ := hB.2.2.2
  unfold fX11_out ab_ou
  rw [o1]
  by_cases h0 : a1.toInt < 0
  · rw [if_pos h0, if_neg (by omega)]
  · rw [if_neg h0]
    by_cases h1 : a1.toInt < (A.2.2.2.1 : Int)
    · rw [if_pos h1, if_pos ⟨by omega, h1⟩]
      exact o3 _ (by omega)
    · rw [if_neg h1, if_neg (by omega)]
theorem rl_out (hB : rB SH FI FL A) (h : RX12_out a1 n sl SH FI FL FR v s) : v = ab_ou a1 A ∧ ∃ F2 L2, s = (n, sl, SH, F2, L2, FR) ∧ rB SH F2 L2 A := by
  obtain ⟨o1, o2, o3⟩ := hB.2.2.2
  unfold ab_ou
  rcases h with ⟨h0, e1, e⟩ | ⟨h0, h⟩
  · exact ⟨by rw [if_neg (by omega)]; exact e1, _, FL, e, rB_0 hB⟩
  · rw [o1] at h
    rcases h with ⟨h1, -, e1, e⟩ | ⟨h1, e1, e⟩
    · exact ⟨by rw [if_pos ⟨by omega, h1⟩, e1]; exact o3 _ (by omega), _, FL, e, rB_0 hB⟩
    · exact ⟨by rw [if_neg (by omega)]; exact e1, _, FL, e, rB_0 hB⟩
theorem cl_parts (hB : cB SH FI FL FR A) : (fX11_parts SH FI FL FR).toInt = (A.2.2.1.2.length : Int) := crx_n hB.2.2.1
theorem rl_parts (hB : rB SH FI FL A) (h : RX12_parts n sl SH FI FL FR v s) : v.toInt = (A.2.2.1.2.length : Int) ∧ ∃ F2 L2, s = (n, sl, SH, F2, L2, FR) ∧ rB SH F2 L2 A := by
  obtain ⟨e1, e⟩ := h
  exact ⟨by rw [e1]; exact hB.2.2.1.1, _, FL, e, rB_0 hB⟩
end PLC
end
section
/-! FAULTS ARE NOT 0; FRAME's base for means. -/
def q_ok (bs : List Int32) (r : Int ⊕ (Int64 × Nat)) : Prop := match r with
  | .inl e => e ≠ 0
  | .inr x => x.2 ≤ bs.length
def o_ok (bs : List Int32) (r : Int ⊕ ms_O) : Prop := match r with
  | .inl e => e ≠ 0
  | .inr x => x.2.2.1 ≤ bs.length
def a_ok (bs : List Int32) (r : Int ⊕ ms_A) : Prop := match r with
  | .inl e => e ≠ 0
  | .inr (.inl x) => x.1 ≤ bs.length
  | .inr (.inr (.inl x)) => x.2 ≤ bs.length
  | .inr (.inr (.inr x)) => x.2 ≤ bs.length
section NE
variable {E : ms_E} {bs : List Int32} {p l o k : Nat} {c : Int} {s : ms_S} {x : ms_O} {sg : Bool}
theorem lb_ok : ∀ (f i p : Nat) (v : Int64), q_ok bs (ms_lb sg bs f i p v) := by
  intro f
  induction f with
  | zero => intro i p v; show (15 : Int) ≠ 0; (first | decide | (simp; done) | (simp [ms_0]; done))
  | succ f ih =>
    intro i p v
    rw [ms_lb]
    cases hb : bs[p]? with
    | none => show (1 : Int) ≠ 0; (first | decide | (simp; done) | (simp [ms_0]; done))
    | some b =>
      (try dsimp only)
      have hp := (List.getElem?_eq_some_iff.mp hb).1
      by_cases h : b.toInt < 128
      · rw [if_pos h]
        show p + 1 ≤ bs.length
        omega
      · rw [if_neg h]
        exact ih _ _ _
theorem fx_ok : q_ok bs (ms_fx bs p k) := by
  unfold ms_fx
  by_cases h : bs.length < p + k
  · rw [if_pos h]; show (1 : Int) ≠ 0; (first | decide | (simp; done) | (simp [ms_0]; done))
  · rw [if_neg h]; show p + k ≤ bs.length; omega
theorem fs_ok : q_ok bs (ms_fs bs p k) := by
  unfold ms_fs
  by_cases h : bs.length < p + k
  · rw [if_pos h]; show (1 : Int) ≠ 0; (first | decide | (simp; done) | (simp [ms_0]; done))
  · rw [if_neg h]; show p + k ≤ bs.length; omega
theorem o1_ok {r : Int ⊕ (Int64 × Nat)} (h : q_ok bs r) : o_ok bs (ms_o1 r) := by
  match r, h with
  | .inl e, h => exact h
  | .inr x, h => exact h
theorem o2_ok {r : Int ⊕ (Int64 × Nat)} {q : Nat → Int ⊕ (Int64 × Nat)} (h : q_ok bs r) (g : ∀ p, q_ok bs (q p)) : o_ok bs (ms_o2 r q) := by
  match r, h with
  | .inl e, h => exact h
  | .inr x, _ =>
    have g2 := g x.2
    unfold ms_o2
    (try dsimp only)
    generalize q x.2 = z at g2 ⊢
    match z, g2 with
    | .inl e, g2 => exact g2
    | .inr y, g2 => exact g2
theorem o3_ok {r : Int ⊕ (Int64 × Nat)} (h : q_ok bs r) : o_ok bs (ms_o3 bs r) := by
  match r, h with
  | .inl e, h => exact h
  | .inr x, h =>
    have h : x.2 ≤ bs.length := h
    unfold ms_o3
    (try dsimp only)
    by_cases c : x.1.toInt < 0 ∨ (bs.length : Int) - x.2 < x.1.toInt
    · rw [if_pos c]; show (1 : Int) ≠ 0; (first | decide | (simp; done) | (simp [ms_0]; done))
    · rw [if_neg c]
      show x.2 + x.1.toInt.toNat ≤ bs.length
      omega
theorem op_ok : o_ok bs (ms_op c bs p) := by
  unfold ms_op
  by_cases h1 : ms_kn c = false
  · rw [if_pos h1]; show (2 : Int) ≠ 0; (first | decide | (simp; done) | (simp [ms_0]; done))
  rw [if_neg h1]
  by_cases h2 : ms_sh c = 24
  · rw [if_pos h2]; exact o3_ok (lb_ok _ _ _ _)
  rw [if_neg h2]
  by_cases h3 : ms_sh c = 23
  · rw [if_pos h3]; exact o2_ok (lb_ok _ _ _ _) (fun _ => lb_ok _ _ _ _)
  rw [if_neg h3]
  by_cases h4 : ms_sh c = 22
  · rw [if_pos h4]; exact o2_ok (lb_ok _ _ _ _) (fun _ => lb_ok _ _ _ _)
  rw [if_neg h4]
  by_cases h5 : ms_sh c = 21
  · rw [if_pos h5]; exact o1_ok (lb_ok _ _ _ _)
  rw [if_neg h5]
  by_cases h6 : ms_sh c = 20
  · rw [if_pos h6]; exact o1_ok (lb_ok _ _ _ _)
  rw [if_neg h6]
  by_cases h7 : 10 < ms_sh c
  · rw [if_pos h7]; exact o1_ok fs_ok
  · rw [if_neg h7]; exact o1_ok fx_ok
def nz {α : Type} (x : Int ⊕ α) : Prop := ∀ e, x = .inl e → e ≠ 0
theorem nz_r {α : Type} {y : α} : nz (.inr y : Int ⊕ α) := fun e h => by cases h
theorem nz_l {α : Type} {e : Int} (h : e ≠ 0) : nz (.inl e : Int ⊕ α) := fun e2 h2 => by
  cases h2
  exact h
theorem nz_if {α : Type} {P : Prop} {d : Decidable P} {x y : Int ⊕ α} (h1 : nz x) (h2 : nz y) : nz (if P then x else y) := by
  by_cases h : P
  · rw [if_pos h]; exact h1
  · rw [if_neg h]; exact h2
theorem nz_ps {v : Int64} {S : List Int64} {H : ms_H} : nz (ms_ps v S H) := by
  unfold ms_ps
  exact nz_if (nz_l (by decide)) nz_r
theorem x_nz {a b : Int64} {bl : List Int32} {S : List Int64} {H : ms_H} : nz (ms_x E c a b bl S H) := by
  unfold ms_x
  refine nz_if nz_ps (nz_if nz_r (nz_if nz_ps (nz_if nz_ps (nz_if nz_r (nz_if nz_ps (nz_if nz_r (nz_if ?_ (nz_if ?_ (nz_if nz_r ?_)))))))))
  · cases ms_ob E with
    | none => exact nz_l (by decide)
    | some v => exact nz_ps
  · exact nz_if (nz_l (by decide)) nz_ps
  · cases S with
    | nil => exact nz_l (by decide)
    | cons t R =>
      refine nz_if (nz_if (nz_l (by decide)) nz_r) (nz_if (nz_if (nz_l (by decide)) nz_r) (nz_if nz_ps (nz_if nz_r (nz_if nz_ps (nz_if nz_r (nz_if nz_r (nz_if nz_r (nz_if nz_r (nz_if ?_ (nz_if nz_r ?_))))))))))
      · cases ms_tl E with
        | none => exact nz_l (by decide)
        | some v => exact nz_r
      · cases R with
        | nil => exact nz_l (by decide)
        | cons s Q =>
          refine nz_if nz_ps (nz_if nz_r (nz_if ?_ (nz_if (nz_l (by decide)) nz_r)))
          cases Q with
          | nil => exact nz_l (by decide)
          | cons r Q2 => exact nz_r
theorem x_ne {a b : Int64} {bl : List Int32} {S : List Int64} {H : ms_H} {e : Int} (h : ms_x E c a b bl S H = .inl e) : e ≠ 0 := by
  exact x_nz e h
theorem bs_ne {e : Int} (h : ms_bs E s = .inl e) : e ≠ 0 := by
  unfold ms_bs at h
  repeat' split at h
  all_goals (cases h <;> decide)
theorem jp_ok {a : Int64} : a_ok bs (ms_jp bs p a s) := by
  unfold ms_jp
  by_cases h : (p : Int) + a.toInt < 0 ∨ (bs.length : Int) < p + a.toInt
  · rw [if_pos h]; show (7 : Int) ≠ 0; (first | decide | (simp; done) | (simp [ms_0]; done))
  · rw [if_neg h]
    show ((p : Int) + a.toInt).toNat ≤ bs.length
    omega
theorem d4_ok {r : Int ⊕ (List Int64 × ms_H)} (hp : p ≤ bs.length) (h : ∀ e, r = .inl e → e ≠ 0) : a_ok bs (ms_d4 p s r) := by
  match r, h with
  | .inl e, h => exact h e rfl
  | .inr y, _ => exact hp
theorem d3_ok (hp : x.2.2.1 ≤ bs.length) : a_ok bs (ms_d3 E l o bs c x s) := by
  unfold ms_d3
  by_cases h1 : c = 47
  · rw [if_pos h1]; exact jp_ok
  rw [if_neg h1]
  by_cases h2 : c = 40
  · rw [if_pos h2]
    cases hs : s.1 with
    | nil => show (3 : Int) ≠ 0; (first | decide | (simp; done) | (simp [ms_0]; done))
    | cons t R =>
      (try dsimp only)
      by_cases h3 : t.toInt = 0
      · rw [if_pos h3]; exact hp
      · rw [if_neg h3]; exact jp_ok
  rw [if_neg h2]
  by_cases h3 : c = 152 ∨ c = 153
  · rw [if_pos h3]
    by_cases h4 : 15 < x.1.toInt ∨ o = 8
    · rw [if_pos h4]; show (8 : Int) ≠ 0; (first | decide | (simp; done) | (simp [ms_0]; done))
    · rw [if_neg h4]; exact hp
  rw [if_neg h3]
  by_cases h4 : c = 145
  · rw [if_pos h4]
    by_cases h5 : l = 1 ∨ ms_fr E = -1
    · rw [if_pos h5]; show (11 : Int) ≠ 0; (first | decide | (simp; done) | (simp [ms_0]; done))
    · rw [if_neg h5]; exact hp
  · rw [if_neg h4]; exact d4_ok hp (fun e h => x_ne h)
theorem d2_ok (hp : x.2.2.1 ≤ bs.length) : a_ok bs (ms_d2 E l o bs c x s) := by
  unfold ms_d2
  by_cases h1 : c = 147 ∨ c = 157
  · rw [if_pos h1]
    cases ms_pc c x.1 x.2.1 s with
    | none => show (13 : Int) ≠ 0; (first | decide | (simp; done) | (simp [ms_0]; done))
    | some s2 => exact hp
  rw [if_neg h1]
  by_cases h2 : (s.1.length : Int) < ms_wt c x.1
  · rw [if_pos h2]; show (3 : Int) ≠ 0; (first | decide | (simp; done) | (simp [ms_0]; done))
  · rw [if_neg h2]; exact d3_ok hp
theorem do_ok (hp : x.2.2.1 ≤ bs.length) : a_ok bs (ms_do E l o bs c x s) := by
  unfold ms_do
  by_cases h1 : s.2.1.1 ≠ 0 ∧ ¬ (c = 147 ∨ c = 157 ∨ c = 150 ∨ c = 47 ∨ c = 152 ∨ c = 153)
  · rw [if_pos h1]; show (9 : Int) ≠ 0; (first | decide | (simp; done) | (simp [ms_0]; done))
  rw [if_neg h1]
  by_cases h2 : (c = 144 ∨ c = 146) ∧ (x.1.toInt < 0 ∨ 31 < x.1.toInt)
  · rw [if_pos h2]; show (14 : Int) ≠ 0; (first | decide | (simp; done) | (simp [ms_0]; done))
  rw [if_neg h2]
  by_cases h3 : c = 148 ∧ (x.1.toInt < 1 ∨ 8 < x.1.toInt)
  · rw [if_pos h3]; show (10 : Int) ≠ 0; (first | decide | (simp; done) | (simp [ms_0]; done))
  · rw [if_neg h3]; exact d2_ok hp
theorem one_ok (hp : p < bs.length) : a_ok bs (ms_one E l o bs p s) := by
  unfold ms_one
  rw [List.getElem?_eq_getElem hp]
  (try dsimp only)
  have h := op_ok (bs := bs) (c := (bs[p]).toInt) (p := p + 1)
  generalize ms_op (bs[p]).toInt bs (p + 1) = z at h ⊢
  match z, h with
  | .inl e, h => exact h
  | .inr x, h => exact do_ok h
theorem run_ne : ∀ (g l o : Nat) (bs : List Int32) (p f : Nat) (s : ms_S) (e : Int), p ≤ bs.length → ms_run E g l o bs p f s = some (.inl e) → e ≠ 0 := by
  intro g
  induction g with
  | zero => intro l o bs p f s e _ h; cases h
  | succ g ih =>
    intro l o bs p f s e hp h
    rw [ms_run] at h
    by_cases h1 : p = bs.length
    · rw [if_pos h1] at h; cases h
    rw [if_neg h1] at h
    by_cases h2 : f = 0
    · rw [if_pos h2] at h
      cases h
      decide
    rw [if_neg h2] at h
    have a := one_ok (E := E) (l := l) (o := o) (s := s) (bs := bs) (p := p) (by omega)
    generalize ms_one E l o bs p s = q at h a
    match q, a, h with
    | .inl e2, a, h => cases h; exact a
    | .inr (.inl x), a, h => exact ih _ _ _ _ _ _ _ a h
    | .inr (.inr (.inl x)), a, h =>
      (try dsimp only at h)
      cases hc : ms_run E g l (o + 1) (ms_ex E x.1) 0 (f - 1) s with
      | none => rw [hc] at h; cases h
      | some w =>
        rw [hc] at h
        match w, hc, h with
        | .inl e2, hc, h => cases h; exact ih _ _ _ _ _ _ _ (Nat.zero_le _) hc
        | .inr y, _, h => exact ih _ _ _ _ _ _ _ a h
    | .inr (.inr (.inr x)), a, h =>
      (try dsimp only at h)
      cases hc : ms_run E g 1 o (ms_ex E (ms_fr E).toNat) 0 (f - 1) ([], ms_0, []) with
      | none => rw [hc] at h; cases h
      | some w =>
        rw [hc] at h
        match w, hc, h with
        | .inl e2, hc, h => cases h; exact ih _ _ _ _ _ _ _ (Nat.zero_le _) hc
        | .inr y, _, h =>
          (try dsimp only at h)
          cases hz : ms_bs E y.2 with
          | inl e2 =>
            rw [hz] at h
            cases h
            exact bs_ne hz
          | inr v =>
            rw [hz] at h
            (try dsimp only at h)
            by_cases h3 : s.1.length = 128
            · rw [if_pos h3] at h; cases h; (first | decide | (simp; done) | (simp [ms_0]; done))
            · rw [if_neg h3] at h; exact ih _ _ _ _ _ _ _ a h
theorem ms_ne {f : Nat} {e : Int} (h : ms_R E l o bs 0 f s (.inl e)) : e ≠ 0 := by
  obtain ⟨g, h⟩ := h
  exact run_ne g l o bs 0 f s e (Nat.zero_le _) h
theorem fb_ex (E : ms_E) : ∃ fb : xX, xfq E fb := by
  by_cases h1 : ms_fr E = -1
  · exact ⟨.inl 11, ⟨fun _ => rfl, fun h => absurd h1 h⟩, fun e h => by cases h; (first | decide | (simp; done) | (simp [ms_0]; done))⟩
  · by_cases h2 : ∃ q, ms_R E 1 0 (ms_ex E (ms_fr E).toNat) 0 1000 ([], ms_0, []) q
    · obtain ⟨q, hq⟩ := h2
      match q, hq with
      | .inl e2, hq => exact ⟨.inl e2, ⟨fun h => absurd h h1, fun _ q2 hq2 => by rw [ms_R_u hq2 hq]⟩, fun e he => by cases he; exact ms_ne hq⟩
      | .inr y, hq => exact ⟨ms_bs E y.2, ⟨fun h => absurd h h1, fun _ q2 hq2 => by rw [ms_R_u hq2 hq]⟩, fun e he => bs_ne he⟩
    · exact ⟨.inl 11, ⟨fun h => absurd h h1, fun _ q hq => absurd ⟨q, hq⟩ h2⟩, fun e h => by cases h; (first | decide | (simp; done) | (simp [ms_0]; done))⟩
end NE
/-! RUN, FIND, WHERE as the desk calls them. -/
def go_is (A : ab_A) (v : Int32) (a : Int ⊕ ms_Q) (A2 : ab_A) : Prop := match a with
  | .inl e => v.toInt = e ∧ A2 = A
  | .inr Q => v.toInt = 0 ∧ A2 = (A.1, A.2.1, Q, A.2.2.2)
def ok_f (a : Int32) : Prop := 1 ≤ a.toInt ∧ a.toInt ≤ 1000
def run_is (A : ab_A) (a1 a2 : Int32) (v : Int32) (A2 : ab_A) : Prop := (¬ (0 ≤ a1.toInt ∧ a1.toInt ≤ 15 ∧ ok_f a2) ∧ v = -1 ∧ A2 = A) ∨ ((0 ≤ a1.toInt ∧ a1.toInt ≤ 15 ∧ ok_f a2) ∧ ∃ a, ms_G A.1 (ms_ex A.1 a1.toInt.toNat) a2.toInt.toNat a ∧ go_is A v a A2)
def fin_is (A : ab_A) (a1 : Int32) (a2 a3 : Int64) (a4 : Int32) (v : Int32) (A2 : ab_A) : Prop := (¬ (0 ≤ a1.toInt ∧ a1.toInt ≤ 3 ∧ ok_f a4) ∧ v = -1 ∧ A2 = A) ∨ ((0 ≤ a1.toInt ∧ a1.toInt ≤ 3 ∧ ok_f a4) ∧ ∃ a, ms_F A.1 (A.2.1 a1.toInt.toNat) a3 a2 0 a4.toInt.toNat a ∧ go_is A v a A2)
/-- a variable's bytes -/
def v_by (x : lp_V) : List Int32 := x.2.2.2.1.map Int32.ofInt
def v_bt (V : List lp_V) : Prop := ∀ x, x ∈ V → ∀ k, k < x.2.2.2.1.length → 0 ≤ x.2.2.2.1.getD k 0 ∧ x.2.2.2.1.getD k 0 ≤ 255
def whe_is (A : ab_A) (V : List lp_V) (a1 : Int32) (a2 : Int64) (a3 : Int32) (v : Int32) (A2 : ab_A) : Prop := (¬ (0 ≤ a1.toInt ∧ a1.toInt < (V.length : Int) ∧ ok_f a3) ∧ v = -1 ∧ A2 = A) ∨ ((0 ≤ a1.toInt ∧ a1.toInt < (V.length : Int) ∧ ok_f a3) ∧ ∃ x, V[a1.toInt.toNat]? = some x ∧ ∃ a, ((x.2.2.1 = 0 ∧ ms_G A.1 (v_by x) a3.toInt.toNat a) ∨ (x.2.2.1 ≠ 0 ∧ ms_F A.1 (v_by x) a2 0 0 a3.toInt.toNat a)) ∧ go_is A v a A2)
theorem th_F {FR : Nat → Nat → Option Nat} (h : h_FR FR) : th FR ∧ thI FR := by
  have k1 : ∀ i : Nat, i < 16 → (73, i, 74 + i) ∈ hf_L := by decide +kernel
  have k2 : ∀ i : Nat, i < 16 → (53, i, 54 + i) ∈ hf_L := by decide +kernel
  exact ⟨⟨h (72, 0, 73) (by decide +kernel), fun i hi => h (73, i, 74 + i) (k1 i hi)⟩, ⟨h (52, 0, 53) (by decide +kernel), fun i hi => h (53, i, 54 + i) (k2 i hi)⟩⟩
theorem tx_91 {FR : Nat → Nat → Option Nat} (h : h_FR FR) : tx FR 91 92 93 := by
  have k1 : ∀ i : Nat, i < 16 → (92, i, 93 + i) ∈ hf_L := by decide +kernel
  exact ⟨h (91, 0, 92) (by decide +kernel), fun i hi => h (92, i, 93 + i) (k1 i hi)⟩
section GO
variable {n sl : Nat} {SH : Nat → Nat × Nat} {FI F2 : Nat → Nat → Int32} {FL L2 : Nat → Nat → Int64} {FR R2 : Nat → Nat → Option Nat} {A A2 : ab_A} {s : hS} {v v2 a1 a2 a3 a4 : Int32} {b2 b3 : Int64} {V : List lp_V} {a : Int ⊕ ms_Q}
theorem fu_c : (fX11_isFuel a1 SH FI FL FR).toInt = 0 ↔ ¬ ok_f a1 := by
  unfold fX11_isFuel ok_f
  have z1 : ((1 : Int32)).toInt = 1 := by first | decide | (simp; done) | (simp [ms_0]; done)
  have z2 : ((1000 : Int32)).toInt = 1000 := by first | decide | (simp; done) | (simp [ms_0]; done)
  have z0 : ((0 : Int32)).toInt = 0 := by first | decide | (simp; done) | (simp [ms_0]; done)
  rw [z1, z2]
  by_cases h1 : a1.toInt < 1
  · rw [if_pos h1, z0]; omega
  · rw [if_neg h1]
    by_cases h2 : 1000 < a1.toInt
    · rw [if_pos h2, z0]; omega
    · rw [if_neg h2, z1]; omega
theorem fu_r : (fX12_isFuel a1 SH FI FL FR).toInt = 0 ↔ ¬ ok_f a1 := by
  unfold fX12_isFuel ok_f
  have z1 : ((1 : Int32)).toInt = 1 := by first | decide | (simp; done) | (simp [ms_0]; done)
  have z2 : ((1000 : Int32)).toInt = 1000 := by first | decide | (simp; done) | (simp [ms_0]; done)
  have z0 : ((0 : Int32)).toInt = 0 := by first | decide | (simp; done) | (simp [ms_0]; done)
  rw [z1, z2]
  by_cases h1 : a1.toInt < 1
  · rw [if_pos h1, z0]; omega
  · rw [if_neg h1]
    by_cases h2 : 1000 < a1.toInt
    · rw [if_pos h2, z0]; omega
    · rw [if_neg h2, z1]; omega
theorem cz_go (hB : cB SH FI FL FR A) (k : kc FI FL FR F2 L2 R2) (h : cz F2 L2 R2 SH A.2.2.1 v a) : ∃ A2, go_is A v a A2 ∧ cB SH F2 L2 R2 A2 := by
  match a, h with
  | .inl e, h => exact ⟨A, ⟨h.1, rfl⟩, cB_kc hB k h.2.2⟩
  | .inr Q, h => exact ⟨(A.1, A.2.1, Q, A.2.2.2), ⟨h.1, rfl⟩, cB_kc hB k h.2⟩
theorem rB_xr {Q : ms_Q} (hB : rB SH FI FL A) (x : xr FI FL F2 L2) (hq : rr F2 L2 Q) : rB SH F2 L2 (A.1, A.2.1, Q, A.2.2.2) := by
  refine ⟨rE_xr hB.1 x, fun k hk => ?_, hq, ?_⟩
  · rw [(x.1 125 (by omega)).1]
    obtain ⟨r1, r2, r3⟩ := hB.2.1 k hk
    exact ⟨r1, r2, bk_fr r3 (x.1 124 (by omega)).1⟩
  · rw [(x.2 61 (by omega)).1, (x.1 148 (by omega)).1]
    exact hB.2.2.2
theorem rz_go (hB : rB SH FI FL A) (x : xr FI FL F2 L2) (h : rz F2 L2 A.2.2.1 v2 a) (g : go_is A v a A2) : v2 = v ∧ rB SH F2 L2 A2 := by
  match a, h, g with
  | .inl e, h, g =>
    refine ⟨i_eqv (h.1.trans g.1.symm), ?_⟩
    rw [g.2]
    exact rB_xr hB x h.2.2
  | .inr Q, h, g =>
    refine ⟨i_eqv (h.1.trans g.1.symm), ?_⟩
    rw [g.2]
    exact rB_xr hB x h.2
theorem ce_run (hS : h_S n SH) (hF : h_FR FR) (hB : cB SH FI FL FR A) (h : RX11_run a1 a2 n sl SH FI FL FR v s) : ∃ F2 L2 R2 A2, s = (n, sl, SH, F2, L2, R2) ∧ run_is A a1 a2 v A2 ∧ cB SH F2 L2 R2 A2 := by
  rcases h with ⟨h0, e1, e⟩ | ⟨h0, h⟩
  · exact ⟨FI, FL, FR, A, e, Or.inl ⟨fun h => by omega, e1, rfl⟩, hB⟩
  rw [n_26 hS] at h
  rcases h with ⟨h1, h⟩ | ⟨h1, e1, e⟩
  · rcases h with ⟨h2, e1, e⟩ | ⟨h2, -, c5, e5, h⟩
    · exact ⟨FI, FL, FR, A, e, Or.inl ⟨fun h => fu_c.mp h2 h.2.2, e1, rfl⟩, hB⟩
    · obtain ⟨v5, n5, sl5, SH5, FI5, FL5, FR5, hr, e1, e⟩ := h
      have hok : ok_f a2 := Classical.not_not.mp (fun q => h2 (fu_c.mpr q))
      have hok2 := hok
      unfold ok_f at hok2
      obtain ⟨r, r1, r2, r3, r4⟩ := hB.1.2.2.1 a1.toInt.toNat (by omega)
      rw [r1] at e5 hr
      cases e5
      obtain ⟨-, a, g1, F2, L2, R2, e6, k, z⟩ := c_rb (A := 0) (f := a2.toInt.toNat) hS (th_F hF) (tx_1 hF) hB.1 r4 (by omega) (by omega) (by first | decide | (simp; done) | (simp [ms_0]; done)) (by rw [r2, i_lit (by omega), Nat.zero_add]) (by omega) (by omega) hB.2.2.1 hr
      cases e6
      obtain ⟨A2, q1, q2⟩ := cz_go hB k z
      exact ⟨_, _, _, A2, e, Or.inr ⟨⟨by omega, by omega, hok⟩, a, g1, by rw [e1]; exact q1⟩, q2⟩
  · exact ⟨FI, FL, FR, A, e, Or.inl ⟨fun h => by omega, e1, rfl⟩, hB⟩
theorem re_run (hB0 : rB SH FI FL A) (hr : run_is A a1 a2 v A2) (h : RX12_run a1 a2 n sl SH FI FL FR v2 s) : v2 = v ∧ ∃ F2 L2, s = (n, sl, SH, F2, L2, FR) ∧ rB SH F2 L2 A2 := by
  have hB := rB_0 (x := (0 : Int32)) hB0
  have z : ((15 : Int32)).toInt = 15 := by first | decide | (simp; done) | (simp [ms_0]; done)
  have no : ¬ (0 ≤ a1.toInt ∧ a1.toInt ≤ 15 ∧ ok_f a2) → v2 = -1 → s = (n, sl, SH, h_up FI 121 0 ((0 : Int32)), FL, FR) → v2 = v ∧ ∃ F2 L2, s = (n, sl, SH, F2, L2, FR) ∧ rB SH F2 L2 A2 := by
    intro hn e1 e
    rcases hr with ⟨-, r1, r2⟩ | ⟨r1, -⟩
    · exact ⟨by rw [e1, r1], _, _, e, by rw [r2]; exact hB⟩
    · exact absurd r1 hn
  rcases h with ⟨h0, e1, e⟩ | ⟨h0, h⟩
  · exact no (fun h => by omega) e1 e
  rw [z] at h
  rcases h with ⟨h1, e1, e⟩ | ⟨h1, h⟩
  · exact no (fun h => by omega) e1 e
  rcases h with ⟨h2, e1, e⟩ | ⟨h2, -, h⟩
  · exact no (fun h => fu_r.mp h2 h.2.2) e1 e
  obtain ⟨v5, n5, sl5, SH5, FI5, FL5, FR5, hc, e1, e⟩ := h
  have hok : ok_f a2 := Classical.not_not.mp (fun q => h2 (fu_r.mpr q))
  rcases hr with ⟨r1, -⟩ | ⟨r1, a, g1, g2⟩
  · exact absurd ⟨by omega, by omega, hok⟩ r1
  unfold ok_f at hok
  obtain ⟨q1, q2, q3⟩ := hB0.1.2.2.1 a1.toInt.toNat (by omega)
  have q3' := (hB.1.2.2.1 a1.toInt.toNat (by omega)).2.2
  obtain ⟨a', g3, F2, L2, e6, x, zz⟩ := r_runs2 (A := 600 * a1.toInt.toNat) (f := a2.toInt.toNat) q3' q2 (by rw [i_mul (by first | decide | (simp; done) | (simp [ms_0]; done) : ((600 : Int32)).toInt = 600) rfl (by omega) (by omega)]; omega) q1 (by omega) (by omega) hB.1 (fun e he => ms_ne he) hB.2.2.1 hc
  have ea := ms_G_u g3 g1
  subst ea
  cases e6
  obtain ⟨w1, w2⟩ := rz_go hB x zz g2
  exact ⟨by rw [e1]; exact w1, _, _, e, w2⟩
theorem ce_find (hS : h_S n SH) (hF : h_FR FR) (hB : cB SH FI FL FR A) (h : RX11_find a1 b2 b3 a4 n sl SH FI FL FR v s) : ∃ F2 L2 R2 A2, s = (n, sl, SH, F2, L2, R2) ∧ fin_is A a1 b2 b3 a4 v A2 ∧ cB SH F2 L2 R2 A2 := by
  rcases h with ⟨h0, e1, e⟩ | ⟨h0, h⟩
  · exact ⟨FI, FL, FR, A, e, Or.inl ⟨fun h => by omega, e1, rfl⟩, hB⟩
  rw [n_43 hS] at h
  rcases h with ⟨h1, h⟩ | ⟨h1, e1, e⟩
  · rcases h with ⟨h2, e1, e⟩ | ⟨h2, -, h⟩
    · exact ⟨FI, FL, FR, A, e, Or.inl ⟨fun h => fu_c.mp h2 h.2.2, e1, rfl⟩, hB⟩
    · obtain ⟨v5, n5, sl5, SH5, FI5, FL5, FR5, hr, e1, e⟩ := h
      have hok : ok_f a4 := Classical.not_not.mp (fun q => h2 (fu_c.mpr q))
      have hok2 := hok
      unfold ok_f at hok2
      obtain ⟨r, r1, r2, r3, r4⟩ := hB.2.1 a1.toInt.toNat (by omega)
      rw [r1] at hr
      obtain ⟨-, a, g1, F2, L2, R2, e6, k, z⟩ := c_search (f := a4.toInt.toNat) hS (th_F hF) (tx_1 hF) hB.1 r4 r2 r3 (by omega) (by omega) hB.2.2.1 hr
      cases e6
      obtain ⟨A2, q1, q2⟩ := cz_go hB k z
      exact ⟨_, _, _, A2, e, Or.inr ⟨⟨by omega, by omega, hok⟩, a, g1, by rw [e1]; exact q1⟩, q2⟩
  · exact ⟨FI, FL, FR, A, e, Or.inl ⟨fun h => by omega, e1, rfl⟩, hB⟩
theorem re_find (hB0 : rB SH FI FL A) (hr : fin_is A a1 b2 b3 a4 v A2) (h : RX12_find a1 b2 b3 a4 n sl SH FI FL FR v2 s) : v2 = v ∧ ∃ F2 L2, s = (n, sl, SH, F2, L2, FR) ∧ rB SH F2 L2 A2 := by
  have hB := rB_0 (x := (0 : Int32)) hB0
  have z : ((3 : Int32)).toInt = 3 := by first | decide | (simp; done) | (simp [ms_0]; done)
  have no : ¬ (0 ≤ a1.toInt ∧ a1.toInt ≤ 3 ∧ ok_f a4) → v2 = -1 → s = (n, sl, SH, h_up FI 121 0 ((0 : Int32)), FL, FR) → v2 = v ∧ ∃ F2 L2, s = (n, sl, SH, F2, L2, FR) ∧ rB SH F2 L2 A2 := by
    intro hn e1 e
    rcases hr with ⟨-, r1, r2⟩ | ⟨r1, -⟩
    · exact ⟨by rw [e1, r1], _, _, e, by rw [r2]; exact hB⟩
    · exact absurd r1 hn
  rcases h with ⟨h0, e1, e⟩ | ⟨h0, h⟩
  · exact no (fun h => by omega) e1 e
  rw [z] at h
  rcases h with ⟨h1, e1, e⟩ | ⟨h1, h⟩
  · exact no (fun h => by omega) e1 e
  rcases h with ⟨h2, e1, e⟩ | ⟨h2, -, h⟩
  · exact no (fun h => fu_r.mp h2 h.2.2) e1 e
  obtain ⟨v5, n5, sl5, SH5, FI5, FL5, FR5, hc, e1, e⟩ := h
  have hok : ok_f a4 := Classical.not_not.mp (fun q => h2 (fu_r.mpr q))
  rcases hr with ⟨r1, -⟩ | ⟨r1, a, g1, g2⟩
  · exact absurd ⟨by omega, by omega, hok⟩ r1
  unfold ok_f at hok
  obtain ⟨q1, q2, q3⟩ := hB0.2.1 a1.toInt.toNat (by omega)
  have q3' := (hB.2.1 a1.toInt.toNat (by omega)).2.2
  have m : (((600 : Int32)) * a1).toInt = 600 * a1.toInt := i_mul (by first | decide | (simp; done) | (simp [ms_0]; done) : ((600 : Int32)).toInt = 600) rfl (by omega) (by omega)
  have e16 : (((16 : Int32)) + a1).toInt.toNat = 16 + a1.toInt.toNat := by
    rw [i_add (by first | decide | (simp; done) | (simp [ms_0]; done) : ((16 : Int32)).toInt = 16) rfl (by omega) (by omega)]
    omega
  rw [e16] at hc
  obtain ⟨a', g3, F2, L2, e6, x, zz⟩ := r_finds (A := 600 * (16 + a1.toInt.toNat)) (f := a4.toInt.toNat) q3' q2 (by rw [i_add (by first | decide | (simp; done) | (simp [ms_0]; done) : ((9600 : Int32)).toInt = 9600) m (by omega) (by omega)]; omega) q1 (by omega) (by omega) hB.1 hB.2.2.1 (fun L _ e he => ms_ne he) hc
  have ea := ms_F_u g3 g1
  subst ea
  cases e6
  obtain ⟨w1, w2⟩ := rz_go hB x zz g2
  exact ⟨by rw [e1]; exact w1, _, _, e, w2⟩
/-- bytes of a variable as a row -/
theorem v_by_bk {r B : Nat} {x : lp_V} (hr : rw0 SH r) (hx : x ∈ V) (hb : v_bt V) (h1 : B + x.2.2.2.1.length ≤ (SH r).2) (h2 : (SH r).2 ≤ 2000000000) (h3 : ∀ k, k < x.2.2.2.1.length → (FI r (B + k)).toInt = x.2.2.2.1.getD k 0) : bk FI SH r B (v_by x) := by
  unfold v_by
  refine ⟨hr, by rw [List.length_map]; exact h1, h2, fun i b hi => ?_⟩
  rw [List.getElem?_map] at hi
  cases hc : x.2.2.2.1[i]? with
  | none => rw [hc] at hi; cases hi
  | some y =>
    rw [hc] at hi
    have hi : Int32.ofInt y = b := Option.some.inj hi
    have hl := (List.getElem?_eq_some_iff.mp hc).1
    have eg : x.2.2.2.1.getD i 0 = y := by rw [List.getD_eq_getElem?_getD, hc]; rfl
    have g := hb x hx i hl
    have g3 := h3 i hl
    rw [eg] at g g3
    have ey : b.toInt = y := by rw [← hi, Int32.toInt_ofInt, i_bm (by omega) (by omega)]
    exact ⟨i_eqv (by rw [g3, ey]), by omega, by omega⟩
theorem v_by_len {x : lp_V} : (v_by x).length = x.2.2.2.1.length := by
  unfold v_by
  rw [List.length_map]
theorem ce_where (hS : h_S n SH) (hF : h_FR FR) (hv : v_any FI FR SH n V) (hb : v_bt V) (hB : cB SH FI FL FR A) (h : RX11_where a1 b2 a3 n sl SH FI FL FR v s) : ∃ F2 L2 R2 A2, s = (n, sl, SH, F2, L2, R2) ∧ whe_is A V a1 b2 a3 v A2 ∧ cB SH F2 L2 R2 A2 := by
  obtain ⟨v0, n0, sl0, SH0, FI0, FL0, FR0, hi, h⟩ := h
  have z0 : ((0 : Int32)).toInt = 0 := by first | decide | (simp; done) | (simp [ms_0]; done)
  have z1 : ((1 : Int32)).toInt = 1 := by first | decide | (simp; done) | (simp [ms_0]; done)
  have hI : (n0, sl0, SH0, FI0, FL0, FR0) = (n, sl, SH, FI, FL, FR) ∧ (v0.toInt = 0 ↔ ¬ (0 ≤ a1.toInt ∧ a1.toInt < (V.length : Int))) := by
    rcases hv with ⟨vc, y1, y2, y3, y4, y5, y6⟩ | ⟨w1, w2⟩
    · have ez : (Int32.ofNat (SH vc).2).toInt = 12 := by rw [y3]; (first | decide | (simp; done) | (simp [ms_0]; done))
      rcases hi with ⟨h0, e1, e⟩ | ⟨h0, hi⟩
      · exact ⟨e, by rw [e1, z0]; omega⟩
      · rw [y4] at hi
        rcases hi with ⟨h1, c3, e3, hi⟩ | ⟨h1, e1, e⟩
        · rw [y1] at e3
          cases e3
          rw [ez] at hi
          rcases hi with ⟨h2, e1, e⟩ | ⟨h2, e1, e⟩
          · exact ⟨e, by rw [e1, z1]; omega⟩
          · exfalso; omega
        · exact ⟨e, by rw [e1, z0]; omega⟩
    · subst w1
      rcases hi with ⟨h0, e1, e⟩ | ⟨h0, hi⟩
      · exact ⟨e, by rw [e1, z0]; (first | (simp; done) | (simp; omega))⟩
      · rw [w2] at hi
        rcases hi with ⟨h1, -⟩ | ⟨h1, e1, e⟩
        · exact absurd h1 h0
        · exact ⟨e, by rw [e1, z0]; (first | (simp; done) | (simp; omega))⟩
  obtain ⟨e0, hj⟩ := hI
  cases e0
  rcases h with ⟨h0, e1, e⟩ | ⟨h0, h⟩
  · exact ⟨FI, FL, FR, A, e, Or.inl ⟨fun h => (hj.mp h0) ⟨h.1, h.2.1⟩, e1, rfl⟩, hB⟩
  have hin : 0 ≤ a1.toInt ∧ a1.toInt < (V.length : Int) := Classical.not_not.mp (fun q => h0 (hj.mpr q))
  rcases h with ⟨h2, e1, e⟩ | ⟨h2, h⟩
  · exact ⟨FI, FL, FR, A, e, Or.inl ⟨fun h => fu_c.mp h2 h.2.2, e1, rfl⟩, hB⟩
  have hok : ok_f a3 := Classical.not_not.mp (fun q => h2 (fu_c.mpr q))
  have hok2 := hok
  unfold ok_f at hok2
  rcases hv with ⟨vc, y1, y2, y3, y4, y5, y6⟩ | ⟨w1, w2⟩
  · obtain ⟨x, hx⟩ := lx_i (L := V) (i := a1.toInt.toNat) (by omega)
    obtain ⟨q, q1, q2, d1, -, cc, d6, d7, d8, d9, d10, d11⟩ := y6 _ x hx
    have hb9 : bk FI SH cc 0 (v_by x) := v_by_bk ⟨Nat.zero_le _, Or.inr (Or.inr d8)⟩ (List.mem_of_getElem? hx) hb (by omega) (by omega) (fun k hk => by rw [Nat.zero_add]; exact d11 k hk)
    have l9 := v_by_len (x := x)
    obtain ⟨c5, e5, -, c6, e6, c7, e7, -, c8, e8, h⟩ := h
    rw [y1] at e5 e7
    cases e5; cases e7
    rw [q1] at e6 e8
    cases e6; cases e8
    rw [d1] at h
    rcases h with ⟨h3, c10, e10, v5, n5, sl5, SH5, FI5, FL5, FR5, hr, e1, e⟩ | ⟨h3, v5, n5, sl5, SH5, FI5, FL5, FR5, hr, e1, e⟩
    · rw [d6] at e10 hr
      cases e10
      obtain ⟨-, a, g1, F2, L2, R2, e6, k, z⟩ := c_rb (A := 0) (f := a3.toInt.toNat) hS (th_F hF) (tx_1 hF) hB.1 hb9 (by omega) (by omega) (by first | decide | (simp; done) | (simp [ms_0]; done)) (by rw [d9, i_lit (by omega), Nat.zero_add, l9]) (by omega) (by omega) hB.2.2.1 hr
      cases e6
      obtain ⟨A2, w1, w2⟩ := cz_go hB k z
      exact ⟨_, _, _, A2, e, Or.inr ⟨⟨hin.1, hin.2, hok⟩, x, hx, a, Or.inl ⟨by omega, g1⟩, by rw [e1]; exact w1⟩, w2⟩
    · rw [d6] at hr
      obtain ⟨-, a, g1, F2, L2, R2, e6, k, z⟩ := c_search (f := a3.toInt.toNat) hS (th_F hF) (tx_1 hF) hB.1 hb9 (by rw [d9, l9]) (by omega) (by omega) (by omega) hB.2.2.1 hr
      cases e6
      obtain ⟨A2, w1, w2⟩ := cz_go hB k z
      exact ⟨_, _, _, A2, e, Or.inr ⟨⟨hin.1, hin.2, hok⟩, x, hx, a, Or.inr ⟨by omega, g1⟩, by rw [e1]; exact w1⟩, w2⟩
  · subst w1
    exfalso
    have := hin.2
    simp at this
    omega
theorem re_where {K W : Nat → Int} {T : Nat} (hS : h_S n SH) (hu : u_vw FI FL K W T V) (hb : v_bt V) (hB0 : rB SH FI FL A) (hr : whe_is A V a1 b2 a3 v A2) (h : RX12_where a1 b2 a3 n sl SH FI FL FR v2 s) : v2 = v ∧ ∃ F2 L2, s = (n, sl, SH, F2, L2, FR) ∧ rB SH F2 L2 A2 := by
  have hB := rB_0 (x := (0 : Int32)) hB0
  obtain ⟨u1, u2, u3, -⟩ := hu
  have no : ¬ (0 ≤ a1.toInt ∧ a1.toInt < (V.length : Int) ∧ ok_f a3) → v2 = -1 → s = (n, sl, SH, h_up FI 121 0 ((0 : Int32)), FL, FR) → v2 = v ∧ ∃ F2 L2, s = (n, sl, SH, F2, L2, FR) ∧ rB SH F2 L2 A2 := by
    intro hn e1 e
    rcases hr with ⟨-, r1, r2⟩ | ⟨r1, -⟩
    · exact ⟨by rw [e1, r1], _, _, e, by rw [r2]; exact hB⟩
    · exact absurd r1 hn
  rcases h with ⟨h0, e1, e⟩ | ⟨h0, h⟩
  · exact no (fun h => by omega) e1 e
  rw [u1] at h
  rcases h with ⟨h1, h⟩ | ⟨h1, e1, e⟩
  · rcases h with ⟨h2, e1, e⟩ | ⟨h2, -, h⟩
    · exact no (fun h => fu_r.mp h2 h.2.2) e1 e
    have hok : ok_f a3 := Classical.not_not.mp (fun q => h2 (fu_r.mpr q))
    rcases hr with ⟨r1, -⟩ | ⟨r1, x, hx, a, g1, g2⟩
    · exact absurd ⟨by omega, h1, hok⟩ r1
    unfold ok_f at hok
    obtain ⟨p1, p2, p3, p4, p5, p6⟩ := u3 _ x hx
    have hlen : a1.toInt.toNat < V.length := (List.getElem?_eq_some_iff.mp hx).1
    have s124' : (SH 124).2 = 19200 := by rw [s124 hS]
    have hb9 : bk (h_up FI 121 0 ((0 : Int32))) SH 124 (12000 + 600 * a1.toInt.toNat) (v_by x) := v_by_bk ⟨Nat.zero_le _, Or.inl rfl⟩ (List.mem_of_getElem? hx) hb (by omega) (by omega) (fun k hk => by rw [h_up_nc (by first | decide | (simp; done) | (simp [ms_0]; done))]; exact p6 k hk)
    have l9 := v_by_len (x := x)
    have m : (((600 : Int32)) * a1).toInt = 600 * a1.toInt := i_mul (by first | decide | (simp; done) | (simp [ms_0]; done) : ((600 : Int32)).toInt = 600) rfl (by omega) (by omega)
    have m2 : (((12000 : Int32)) + (((600 : Int32)) * a1)).toInt = ((12000 + 600 * a1.toInt.toNat : Nat) : Int) := by
      rw [i_add (by first | decide | (simp; done) | (simp [ms_0]; done) : ((12000 : Int32)).toInt = 12000) m (by omega) (by omega)]
      omega
    have e20 : (((20 : Int32)) + a1).toInt.toNat = 20 + a1.toInt.toNat := by
      rw [i_add (by first | decide | (simp; done) | (simp [ms_0]; done) : ((20 : Int32)).toInt = 20) rfl (by omega) (by omega)]
      omega
    rw [p3, e20] at h
    rcases h with ⟨h3, -, v5, n5, sl5, SH5, FI5, FL5, FR5, hc, e1, e⟩ | ⟨h3, -, v5, n5, sl5, SH5, FI5, FL5, FR5, hc, e1, e⟩
    · rcases g1 with ⟨-, g1⟩ | ⟨g0, -⟩
      · obtain ⟨a', g3, F2, L2, e6, xx, zz⟩ := r_runs2 (f := a3.toInt.toNat) hb9 (by omega) m2 (by rw [l9]; exact p4) (by omega) (by omega) hB.1 (fun e he => ms_ne he) hB.2.2.1 hc
        have ea := ms_G_u g3 g1
        subst ea
        cases e6
        obtain ⟨w1, w2⟩ := rz_go hB xx zz g2
        exact ⟨by rw [e1]; exact w1, _, _, e, w2⟩
      · exfalso; omega
    · rcases g1 with ⟨g0, -⟩ | ⟨-, g1⟩
      · exfalso; omega
      · obtain ⟨a', g3, F2, L2, e6, xx, zz⟩ := r_finds (f := a3.toInt.toNat) hb9 (by omega) m2 (by rw [l9]; exact p4) (by omega) (by omega) hB.1 hB.2.2.1 (fun L _ e he => ms_ne he) hc
        have ea := ms_F_u g3 g1
        subst ea
        cases e6
        obtain ⟨w1, w2⟩ := rz_go hB xx zz g2
        exact ⟨by rw [e1]; exact w1, _, _, e, w2⟩
  · exact no (fun h => h1 h.2.1) e1 e
end GO
end
