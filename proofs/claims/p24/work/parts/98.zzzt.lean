/-! THE TREES THAT COMPILE LEAVES, and what keeps them. -/
def nd_ag (FI : Nat → Nat → Int32) (FL : Nat → Nat → Int64) (FR : Nat → Nat → Option Nat) (F2 : Nat → Nat → Int32) (L2 : Nat → Nat → Int64) (R2 : Nat → Nat → Option Nat) (c : Nat) : Prop := F2 c 0 = FI c 0 ∧ F2 c 2 = FI c 2 ∧ L2 c 1 = FL c 1 ∧ R2 c 3 = FR c 3 ∧ R2 c 4 = FR c 4 ∧ R2 c 5 = FR c 5 ∧ R2 c 6 = FR c 6
/-- what two descriptions must share of the cells that came later -/
def ty_ag (n : Nat) (SH : Nat → Nat × Nat) (FI : Nat → Nat → Int32) (FL : Nat → Nat → Int64) (FR : Nat → Nat → Option Nat) (S2 : Nat → Nat × Nat) (F2 : Nat → Nat → Int32) (L2 : Nat → Nat → Int64) (R2 : Nat → Nat → Option Nat) : Prop := ∀ c, 176 ≤ c → c < n → ((SH c).1 = 3 → nd_ag FI FL FR F2 L2 R2 c) ∧ ((SH c).1 = 6 → F2 c 0 = FI c 0 ∧ L2 c 1 = FL c 1 ∧ R2 c 2 = FR c 2 ∧ R2 c 3 = FR c 3 ∧ F2 c 4 = FI c 4 ∧ R2 c 5 = FR c 5) ∧ ((SH c).1 = 10 → F2 c 5 = FI c 5 ∧ R2 c 2 = FR c 2 ∧ R2 c 3 = FR c 3 ∧ R2 c 4 = FR c 4) ∧ ((SH c).1 = 100 → F2 c = FI c ∧ S2 c = SH c) ∧ ((SH c).1 = 101 → L2 c = FL c) ∧ ((SH c).1 = 104 ∨ (SH c).1 = 105 → R2 c = FR c ∧ S2 c = SH c)
section TY
variable {base n sl n2 sl2 : Nat} {SH SH2 S2 : Nat → Nat × Nat} {FI F2 : Nat → Nat → Int32} {FL L2 : Nat → Nat → Int64} {FR R2 : Nat → Nat → Option Nat} {c x m : Nat} {code C : List Int} {V : List lp_V}
theorem sm_rk {j : Nat} (h : h_sm base (n, sl, SH, FI, FL, FR) (n2, sl2, SH2, F2, L2, R2)) (hc : c < n) (hj : j = 4 ∨ j = 5 ∨ j = 6) (hs : (SH c).1 = 100 + j) : SH2 c = SH c ∧ FR c = R2 c := by
  have e : SH c = (100 + j, (SH c).2) := Prod.ext hs rfl
  obtain ⟨a, b⟩ := sm_a h hc e
  have b2 : (fun i => h_rf base (FR c i)) = fun i => h_rf base (R2 c i) := by
    rcases hj with rfl | rfl | rfl
    · exact Sum.inr.inj (Sum.inr.inj (Sum.inr.inj (Sum.inr.inj b)))
    · exact Sum.inr.inj (Sum.inr.inj (Sum.inr.inj (Sum.inr.inj b)))
    · exact Sum.inr.inj (Sum.inr.inj (Sum.inr.inj (Sum.inr.inj b)))
  refine ⟨a.trans e.symm, funext fun i => rf_inj (base := base) ?_⟩
  have this : h_rf base (FR c i) = h_rf base (R2 c i) := congrFun b2 i
  rw [this]
theorem ty_eq (e : ∀ c k, 176 ≤ c → c < n → F2 c k = FI c k ∧ L2 c k = FL c k ∧ R2 c k = FR c k) (s : ∀ c, c < n → S2 c = SH c) : ty_ag n SH FI FL FR S2 F2 L2 R2 := fun c h1 h2 =>
  ⟨fun _ => ⟨(e c 0 h1 h2).1, (e c 2 h1 h2).1, (e c 1 h1 h2).2.1, (e c 3 h1 h2).2.2, (e c 4 h1 h2).2.2, (e c 5 h1 h2).2.2, (e c 6 h1 h2).2.2⟩, fun _ => ⟨(e c 0 h1 h2).1, (e c 1 h1 h2).2.1, (e c 2 h1 h2).2.2, (e c 3 h1 h2).2.2, (e c 4 h1 h2).1, (e c 5 h1 h2).2.2⟩, fun _ => ⟨(e c 5 h1 h2).1, (e c 2 h1 h2).2.2, (e c 3 h1 h2).2.2, (e c 4 h1 h2).2.2⟩, fun _ => ⟨funext fun k => (e c k h1 h2).1, s c h2⟩, fun _ => funext fun k => (e c k h1 h2).2.1, fun _ => ⟨funext fun k => (e c k h1 h2).2.2, s c h2⟩⟩
theorem ty_sm (sm : h_sm base (n, sl, SH, FI, FL, FR) (n2, sl2, S2, F2, L2, R2)) : ty_ag n SH FI FL FR S2 F2 L2 R2 := by
  intro c h1 h2
  refine ⟨fun h => ⟨?_, ?_, ?_, ?_, ?_, ?_, ?_⟩, fun h => ⟨?_, ?_, ?_, ?_, ?_, ?_⟩, fun h => ⟨?_, ?_, ?_, ?_⟩, fun h => ?_, fun h => ?_, fun h => ?_⟩
  · exact (sm_i sm h2 h (by first | decide | (simp; done) | (simp [ms_0]; done)) (by first | decide | (simp; done) | (simp [ms_0]; done)) (fun _ _ _ => rfl)).symm
  · exact (sm_i sm h2 h (by first | decide | (simp; done) | (simp [ms_0]; done)) (by first | decide | (simp; done) | (simp [ms_0]; done)) (fun _ _ _ => rfl)).symm
  · exact (sm_l sm h2 h (by first | decide | (simp; done) | (simp [ms_0]; done)) (by first | decide | (simp; done) | (simp [ms_0]; done)) (fun _ _ _ => rfl)).symm
  · exact (sm_r sm h2 h (by first | decide | (simp; done) | (simp [ms_0]; done)) (by first | decide | (simp; done) | (simp [ms_0]; done)) (fun _ _ _ => rfl)).symm
  · exact (sm_r sm h2 h (by first | decide | (simp; done) | (simp [ms_0]; done)) (by first | decide | (simp; done) | (simp [ms_0]; done)) (fun _ _ _ => rfl)).symm
  · exact (sm_r sm h2 h (by first | decide | (simp; done) | (simp [ms_0]; done)) (by first | decide | (simp; done) | (simp [ms_0]; done)) (fun _ _ _ => rfl)).symm
  · exact (sm_r sm h2 h (by first | decide | (simp; done) | (simp [ms_0]; done)) (by first | decide | (simp; done) | (simp [ms_0]; done)) (fun _ _ _ => rfl)).symm
  · exact (sm_i sm h2 h (by first | decide | (simp; done) | (simp [ms_0]; done)) (by first | decide | (simp; done) | (simp [ms_0]; done)) (fun _ _ _ => rfl)).symm
  · exact (sm_l sm h2 h (by first | decide | (simp; done) | (simp [ms_0]; done)) (by first | decide | (simp; done) | (simp [ms_0]; done)) (fun _ _ _ => rfl)).symm
  · exact (sm_r sm h2 h (by first | decide | (simp; done) | (simp [ms_0]; done)) (by first | decide | (simp; done) | (simp [ms_0]; done)) (fun _ _ _ => rfl)).symm
  · exact (sm_r sm h2 h (by first | decide | (simp; done) | (simp [ms_0]; done)) (by first | decide | (simp; done) | (simp [ms_0]; done)) (fun _ _ _ => rfl)).symm
  · exact (sm_i sm h2 h (by first | decide | (simp; done) | (simp [ms_0]; done)) (by first | decide | (simp; done) | (simp [ms_0]; done)) (fun _ _ _ => rfl)).symm
  · exact (sm_r sm h2 h (by first | decide | (simp; done) | (simp [ms_0]; done)) (by first | decide | (simp; done) | (simp [ms_0]; done)) (fun _ _ _ => rfl)).symm
  · exact (sm_i sm h2 h (by first | decide | (simp; done) | (simp [ms_0]; done)) (by first | decide | (simp; done) | (simp [ms_0]; done)) (fun _ _ _ => rfl)).symm
  · exact (sm_r sm h2 h (by first | decide | (simp; done) | (simp [ms_0]; done)) (by first | decide | (simp; done) | (simp [ms_0]; done)) (fun _ _ _ => rfl)).symm
  · exact (sm_r sm h2 h (by first | decide | (simp; done) | (simp [ms_0]; done)) (by first | decide | (simp; done) | (simp [ms_0]; done)) (fun _ _ _ => rfl)).symm
  · exact (sm_r sm h2 h (by first | decide | (simp; done) | (simp [ms_0]; done)) (by first | decide | (simp; done) | (simp [ms_0]; done)) (fun _ _ _ => rfl)).symm
  · exact ⟨(sm_ia sm h2 h).2.symm, (sm_ia sm h2 h).1⟩
  · exact (sm_la sm h2 h).2.symm
  · rcases h with h | h
    · have q := sm_rk (j := 4) sm h2 (by first | decide | (simp; done) | (simp [ms_0]; done)) h
      exact ⟨q.2.symm, q.1⟩
    · have q := sm_rk (j := 5) sm h2 (by first | decide | (simp; done) | (simp [ms_0]; done)) h
      exact ⟨q.2.symm, q.1⟩
/-- a tree's code, in cells that are shared -/
theorem n_cd_ty {D : Nat → Prop} (ha : ∀ c, D c → nd_ag FI FL FR F2 L2 R2 c) (hc : ∀ c k r, D c → FR c k = some r → D r) : ∀ (f m : Nat) (o : Option Nat) (d : Int), (∀ c, o = some c → D c) → n_cd F2 L2 R2 f m o d = n_cd FI FL FR f m o d := by
  intro f
  induction f with
  | zero => intro m o d _; rfl
  | succ f ih =>
    intro m o d ho
    cases o with
    | none => rfl
    | some c =>
      have Dc := ho c rfl
      obtain ⟨a0, a2, a1, a3, a4, a5, a6⟩ := ha c Dc
      have nx : n_nx F2 L2 R2 c = n_nx FI FL FR c ∧ ∀ e, n_nx FI FL FR c = some e → D e := by
        unfold n_nx
        rw [a0, a6]
        cases e6 : FR c 6 with
        | none =>
          refine ⟨rfl, fun e h => ?_⟩
          split at h <;> cases h
        | some e =>
          have De := hc c 6 e Dc e6
          obtain ⟨b0, b2, b1, -⟩ := ha e De
          (try dsimp only)
          rw [b0, b2, b1]
          refine ⟨rfl, fun x h => ?_⟩
          split at h
          · split at h
            · cases h; exact De
            · cases h
          · cases h
      have r3 : ∀ m d, n_cd F2 L2 R2 f m (FR c 3) d = n_cd FI FL FR f m (FR c 3) d := fun m d => ih m _ d (fun x hx => hc c 3 x Dc hx)
      have r4 : ∀ m d, n_cd F2 L2 R2 f m (FR c 4) d = n_cd FI FL FR f m (FR c 4) d := fun m d => ih m _ d (fun x hx => hc c 4 x Dc hx)
      have r5 : ∀ m d, n_cd F2 L2 R2 f m (FR c 5) d = n_cd FI FL FR f m (FR c 5) d := fun m d => ih m _ d (fun x hx => hc c 5 x Dc hx)
      have r6 : ∀ m d, n_cd F2 L2 R2 f m (FR c 6) d = n_cd FI FL FR f m (FR c 6) d := fun m d => ih m _ d (fun x hx => hc c 6 x Dc hx)
      have rc : ∀ m d, n_cd F2 L2 R2 f m (some c) d = n_cd FI FL FR f m (some c) d := fun m d => ih m _ d (fun x hx => by cases hx; exact Dc)
      show n_st F2 L2 R2 (n_cd F2 L2 R2 f) m c d = n_st FI FL FR (n_cd FI FL FR f) m c d
      unfold n_st
      rw [nx.1]
      simp only [a0, a1, a2, a3, a4, a5, a6, r3, r4, r5, r6, rc]
      cases hx : n_nx FI FL FR c with
      | none => rfl
      | some e =>
        have De := nx.2 e hx
        obtain ⟨b0, b2, b1, -, -, -, b6⟩ := ha e De
        have r6e : ∀ m d, n_cd F2 L2 R2 f m (FR e 6) d = n_cd FI FL FR f m (FR e 6) d := fun m d => ih m _ d (fun x hx => hc e 6 x De hx)
        simp only [b2, b1, b6, r6e]
theorem n_cd_tR (t : ty_ag n SH FI FL FR S2 F2 L2 R2) (hR : g_R n SH FR) (f m : Nat) (o : Option Nat) (d : Int) (ho : ∀ c, o = some c → 176 ≤ c ∧ c < n ∧ (SH c).1 = 3) : n_cd F2 L2 R2 f m o d = n_cd FI FL FR f m o d := by
  refine n_cd_ty (D := fun c => 176 ≤ c ∧ c < n ∧ (SH c).1 = 3) (fun c h => (t c h.1 h.2.1).1 h.2.2) (fun c k r h hr => ?_) f m o d ho
  obtain ⟨g1, g2, g3, g4⟩ := hR.2.1 c k r h.2.1 (Or.inr h.1) hr
  rw [h.2.2] at g3
  exact ⟨g4 h.1, g1, g3⟩
theorem w_pl_ty (t : ty_ag n SH FI FL FR S2 F2 L2 R2) (hR : g_R n SH FR) (h1 : 176 ≤ c) (h2 : c < n) (h3 : (SH c).1 = 6) : w_pl F2 L2 R2 S2 c code ↔ w_pl FI FL FR SH c code := by
  obtain ⟨a0, a1, a2, a3, a4, a5⟩ := (t c h1 h2).2.1 h3
  have nd : ∀ f, n_cd F2 L2 R2 f 0 (FR c 2) 0 = n_cd FI FL FR f 0 (FR c 2) 0 := fun f => n_cd_tR t hR f 0 _ 0 (fun r hr => by
    obtain ⟨g1, g2, g3, g4⟩ := hR.2.1 c 2 r h2 (Or.inr h1) hr
    rw [h3] at g3
    exact ⟨g4 h1, g1, g3.trans (by first | decide | (simp; done) | (simp [ms_0]; done))⟩)
  have bl : ∀ b, FR c 3 = some b → F2 b = FI b ∧ S2 b = SH b := fun b hb => by
    obtain ⟨g1, g2, g3, g4⟩ := hR.2.1 c 3 b h2 (Or.inr h1) hb
    rw [h3] at g3
    exact (t b (g4 h1) g1).2.2.2.1 (g3.trans (by first | decide | (simp; done) | (simp [ms_0]; done)))
  unfold w_pl
  rw [a0, a1, a2, a3]
  simp only [nd]
  constructor
  · rintro ⟨w0, w⟩
    refine ⟨w0, ?_⟩
    rcases w with w | w | w | ⟨k, b, bs, q1, q2, q3, q4, q5, q6⟩ | w
    · exact Or.inl w
    · exact Or.inr (Or.inl w)
    · exact Or.inr (Or.inr (Or.inl w))
    · obtain ⟨y1, y2⟩ := bl b q1
      rw [y2] at q3
      rw [y1] at q5
      exact Or.inr (Or.inr (Or.inr (Or.inl ⟨k, b, bs, q1, q2, q3, q4, q5, q6⟩)))
    · exact Or.inr (Or.inr (Or.inr (Or.inr w)))
  · rintro ⟨w0, w⟩
    refine ⟨w0, ?_⟩
    rcases w with w | w | w | ⟨k, b, bs, q1, q2, q3, q4, q5, q6⟩ | w
    · exact Or.inl w
    · exact Or.inr (Or.inl w)
    · exact Or.inr (Or.inr (Or.inl w))
    · obtain ⟨y1, y2⟩ := bl b q1
      rw [← y2] at q3
      rw [← y1] at q5
      exact Or.inr (Or.inr (Or.inr (Or.inl ⟨k, b, bs, q1, q2, q3, q4, q5, q6⟩)))
    · exact Or.inr (Or.inr (Or.inr (Or.inr w)))
theorem w_ls_ty (t : ty_ag n SH FI FL FR S2 F2 L2 R2) (hR : g_R n SH FR) : ∀ (f : Nat) (o : Option Nat) (code : List Int), (∀ c, o = some c → 176 ≤ c ∧ c < n ∧ (SH c).1 = 6) → (w_ls F2 L2 R2 S2 f o code ↔ w_ls FI FL FR SH f o code) := by
  intro f
  induction f with
  | zero => intro o code _; exact Iff.rfl
  | succ f ih =>
    intro o code ho
    cases o with
    | none => exact Iff.rfl
    | some c =>
      obtain ⟨h1, h2, h3⟩ := ho c rfl
      obtain ⟨a0, a1, a2, a3, a4, a5⟩ := (t c h1 h2).2.1 h3
      have nx : ∀ d, FR c 5 = some d → 176 ≤ d ∧ d < n ∧ (SH d).1 = 6 := fun d hd => by
        obtain ⟨g1, g2, g3, g4⟩ := hR.2.1 c 5 d h2 (Or.inr h1) hd
        rw [h3] at g3
        exact ⟨g4 h1, g1, g3.trans (by first | decide | (simp; done) | (simp [ms_0]; done))⟩
      have e4 : ∀ d, FR c 5 = some d → F2 d 4 = FI d 4 := fun d hd => by
        obtain ⟨g1, g2, g3⟩ := nx d hd
        exact ((t d g1 g2).2.1 g3).2.2.2.2.1
      constructor
      · rintro ⟨a, r, p1, p2, ⟨p3, p4, p5⟩, p6⟩
        rw [a5] at p2 p4 p5
        rw [a4] at p3 p4 p6
        exact ⟨a, r, (w_pl_ty t hR h1 h2 h3).mp p1, (ih _ r nx).mp p2, ⟨p3, p4, fun d hd => by rw [← e4 d hd]; exact p5 d hd⟩, p6⟩
      · rintro ⟨a, r, p1, p2, ⟨p3, p4, p5⟩, p6⟩
        refine ⟨a, r, (w_pl_ty t hR h1 h2 h3).mpr p1, by rw [a5]; exact (ih _ r nx).mpr p2, ⟨by rw [a4]; exact p3, by rw [a4, a5]; exact p4, fun d hd => ?_⟩, by rw [a4]; exact p6⟩
        rw [a5] at hd
        rw [e4 d hd]
        exact p5 d hd
theorem v_ms_ty (t : ty_ag n SH FI FL FR S2 F2 L2 R2) (hR : g_R n SH FR) (h1 : 176 ≤ x) (h2 : x < n) (h3 : (SH x).1 = 10) : v_ms F2 L2 R2 S2 x m C ↔ v_ms FI FL FR SH x m C := by
  obtain ⟨a5, a2, a3, a4⟩ := (t x h1 h2).2.2.1 h3
  have key : FR x 2 = some (x + 1) → FR x 3 = some (x + 2) → FR x 4 = some (x + 3) → L2 (x + 1) = FL (x + 1) ∧ L2 (x + 2) = FL (x + 2) ∧ R2 (x + 3) = FR (x + 3) ∧ ∀ j a, FR (x + 3) j = some a → ∀ f code, w_ls F2 L2 R2 S2 f (some a) code ↔ w_ls FI FL FR SH f (some a) code := by
    intro k2 k3 k4
    obtain ⟨g1, g2, g3, g4⟩ := hR.2.1 x 2 _ h2 (Or.inr h1) k2
    obtain ⟨g5, g6, g7, g8⟩ := hR.2.1 x 3 _ h2 (Or.inr h1) k3
    obtain ⟨g9, ga, gb, gc⟩ := hR.2.1 x 4 _ h2 (Or.inr h1) k4
    rw [h3] at g3 g7 gb
    have t5 : (SH (x + 3)).1 = 105 := gb.trans (by first | decide | (simp; done) | (simp [ms_0]; done))
    refine ⟨(t _ (g4 h1) g1).2.2.2.2.1 (g3.trans (by first | decide | (simp; done) | (simp [ms_0]; done))), (t _ (g8 h1) g5).2.2.2.2.1 (g7.trans (by first | decide | (simp; done) | (simp [ms_0]; done))), ((t _ (gc h1) g9).2.2.2.2.2 (Or.inr t5)).1, fun j a ha f code => w_ls_ty t hR f _ code (fun c hc => ?_)⟩
    cases hc
    obtain ⟨y1, y2, y3, y4⟩ := hR.2.1 (x + 3) j a g9 ga ha
    rw [t5] at y3
    exact ⟨y4 (gc h1), y1, y3⟩
  unfold v_ms
  rw [a5, a2, a3, a4]
  constructor
  · rintro ⟨w0, w1, w2, w3, w⟩
    obtain ⟨b1, b2, b3, b4⟩ := key w1 w2 w3
    rw [b1, b2, b3] at w
    refine ⟨w0, w1, w2, w3, ?_⟩
    rcases w with ⟨m0, f0, a, f, ha, hw⟩ | ⟨Q, q0, q1, q2, q3, q4, q5⟩
    · exact Or.inl ⟨m0, f0, a, f, ha, (b4 0 a ha f _).mp hw⟩
    · refine Or.inr ⟨Q, q0, q1, q2, q3, q4, fun j q hq => ?_⟩
      obtain ⟨y1, y2, y3, y4, a, f, y5, y6⟩ := q5 j q hq
      exact ⟨y1, y2, y3, y4, a, f, y5, (b4 j a y5 f _).mp y6⟩
  · rintro ⟨w0, w1, w2, w3, w⟩
    obtain ⟨b1, b2, b3, b4⟩ := key w1 w2 w3
    rw [b1, b2, b3]
    refine ⟨w0, w1, w2, w3, ?_⟩
    rcases w with ⟨m0, f0, a, f, ha, hw⟩ | ⟨Q, q0, q1, q2, q3, q4, q5⟩
    · exact Or.inl ⟨m0, f0, a, f, ha, (b4 0 a ha f _).mpr hw⟩
    · refine Or.inr ⟨Q, q0, q1, q2, q3, q4, fun j q hq => ?_⟩
      obtain ⟨y1, y2, y3, y4, a, f, y5, y6⟩ := q5 j q hq
      exact ⟨y1, y2, y3, y4, a, f, y5, (b4 j a y5 f _).mpr y6⟩
end TY
/-- the variables' trees -/
def v_cm (F : Nat → Nat → Int32) (L : Nat → Nat → Int64) (R : Nat → Nat → Option Nat) (SH : Nat → Nat × Nat) (n : Nat) (V : List lp_V) : Prop := ∃ vc, R 0 11 = some vc ∧ 176 ≤ vc ∧ vc < n ∧ (SH vc).2 = 12 ∧ ∀ (i : Nat) (v : lp_V), V[i]? = some v → ∃ x, R vc i = some x ∧ v_ms F L R SH x v.2.2.1 v.2.2.2.1
section VM
variable {n n2 : Nat} {SH S2 : Nat → Nat × Nat} {FI F2 : Nat → Nat → Int32} {FL L2 : Nat → Nat → Int64} {FR R2 : Nat → Nat → Option Nat} {V : List lp_V}
theorem v_cm_ty (t : ty_ag n SH FI FL FR S2 F2 L2 R2) (hS : h_S n SH) (hR : g_R n SH FR) (e : R2 0 11 = FR 0 11) (hn : n ≤ n2) (h : v_cm FI FL FR SH n V) : v_cm F2 L2 R2 S2 n2 V := by
  obtain ⟨vc, y1, y2, y3, y4, y5⟩ := h
  obtain ⟨g1, g2, g3, -⟩ := hR.2.1 0 11 vc (c0 hS) (Or.inl (by first | decide | (simp; done) | (simp [ms_0]; done))) y1
  rw [s0 hS] at g3
  have g3 : (SH vc).1 = 104 := g3.trans (by first | decide | (simp; done) | (simp [ms_0]; done))
  obtain ⟨b1, b2⟩ := (t vc y2 y3).2.2.2.2.2 (Or.inl g3)
  refine ⟨vc, e.trans y1, y2, by omega, by rw [b2]; exact y4, fun i v hv => ?_⟩
  obtain ⟨x, x1, x2⟩ := y5 i v hv
  obtain ⟨q1, q2, q3, q4⟩ := hR.2.1 vc i x y3 g2 x1
  rw [g3] at q3
  exact ⟨x, by rw [b1]; exact x1, (v_ms_ty t hR (q4 y2) q1 (q3.trans rfl)).mpr x2⟩
theorem v_cm_dn (t : ty_ag n SH FI FL FR S2 F2 L2 R2) (hS : h_S n SH) (hR : g_R n SH FR) (e : R2 0 11 = FR 0 11) (h : v_cm F2 L2 R2 S2 n V) : v_cm FI FL FR SH n V := by
  obtain ⟨vc, y1, y2, y3, y4, y5⟩ := h
  rw [e] at y1
  obtain ⟨g1, g2, g3, -⟩ := hR.2.1 0 11 vc (c0 hS) (Or.inl (by first | decide | (simp; done) | (simp [ms_0]; done))) y1
  rw [s0 hS] at g3
  have g3 : (SH vc).1 = 104 := g3.trans (by first | decide | (simp; done) | (simp [ms_0]; done))
  obtain ⟨b1, b2⟩ := (t vc y2 y3).2.2.2.2.2 (Or.inl g3)
  refine ⟨vc, y1, y2, y3, by rw [← b2]; exact y4, fun i v hv => ?_⟩
  obtain ⟨x, x1, x2⟩ := y5 i v hv
  rw [b1] at x1
  obtain ⟨q1, q2, q3, q4⟩ := hR.2.1 vc i x y3 g2 x1
  rw [g3] at q3
  exact ⟨x, x1, (v_ms_ty t hR (q4 y2) q1 (q3.trans rfl)).mp x2⟩
end VM
theorem w_lc_ls {F : Nat → Nat → Int32} {L : Nat → Nat → Int64} {R : Nat → Nat → Option Nat} {SH : Nat → Nat × Nat} : ∀ (f : Nat) (o : Option Nat) (code : List Int), w_lc F L R SH f o code → w_ls F L R SH f o code := by
  intro f
  induction f with
  | zero => intro o code h; exact h.elim
  | succ f ih =>
    intro o code h
    cases o with
    | none => exact h
    | some c =>
      obtain ⟨a, r, h1, h2, h3, h4⟩ := h
      exact ⟨a, r, h1, ih _ _ h2, h3, h4⟩
theorem v_ms_of {F : Nat → Nat → Int32} {L : Nat → Nat → Int64} {R : Nat → Nat → Option Nat} {SH : Nat → Nat × Nat} {n vc x : Nat} {v : lp_V} (h : d_va F L R SH n vc x v) (hv : 176 ≤ vc) : v_ms F L R SH x v.2.2.1 v.2.2.2.1 := by
  obtain ⟨h1, h2, h3, h4, h5, -, h6⟩ := h
  have al : ∀ lo hi, m_al lo hi F L R SH F L R SH := fun lo hi => ⟨fun _ _ _ _ => rfl, fun _ _ _ _ => rfl, fun _ _ _ _ => rfl, fun _ _ _ => rfl⟩
  refine ⟨by omega, h3, h4, h5, ?_⟩
  rcases h6 with ⟨y1, y2, y3, a, lo, hi, -, -, y6, y7⟩ | ⟨Q, y1, y2, y3, y4, y5, y6, y7⟩
  · obtain ⟨f, hf⟩ := y7.2 F L R SH (al _ _)
    exact Or.inl ⟨y1, y2, a, f, y6, w_lc_ls f _ _ hf⟩
  · refine Or.inr ⟨Q, y1, y2, y3, y4, y5, fun j q hj => ?_⟩
    obtain ⟨z1, z2, z3, z4, a, lo, hi, -, -, z7, z8⟩ := y7 j q hj
    obtain ⟨f, hf⟩ := z8.2 F L R SH (al _ _)
    exact ⟨z1, z2, z3, z4, a, f, z7, w_lc_ls f _ _ hf⟩
section CLT
variable {vc : Nat} {V : List lp_V} {xs ns : Nat → Nat}
theorem s_71t {lo : Nat} (hlo : 176 ≤ lo) (hvc : lo ≤ vc) (hB : ∀ v, v ∈ V → v.2.2.2.1.length ≤ 100000) : ∀ (g : Nat) (l2 l3 l4 : Int32) (n sl : Nat) (SH : Nat → Nat × Nat) (FI : Nat → Nat → Int32) (FL : Nat → Nat → Int64) (FR : Nat → Nat → Option Nat) (v : Int32) (s : hS) (i : Nat), GX11_compile_71 g l2 l3 l4 n sl SH FI FL FR v s → h_S n SH → FR 110 2 = some vc → vc < n → (FI 110 3).toInt = V.length → V.length ≤ 12 → d_xs FI FL FR SH n vc xs ns V → l2.toInt = 0 → l4.toInt = i → i ≤ V.length → (∀ (j : Nat) (v : lp_V), j < i → V[j]? = some v → v_ok v ∧ d_cd FI FR SH n (xs j) v) → ∃ l2' l3' n2 sl2 SH2 F2 L2 R2, RX11_compile_136 l2' l3' n2 sl2 SH2 F2 L2 R2 v s ∧ b_ce lo SH FI FL FR n2 SH2 F2 L2 R2 ∧ n ≤ n2 ∧ ((l2'.toInt = 0 ∧ (∀ x, x ∈ V → v_ok x) ∧ (∀ k, R2 vc k = FR vc k) ∧ SH2 vc = SH vc ∧ (∀ (j : Nat) (v : lp_V), V[j]? = some v → d_cd F2 R2 SH2 n2 (xs j) v) ∧ d_xs F2 L2 R2 SH2 n2 vc xs ns V) ∨ (l2'.toInt ≠ 0 ∧ ∃ x, x ∈ V ∧ ¬ v_ok x)) := by
  intro g
  induction g with
  | zero => intro l2 l3 l4 n sl SH FI FL FR v s i h; exact h.elim
  | succ g ih =>
    intro l2 l3 l4 n sl SH FI FL FR v s i h hQ hr hvn hc h12 hx h2 h4 hi hcd
    have h176 := hQ.1
    rcases h with ⟨hlt, h⟩ | ⟨hlt, h⟩
    · have hil : i < V.length := by omega
      rcases h with ⟨-, h⟩ | ⟨hn, -⟩
      · obtain ⟨c3, e3, -, v3, n3, sl3, SH3, FI3, FL3, FR3, hk, c5, e5, c6, e6, h⟩ := h
        rw [hr] at e3
        cases e3
        have em : l4.toInt.toNat = i := by omega
        have hvi : V[i]? = some V[i] := List.getElem?_eq_getElem hil
        obtain ⟨y1, y2, y3, y4⟩ := hx i V[i] hvi
        rw [em, y1] at hk e5 e6
        cases e5
        cases e6
        have x1 := y4.1
        have x2 := y4.2.1
        obtain ⟨nm, z1, z2, z3, z4⟩ := y4.2.2.2.2.2.1
        obtain ⟨F1, fr, res⟩ := c_code hQ (by omega) y4.2.2.1 y4.2.2.2.1 y4.2.2.2.2.1 (v_is_bd y4.2.2.2.2.2.2 (hB _ (List.mem_of_getElem? hvi))) hk
        rcases res with ⟨bad, rfl, e⟩ | ⟨good, rfl, sl4, SH4, F4, L4, R4, e, k1, k2, k3, k4, k5, k6⟩
        · cases e
          rcases h with ⟨-, h⟩ | ⟨hn, -⟩
          · obtain ⟨c8, e8, h⟩ := h
            have h136 := s_71f (by first | decide | (simp; done) | (simp [ms_0]; done)) h
            refine ⟨_, _, _, _, _, _, _, _, h136, ⟨by omega, hQ, fun c k g1 g2 g3 => fr c k g2 g3, fun _ _ _ => rfl, fun c k g1 => by rw [h_up_nc (by omega)], fun _ _ => rfl⟩, Nat.le_refl _, Or.inr ⟨by first | decide | (simp; done) | (simp [ms_0]; done), V[i], List.mem_of_getElem? hvi, fun hh => ?_⟩⟩
            rcases bad with bad | bad
            · rw [hh.1] at bad; cases bad
            · have := hh.2; omega
          · exfalso
            exact hn h_up_eq
        · cases e
          rcases h with ⟨hn, -⟩ | ⟨-, h⟩
          · exfalso
            rw [h_up_eq] at hn
            cases hn
          · have vok : v_ok V[i] := by
              constructor
              · cases eb : (V[i]).2.2.2.2 with
                | false => rfl
                | true => exact absurd (Or.inl eb) good
              · omega
            have g0 : ∀ q k, 119 ≠ q → 120 ≠ q → q < n → FI3 q k = FI q k := fun q k w1 w2 w3 => by rw [k4 q (by omega)]; exact fr q k (by omega) (by omega)
            have g2 : ∀ q k, q < n → ¬ (q = xs i ∧ k = 6) → h_up FR3 (xs i) 6 (some n) q k = FR q k := fun q k w3 w4 => by rw [h_up_x w4, k6 q (by omega)]
            have bce : b_ce lo SH FI FL FR (n + 1) SH3 FI3 FL3 (h_up FR3 (xs i) 6 (some n)) := ⟨by omega, ⟨by omega, fun q hq => (k3 q (by omega)).trans (hQ.2 q hq)⟩, fun c k w1 w2 w3 => g0 c k (by omega) (by omega) (by omega), fun c k w1 => by rw [k5 c (by omega)], fun c k w1 => g2 c k (by omega) (by omega), fun c w1 => k3 c (by omega)⟩
            have hx2 : d_xs FI3 FL3 (h_up FR3 (xs i) 6 (some n)) SH3 (n + 1) vc xs ns V := by
              intro j v' hj
              obtain ⟨p1, p2, p3, p4⟩ := hx j v' hj
              have q1 := p4.1
              have q2 := p4.2.1
              refine ⟨by rw [g2 vc j hvn (by omega)]; exact p1, by omega, p3, d_va_fr p4 (fun q k w1 w2 => g0 q k (by omega) (by omega) (by omega)) (fun q k w1 w2 => by rw [k5 q (by omega)]) (fun q k w1 w2 w3 => ?_) (fun q w1 w2 => k3 q (by omega))⟩
              rcases Nat.lt_trichotomy i j with hij | hij | hij
              · have := p3 i hij
                exact g2 q k (by omega) (by omega)
              · subst hij
                exact g2 q k (by omega) w3
              · have := y3 j hij
                exact g2 q k (by omega) (by omega)
            obtain ⟨l2', l3', n5, sl5, SH5, F5, L5, R5, h5, b5, nn5, res⟩ := ih l2 l3 _ (n + 1) sl3 SH3 FI3 FL3 _ v s (i + 1) h bce.2.1 (by rw [g2 110 2 (by omega) (by omega)]; exact hr) (by omega) (by rw [g0 110 3 (by omega) (by omega) (by omega)]; exact hc) h12 hx2 h2 (by rw [i_add h4 (by first | decide | (simp; done) | (simp [ms_0]; done) : ((1 : Int32)).toInt = 1) (by omega) (by omega)]; omega) (by omega) (fun j v' hj hv' => by
              obtain ⟨p1, p2, p3, p4⟩ := hx j v' hv'
              have q1 := p4.1
              have q2 := p4.2.1
              obtain ⟨nm', w1, w2, w3, w4⟩ := p4.2.2.2.2.2.1
              by_cases e : j = i
              · subst e
                rw [hvi] at hv'
                cases hv'
                refine ⟨vok, by rw [g0 (xs j) 5 (by omega) (by omega) (by omega)]; exact v_is_r y4.2.2.2.2.2.2, ⟨nm, by rw [h_up_ne (by first | decide | (simp; done) | (simp [ms_0]; done)), k6 (xs j) (by omega)]; exact z1, by omega, by omega, nm_fr z4 (by funext k; exact g0 nm k (by omega) (by omega) (by omega)) (k3 nm (by omega))⟩, n, h_up_eq, by omega, by omega, k1, vok.2, k2⟩
              · obtain ⟨o1, o2⟩ := hcd j v' (by omega) hv'
                have hne : xs j ≠ xs i := by
                  have := y3 j (by omega)
                  omega
                exact ⟨o1, d_cd_fr o2 ⟨by omega, by omega⟩ g0 (fun k => g2 (xs j) k (by omega) (by omega)) (fun q w => k3 q (by omega)) (by omega)⟩)
            refine ⟨l2', l3', _, _, _, _, _, _, h5, b_ce_t bce b5, by omega, ?_⟩
            rcases res with ⟨r1, r2, r3, r4, r5⟩ | res
            · exact Or.inl ⟨r1, r2, fun k => (r3 k).trans (g2 vc k hvn (by omega)), r4.trans (k3 vc (by omega)), r5⟩
            · exact Or.inr res
      · exact absurd h2 hn
    · have hie : i = V.length := by omega
      refine ⟨l2, l3, _, _, _, _, _, _, h, ⟨by omega, hQ, fun _ _ _ _ _ => rfl, fun _ _ _ => rfl, fun _ _ _ => rfl, fun _ _ => rfl⟩, Nat.le_refl _, Or.inl ⟨h2, fun x hx' => ?_, fun _ => rfl, rfl, fun j v' hj => ?_, hx⟩⟩
      · obtain ⟨j, hj⟩ := List.mem_iff_getElem?.mp hx'
        have := (List.getElem?_eq_some_iff.mp hj).1
        exact (hcd j x (by omega) hj).1
      · have := (List.getElem?_eq_some_iff.mp hj).1
        exact (hcd j v' (by omega) hj).2
end CLT
theorem s_compilet {n sl N T : Nat} {P : Nat → Nat} {X K W : Nat → Int} {SH : Nat → Nat × Nat} {FI : Nat → Nat → Int32} {FL : Nat → Nat → Int64} {FR : Nat → Nat → Option Nat} {v : Int32} {s : hS} (hQ : h_S n SH) (h : RX11_compile n sl SH FI FL FR v s) (ha : (FI 0 9).toInt = N) (hN : N ≤ 1000) (hX : ∀ i, i < N → (FI 19 i).toInt = X i ∧ 0 ≤ X i ∧ X i ≤ 255) (hK : ∀ i x, (t_tl X N 1001 0)[i]? = some x → K i = x.1 ∧ W i = x.2.1) (hk : tk_ok K W P T) (hT : (t_tl X N 1001 0).length = T + 1) : ∃ n2 sl2 SH2 F2 L2 R2, s = (n2, sl2, SH2, F2, L2, R2) ∧ b_cp n SH FI FL FR n2 SH2 F2 L2 R2 ∧ (F2 0 9).toInt = 0 ∧ ∃ F0, ∀ f, F0 ≤ f → match lp_tx K W f 1100 0 [] with
    | none => v = -1 ∧ F2 0 12 = FI 0 12 ∧ R2 0 11 = FR 0 11
    | some V => ((∃ x, x ∈ V ∧ ¬ v_ok x) ∧ v = -1 ∧ F2 0 12 = FI 0 12 ∧ R2 0 11 = FR 0 11) ∨ ((∀ x, x ∈ V → v_ok x) ∧ v.toInt = V.length ∧ v_cl F2 R2 SH2 n2 V ∧ v_cm F2 L2 R2 SH2 n2 V) := by
  have h176 := hQ.1
  obtain ⟨v1, n1, sl1, SH1, FI1, FL1, FR1, hb, g, h⟩ := h
  obtain ⟨M, sl2, SH2, F2, L2, R2, e, hMN, hMl, hQ1, hq, hm, hv, hd, f1, l1, r1, s1⟩ := s_begin (K := K) (W := W) (X := X) (N := N) hQ hb ha hN (fun i hi => by rw [h_up_nc (by first | decide | (simp; done) | (simp [ms_0]; done))]; exact hX i hi) hK
  cases e
  have hM := hq.1
  obtain ⟨n3, sl3, SH3, F3, L3, R3, h3, nn3, bd3, res⟩ := s_text hk.2.1 h176 (Nat.le_refl n) ha hMN hN g _ (n + 1) sl1 SH1 FI1 FL1 FR1 v s 0 0 [] h hQ1 hq hm hv hd (by first | decide | (simp; done) | (simp [ms_0]; done)) (Nat.zero_le _) (Nat.zero_le _)
  have f09 : FI1 0 9 = 0 := by rw [f1 0 9 (by omega) (by omega), h_up_eq]
  obtain ⟨g3, h3⟩ := h3
  rcases res with ⟨V, ⟨a, lt⟩, h5, d3, t', ht', hz'⟩ | ⟨⟨a, lt⟩, ft⟩
  · obtain ⟨d1, d2, dn, d4, d5, d6, xs, ns, d7⟩ := d3
    have hBV : ∀ v, v ∈ V → v.2.2.2.1.length ≤ 100000 := fun v hv' => by
      have x1 := lp_fl_mem hv'
      have x2 := tk_P_le hk.2.1 hk.2.2.2.2.1 (i := t') (j := T) (by omega) (Nat.le_refl _)
      have x3 := hk.2.2.2.2.2
      omega
    obtain ⟨l2', l3', n4, sl4, SH4, F4, L4, R4, h4, b4, nn4, res⟩ := s_71t (vc := n) (lo := n) h176 (Nat.le_refl n) hBV g3 _ _ _ n3 sl3 SH3 F3 L3 R3 v s 0 h3 bd3.2.1 d1 dn d5 d6 d7 h5 (by first | decide | (simp; done) | (simp [ms_0]; done)) (Nat.zero_le _) (fun j v hj => by omega)
    obtain ⟨F5, hF5, r5⟩ := s_136 h4
    have fz : ∀ c k, c < n → ¬ (c = 21 ∨ (110 ≤ c ∧ c ≤ 120)) → F5 c k = FI1 c k := fun c k y1 y2 => by rw [hF5 c k (by omega), b4.2.2.1 c k y1 (by omega) (by omega), bd3.2.2.1 c k y1 (by omega) (by omega)]
    have lz : ∀ c k, c < n → c ≠ 110 → L4 c k = FL1 c k := fun c k y1 y2 => by rw [b4.2.2.2.1 c k y1, bd3.2.2.2.1 c k y1 y2]
    have rz : ∀ c k, c < n → R4 c k = FR1 c k := fun c k y1 => by rw [b4.2.2.2.2.1 c k y1, bd3.2.2.2.2.1 c k y1]
    have sz : ∀ c, c < n → SH4 c = SH c := fun c y1 => by rw [b4.2.2.2.2.2 c y1, bd3.2.2.2.2.2 c y1, s1 c y1]
    rcases r5 with ⟨z0, rfl, rfl⟩ | ⟨z0, rfl, rfl⟩
    · rcases res with ⟨-, p2, p3, p4, p5, p6⟩ | ⟨p1, -⟩
      · refine ⟨_, _, _, _, _, _, rfl, ⟨by omega, b4.2.1, fun c k y1 y2 y3 => ?_, fun c k y1 y2 => by rw [lz c k y1 (by omega)]; exact l1 c k y1 y2, fun c k y1 y2 y3 => ?_, sz⟩, ?_, a, fun f hf => ?_⟩
        · rw [h_up_x (by omega), fz c k y1 y3, f1 c k y1 (by omega), h_up_x (by omega)]
        · rw [h_up_x y2, rz c k y1]; exact r1 c k y1 y3
        · rw [h_up_ne (by first | decide | (simp; done) | (simp [ms_0]; done)), fz 0 9 (by omega) (by omega), f09]; (first | decide | (simp; done) | (simp [ms_0]; done))
        · rw [lt f 1100 hf (by omega)]
          have e3 : (F4 110 3).toInt = V.length := by rw [b4.2.2.1 110 3 (by omega) (by omega) (by omega)]; exact d5
          have e2 : R4 110 2 = some n := by rw [b4.2.2.2.2.1 110 2 (by omega)]; exact d1
          refine Or.inr ⟨p2, e3, ⟨n, by rw [h_up_eq]; exact e2, by omega, by rw [p4]; exact d4, by rw [h_up_eq]; exact e3, d6, fun i v' hv' => ?_⟩, ⟨n, by rw [h_up_eq]; exact e2, d2, by omega, by rw [p4]; exact d4, fun i v' hv' => ?_⟩⟩
          rotate_left
          · obtain ⟨q1, q2, q3, q4⟩ := p6 i v' hv'
            have q5 := q4.1
            have q6 := q4.2.1
            refine ⟨xs i, by rw [h_up_nc (by omega)]; exact q1, v_ms_of (n := ns i) (vc := n) (d_va_fr q4 (fun q k w1 w2 => ?_) (fun _ _ _ _ => rfl) (fun q k w1 w2 _ => by rw [h_up_nc (by omega)]) (fun _ _ _ => rfl)) (by omega)⟩
            rw [h_up_nc (by omega)]
            exact hF5 q k (by omega)
          obtain ⟨q1, q2, q3, q4⟩ := d7 i v' hv'
          have q5 := q4.1
          have q6 := q4.2.1
          obtain ⟨nm, w1, w2, w3, w4⟩ := q4.2.2.2.2.2.1
          refine ⟨xs i, by rw [h_up_nc (by omega), p3 i]; exact q1, by omega, ?_⟩
          obtain ⟨o1, ⟨nm2, u1, hnm2, u2, u3⟩, cc, t1, t2, t3, t4, t5, t6⟩ := p5 i v' hv'
          -- 21 and 0 are none of these cells
          have ge : ∀ q k, 176 ≤ q → h_up F5 0 12 (F4 110 3) q k = F4 q k := fun q k hq' => by rw [h_up_nc (by omega)]; exact hF5 q k (by omega)
          exact ⟨by rw [ge (xs i) 5 (by omega)]; exact o1, ⟨nm2, by rw [h_up_nc (by omega)]; exact u1, hnm2, u2, nm_fr u3 (by funext k; exact ge nm2 k hnm2) rfl⟩, cc, by rw [h_up_nc (by omega)]; exact t1, t2, t3, t4, t5, fun k hk => by rw [ge cc k t3]; exact t6 k hk⟩
      · exact absurd z0 p1
    · rcases res with ⟨p1, -⟩ | ⟨-, p2⟩
      · exact absurd p1 z0
      · refine ⟨_, _, _, _, _, _, rfl, ⟨by omega, b4.2.1, fun c k y1 y2 y3 => ?_, fun c k y1 y2 => by rw [lz c k y1 (by omega)]; exact l1 c k y1 y2, fun c k y1 y2 y3 => by rw [rz c k y1]; exact r1 c k y1 y3, sz⟩, ?_, a, fun f hf => ?_⟩
        · rw [fz c k y1 y3, f1 c k y1 (by omega), h_up_x (by omega)]
        · rw [fz 0 9 (by omega) (by omega), f09]; (first | decide | (simp; done) | (simp [ms_0]; done))
        · rw [lt f 1100 hf (by omega)]
          exact Or.inl ⟨p2, rfl, by rw [fz 0 12 (by omega) (by omega), f1 0 12 (by omega) (by omega), h_up_ne (by first | decide | (simp; done) | (simp [ms_0]; done))], by rw [rz 0 11 (by omega)]; exact r1 0 11 (by omega) (by omega)⟩
  · have h136 := s_71f ft.1 h3
    obtain ⟨F5, hF5, r5⟩ := s_136 h136
    rcases r5 with ⟨z0, -, -⟩ | ⟨-, rfl, rfl⟩
    · exact absurd z0 ft.1
    · have fz : ∀ c k, c < n → ¬ (c = 21 ∨ (110 ≤ c ∧ c ≤ 120)) → F5 c k = FI1 c k := fun c k y1 y2 => by rw [hF5 c k (by omega), bd3.2.2.1 c k y1 (by omega) (by omega)]
      refine ⟨_, _, _, _, _, _, rfl, ⟨by omega, bd3.2.1, fun c k y1 y2 y3 => ?_, fun c k y1 y2 => by rw [bd3.2.2.2.1 c k y1 (by omega)]; exact l1 c k y1 y2, fun c k y1 y2 y3 => by rw [bd3.2.2.2.2.1 c k y1]; exact r1 c k y1 y3, fun c y1 => by rw [bd3.2.2.2.2.2 c y1, s1 c y1]⟩, ?_, a, fun f hf => ?_⟩
      · rw [fz c k y1 y3, f1 c k y1 (by omega), h_up_x (by omega)]
      · rw [fz 0 9 (by omega) (by omega), f09]; (first | decide | (simp; done) | (simp [ms_0]; done))
      · rw [lt f 1100 hf (by omega)]
        exact ⟨rfl, by rw [fz 0 12 (by omega) (by omega), f1 0 12 (by omega) (by omega), h_up_ne (by first | decide | (simp; done) | (simp [ms_0]; done))], by rw [bd3.2.2.2.2.1 0 11 (by omega)]; exact r1 0 11 (by omega) (by omega)⟩
/-! THE REFERENCE'S COMPILE: where bodies begin. -/
def lp_in (K W : Nat → Int) (f T : Nat) (V : List lp_V) : Prop := ∀ v, v ∈ V → v.2.1 ≤ T ∧ ∃ t1, lp_bd K W f v.2.1 = some (t1, v.2.2.1, v.2.2.2.1, v.2.2.2.2) ∧ K t1 = 5 ∧ W t1 = 59
section CPT
variable {K W : Nat → Int} {P : Nat → Nat} {T f : Nat}
theorem lp_st_in {t t1 : Nat} {V V2 : List lp_V} (hT : K T = 0) (ht : t ≤ T) (h : lp_st K W f t V = some (t1, V2)) (hV : lp_in K W f T V) : lp_in K W f T V2 := by
  unfold lp_st at h
  by_cases h1 : K t = 1 ∧ (∀ v, v ∈ V → v.1 ≠ W t) ∧ V.length < 12 ∧ K (t + 1) = 5 ∧ W (t + 1) = 61
  · rw [if_pos h1] at h
    obtain ⟨k1, -, -, k2, -⟩ := h1
    have t1' : t + 1 ≤ T := lt_T hT ht (by omega)
    have t2' : t + 1 + 1 ≤ T := lt_T (t := t + 1) hT t1' (by omega)
    cases hb : lp_bd K W f (t + 2) with
    | none => rw [hb] at h; cases h
    | some p =>
      obtain ⟨tt, mm, cc, bb⟩ := p
      rw [hb] at h
      (try dsimp only at h)
      by_cases h2 : K tt = 5 ∧ W tt = 59
      · rw [if_pos h2] at h
        have e : V ++ [(W t, t + 2, mm, cc, bb)] = V2 := congrArg Prod.snd (Option.some.inj h)
        rw [← e]
        intro v hv
        rcases List.mem_append.mp hv with hv | hv
        · exact hV v hv
        · rw [List.mem_singleton.mp hv]
          exact ⟨t2', tt, hb, h2⟩
      · rw [if_neg h2] at h; cases h
  · rw [if_neg h1] at h; cases h
theorem c_34t (hk : tk_ok K W P T) (hf : 12 * T + 20 < f) : ∀ (g n sl : Nat) (SH : Nat → Nat × Nat) (FI : Nat → Nat → Int32) (FL : Nat → Nat → Int64) (FR : Nat → Nat → Option Nat) (v : Int32) (s : hS) (g2 t : Nat) (o : Int) (V V1 : List lp_V), GX12_compile_34 g n sl SH FI FL FR v s → h_S n SH → d_vw K W FI FL t o (lp_fl V) → v_vw FI FL V → t ≤ T → lp_in K W f T V → lp_tx K W f g2 t V = some V1 → lp_in K W f T V1 := by
  intro g
  induction g with
  | zero => intro n sl SH FI FL FR v s g2 t o V V1 h; exact h.elim
  | succ g ih =>
    intro n sl SH FI FL FR v s g2 t o V V1 h hS hd hv ht hV hx
    have hK : (FI 149 (FI 121 68).toInt.toNat).toInt = K t := by rw [tk_i hd.1, tk_K hd.1]
    cases g2 with
    | zero => rw [lp_tx] at hx; cases hx
    | succ g2 =>
      rw [lp_tx_st] at hx
      rcases h with ⟨h1, h⟩ | ⟨h1, h⟩
      · obtain ⟨-, h⟩ := h
        rcases h with ⟨h2, h⟩ | ⟨h2, h⟩
        · rw [hK] at h2
          rw [if_pos h2] at hx
          cases hx
          exact hV
        · rw [hK] at h2
          rw [if_neg h2] at hx
          obtain ⟨v2, n2, sl2, SH2, FI2, FL2, FR2, hc, h⟩ := h
          have kc := kX12_declared hc
          have hS2 : h_S n2 SH2 := by rw [show n2 = n from kc.1, show SH2 = SH from kc.2.2.1]; exact hS
          have q := d_declared (f := f) hc hS hk hf ht hd hv
          cases hr : lp_st K W f t V with
          | none => rw [hr] at hx; cases hx
          | some r =>
            obtain ⟨t1, V2⟩ := r
            rw [hr] at q hx
            obtain ⟨q1, q2, ⟨o1, q3⟩, q4⟩ := q
            exact ih n2 sl2 SH2 FI2 FL2 FR2 v s g2 t1 o1 V2 V1 h hS2 q3 q4 q2 (lp_st_in hk.2.2.1 ht hr hV) hx
      · exact absurd hd.2.1 h1
end CPT
theorem r_compilet {n sl N : Nat} {X : Nat → Int} {SH : Nat → Nat × Nat} {FI : Nat → Nat → Int32} {FL : Nat → Nat → Int64} {FR : Nat → Nat → Option Nat} {v : Int32} {s : hS} (hS : h_S n SH) (h : RX12_compile n sl SH FI FL FR v s) (hx : x_vw FI X N) (hr : rl_t (FI 149) (FL 150)) : ∃ K W P T, (t_tl X N 1001 0).length = T + 1 ∧ tk_ok K W P T ∧ (∀ i x, (t_tl X N 1001 0)[i]? = some x → K i = x.1 ∧ W i = x.2.1) ∧ ∀ f, 12 * T + 20 < f → (∀ V, lp_tx K W f 1100 0 [] = some V → lp_in K W f T V) ∧ match lp_tx K W f 1100 0 [] with
    | none => v = -1 ∧ u_eq FI s.2.2.2.1 FL s.2.2.2.2.1
    | some V => ((∃ x, x ∈ V ∧ ¬ (x.2.2.2.2 = false ∧ x.2.2.2.1.length ≤ 600)) ∧ v = -1 ∧ u_eq FI s.2.2.2.1 FL s.2.2.2.2.1) ∨ ((∀ x, x ∈ V → x.2.2.2.2 = false ∧ x.2.2.2.1.length ≤ 600) ∧ v.toInt = V.length ∧ u_vw s.2.2.2.1 s.2.2.2.2.1 K W T V) := by
  obtain ⟨v1, n1, sl1, SH1, FI1, FL1, FR1, ht, h⟩ := h
  have kt := kX12_tokens ht
  have e1 : n1 = n := kt.1
  have e2 : SH1 = SH := kt.2.2.1
  subst e1 e2
  have hx2 : x_vw (h_up FI 121 0 0) X N := ⟨by rw [h_up_x (by first | decide | (simp; done) | (simp [ms_0]; done))]; exact hx.1, hx.2.1, by rw [h_up_nc (by first | decide | (simp; done) | (simp [ms_0]; done))]; exact hx.2.2⟩
  obtain ⟨P, T, r1, r2, r3, r4⟩ := t_tokens ht hx2 (by rw [h_up_nc (by first | decide | (simp; done) | (simp [ms_0]; done))]; exact hr)
  refine ⟨_, _, P, T, r1, r2, fun i x hi => ⟨(r4 i x hi).1, (r4 i x hi).2.1⟩, fun f hf => ?_⟩
  have ux : u_eq FI (h_up FI 121 0 0) FL FL := ⟨h_up_nc (by first | decide | (simp; done) | (simp [ms_0]; done)), h_up_nc (by first | decide | (simp; done) | (simp [ms_0]; done)), h_up_nc (by first | decide | (simp; done) | (simp [ms_0]; done)), h_up_nc (by first | decide | (simp; done) | (simp [ms_0]; done)), h_up_nc (by first | decide | (simp; done) | (simp [ms_0]; done)), rfl, rfl, h_up_x (by first | decide | (simp; done) | (simp [ms_0]; done))⟩
  have u1 : u_eq (h_up FI 121 0 0) FI1 FL FL1 := u_kq kt (by first | decide | (simp; done) | (simp [ms_0]; done))
  have u2 : u_eq FI1 (h_up (h_up (h_up (h_up (h_up FI1 121 13 ((0 : Int32))) 121 68 ((0 : Int32))) 121 69 ((0 : Int32))) 121 78 ((0 : Int32))) 121 73 ((0 : Int32))) FL1 FL1 := by
    refine ⟨?_, ?_, ?_, ?_, ?_, rfl, rfl, ?_⟩
    · rw [h_up_nc (by first | decide | (simp; done) | (simp [ms_0]; done)), h_up_nc (by first | decide | (simp; done) | (simp [ms_0]; done)), h_up_nc (by first | decide | (simp; done) | (simp [ms_0]; done)), h_up_nc (by first | decide | (simp; done) | (simp [ms_0]; done)), h_up_nc (by first | decide | (simp; done) | (simp [ms_0]; done))]
    · rw [h_up_nc (by first | decide | (simp; done) | (simp [ms_0]; done)), h_up_nc (by first | decide | (simp; done) | (simp [ms_0]; done)), h_up_nc (by first | decide | (simp; done) | (simp [ms_0]; done)), h_up_nc (by first | decide | (simp; done) | (simp [ms_0]; done)), h_up_nc (by first | decide | (simp; done) | (simp [ms_0]; done))]
    · rw [h_up_nc (by first | decide | (simp; done) | (simp [ms_0]; done)), h_up_nc (by first | decide | (simp; done) | (simp [ms_0]; done)), h_up_nc (by first | decide | (simp; done) | (simp [ms_0]; done)), h_up_nc (by first | decide | (simp; done) | (simp [ms_0]; done)), h_up_nc (by first | decide | (simp; done) | (simp [ms_0]; done))]
    · rw [h_up_nc (by first | decide | (simp; done) | (simp [ms_0]; done)), h_up_nc (by first | decide | (simp; done) | (simp [ms_0]; done)), h_up_nc (by first | decide | (simp; done) | (simp [ms_0]; done)), h_up_nc (by first | decide | (simp; done) | (simp [ms_0]; done)), h_up_nc (by first | decide | (simp; done) | (simp [ms_0]; done))]
    · rw [h_up_nc (by first | decide | (simp; done) | (simp [ms_0]; done)), h_up_nc (by first | decide | (simp; done) | (simp [ms_0]; done)), h_up_nc (by first | decide | (simp; done) | (simp [ms_0]; done)), h_up_nc (by first | decide | (simp; done) | (simp [ms_0]; done)), h_up_nc (by first | decide | (simp; done) | (simp [ms_0]; done))]
    · rw [h_up_x (by first | decide | (simp; done) | (simp [ms_0]; done)), h_up_x (by first | decide | (simp; done) | (simp [ms_0]; done)), h_up_x (by first | decide | (simp; done) | (simp [ms_0]; done)), h_up_x (by first | decide | (simp; done) | (simp [ms_0]; done)), h_up_x (by first | decide | (simp; done) | (simp [ms_0]; done))]
  have ut := u_tr ux (u_tr u1 u2)
  have hdv := (⟨⟨by rw [h_up_nc (by first | decide | (simp; done) | (simp [ms_0]; done)), h_up_nc (by first | decide | (simp; done) | (simp [ms_0]; done)), h_up_nc (by first | decide | (simp; done) | (simp [ms_0]; done)), h_up_nc (by first | decide | (simp; done) | (simp [ms_0]; done)), h_up_nc (by first | decide | (simp; done) | (simp [ms_0]; done))], rfl, by rw [h_up_x (by first | decide | (simp; done) | (simp [ms_0]; done)), h_up_x (by first | decide | (simp; done) | (simp [ms_0]; done)), h_up_x (by first | decide | (simp; done) | (simp [ms_0]; done)), h_up_eq]; rfl, Nat.zero_le _⟩, by rw [h_up_x (by first | decide | (simp; done) | (simp [ms_0]; done)), h_up_x (by first | decide | (simp; done) | (simp [ms_0]; done)), h_up_eq]; (first | decide | (simp; done) | (simp [ms_0]; done)), rfl, by rw [h_up_eq]; rfl, fun _ i hi => by rw [List.length_nil] at hi; omega⟩ : d_vw (kf (FI1 149)) (wf (FL1 150)) (h_up (h_up (h_up (h_up (h_up FI1 121 13 ((0 : Int32))) 121 68 ((0 : Int32))) 121 69 ((0 : Int32))) 121 78 ((0 : Int32))) 121 73 ((0 : Int32))) FL1 0 ((h_up (h_up (h_up (h_up (h_up FI1 121 13 ((0 : Int32))) 121 68 ((0 : Int32))) 121 69 ((0 : Int32))) 121 78 ((0 : Int32))) 121 73 ((0 : Int32))) 121 71).toInt [])
  have h78 := ((by rw [h_up_x (by first | decide | (simp; done) | (simp [ms_0]; done)), h_up_eq]; (first | decide | (simp; done) | (simp [ms_0]; done))) : ((h_up (h_up (h_up (h_up (h_up FI1 121 13 ((0 : Int32))) 121 68 ((0 : Int32))) 121 69 ((0 : Int32))) 121 78 ((0 : Int32))) 121 73 ((0 : Int32))) 121 78).toInt = 0)
  have hin : ∀ V, lp_tx (kf (FI1 149)) (wf (FL1 150)) f 1100 0 [] = some V → lp_in (kf (FI1 149)) (wf (FL1 150)) f T V := by
    intro V hx
    obtain ⟨g, h⟩ := h
    exact c_34t r2 hf g _ _ _ _ _ _ _ _ 1100 0 _ [] V h hS hdv ⟨h78, by first | decide | (simp; done) | (simp [ms_0]; done), fun i v hv => by simp at hv, fun e => absurd rfl e⟩ (Nat.zero_le _) (fun v hv => by simp at hv) hx
  refine ⟨hin, ?_⟩
  have q := c_compile r2 hf h hS hdv h78 (by rw [h_up_x (by first | decide | (simp; done) | (simp [ms_0]; done)), h_up_x (by first | decide | (simp; done) | (simp [ms_0]; done)), h_up_x (by first | decide | (simp; done) | (simp [ms_0]; done)), h_up_x (by first | decide | (simp; done) | (simp [ms_0]; done)), h_up_x (by first | decide | (simp; done) | (simp [ms_0]; done))]; exact r3)
  generalize lp_tx (kf (FI1 149)) (wf (FL1 150)) f 1100 0 [] = r at q
  match r, q with
  | none, q => exact ⟨q.1, u_tr ut q.2⟩
  | some V, q =>
    rcases q with ⟨q1, q2, q3⟩ | q
    · exact Or.inl ⟨q1, q2, u_tr ut q3⟩
    · exact Or.inr q
