/-! THE REFERENCE'S MEANINGS: its operators. -/
section MR
variable {n sl : Nat} {SH : Nat → Nat × Nat} {FI F2 F3 : Nat → Nat → Int32} {FL L2 L3 : Nat → Nat → Int64} {FR : Nat → Nat → Option Nat} {st : hS} {E : ms_E} {fb : xX} {u : Unit} {K W : Nat → Int} {T t : Nat} {S : List mq_E} {q : mq_Q} {m m2 : Int ⊕ Bool} {V R : List (Option Int64)}
/-- one that waited goes, two values become one -/
theorem mh_b {e : mq_E} {x y x2 : Option Int64} {F1 : Nat → Nat → Int32} {L1 : Nat → Nat → Int64} (hh : mh FI FL T t (e :: S) (y :: x :: R, m)) (e1 : ∀ c k, ¬ (c = 121 ∧ (k = 90 ∨ k = 93 ∨ k = 101 ∨ k = 104)) → F1 c k = FI c k) (e90 : (F1 121 90).toInt = S.length) (e101 : (F1 121 101).toInt = (R.length : Int) + 1) (hx : ∀ v, x2 = some v → L1 173 R.length = v) (hL : ∀ i, i < R.length → L1 173 i = FL 173 i) (hm : ∀ b, m2 = .inr b → ∃ b2, m = .inr b2) (hmm : mm F1 m2) : mh F1 L1 T t S (x2 :: R, m2) := by
  obtain ⟨a1, a2, a3, a4, a5, a6⟩ := hh
  have h5 := a2.2
  simp only [List.length_cons] at h5
  have h6 := a4.2
  simp only [List.length_cons] at h6
  exact ⟨⟨by rw [e1 121 92 (by first | decide | (simp; done) | (simp [ms_0]; done))]; exact a1.1, a1.2⟩, ⟨e90, by omega⟩, lv_me a3.2 (fun r i hr _ => e1 r i (by omega)) hm, ⟨by rw [e101]; simp only [List.length_cons]; omega, by simp only [List.length_cons]; omega⟩, ⟨hx, lv_mz a5.2.2 hL⟩, hmm⟩
theorem mo_rd {a1 : Int32} {b : Int} (hb : a1.toInt = b) (hb1 : 1 ≤ b) : ∀ (g : Nat) (S : List mq_E) (q : mq_Q) (FI : Nat → Nat → Int32) (FL : Nat → Nat → Int64), mh FI FL T t S q → GX12_meansReduced_0 a1 g n sl SH FI FL FR u st → mq_rd b S q = none ∨ ∃ S2 q2 F2 L2, mq_rd b S q = some (S2, q2) ∧ st = (n, sl, SH, F2, L2, FR) ∧ mh F2 L2 T t S2 q2 := by
  have c27 : ((27 : Int32)).toInt = 27 := by first | decide | (simp; done) | (simp [ms_0]; done)
  have c29 : ((29 : Int32)).toInt = 29 := by first | decide | (simp; done) | (simp [ms_0]; done)
  have z0 : ((0 : Int64)).toInt = 0 := by first | decide | (simp; done) | (simp [ms_0]; done)
  intro g
  induction g with
  | zero => intro S q FI FL _ h; exact h.elim
  | succ g ih =>
    intro S q FI FL hh h
    rcases h with ⟨ht, -, e⟩ | ⟨ht, h⟩
    · rw [mh_top hh, hb] at ht
      exact Or.inr ⟨S, q, FI, FL, mq_rd_stop ht, e, hh⟩
    · rw [mh_top hh, hb] at ht
      cases S with
      | nil => exact absurd (show ¬ (-11 : Int) < b from ht) (by omega)
      | cons e S =>
        have ht : ¬ e.1 < b := ht
        obtain ⟨V, m⟩ := q
        obtain ⟨a1', a2, a3, a4, a5, a6⟩ := id hh
        (try dsimp only at a3 a4 a5 a6)
        have a2' := a2.1
        simp only [List.length_cons] at a2'
        have hS2 := a2.2
        simp only [List.length_cons] at hS2
        have k90 : (FI 121 90 - (1 : Int32)).toInt = (S.length : Int) := by
          rw [i_sub a2' (by first | decide | (simp; done) | (simp [ms_0]; done) : ((1 : Int32)).toInt = 1) (by omega) (by omega)]
          omega
        obtain ⟨-, p1, p2, h⟩ := h
        match V, a4, a5, hh, p1, p2, h with
        | [], a4, a5, hh, p1, p2, h =>
          exfalso
          unfold p_in at p1
          rw [i_sub a4.1 (by first | decide | (simp; done) | (simp [ms_0]; done) : ((1 : Int32)).toInt = 1) (by simp) (by simp)] at p1
          have := p1.1
          simp at this
        | [x], a4, a5, hh, p1, p2, h =>
          exfalso
          unfold p_in at p2
          rw [i_sub (i_sub a4.1 (by first | decide | (simp; done) | (simp [ms_0]; done) : ((1 : Int32)).toInt = 1) (by simp) (by simp)) (by first | decide | (simp; done) | (simp [ms_0]; done) : ((1 : Int32)).toInt = 1) (by simp) (by simp)] at p2
          have := p2.1
          simp at this
        | y :: x :: R, a4, a5, hh, p1, p2, h =>
          have a4' := a4.1
          simp only [List.length_cons] at a4'
          have hV2 := a4.2
          simp only [List.length_cons] at hV2
          have k101 : (FI 121 101 - (1 : Int32)).toInt = (R.length : Int) + 1 := by
            rw [i_sub a4' (by first | decide | (simp; done) | (simp [ms_0]; done) : ((1 : Int32)).toInt = 1) (by omega) (by omega)]
            omega
          have k102 : ((FI 121 101 - (1 : Int32)) - (1 : Int32)).toInt = (R.length : Int) := by
            rw [i_sub k101 (by first | decide | (simp; done) | (simp [ms_0]; done) : ((1 : Int32)).toInt = 1) (by omega) (by omega)]
            omega
          have n90 : (FI 121 90 - (1 : Int32)).toInt.toNat = S.length := by omega
          have n101 : (FI 121 101 - (1 : Int32)).toInt.toNat = R.length + 1 := by omega
          have n102 : ((FI 121 101 - (1 : Int32)) - (1 : Int32)).toInt.toNat = R.length := by omega
          rw [n90, n101, n102] at h
          have hcode := a3.1.2.1
          have hcy := a5.1
          have hcx := a5.2.1
          generalize hF : (h_up (h_up FI 121 90 (FI 121 90 - (1 : Int32))) 121 101 (FI 121 101 - (1 : Int32))) = F1 at h
          have f1 : ∀ c k, ¬ (c = 121 ∧ (k = 90 ∨ k = 93 ∨ k = 101 ∨ k = 104)) → F1 c k = FI c k := fun c k hn => by rw [← hF, h_up_x (by omega), h_up_x (by omega)]
          have f90 : (F1 121 90).toInt = (S.length : Int) := by rw [← hF, h_up_x (by first | decide | (simp; done) | (simp [ms_0]; done)), h_up_eq]; exact k90
          have f101 : F1 121 101 = FI 121 101 - (1 : Int32) := by rw [← hF, h_up_eq]
          have f93 : F1 121 93 = FI 121 93 := by rw [← hF, h_up_x (by first | decide | (simp; done) | (simp [ms_0]; done)), h_up_x (by first | decide | (simp; done) | (simp [ms_0]; done))]
          have f104 : F1 121 104 = FI 121 104 := by rw [← hF, h_up_x (by first | decide | (simp; done) | (simp [ms_0]; done)), h_up_x (by first | decide | (simp; done) | (simp [ms_0]; done))]
          have fm : mm F1 m := by
            unfold mm at a6 ⊢
            rw [f93, f104]
            exact a6
          have hw : fX12_worked (FI 165 S.length) (FL 173 R.length) (FL 173 (R.length + 1)) SH F1 FL FR = ms_wk e.2.1 (FL 173 R.length) (FL 173 (R.length + 1)) := by
            unfold ms_wk
            rw [← hcode, show Int32.ofInt (FI 165 S.length).toInt = FI 165 S.length from Int32.ofInt_toInt _]
            rfl
          -- the end of a turn
          have go : ∀ (F2 : Nat → Nat → Int32) (L2 : Nat → Nat → Int64) (q2 : mq_Q), mq_b e.2.1 (y :: x :: R, m) = some q2 → mh F2 L2 T t S q2 → GX12_meansReduced_0 a1 g n sl SH F2 L2 FR u st → mq_rd b (e :: S) (y :: x :: R, m) = none ∨ ∃ S2 q2 F2 L2, mq_rd b (e :: S) (y :: x :: R, m) = some (S2, q2) ∧ st = (n, sl, SH, F2, L2, FR) ∧ mh F2 L2 T t S2 q2 := by
            intro F2 L2 q2 hu hh1 h1
            rw [mq_rd, if_pos (by omega), hu]
            exact ih S q2 F2 L2 hh1 h1
          -- what is written: w, behind a fault or none
          have wr : ∀ (w : Int64) (F2 : Nat → Nat → Int32), F2 121 101 = FI 121 101 - (1 : Int32) → RX12_meansReduced_131 (GX12_meansReduced_0 a1 g) a1 w (F2 121 101 - (1 : Int32)) n sl SH F2 FL FR u st → GX12_meansReduced_0 a1 g n sl SH F2 (h_up FL 173 R.length w) FR u st := by
            intro w F2 e2 h
            obtain ⟨-, h⟩ := h
            rw [e2, n102] at h
            exact h
          -- 84: what is by nothing, and the rest
          have s84 : ∀ (s : Int32), (s.toInt = 0 ↔ ¬ ((e.2.1 = 27 ∨ e.2.1 = 29) ∧ (FL 173 (R.length + 1)).toInt = 0)) → RX12_meansReduced_84 (GX12_meansReduced_0 a1 g) a1 (FI 165 S.length) (FL 173 (R.length + 1)) (FL 173 R.length) s n sl SH F1 FL FR u st → mq_rd b (e :: S) (y :: x :: R, m) = none ∨ ∃ S2 q2 F2 L2, mq_rd b (e :: S) (y :: x :: R, m) = some (S2, q2) ∧ st = (n, sl, SH, F2, L2, FR) ∧ mh F2 L2 T t S2 q2 := by
            intro s hs h
            have h101 : (F1 121 101).toInt = (R.length : Int) + 1 := by rw [f101]; exact k101
            by_cases hd : m = .inr true
            · subst hd
              cases y with
              | none => exact Or.inl (by rw [mq_rd, if_pos (by omega)]; rfl)
              | some yv =>
                cases x with
                | none => exact Or.inl (by rw [mq_rd, if_pos (by omega)]; rfl)
                | some xv =>
                  have ey : FL 173 (R.length + 1) = yv := hcy yv rfl
                  have ex : FL 173 R.length = xv := hcx xv rfl
                  have hu : mq_b e.2.1 (some yv :: some xv :: R, .inr true) = some (mq_ps (xe2 e.2.1 (.inr xv) (.inr yv)) (R, .inr true)) := rfl
                  have dn : ¬ (fX12_does SH F1 FL FR).toInt = 0 := fun q3 => ((mh_does (q := (R, .inr true)) fm).mp q3) rfl
                  rw [ey] at hs
                  by_cases hz : (e.2.1 = 27 ∨ e.2.1 = 29) ∧ yv.toInt = 0
                  · have hs0 : ¬ s.toInt = 0 := fun e0 => hs.mp e0 hz
                    have h := P_n (P_n (P_n h hs0) dn) hs0
                    have h := wr _ _ (by rw [h_up_x (by first | decide | (simp; done) | (simp [ms_0]; done))]; exact f101) h
                    have ex2 : xe2 e.2.1 (.inr xv) (.inr yv) = .inl 6 := if_pos hz
                    refine go _ _ _ hu ?_ h
                    rw [ex2]
                    exact mh_b (x2 := none) (m2 := .inl 6) hh (fun c k hn => by rw [h_up_x (by omega)]; exact f1 c k hn) (by rw [h_up_x (by first | decide | (simp; done) | (simp [ms_0]; done))]; exact f90) (by rw [h_up_x (by first | decide | (simp; done) | (simp [ms_0]; done))]; exact h101) (fun w hw => by cases hw) (fun i hi => h_up_ne (by have hi : i < R.length := hi; omega)) mm_inl ⟨by rw [h_up_eq]; (first | decide | (simp; done) | (simp [ms_0]; done)), by first | decide | (simp; done) | (simp [ms_0]; done)⟩
                  · have hs0 : s.toInt = 0 := hs.mpr hz
                    have h := P_p (P_p h hs0) hs0
                    have h := wr _ _ f101 h
                    have ex2 : xe2 e.2.1 (.inr xv) (.inr yv) = .inr (ms_wk e.2.1 xv yv) := if_neg hz
                    refine go _ _ _ hu ?_ h
                    rw [ex2, hw, ex, ey]
                    exact mh_b (x2 := some (ms_wk e.2.1 xv yv)) (m2 := .inr true) hh f1 f90 h101 (fun w hw => by rw [h_up_eq]; exact Option.some.inj hw) (fun i hi => h_up_ne (by have hi : i < R.length := hi; omega)) mm_id fm
            · have hu : mq_b e.2.1 (y :: x :: R, m) = some (none :: R, m) := by
                match m, hd with
                | .inr true, hd => exact absurd rfl hd
                | .inr false, _ => rfl
                | .inl e, _ => rfl
              have dy : (fX12_does SH F1 FL FR).toInt = 0 := (mh_does (q := (R, m)) fm).mpr hd
              have hv : ∀ w, mh F1 (h_up FL 173 R.length w) T t S (none :: R, m) := fun w => mh_b (x2 := none) (m2 := m) hh f1 f90 h101 (fun w hw => by cases hw) (fun i hi => h_up_ne (by omega)) mm_id fm
              have h4 : RX12_meansReduced_104 (GX12_meansReduced_0 a1 g) a1 (FI 165 S.length) (FL 173 (R.length + 1)) (FL 173 R.length) s n sl SH F1 FL FR u st := by
                rcases h with ⟨-, h⟩ | ⟨-, h⟩
                · exact h
                · exact P_p h dy
              rcases h4 with ⟨-, h⟩ | ⟨-, h⟩
              · exact go _ _ _ hu (hv _) (wr _ _ f101 h)
              · exact go _ _ _ hu (hv _) (wr _ _ f101 h)
          have s73 : (e.2.1 = 27 ∨ e.2.1 = 29) → RX12_meansReduced_73 (GX12_meansReduced_0 a1 g) a1 (FI 165 S.length) (FL 173 (R.length + 1)) (FL 173 R.length) n sl SH F1 FL FR u st → mq_rd b (e :: S) (y :: x :: R, m) = none ∨ ∃ S2 q2 F2 L2, mq_rd b (e :: S) (y :: x :: R, m) = some (S2, q2) ∧ st = (n, sl, SH, F2, L2, FR) ∧ mh F2 L2 T t S2 q2 := by
            intro hc h
            rcases h with ⟨h0, h⟩ | ⟨h0, h⟩
            · rw [z0] at h0
              exact s84 1 ⟨fun e => absurd e (by first | decide | (simp; done) | (simp [ms_0]; done)), fun e => absurd ⟨hc, h0⟩ e⟩ h
            · rw [z0] at h0
              exact s84 0 ⟨fun _ e => h0 e.2, fun _ => by first | decide | (simp; done) | (simp [ms_0]; done)⟩ h
          rw [hcode, c27, c29] at h
          rcases h with ⟨q1, h⟩ | ⟨q1, h⟩
          · exact s73 (Or.inl q1) h
          · rcases h with ⟨q2, h⟩ | ⟨q2, h⟩
            · exact s73 (Or.inr q2) h
            · exact s84 0 ⟨fun _ e => e.1.elim q1 q2, fun _ => by first | decide | (simp; done) | (simp [ms_0]; done)⟩ h
theorem mo_red {a1 : Int32} {b : Int} (hb : a1.toInt = b) (hb1 : 1 ≤ b) (hh : mh FI FL T t S q) (h : RX12_meansReduced a1 n sl SH FI FL FR u st) : mq_rd b S q = none ∨ ∃ S2 q2 F2 L2, mq_rd b S q = some (S2, q2) ∧ st = (n, sl, SH, F2, L2, FR) ∧ mh F2 L2 T t S2 q2 := by
  obtain ⟨g, h⟩ := h
  exact mo_rd hb hb1 g S q FI FL hh h
/-- all that bind, and choices to their ends -/
theorem mq_all_rd : ∀ (S : List mq_E) (q : mq_Q), mq_all S q = match mq_rd 1 S q with
    | none => none
    | some r => mq_all r.1 r.2
  | [], q => rfl
  | e :: S, q => by
    rw [mq_rd]
    by_cases h : 1 ≤ e.1
    · rw [if_pos h, mq_all, if_pos h]
      cases hb : mq_b e.2.1 q with
      | none => rfl
      | some q2 => exact mq_all_rd S q2
    · rw [if_neg h]
theorem mq_rd_top {b : Int} : ∀ (S : List mq_E) (q : mq_Q) (r : List mq_E × mq_Q), mq_rd b S q = some r → mq_top r.1 < b ∨ r.1 = []
  | [], q, r, h => by
    right
    rw [← Option.some.inj h]
  | e :: S, q, r, h => by
    rw [mq_rd] at h
    by_cases hb : b ≤ e.1
    · rw [if_pos hb] at h
      cases hq : mq_b e.2.1 q with
      | none => rw [hq] at h; cases h
      | some q2 =>
        rw [hq] at h
        exact mq_rd_top S q2 r h
    · rw [if_neg hb] at h
      left
      rw [← Option.some.inj h]
      show e.1 < b
      omega
theorem mo_5 : ∀ (g : Nat) (S : List mq_E) (q : mq_Q) (FI : Nat → Nat → Int32) (FL : Nat → Nat → Int64), mh FI FL T t S q → mq_top S < 1 → GX12_meansReducedAll_5 g n sl SH FI FL FR u st → mq_all S q = none ∨ ∃ S2 q2 F2 L2, mq_all S q = some (S2, q2) ∧ st = (n, sl, SH, F2, L2, FR) ∧ mh F2 L2 T t S2 q2 := by
  have c3 : ((-3 : Int32)).toInt = -3 := by first | decide | (simp; done) | (simp [ms_0]; done)
  intro g
  induction g with
  | zero => intro S q FI FL _ _ h; exact h.elim
  | succ g ih =>
    intro S q FI FL hh hS1 h
    rcases h with ⟨ht, h⟩ | ⟨ht, -, e⟩
    · rw [mh_top hh, c3] at ht
      cases S with
      | nil => exact absurd ht (by first | decide | (simp; done) | (simp [ms_0]; done))
      | cons e S =>
        obtain ⟨e1, e2, wl, so⟩ := e
        have ht : e1 = -3 := ht
        subst ht
        obtain ⟨V, m⟩ := q
        obtain ⟨a1', a2, a3, a4, a5, a6⟩ := id hh
        (try dsimp only at a3 a4 a5 a6)
        have a2' := a2.1
        simp only [List.length_cons] at a2'
        have hS2 := a2.2
        simp only [List.length_cons] at hS2
        have k90 : (FI 121 90 - (1 : Int32)).toInt = (S.length : Int) := by
          rw [i_sub a2' (by first | decide | (simp; done) | (simp [ms_0]; done) : ((1 : Int32)).toInt = 1) (by omega) (by omega)]
          omega
        have n90 : (FI 121 90 - (1 : Int32)).toInt.toNat = S.length := by omega
        obtain ⟨-, h⟩ := h
        rw [n90] at h
        have hent := a3.1.2.2.2 (Or.inr rfl)
        match V, a4, a5, hh, h with
        | [], a4, a5, hh, h => exact Or.inl (by rw [mq_all, if_neg (by first | decide | (simp; done) | (simp [ms_0]; done)), if_pos rfl]; rfl)
        | [x], a4, a5, hh, h => exact Or.inl (by rw [mq_all, if_neg (by first | decide | (simp; done) | (simp [ms_0]; done)), if_pos rfl]; rfl)
        | y :: x :: R, a4, a5, hh, h =>
          have a4' := a4.1
          simp only [List.length_cons] at a4'
          have hV2 := a4.2
          simp only [List.length_cons] at hV2
          have k101 : (FI 121 101 - (1 : Int32)).toInt = (R.length : Int) + 1 := by
            rw [i_sub a4' (by first | decide | (simp; done) | (simp [ms_0]; done) : ((1 : Int32)).toInt = 1) (by omega) (by omega)]
            omega
          have k102 : ((FI 121 101 - (1 : Int32)) - (1 : Int32)).toInt = (R.length : Int) := by
            rw [i_sub k101 (by first | decide | (simp; done) | (simp [ms_0]; done) : ((1 : Int32)).toInt = 1) (by omega) (by omega)]
            omega
          have n101 : (FI 121 101 - (1 : Int32)).toInt.toNat = R.length + 1 := by omega
          have n102 : ((FI 121 101 - (1 : Int32)) - (1 : Int32)).toInt.toNat = R.length := by omega
          rw [n101, n102] at h
          generalize hF : (h_up (h_up FI 121 90 (FI 121 90 - (1 : Int32))) 121 101 (FI 121 101 - (1 : Int32))) = F1 at h
          have f1 : ∀ c k, ¬ (c = 121 ∧ (k = 90 ∨ k = 93 ∨ k = 101 ∨ k = 104)) → F1 c k = FI c k := fun c k hn => by rw [← hF, h_up_x (by omega), h_up_x (by omega)]
          have f90 : (F1 121 90).toInt = (S.length : Int) := by rw [← hF, h_up_x (by first | decide | (simp; done) | (simp [ms_0]; done)), h_up_eq]; exact k90
          have f101 : F1 121 101 = FI 121 101 - (1 : Int32) := by rw [← hF, h_up_eq]
          have f93 : F1 121 93 = FI 121 93 := by rw [← hF, h_up_x (by first | decide | (simp; done) | (simp [ms_0]; done)), h_up_x (by first | decide | (simp; done) | (simp [ms_0]; done))]
          have h101 : (F1 121 101).toInt = (R.length : Int) + 1 := by rw [f101]; exact k101
          have f174 : F1 174 S.length = FI 174 S.length := f1 174 _ (by omega)
          -- the end of a turn
          have go : ∀ (L1 : Nat → Nat → Int64) (q2 : mq_Q), mq_el wl so (y :: x :: R, m) = some q2 → mh (h_up F1 121 104 (F1 174 S.length)) L1 T t S q2 → RX12_meansReducedAll_66 (GX12_meansReducedAll_5 g) n sl SH F1 L1 FR u st → mq_all ((-3, e2, wl, so) :: S) (y :: x :: R, m) = none ∨ ∃ S2 q2 F2 L2, mq_all ((-3, e2, wl, so) :: S) (y :: x :: R, m) = some (S2, q2) ∧ st = (n, sl, SH, F2, L2, FR) ∧ mh F2 L2 T t S2 q2 := by
            intro L1 q2 hu hh1 h1
            obtain ⟨-, v1, n1, sl1, SH1, FI1, FL1, FR1, hr, h1⟩ := h1
            rw [show (F1 121 90).toInt.toNat = S.length by omega] at hr
            have ea : mq_all ((-3, e2, wl, so) :: S) (y :: x :: R, m) = mq_all S q2 := by
              rw [mq_all, if_neg (by first | decide | (simp; done) | (simp [ms_0]; done)), if_pos rfl]
              show (match mq_el wl so (y :: x :: R, m) with
                | none => none
                | some q2 => mq_all S q2) = _
              rw [hu]
            rw [ea, mq_all_rd]
            rcases mo_red (b := 1) (by first | decide | (simp; done) | (simp [ms_0]; done)) (by first | decide | (simp; done) | (simp [ms_0]; done)) hh1 hr with hn | ⟨S3, q3, F3, L3, r1, r2, r3⟩
            · rw [hn]
              exact Or.inl rfl
            · rw [r1]
              cases r2
              have ht3 := mq_rd_top S q2 (S3, q3) r1
              refine ih S3 q3 _ _ r3 ?_ h1
              rcases ht3 with ht3 | ht3
              · exact ht3
              · (try dsimp only at ht3)
                rw [ht3]
                show (-11 : Int) < 1
                decide
          match m, a6, hent, hh, go with
          | .inl ee, a6, hent, hh, go =>
            have hv : ∀ L1 : Nat → Nat → Int64, (∀ i, i < R.length → L1 173 i = FL 173 i) → mh (h_up F1 121 104 (F1 174 S.length)) L1 T t S (none :: R, .inl ee) := fun L1 hL => mh_b (x2 := none) (m2 := .inl ee) hh (fun c k hn => by rw [h_up_x (by omega)]; exact f1 c k hn) (by rw [h_up_x (by first | decide | (simp; done) | (simp [ms_0]; done))]; exact f90) (by rw [h_up_x (by first | decide | (simp; done) | (simp [ms_0]; done))]; exact h101) (fun w hw => by cases hw) hL mm_inl ⟨by rw [h_up_x (by first | decide | (simp; done) | (simp [ms_0]; done)), f93]; exact a6.1, a6.2⟩
            rcases h with ⟨-, -, -, h⟩ | ⟨-, h⟩
            · exact go _ _ rfl (hv _ (fun i hi => h_up_ne (by omega))) h
            · exact go _ _ rfl (hv _ (fun i hi => rfl)) h
          | .inr b, a6, hent, hh, go =>
            obtain ⟨w1, w2⟩ := hent b rfl
            have hmm : mm (h_up F1 121 104 (F1 174 S.length)) (.inr wl) := ⟨by rw [h_up_x (by first | decide | (simp; done) | (simp [ms_0]; done)), f93]; exact a6.1, by rw [h_up_eq, f174]; exact w1⟩
            have hv : ∀ (L1 : Nat → Nat → Int64), (∀ v, (if wl = true then (if so = true then x else y) else none) = some v → L1 173 R.length = v) → (∀ i, i < R.length → L1 173 i = FL 173 i) → mh (h_up F1 121 104 (F1 174 S.length)) L1 T t S ((if wl = true then (if so = true then x else y) else none) :: R, .inr wl) := fun L1 hx hL => mh_b (m2 := .inr wl) hh (fun c k hn => by rw [h_up_x (by omega)]; exact f1 c k hn) (by rw [h_up_x (by first | decide | (simp; done) | (simp [ms_0]; done))]; exact f90) (by rw [h_up_x (by first | decide | (simp; done) | (simp [ms_0]; done))]; exact h101) hx hL (fun b2 _ => ⟨b, rfl⟩) hmm
            rcases h with ⟨q0, -, -, h⟩ | ⟨q0, h⟩
            · refine go _ _ rfl (hv _ (fun v hv => ?_) (fun i hi => h_up_ne (by omega))) h
              rw [h_up_eq]
              cases wl with
              | false => rw [if_neg (by first | decide | (simp; done) | (simp [ms_0]; done))] at hv; cases hv
              | true =>
                have := w2 rfl
                (try dsimp only at this)
                rw [this, bi_0] at q0
                subst q0
                rw [if_pos rfl, if_neg (by first | decide | (simp; done) | (simp [ms_0]; done))] at hv
                exact a5.1 v hv
            · refine go _ _ rfl (hv _ (fun v hv => ?_) (fun i hi => rfl)) h
              cases wl with
              | false => rw [if_neg (by first | decide | (simp; done) | (simp [ms_0]; done))] at hv; cases hv
              | true =>
                have := w2 rfl
                (try dsimp only at this)
                rw [this, bi_0] at q0
                cases so with
                | false => exact absurd rfl q0
                | true =>
                  rw [if_pos rfl, if_pos rfl] at hv
                  exact a5.2.1 v hv
    · rw [mh_top hh, c3] at ht
      exact Or.inr ⟨S, q, FI, FL, mq_all_stop hS1 ht, e, hh⟩
theorem mo_all (hh : mh FI FL T t S q) (h : RX12_meansReducedAll n sl SH FI FL FR u st) : mq_all S q = none ∨ ∃ S2 q2 F2 L2, mq_all S q = some (S2, q2) ∧ st = (n, sl, SH, F2, L2, FR) ∧ mh F2 L2 T t S2 q2 := by
  obtain ⟨v1, n1, sl1, SH1, FI1, FL1, FR1, hr, g, h⟩ := h
  rw [mq_all_rd]
  rcases mo_red (b := 1) (by first | decide | (simp; done) | (simp [ms_0]; done)) (by first | decide | (simp; done) | (simp [ms_0]; done)) hh hr with hn | ⟨S3, q3, F3, L3, r1, r2, r3⟩
  · rw [hn]
    exact Or.inl rfl
  · rw [r1]
    cases r2
    have ht3 := mq_rd_top S q (S3, q3) r1
    refine mo_5 g S3 q3 _ _ r3 ?_ h
    rcases ht3 with ht3 | ht3
    · exact ht3
    · (try dsimp only at ht3)
      rw [ht3]
      show (-11 : Int) < 1
      decide
theorem mo_finished (hS : h_S n SH) (hE : rE FI FL SH E) (hh : mh FI FL T t S q) (h : RX12_meansFinished n sl SH FI FL FR u st) : mq_fin E S q = none ∨ ∃ S2 q2 F2 L2, mq_fin E S q = some (S2, q2) ∧ st = (n, sl, SH, F2, L2, FR) ∧ mh F2 L2 T t S2 q2 := by
  obtain ⟨g, h⟩ := h
  exact mo_fin hS g S q FI FL hh hE h
/-- a sign between two -/
theorem mo_bin {a1 a2 : Int32} {c b : Int} {v : Int32} (hS : h_S n SH) (hT : T ≤ 1001) (ht : t + 1 ≤ T) (h1 : a1.toInt = c) (h2 : a2.toInt = b) (hb : 1 ≤ b) (hb7 : b ≤ 7) (hh : mh FI FL T t S q) (h : RX12_meansBinary a1 a2 n sl SH FI FL FR v st) : mq_rd b S q = none ∨ ∃ S2 q2 F2 L2, mq_rd b S q = some (S2, q2) ∧ v = 1 ∧ st = (n, sl, SH, F2, L2, FR) ∧ mh F2 L2 T (t + 1) ((b, c, false, false) :: S2) q2 := by
  obtain ⟨v1, n1, sl1, SH1, FI1, FL1, FR1, hr, h⟩ := h
  rcases mo_red h2 hb hh hr with hn | ⟨S3, q3, F3, L3, r1, r2, r3⟩
  · exact Or.inl hn
  · cases r2
    obtain ⟨v2, n2, sl2, SH2, FI2, FL2, FR2, hl, e1, e⟩ := h
    obtain ⟨F4, r4, r5⟩ := mo_later (w1 := false) (w2 := false) hS r3 (by omega) (by omega) (by omega) hl
    cases r4
    rw [h1, h2] at r5
    exact Or.inr ⟨S3, q3, _, _, r1, e1, e, mh_t r5 (mh_n r5 hT) ht⟩
end MR
