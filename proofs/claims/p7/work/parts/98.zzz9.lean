section
/-! THE REFERENCE'S MEANINGS: its cells, step by step. -/
def bi (b : Bool) : Int32 := if b = true then 1 else 0
theorem bi_0 {b : Bool} : (bi b).toInt = 0 ↔ b = false := by
  cases b with
  | false => exact ⟨fun _ => rfl, fun _ => by first | decide | (simp; done) | (simp [ms_0]; done)⟩
  | true => exact ⟨fun e => absurd e (by first | decide | (simp; done) | (simp [ms_0]; done)), fun e => by cases e⟩
theorem bi_n {b : Bool} : vp_nar .boolean (bi b) = bi b := by
  cases b with
  | false => decide
  | true => decide
def mm (FI : Nat → Nat → Int32) (m : Int ⊕ Bool) : Prop := match m with
  | .inl e => (FI 121 93).toInt = e ∧ e ≠ 0
  | .inr b => (FI 121 93).toInt = 0 ∧ FI 121 104 = bi b
def me (FI : Nat → Nat → Int32) (m : Int ⊕ Bool) (i : Nat) (e : mq_E) : Prop := (FI 166 i).toInt = e.1 ∧ (FI 165 i).toInt = e.2.1 ∧ (e.1 = 9 → e.2.1 = 31 ∨ e.2.1 = 32 ∨ e.2.1 = 155 ∨ (257 ≤ e.2.1 ∧ e.2.1 ≤ 264)) ∧ ((e.1 = -2 ∨ e.1 = -3) → ∀ b, m = .inr b → FI 174 i = bi e.2.2.1 ∧ (e.2.2.1 = true → FI 175 i = bi e.2.2.2))
def mz (FL : Nat → Nat → Int64) (i : Nat) (x : Option Int64) : Prop := ∀ v, x = some v → FL 173 i = v
def mh (FI : Nat → Nat → Int32) (FL : Nat → Nat → Int64) (T t : Nat) (S : List mq_E) (q : mq_Q) : Prop := ((FI 121 92).toInt = t ∧ t ≤ T) ∧ ((FI 121 90).toInt = S.length ∧ S.length ≤ 256) ∧ lv (fun i e => me FI q.2 i e) S ∧ ((FI 121 101).toInt = q.1.length ∧ q.1.length ≤ 512) ∧ lv (fun i x => mz FL i x) q.1 ∧ mm FI q.2
/-- the kept tokens -/
def mtk (K W : Nat → Int) (T : Nat) (FI : Nat → Nat → Int32) (FL : Nat → Nat → Int64) : Prop := ∀ i, i ≤ T → (FI 152 i).toInt = K i ∧ (FL 153 i).toInt = W i
section MH
variable {n sl : Nat} {SH : Nat → Nat × Nat} {FI F2 F3 : Nat → Nat → Int32} {FL L2 L3 : Nat → Nat → Int64} {FR : Nat → Nat → Option Nat} {st : hS} {E : ms_E} {fb : xX} {u : Unit} {K W : Nat → Int} {T t : Nat} {S : List mq_E} {q : mq_Q} {m m2 : Int ⊕ Bool} {V R : List (Option Int64)}
theorem me_fr {i : Nat} {e : mq_E} (h : me FI m i e) (e1 : F2 166 i = FI 166 i) (e2 : F2 165 i = FI 165 i) (e3 : F2 174 i = FI 174 i) (e4 : F2 175 i = FI 175 i) (hm : ∀ b, m2 = .inr b → ∃ b2, m = .inr b2) : me F2 m2 i e := by
  obtain ⟨h1, h2, h3, h4⟩ := h
  refine ⟨by rw [e1]; exact h1, by rw [e2]; exact h2, h3, fun h5 b hb => ?_⟩
  obtain ⟨b2, hb2⟩ := hm b hb
  rw [e3, e4]
  exact h4 h5 b2 hb2
theorem lv_me (h : lv (fun i e => me FI m i e) S) (e : ∀ r i, (r = 165 ∨ r = 166 ∨ r = 174 ∨ r = 175) → i < S.length → F2 r i = FI r i) (hm : ∀ b, m2 = .inr b → ∃ b2, m = .inr b2) : lv (fun i e => me F2 m2 i e) S := lv_mono (fun i _ hi _ hx => me_fr hx (e 166 i (by omega) hi) (e 165 i (by omega) hi) (e 174 i (by omega) hi) (e 175 i (by omega) hi) hm) h
theorem lv_mz (h : lv (fun i x => mz FL i x) V) (e : ∀ i, i < V.length → L2 173 i = FL 173 i) : lv (fun i x => mz L2 i x) V := lv_mono (fun i _ hi _ hx v hv => by rw [e i hi]; exact hx v hv) h
theorem mm_same (b : Bool) (h : ∃ b2, m = .inr b2) : ∃ b2, m = .inr b2 := h
theorem mm_id : ∀ b, m = .inr b → ∃ b2, m = .inr b2 := fun b h => ⟨b, h⟩
theorem mm_inl {e : Int} : ∀ b, (.inl e : Int ⊕ Bool) = .inr b → ∃ b2, m = .inr b2 := fun b h => by cases h
/-- fields aside -/
theorem mh_f {k : Nat} {x : Int32} (h : mh FI FL T t S q) (hk : k ≠ 90 ∧ k ≠ 92 ∧ k ≠ 93 ∧ k ≠ 101 ∧ k ≠ 104) : mh (h_up FI 121 k x) FL T t S q := by
  obtain ⟨h1, h2, h3, h4, h5, h6⟩ := h
  refine ⟨by rw [h_up_x (by omega)]; exact h1, by rw [h_up_x (by omega)]; exact h2, lv_me h3 (fun r i hr _ => by rw [h_up_nc (by omega)]) mm_id, by rw [h_up_x (by omega)]; exact h4, h5, ?_⟩
  unfold mm at h6 ⊢
  rw [h_up_x (by omega), h_up_x (by omega)]
  exact h6
theorem mh_t {x : Int32} {t2 : Nat} (h : mh FI FL T t S q) (hx : x.toInt = t2) (h2 : t2 ≤ T) : mh (h_up FI 121 92 x) FL T t2 S q := by
  obtain ⟨h1, h3, h4, h5, h6, h7⟩ := h
  refine ⟨⟨by rw [h_up_eq]; exact hx, h2⟩, by rw [h_up_x (by first | decide | (simp; done) | (simp [ms_0]; done))]; exact h3, lv_me h4 (fun r i hr _ => by rw [h_up_nc (by omega)]) mm_id, by rw [h_up_x (by first | decide | (simp; done) | (simp [ms_0]; done))]; exact h5, h6, ?_⟩
  unfold mm at h7 ⊢
  rw [h_up_x (by first | decide | (simp; done) | (simp [ms_0]; done)), h_up_x (by first | decide | (simp; done) | (simp [ms_0]; done))]
  exact h7
theorem mh_n (h : mh FI FL T t S q) (hT : T ≤ 1001) : (FI 121 92 + (1 : Int32)).toInt = ((t + 1 : Nat) : Int) := by
  have h1 := h.1
  rw [i_add h1.1 (by first | decide | (simp; done) | (simp [ms_0]; done) : ((1 : Int32)).toInt = 1) (by omega) (by omega)]
  omega
theorem mh_top (h : mh FI FL T t S q) : (fX12_tops SH FI FL FR).toInt = mq_top S := by
  obtain ⟨-, h2, h3, -⟩ := h
  unfold fX12_tops
  cases S with
  | nil =>
    rw [if_pos (show (FI 121 90).toInt = 0 from h2.1)]
    show ((-11 : Int32)).toInt = -11
    decide
  | cons e S =>
    have h4 := h2.1
    simp only [List.length_cons] at h4
    have h5 := h2.2
    simp only [List.length_cons] at h5
    have k : (FI 121 90 - (1 : Int32)).toInt = (S.length : Int) := by
      rw [i_sub h4 (by first | decide | (simp; done) | (simp [ms_0]; done) : ((1 : Int32)).toInt = 1) (by omega) (by omega)]
      omega
    rw [if_neg (by omega), show (FI 121 90 - (1 : Int32)).toInt.toNat = S.length by omega]
    exact h3.1.1
theorem mh_does (h : mm FI q.2) : (fX12_does SH FI FL FR).toInt = 0 ↔ q.2 ≠ .inr true := by
  unfold fX12_does
  obtain ⟨V, m⟩ := q
  match m, h with
  | .inl e, h =>
    have h : (FI 121 93).toInt = e ∧ e ≠ 0 := h
    refine ⟨fun _ e => (by cases e), fun _ => ?_⟩
    split
    · decide
    · rw [if_neg (by rw [h.1]; exact h.2)]
      decide
  | .inr false, h =>
    have h : (FI 121 93).toInt = 0 ∧ FI 121 104 = bi false := h
    refine ⟨fun _ e => (by cases e), fun _ => ?_⟩
    rw [if_pos (by rw [h.2]; (first | decide | (simp; done) | (simp [ms_0]; done)))]
    decide
  | .inr true, h =>
    have h : (FI 121 93).toInt = 0 ∧ FI 121 104 = bi true := h
    rw [if_neg (by rw [h.2]; (first | decide | (simp; done) | (simp [ms_0]; done))), if_pos h.1]
    exact ⟨fun e => absurd e (by first | decide | (simp; done) | (simp [ms_0]; done)), fun e => absurd rfl e⟩
/-- an operator comes to those that wait -/
theorem mo_later {c b : Int32} {w1 w2 : Bool} (hS : h_S n SH) (hh : mh FI FL T t S q) (h2 : b.toInt ≠ -2) (h3 : b.toInt ≠ -3) (h9 : b.toInt = 9 → c.toInt = 31 ∨ c.toInt = 32 ∨ c.toInt = 155 ∨ (257 ≤ c.toInt ∧ c.toInt ≤ 264)) (h : RX12_later c b n sl SH FI FL FR u st) : ∃ F2, st = (n, sl, SH, F2, FL, FR) ∧ mh F2 FL T t ((b.toInt, c.toInt, w1, w2) :: S) q := by
  obtain ⟨p1, p2, -, e⟩ := h
  obtain ⟨a1, a2, a3, a4, a5, a6⟩ := hh
  have hz : (SH 165).2 = 256 := by rw [s165 hS]
  unfold p_in at p1
  rw [hz] at p1
  rw [show (FI 121 90).toInt.toNat = S.length by omega] at e
  refine ⟨_, e, ⟨by rw [h_up_x (by first | decide | (simp; done) | (simp [ms_0]; done)), h_up_x (by first | decide | (simp; done) | (simp [ms_0]; done)), h_up_x (by first | decide | (simp; done) | (simp [ms_0]; done))]; exact a1.1, a1.2⟩, ⟨?_, by simp only [List.length_cons]; omega⟩, ⟨⟨?_, ?_, h9, fun e9 => ?_⟩, lv_me a3 (fun r i hr hi => ?_) mm_id⟩, by rw [h_up_x (by first | decide | (simp; done) | (simp [ms_0]; done)), h_up_x (by first | decide | (simp; done) | (simp [ms_0]; done)), h_up_x (by first | decide | (simp; done) | (simp [ms_0]; done))]; exact a4, a5, ?_⟩
  · rw [h_up_eq, i_add a2.1 (by first | decide | (simp; done) | (simp [ms_0]; done) : ((1 : Int32)).toInt = 1) (by omega) (by omega)]
    simp only [List.length_cons]
    omega
  · rw [h_up_nc (by first | decide | (simp; done) | (simp [ms_0]; done)), h_up_eq]
  · rw [h_up_nc (by first | decide | (simp; done) | (simp [ms_0]; done)), h_up_nc (by first | decide | (simp; done) | (simp [ms_0]; done)), h_up_eq]
  · exfalso
    have e9 : b.toInt = -2 ∨ b.toInt = -3 := e9
    omega
  · rw [h_up_nc (by omega), h_up_x (by omega), h_up_x (by omega)]
  · unfold mm at a6 ⊢
    rw [h_up_x (by first | decide | (simp; done) | (simp [ms_0]; done)), h_up_x (by first | decide | (simp; done) | (simp [ms_0]; done)), h_up_x (by first | decide | (simp; done) | (simp [ms_0]; done)), h_up_x (by first | decide | (simp; done) | (simp [ms_0]; done)), h_up_x (by first | decide | (simp; done) | (simp [ms_0]; done)), h_up_x (by first | decide | (simp; done) | (simp [ms_0]; done))]
    exact a6
/-- a value comes behind the others -/
theorem mo_value {x : xX} {y : Int64} {F1 : Nat → Nat → Int32} (hS : h_S n SH) (hh : mh FI FL T t S q) (e1 : ∀ c k, ¬ (c = 121 ∧ k = 93) → F1 c k = FI c k) (hx : match q.2 with
    | .inr true => (match x with
      | .inl e => (F1 121 93).toInt = e ∧ e ≠ 0
      | .inr v => y = v ∧ F1 121 93 = FI 121 93)
    | .inr false => F1 121 93 = FI 121 93
    | .inl _ => F1 121 93 = FI 121 93) (h : RX12_value y n sl SH F1 FL FR u st) : ∃ F2 L2, st = (n, sl, SH, F2, L2, FR) ∧ mh F2 L2 T t S (mq_ps x q) := by
  obtain ⟨p1, -, e⟩ := h
  obtain ⟨a1, a2, a3, a4, a5, a6⟩ := hh
  obtain ⟨V, m⟩ := q
  (try dsimp only at a3 a4 a5 a6 hx)
  have hz : (SH 173).2 = 512 := by rw [s173 hS]
  have e101 : F1 121 101 = FI 121 101 := e1 121 101 (by first | decide | (simp; done) | (simp [ms_0]; done))
  unfold p_in at p1
  rw [hz, e101] at p1
  rw [e101, show (FI 121 101).toInt.toNat = V.length by omega] at e
  have fin : ∀ (x2 : Option Int64) (m2 : Int ⊕ Bool), (∀ v, x2 = some v → y = v) → (∀ b, m2 = .inr b → ∃ b2, m = .inr b2) → mm (h_up F1 121 101 (FI 121 101 + (1 : Int32))) m2 → ∃ F2 L2, st = (n, sl, SH, F2, L2, FR) ∧ mh F2 L2 T t S (x2 :: V, m2) := by
    intro x2 m2 hx2 hm2 hmm
    refine ⟨_, _, e, ⟨by rw [h_up_x (by first | decide | (simp; done) | (simp [ms_0]; done)), e1 121 92 (by first | decide | (simp; done) | (simp [ms_0]; done))]; exact a1.1, a1.2⟩, ⟨by rw [h_up_x (by first | decide | (simp; done) | (simp [ms_0]; done)), e1 121 90 (by first | decide | (simp; done) | (simp [ms_0]; done))]; exact a2.1, a2.2⟩, lv_me a3 (fun r i hr hi => by rw [h_up_nc (by omega), e1 r i (by omega)]) hm2, ⟨?_, by simp only [List.length_cons]; omega⟩, ⟨fun v hv => ?_, lv_mz a5 (fun i hi => h_up_ne (by omega))⟩, hmm⟩
    · rw [h_up_eq, i_add a4.1 (by first | decide | (simp; done) | (simp [ms_0]; done) : ((1 : Int32)).toInt = 1) (by omega) (by omega)]
      simp only [List.length_cons]
      omega
    · rw [h_up_eq]
      exact hx2 v hv
  have e104 : (h_up F1 121 101 (FI 121 101 + (1 : Int32))) 121 104 = FI 121 104 := by rw [h_up_x (by first | decide | (simp; done) | (simp [ms_0]; done)), e1 121 104 (by first | decide | (simp; done) | (simp [ms_0]; done))]
  have e93 : (h_up F1 121 101 (FI 121 101 + (1 : Int32))) 121 93 = F1 121 93 := h_up_x (by first | decide | (simp; done) | (simp [ms_0]; done))
  match m, x, a6, hx, fin with
  | .inr true, .inl e, a6, hx, fin => exact fin none (.inl e) (fun v hv => by cases hv) mm_inl ⟨by rw [e93]; exact hx.1, hx.2⟩
  | .inr true, .inr v, a6, hx, fin => exact fin (some v) (.inr true) (fun w hw => by rw [← Option.some.inj hw]; exact hx.1) (fun b _ => ⟨true, rfl⟩) ⟨by rw [e93, hx.2]; exact a6.1, by rw [e104]; exact a6.2⟩
  | .inr false, x, a6, hx, fin => exact fin none (.inr false) (fun v hv => by cases hv) (fun b _ => ⟨false, rfl⟩) ⟨by rw [e93, hx]; exact a6.1, by rw [e104]; exact a6.2⟩
  | .inl e, x, a6, hx, fin => exact fin none (.inl e) (fun v hv => by cases hv) mm_inl ⟨by rw [e93, hx]; exact a6.1, a6.2⟩
/-- one that waited goes, the value at the end changes -/
theorem mh_u {e : mq_E} {x x2 : Option Int64} {F1 : Nat → Nat → Int32} {L1 : Nat → Nat → Int64} (hh : mh FI FL T t (e :: S) (x :: R, m)) (e1 : ∀ c k, ¬ (c = 121 ∧ (k = 90 ∨ k = 93)) → F1 c k = FI c k) (e90 : (F1 121 90).toInt = S.length) (hx : ∀ v, x2 = some v → L1 173 R.length = v) (hL : ∀ i, i ≠ R.length → L1 173 i = FL 173 i) (hm : ∀ b, m2 = .inr b → ∃ b2, m = .inr b2) (hmm : mm F1 m2) : mh F1 L1 T t S (x2 :: R, m2) := by
  obtain ⟨a1, a2, a3, a4, a5, a6⟩ := hh
  have h5 := a2.2
  simp only [List.length_cons] at h5
  exact ⟨⟨by rw [e1 121 92 (by first | decide | (simp; done) | (simp [ms_0]; done))]; exact a1.1, a1.2⟩, ⟨e90, by omega⟩, lv_me a3.2 (fun r i hr _ => e1 r i (by omega)) hm, ⟨by rw [e1 121 101 (by first | decide | (simp; done) | (simp [ms_0]; done))]; exact a4.1, a4.2⟩, ⟨hx, lv_mz a5.2 (fun i hi => hL i (by omega))⟩, hmm⟩
theorem mo_fin (hS : h_S n SH) : ∀ (g : Nat) (S : List mq_E) (q : mq_Q) (FI : Nat → Nat → Int32) (FL : Nat → Nat → Int64), mh FI FL T t S q → rE FI FL SH E → GX12_meansFinished_0 g n sl SH FI FL FR u st → mq_fin E S q = none ∨ ∃ S2 q2 F2 L2, mq_fin E S q = some (S2, q2) ∧ st = (n, sl, SH, F2, L2, FR) ∧ mh F2 L2 T t S2 q2 := by
  have c9 : ((9 : Int32)).toInt = 9 := by first | decide | (simp; done) | (simp [ms_0]; done)
  have c31 : ((31 : Int32)).toInt = 31 := by first | decide | (simp; done) | (simp [ms_0]; done)
  have c32 : ((32 : Int32)).toInt = 32 := by first | decide | (simp; done) | (simp [ms_0]; done)
  have c155 : ((155 : Int32)).toInt = 155 := by first | decide | (simp; done) | (simp [ms_0]; done)
  intro g
  induction g with
  | zero => intro S q FI FL _ _ h; exact h.elim
  | succ g ih =>
    intro S q FI FL hh hE h
    rcases h with ⟨ht, h⟩ | ⟨ht, -, e⟩
    · rw [mh_top hh, c9] at ht
      cases S with
      | nil => exact absurd ht (by first | decide | (simp; done) | (simp [ms_0]; done))
      | cons e S =>
        have ht : e.1 = 9 := ht
        obtain ⟨V, m⟩ := q
        obtain ⟨a1, a2, a3, a4, a5, a6⟩ := id hh
        (try dsimp only at a3 a4 a5 a6)
        have a2' := a2.1
        simp only [List.length_cons] at a2'
        have hS2 := a2.2
        simp only [List.length_cons] at hS2
        have k90 : (FI 121 90 - (1 : Int32)).toInt = (S.length : Int) := by
          rw [i_sub a2' (by first | decide | (simp; done) | (simp [ms_0]; done) : ((1 : Int32)).toInt = 1) (by omega) (by omega)]
          omega
        obtain ⟨-, p1, h⟩ := h
        cases V with
        | nil =>
          exfalso
          unfold p_in at p1
          rw [i_sub a4.1 (by first | decide | (simp; done) | (simp [ms_0]; done) : ((1 : Int32)).toInt = 1) (by simp) (by simp)] at p1
          have := p1.1
          simp at this
        | cons x R =>
          have a4' := a4.1
          simp only [List.length_cons] at a4'
          have hV2 := a4.2
          simp only [List.length_cons] at hV2
          have k101 : (FI 121 101 - (1 : Int32)).toInt = (R.length : Int) := by
            rw [i_sub a4' (by first | decide | (simp; done) | (simp [ms_0]; done) : ((1 : Int32)).toInt = 1) (by omega) (by omega)]
            omega
          rw [show (FI 121 90 - (1 : Int32)).toInt.toNat = S.length by omega, show (FI 121 101 - (1 : Int32)).toInt.toNat = R.length by omega] at h
          have hcode := a3.1.2.1
          rw [hcode, c31, c32, c155] at h
          have hcd := a3.1.2.2.1 ht
          have hmx := a5.1
          have e90 : ∀ x : Int32, x.toInt = (S.length : Int) → (h_up FI 121 90 x 121 90).toInt = (S.length : Int) := fun x hx => by rw [h_up_eq]; exact hx
          -- the end of a turn
          have go : ∀ (F1 : Nat → Nat → Int32) (L1 : Nat → Nat → Int64) (q2 : mq_Q), mq_u E e.2.1 (x :: R, m) = some q2 → mh F1 L1 T t S q2 → rE F1 L1 SH E → GX12_meansFinished_0 g n sl SH F1 L1 FR u st → mq_fin E (e :: S) (x :: R, m) = none ∨ ∃ S2 q2 F2 L2, mq_fin E (e :: S) (x :: R, m) = some (S2, q2) ∧ st = (n, sl, SH, F2, L2, FR) ∧ mh F2 L2 T t S2 q2 := by
            intro F1 L1 q2 hu hh1 hE1 h1
            rw [mq_fin, if_pos ht, hu]
            exact ih S q2 F1 L1 hh1 hE1 h1
          have g1 : ∀ c k, ¬ (c = 121 ∧ (k = 90 ∨ k = 93)) → (h_up FI 121 90 (FI 121 90 - (1 : Int32))) c k = FI c k := fun c k hn => h_up_x (by omega)
          have g2 : ∀ w c k, ¬ (c = 121 ∧ (k = 90 ∨ k = 93)) → (h_up (h_up FI 121 90 (FI 121 90 - (1 : Int32))) 121 93 w) c k = FI c k := fun w c k hn => by rw [h_up_x (by omega), h_up_x (by omega)]
          have m1 : mm (h_up FI 121 90 (FI 121 90 - (1 : Int32))) m := by
            unfold mm at a6 ⊢
            rw [h_up_x (by first | decide | (simp; done) | (simp [ms_0]; done)), h_up_x (by first | decide | (simp; done) | (simp [ms_0]; done))]
            exact a6
          have E1 : ∀ y, rE (h_up FI 121 90 (FI 121 90 - (1 : Int32))) (h_up FL 173 R.length y) SH E := fun y => rE_mk hE (mk_l (mk_f mk_rf (Or.inl rfl)))
          have E0 : rE (h_up FI 121 90 (FI 121 90 - (1 : Int32))) FL SH E := rE_mk hE (mk_f mk_rf (Or.inl rfl))
          have E2 : ∀ w y, rE (h_up (h_up FI 121 90 (FI 121 90 - (1 : Int32))) 121 93 w) (h_up FL 173 R.length y) SH E := fun w y => rE_mk hE (mk_l (mk_f (mk_f mk_rf (Or.inl rfl)) (by omega)))
          by_cases hd : m = .inr true
          · subst hd
            cases x with
            | none =>
              left
              rw [mq_fin, if_pos ht]
              rfl
            | some v =>
              have ev : FL 173 R.length = v := hmx v rfl
              rw [ev] at h
              have hu : mq_u E e.2.1 (some v :: R, .inr true) = some (mq_ps (mq_1 E e.2.1 (.inr v)) (R, .inr true)) := rfl
              have dz : ∀ F1 : Nat → Nat → Int32, F1 121 104 = FI 121 104 → F1 121 93 = FI 121 93 → ¬ (fX12_does SH F1 FL FR).toInt = 0 := fun F1 q1 q2 q3 => ((mh_does (q := (R, .inr true)) (show mm F1 (.inr true) from ⟨by rw [q2]; exact a6.1, by rw [q1]; exact a6.2⟩)).mp q3) rfl
              have dn := dz (h_up FI 121 90 (FI 121 90 - (1 : Int32))) (h_up_x (by first | decide | (simp; done) | (simp [ms_0]; done))) (h_up_x (by first | decide | (simp; done) | (simp [ms_0]; done)))
              have plain : ∀ y : Int64, mq_1 E e.2.1 (.inr v) = .inr y → mh (h_up FI 121 90 (FI 121 90 - (1 : Int32))) (h_up FL 173 R.length y) T t S (mq_ps (mq_1 E e.2.1 (.inr v)) (R, .inr true)) := by
                intro y hy
                rw [hy]
                exact mh_u (x2 := some y) (m2 := .inr true) hh g1 (e90 _ k90) (fun w hw => by rw [h_up_eq]; exact Option.some.inj hw) (fun i hi => h_up_ne hi) mm_id m1
              have fault : ∀ (y : Int64) (w : Int32) (f : Int), w.toInt = f → f ≠ 0 → mq_1 E e.2.1 (.inr v) = .inl f → mh (h_up (h_up FI 121 90 (FI 121 90 - (1 : Int32))) 121 93 w) (h_up FL 173 R.length y) T t S (mq_ps (mq_1 E e.2.1 (.inr v)) (R, .inr true)) := by
                intro y w f hw hf hy
                rw [hy]
                exact mh_u (x2 := none) (m2 := .inl f) hh (g2 w) (by rw [h_up_x (by first | decide | (simp; done) | (simp [ms_0]; done))]; exact e90 _ k90) (fun w hw => by cases hw) (fun i hi => h_up_ne hi) mm_inl ⟨by rw [h_up_eq]; exact hw, hf⟩
              rcases h with ⟨q1, -, h⟩ | ⟨q1, h⟩
              · exact go _ _ _ hu (plain _ (by unfold mq_1; rw [if_pos (by omega), q1]; rfl)) (E1 _) h
              rcases h with ⟨q2, -, h⟩ | ⟨q2, h⟩
              · exact go _ _ _ hu (plain _ (by unfold mq_1; rw [if_pos (by omega), q2]; rfl)) (E1 _) h
              rcases h with ⟨q3, h⟩ | ⟨q3, h⟩
              · have h := P_n h dn
                rcases hE.2.2.2.2.2.2.2 with ⟨t1, t2⟩ | ⟨t1, t2⟩
                · obtain ⟨-, h⟩ := P_p h t1
                  have e101 : (h_up (h_up FI 121 90 (FI 121 90 - (1 : Int32))) 121 93 (11 : Int32)) 121 101 = FI 121 101 := by rw [h_up_x (by first | decide | (simp; done) | (simp [ms_0]; done)), h_up_x (by first | decide | (simp; done) | (simp [ms_0]; done))]
                  rw [e101, show (FI 121 101 - (1 : Int32)).toInt.toNat = R.length by omega] at h
                  refine go _ _ _ hu (fault _ _ 11 (by first | decide | (simp; done) | (simp [ms_0]; done)) (by first | decide | (simp; done) | (simp [ms_0]; done)) ?_) (E2 _ _) h
                  unfold mq_1
                  rw [if_pos (by omega), q3]
                  unfold xe1
                  dsimp only
                  rw [if_neg (show ¬ (155 : Int) = 6 by decide), if_neg (show ¬ (155 : Int) = 148 by decide), if_pos rfl, t2]
                · obtain ⟨-, h⟩ := P_n h t1
                  have e101 : (h_up FI 121 90 (FI 121 90 - (1 : Int32))) 121 101 = FI 121 101 := h_up_x (by first | decide | (simp; done) | (simp [ms_0]; done))
                  rw [e101, show (FI 121 101 - (1 : Int32)).toInt.toNat = R.length by omega] at h
                  refine go _ _ _ hu (plain _ ?_) (E1 _) h
                  unfold mq_1
                  rw [if_pos (by omega), q3]
                  unfold xe1
                  dsimp only
                  rw [if_neg (show ¬ (155 : Int) = 6 by decide), if_neg (show ¬ (155 : Int) = 148 by decide), if_pos rfl, t2]
              · have h := P_n h dn
                have hw : 257 ≤ e.2.1 ∧ e.2.1 ≤ 264 := by omega
                have kc : (FI 165 S.length - (256 : Int32)).toInt = e.2.1 - 256 := by
                  rw [i_sub hcode (by first | decide | (simp; done) | (simp [ms_0]; done) : ((256 : Int32)).toInt = 256) (by omega) (by omega)]
                have kl : ((FI 165 S.length - (256 : Int32)).toInt64).toInt = e.2.1 - 256 := i_2l kc
                have e1 : mq_1 E e.2.1 (.inr v) = if v.toInt < 0 ∨ 4096 - (e.2.1 - 256) < v.toInt then .inl 5 else .inr (ms_rd E v.toInt.toNat (e.2.1 - 256).toNat) := by
                  unfold mq_1
                  rw [if_neg (by omega)]
                  rfl
                have is : (fX12_isThere v ((FI 165 S.length - (256 : Int32)).toInt64) SH (h_up FI 121 90 (FI 121 90 - (1 : Int32))) FL FR).toInt = 0 ↔ (v.toInt < 0 ∨ 4096 - (e.2.1 - 256) < v.toInt) := by
                  have k1 : ((4096 : Int64) - (FI 165 S.length - (256 : Int32)).toInt64).toInt = 4096 - (e.2.1 - 256) := l_sub (by first | decide | (simp; done) | (simp [ms_0]; done) : ((4096 : Int64)).toInt = 4096) kl (by omega) (by omega)
                  unfold fX12_isThere
                  rw [k1, show ((0 : Int64)).toInt = 0 by first | decide | (simp; done) | (simp [ms_0]; done)]
                  by_cases v0 : v.toInt < 0
                  · rw [if_pos v0]
                    exact ⟨fun _ => Or.inl v0, fun _ => by first | decide | (simp; done) | (simp [ms_0]; done)⟩
                  · rw [if_neg v0]
                    by_cases v1 : 4096 - (e.2.1 - 256) < v.toInt
                    · rw [if_pos v1]
                      exact ⟨fun _ => Or.inr v1, fun _ => by first | decide | (simp; done) | (simp [ms_0]; done)⟩
                    · rw [if_neg v1]
                      exact ⟨fun e => absurd e (by first | decide | (simp; done) | (simp [ms_0]; done)), fun e => by omega⟩
                rcases h with ⟨q4, h⟩ | ⟨q4, h⟩
                · obtain ⟨-, h⟩ := P_p h q4
                  have e101 : (h_up (h_up FI 121 90 (FI 121 90 - (1 : Int32))) 121 93 (5 : Int32)) 121 101 = FI 121 101 := by rw [h_up_x (by first | decide | (simp; done) | (simp [ms_0]; done)), h_up_x (by first | decide | (simp; done) | (simp [ms_0]; done))]
                  rw [e101, show (FI 121 101 - (1 : Int32)).toInt.toNat = R.length by omega] at h
                  exact go _ _ _ hu (fault _ _ 5 (by first | decide | (simp; done) | (simp [ms_0]; done)) (by first | decide | (simp; done) | (simp [ms_0]; done)) (by rw [e1, if_pos (is.mp q4)])) (E2 _ _) h
                · have q5 : ¬ (v.toInt < 0 ∨ 4096 - (e.2.1 - 256) < v.toInt) := fun e => q4 (is.mpr e)
                  have h := P_n h q4
                  obtain ⟨v5, n5, sl5, SH5, FI5, FL5, FR5, hr, -, h⟩ := h
                  obtain ⟨ev5, e5⟩ := ra_read (k := (e.2.1 - 256).toNat) E0 (by rw [kc]; omega) (by omega) (by omega) (by omega) hr
                  cases e5
                  rw [ev5] at h
                  have e101 : (h_up FI 121 90 (FI 121 90 - (1 : Int32))) 121 101 = FI 121 101 := h_up_x (by first | decide | (simp; done) | (simp [ms_0]; done))
                  rw [e101, show (FI 121 101 - (1 : Int32)).toInt.toNat = R.length by omega] at h
                  exact go _ _ _ hu (plain _ (by rw [e1, if_neg q5])) (E1 _) h
          · have hu : mq_u E e.2.1 (x :: R, m) = some (none :: R, m) := by
              match m, hd with
              | .inr true, hd => exact absurd rfl hd
              | .inr false, _ => rfl
              | .inl e, _ => rfl
            have dy : (fX12_does SH (h_up FI 121 90 (FI 121 90 - (1 : Int32))) FL FR).toInt = 0 := (mh_does (q := (R, m)) m1).mpr hd
            have hv : ∀ y, mh (h_up FI 121 90 (FI 121 90 - (1 : Int32))) (h_up FL 173 R.length y) T t S (none :: R, m) := fun y => mh_u (x2 := none) (m2 := m) hh g1 (e90 _ k90) (fun w hw => by cases hw) (fun i hi => h_up_ne hi) mm_id m1
            rcases h with ⟨q1, -, h⟩ | ⟨q1, h⟩
            · exact go _ _ _ hu (hv _) (E1 _) h
            rcases h with ⟨q2, -, h⟩ | ⟨q2, h⟩
            · exact go _ _ _ hu (hv _) (E1 _) h
            rcases h with ⟨q3, h⟩ | ⟨q3, h⟩
            · obtain ⟨-, h⟩ := P_p h dy
              have e101 : (h_up FI 121 90 (FI 121 90 - (1 : Int32))) 121 101 = FI 121 101 := h_up_x (by first | decide | (simp; done) | (simp [ms_0]; done))
              rw [e101, show (FI 121 101 - (1 : Int32)).toInt.toNat = R.length by omega] at h
              exact go _ _ _ hu (hv _) (E1 _) h
            · have h := P_p h dy
              refine go _ _ _ hu (mh_u (x2 := none) (m2 := m) hh g1 (e90 _ k90) (fun w hw => by cases hw) (fun i hi => rfl) mm_id m1) E0 h
    · rw [mh_top hh, c9] at ht
      exact Or.inr ⟨S, q, FI, FL, mq_fin_stop ht, e, hh⟩
end MH
end
section
/-! THE REFERENCE'S MEANINGS: its operators. -/
section MR
variable {n sl : Nat} {SH : Nat → Nat × Nat} {FI F2 F3 : Nat → Nat → Int32} {FL L2 L3 : Nat → Nat → Int64} {FR : Nat → Nat → Option Nat} {st : hS} {E : ms_E} {fb : xX} {u : Unit} {K W : Nat → Int} {T t : Nat} {S : List mq_E} {q : mq_Q} {m m2 : Int ⊕ Bool} {V R : List (Option Int64)}
/-- one that waited goes, two values become one -/
theorem mh_b {e : mq_E} {x y x2 : Option Int64} {F1 : Nat → Nat → Int32} {L1 : Nat → Nat → Int64} (hh : mh FI FL T t (e :: S) (y :: x :: R, m)) (e1 : ∀ c k, ¬ (c = 121 ∧ (k = 90 ∨ k = 93 ∨ k = 101 ∨ k = 104)) → F1 c k = FI c k) (e90 : (F1 121 90).toInt = S.length) (e101 : (F1 121 101).toInt = (R.length : Int) + 1) (hx : ∀ v, x2 = some v → L1 173 R.length = v) (hL : ∀ i, i < R.length → L1 173 i = FL 173 i) (hm : ∀ b, m2 = .inr b → ∃ b2, m = .inr b2) (hmm : mm F1 m2) : mh F1 L1 T t S (x2 :: R, m2) := by
  obtain ⟨a1, a2, a3, a4, a5, a6⟩ := hh
  have h5 := a2.2
  simp only [List.length_cons] at h5
  have h6 := a4.2
  simp only [List.length_cons] at h6
  exact ⟨⟨by rw [e1 121 92 (by first | decide | (simp; done) | (simp [ms_0]; done))]; exact a1.1, a1.2⟩, ⟨e90, by omega⟩, lv_me a3.2 (fun r i hr _ => e1 r i (by omega)) hm, ⟨by rw [e101]; simp only [List.length_cons]; omega, by simp only [List.length_cons]; omega⟩, ⟨hx, lv_mz a5.2.2 hL⟩, hmm⟩
theorem mo_rd {a1 : Int32} {b : Int} (hb : a1.toInt = b) (hb1 : 1 ≤ b) : ∀ (g : Nat) (S : List mq_E) (q : mq_Q) (FI : Nat → Nat → Int32) (FL : Nat → Nat → Int64), mh FI FL T t S q → GX12_meansReduced_0 a1 g n sl SH FI FL FR u st → mq_rd b S q = none ∨ ∃ S2 q2 F2 L2, mq_rd b S q = some (S2, q2) ∧ st = (n, sl, SH, F2, L2, FR) ∧ mh F2 L2 T t S2 q2 := by
  have c27 : ((27 : Int32)).toInt = 27 := by first | decide | (simp; done) | (simp [ms_0]; done)
  have c29 : ((29 : Int32)).toInt = 29 := by first | decide | (simp; done) | (simp [ms_0]; done)
  have z0 : ((0 : Int64)).toInt = 0 := by first | decide | (simp; done) | (simp [ms_0]; done)
  intro g
  induction g with
  | zero => intro S q FI FL _ h; exact h.elim
  | succ g ih =>
    intro S q FI FL hh h
    rcases h with ⟨ht, -, e⟩ | ⟨ht, h⟩
    · rw [mh_top hh, hb] at ht
      exact Or.inr ⟨S, q, FI, FL, mq_rd_stop ht, e, hh⟩
    · rw [mh_top hh, hb] at ht
      cases S with
      | nil => exact absurd (show ¬ (-11 : Int) < b from ht) (by omega)
      | cons e S =>
        have ht : ¬ e.1 < b := ht
        obtain ⟨V, m⟩ := q
        obtain ⟨a1', a2, a3, a4, a5, a6⟩ := id hh
        (try dsimp only at a3 a4 a5 a6)
        have a2' := a2.1
        simp only [List.length_cons] at a2'
        have hS2 := a2.2
        simp only [List.length_cons] at hS2
        have k90 : (FI 121 90 - (1 : Int32)).toInt = (S.length : Int) := by
          rw [i_sub a2' (by first | decide | (simp; done) | (simp [ms_0]; done) : ((1 : Int32)).toInt = 1) (by omega) (by omega)]
          omega
        obtain ⟨-, p1, p2, h⟩ := h
        match V, a4, a5, hh, p1, p2, h with
        | [], a4, a5, hh, p1, p2, h =>
          exfalso
          unfold p_in at p1
          rw [i_sub a4.1 (by first | decide | (simp; done) | (simp [ms_0]; done) : ((1 : Int32)).toInt = 1) (by simp) (by simp)] at p1
          have := p1.1
          simp at this
        | [x], a4, a5, hh, p1, p2, h =>
          exfalso
          unfold p_in at p2
          rw [i_sub (i_sub a4.1 (by first | decide | (simp; done) | (simp [ms_0]; done) : ((1 : Int32)).toInt = 1) (by simp) (by simp)) (by first | decide | (simp; done) | (simp [ms_0]; done) : ((1 : Int32)).toInt = 1) (by simp) (by simp)] at p2
          have := p2.1
          simp at this
        | y :: x :: R, a4, a5, hh, p1, p2, h =>
          have a4' := a4.1
          simp only [List.length_cons] at a4'
          have hV2 := a4.2
          simp only [List.length_cons] at hV2
          have k101 : (FI 121 101 - (1 : Int32)).toInt = (R.length : Int) + 1 := by
            rw [i_sub a4' (by first | decide | (simp; done) | (simp [ms_0]; done) : ((1 : Int32)).toInt = 1) (by omega) (by omega)]
            omega
          have k102 : ((FI 121 101 - (1 : Int32)) - (1 : Int32)).toInt = (R.length : Int) := by
            rw [i_sub k101 (by first | decide | (simp; done) | (simp [ms_0]; done) : ((1 : Int32)).toInt = 1) (by omega) (by omega)]
            omega
          have n90 : (FI 121 90 - (1 : Int32)).toInt.toNat = S.length := by omega
          have n101 : (FI 121 101 - (1 : Int32)).toInt.toNat = R.length + 1 := by omega
          have n102 : ((FI 121 101 - (1 : Int32)) - (1 : Int32)).toInt.toNat = R.length := by omega
          rw [n90, n101, n102] at h
          have hcode := a3.1.2.1
          have hcy := a5.1
          have hcx := a5.2.1
          generalize hF : (h_up (h_up FI 121 90 (FI 121 90 - (1 : Int32))) 121 101 (FI 121 101 - (1 : Int32))) = F1 at h
          have f1 : ∀ c k, ¬ (c = 121 ∧ (k = 90 ∨ k = 93 ∨ k = 101 ∨ k = 104)) → F1 c k = FI c k := fun c k hn => by rw [← hF, h_up_x (by omega), h_up_x (by omega)]
          have f90 : (F1 121 90).toInt = (S.length : Int) := by rw [← hF, h_up_x (by first | decide | (simp; done) | (simp [ms_0]; done)), h_up_eq]; exact k90
          have f101 : F1 121 101 = FI 121 101 - (1 : Int32) := by rw [← hF, h_up_eq]
          have f93 : F1 121 93 = FI 121 93 := by rw [← hF, h_up_x (by first | decide | (simp; done) | (simp [ms_0]; done)), h_up_x (by first | decide | (simp; done) | (simp [ms_0]; done))]
          have f104 : F1 121 104 = FI 121 104 := by rw [← hF, h_up_x (by first | decide | (simp; done) | (simp [ms_0]; done)), h_up_x (by first | decide | (simp; done) | (simp [ms_0]; done))]
          have fm : mm F1 m := by
            unfold mm at a6 ⊢
            rw [f93, f104]
            exact a6
          have hw : fX12_worked (FI 165 S.length) (FL 173 R.length) (FL 173 (R.length + 1)) SH F1 FL FR = ms_wk e.2.1 (FL 173 R.length) (FL 173 (R.length + 1)) := by
            unfold ms_wk
            rw [← hcode, show Int32.ofInt (FI 165 S.length).toInt = FI 165 S.length from Int32.ofInt_toInt _]
            rfl
          -- the end of a turn
          have go : ∀ (F2 : Nat → Nat → Int32) (L2 : Nat → Nat → Int64) (q2 : mq_Q), mq_b e.2.1 (y :: x :: R, m) = some q2 → mh F2 L2 T t S q2 → GX12_meansReduced_0 a1 g n sl SH F2 L2 FR u st → mq_rd b (e :: S) (y :: x :: R, m) = none ∨ ∃ S2 q2 F2 L2, mq_rd b (e :: S) (y :: x :: R, m) = some (S2, q2) ∧ st = (n, sl, SH, F2, L2, FR) ∧ mh F2 L2 T t S2 q2 := by
            intro F2 L2 q2 hu hh1 h1
            rw [mq_rd, if_pos (by omega), hu]
            exact ih S q2 F2 L2 hh1 h1
          -- what is written: w, behind a fault or none
          have wr : ∀ (w : Int64) (F2 : Nat → Nat → Int32), F2 121 101 = FI 121 101 - (1 : Int32) → RX12_meansReduced_131 (GX12_meansReduced_0 a1 g) a1 w (F2 121 101 - (1 : Int32)) n sl SH F2 FL FR u st → GX12_meansReduced_0 a1 g n sl SH F2 (h_up FL 173 R.length w) FR u st := by
            intro w F2 e2 h
            obtain ⟨-, h⟩ := h
            rw [e2, n102] at h
            exact h
          -- 84: what is by nothing, and the rest
          have s84 : ∀ (s : Int32), (s.toInt = 0 ↔ ¬ ((e.2.1 = 27 ∨ e.2.1 = 29) ∧ (FL 173 (R.length + 1)).toInt = 0)) → RX12_meansReduced_84 (GX12_meansReduced_0 a1 g) a1 (FI 165 S.length) (FL 173 (R.length + 1)) (FL 173 R.length) s n sl SH F1 FL FR u st → mq_rd b (e :: S) (y :: x :: R, m) = none ∨ ∃ S2 q2 F2 L2, mq_rd b (e :: S) (y :: x :: R, m) = some (S2, q2) ∧ st = (n, sl, SH, F2, L2, FR) ∧ mh F2 L2 T t S2 q2 := by
            intro s hs h
            have h101 : (F1 121 101).toInt = (R.length : Int) + 1 := by rw [f101]; exact k101
            by_cases hd : m = .inr true
            · subst hd
              cases y with
              | none => exact Or.inl (by rw [mq_rd, if_pos (by omega)]; rfl)
              | some yv =>
                cases x with
                | none => exact Or.inl (by rw [mq_rd, if_pos (by omega)]; rfl)
                | some xv =>
                  have ey : FL 173 (R.length + 1) = yv := hcy yv rfl
                  have ex : FL 173 R.length = xv := hcx xv rfl
                  have hu : mq_b e.2.1 (some yv :: some xv :: R, .inr true) = some (mq_ps (xe2 e.2.1 (.inr xv) (.inr yv)) (R, .inr true)) := rfl
                  have dn : ¬ (fX12_does SH F1 FL FR).toInt = 0 := fun q3 => ((mh_does (q := (R, .inr true)) fm).mp q3) rfl
                  rw [ey] at hs
                  by_cases hz : (e.2.1 = 27 ∨ e.2.1 = 29) ∧ yv.toInt = 0
                  · have hs0 : ¬ s.toInt = 0 := fun e0 => hs.mp e0 hz
                    have h := P_n (P_n (P_n h hs0) dn) hs0
                    have h := wr _ _ (by rw [h_up_x (by first | decide | (simp; done) | (simp [ms_0]; done))]; exact f101) h
                    have ex2 : xe2 e.2.1 (.inr xv) (.inr yv) = .inl 6 := if_pos hz
                    refine go _ _ _ hu ?_ h
                    rw [ex2]
                    exact mh_b (x2 := none) (m2 := .inl 6) hh (fun c k hn => by rw [h_up_x (by omega)]; exact f1 c k hn) (by rw [h_up_x (by first | decide | (simp; done) | (simp [ms_0]; done))]; exact f90) (by rw [h_up_x (by first | decide | (simp; done) | (simp [ms_0]; done))]; exact h101) (fun w hw => by cases hw) (fun i hi => h_up_ne (by have hi : i < R.length := hi; omega)) mm_inl ⟨by rw [h_up_eq]; (first | decide | (simp; done) | (simp [ms_0]; done)), by first | decide | (simp; done) | (simp [ms_0]; done)⟩
                  · have hs0 : s.toInt = 0 := hs.mpr hz
                    have h := P_p (P_p h hs0) hs0
                    have h := wr _ _ f101 h
                    have ex2 : xe2 e.2.1 (.inr xv) (.inr yv) = .inr (ms_wk e.2.1 xv yv) := if_neg hz
                    refine go _ _ _ hu ?_ h
                    rw [ex2, hw, ex, ey]
                    exact mh_b (x2 := some (ms_wk e.2.1 xv yv)) (m2 := .inr true) hh f1 f90 h101 (fun w hw => by rw [h_up_eq]; exact Option.some.inj hw) (fun i hi => h_up_ne (by have hi : i < R.length := hi; omega)) mm_id fm
            · have hu : mq_b e.2.1 (y :: x :: R, m) = some (none :: R, m) := by
                match m, hd with
                | .inr true, hd => exact absurd rfl hd
                | .inr false, _ => rfl
                | .inl e, _ => rfl
              have dy : (fX12_does SH F1 FL FR).toInt = 0 := (mh_does (q := (R, m)) fm).mpr hd
              have hv : ∀ w, mh F1 (h_up FL 173 R.length w) T t S (none :: R, m) := fun w => mh_b (x2 := none) (m2 := m) hh f1 f90 h101 (fun w hw => by cases hw) (fun i hi => h_up_ne (by omega)) mm_id fm
              have h4 : RX12_meansReduced_104 (GX12_meansReduced_0 a1 g) a1 (FI 165 S.length) (FL 173 (R.length + 1)) (FL 173 R.length) s n sl SH F1 FL FR u st := by
                rcases h with ⟨-, h⟩ | ⟨-, h⟩
                · exact h
                · exact P_p h dy
              rcases h4 with ⟨-, h⟩ | ⟨-, h⟩
              · exact go _ _ _ hu (hv _) (wr _ _ f101 h)
              · exact go _ _ _ hu (hv _) (wr _ _ f101 h)
          have s73 : (e.2.1 = 27 ∨ e.2.1 = 29) → RX12_meansReduced_73 (GX12_meansReduced_0 a1 g) a1 (FI 165 S.length) (FL 173 (R.length + 1)) (FL 173 R.length) n sl SH F1 FL FR u st → mq_rd b (e :: S) (y :: x :: R, m) = none ∨ ∃ S2 q2 F2 L2, mq_rd b (e :: S) (y :: x :: R, m) = some (S2, q2) ∧ st = (n, sl, SH, F2, L2, FR) ∧ mh F2 L2 T t S2 q2 := by
            intro hc h
            rcases h with ⟨h0, h⟩ | ⟨h0, h⟩
            · rw [z0] at h0
              exact s84 1 ⟨fun e => absurd e (by first | decide | (simp; done) | (simp [ms_0]; done)), fun e => absurd ⟨hc, h0⟩ e⟩ h
            · rw [z0] at h0
              exact s84 0 ⟨fun _ e => h0 e.2, fun _ => by first | decide | (simp; done) | (simp [ms_0]; done)⟩ h
          rw [hcode, c27, c29] at h
          rcases h with ⟨q1, h⟩ | ⟨q1, h⟩
          · exact s73 (Or.inl q1) h
          · rcases h with ⟨q2, h⟩ | ⟨q2, h⟩
            · exact s73 (Or.inr q2) h
            · exact s84 0 ⟨fun _ e => e.1.elim q1 q2, fun _ => by first | decide | (simp; done) | (simp [ms_0]; done)⟩ h
theorem mo_red {a1 : Int32} {b : Int} (hb : a1.toInt = b) (hb1 : 1 ≤ b) (hh : mh FI FL T t S q) (h : RX12_meansReduced a1 n sl SH FI FL FR u st) : mq_rd b S q = none ∨ ∃ S2 q2 F2 L2, mq_rd b S q = some (S2, q2) ∧ st = (n, sl, SH, F2, L2, FR) ∧ mh F2 L2 T t S2 q2 := by
  obtain ⟨g, h⟩ := h
  exact mo_rd hb hb1 g S q FI FL hh h
/-- all that bind, and choices to their ends -/
theorem mq_all_rd : ∀ (S : List mq_E) (q : mq_Q), mq_all S q = match mq_rd 1 S q with
    | none => none
    | some r => mq_all r.1 r.2
  | [], q => rfl
  | e :: S, q => by
    rw [mq_rd]
    by_cases h : 1 ≤ e.1
    · rw [if_pos h, mq_all, if_pos h]
      cases hb : mq_b e.2.1 q with
      | none => rfl
      | some q2 => exact mq_all_rd S q2
    · rw [if_neg h]
theorem mq_rd_top {b : Int} : ∀ (S : List mq_E) (q : mq_Q) (r : List mq_E × mq_Q), mq_rd b S q = some r → mq_top r.1 < b ∨ r.1 = []
  | [], q, r, h => by
    right
    rw [← Option.some.inj h]
  | e :: S, q, r, h => by
    rw [mq_rd] at h
    by_cases hb : b ≤ e.1
    · rw [if_pos hb] at h
      cases hq : mq_b e.2.1 q with
      | none => rw [hq] at h; cases h
      | some q2 =>
        rw [hq] at h
        exact mq_rd_top S q2 r h
    · rw [if_neg hb] at h
      left
      rw [← Option.some.inj h]
      show e.1 < b
      omega
theorem mo_5 : ∀ (g : Nat) (S : List mq_E) (q : mq_Q) (FI : Nat → Nat → Int32) (FL : Nat → Nat → Int64), mh FI FL T t S q → mq_top S < 1 → GX12_meansReducedAll_5 g n sl SH FI FL FR u st → mq_all S q = none ∨ ∃ S2 q2 F2 L2, mq_all S q = some (S2, q2) ∧ st = (n, sl, SH, F2, L2, FR) ∧ mh F2 L2 T t S2 q2 := by
  have c3 : ((-3 : Int32)).toInt = -3 := by first | decide | (simp; done) | (simp [ms_0]; done)
  intro g
  induction g with
  | zero => intro S q FI FL _ _ h; exact h.elim
  | succ g ih =>
    intro S q FI FL hh hS1 h
    rcases h with ⟨ht, h⟩ | ⟨ht, -, e⟩
    · rw [mh_top hh, c3] at ht
      cases S with
      | nil => exact absurd ht (by first | decide | (simp; done) | (simp [ms_0]; done))
      | cons e S =>
        obtain ⟨e1, e2, wl, so⟩ := e
        have ht : e1 = -3 := ht
        subst ht
        obtain ⟨V, m⟩ := q
        obtain ⟨a1', a2, a3, a4, a5, a6⟩ := id hh
        (try dsimp only at a3 a4 a5 a6)
        have a2' := a2.1
        simp only [List.length_cons] at a2'
        have hS2 := a2.2
        simp only [List.length_cons] at hS2
        have k90 : (FI 121 90 - (1 : Int32)).toInt = (S.length : Int) := by
          rw [i_sub a2' (by first | decide | (simp; done) | (simp [ms_0]; done) : ((1 : Int32)).toInt = 1) (by omega) (by omega)]
          omega
        have n90 : (FI 121 90 - (1 : Int32)).toInt.toNat = S.length := by omega
        obtain ⟨-, h⟩ := h
        rw [n90] at h
        have hent := a3.1.2.2.2 (Or.inr rfl)
        match V, a4, a5, hh, h with
        | [], a4, a5, hh, h => exact Or.inl (by rw [mq_all, if_neg (by first | decide | (simp; done) | (simp [ms_0]; done)), if_pos rfl]; rfl)
        | [x], a4, a5, hh, h => exact Or.inl (by rw [mq_all, if_neg (by first | decide | (simp; done) | (simp [ms_0]; done)), if_pos rfl]; rfl)
        | y :: x :: R, a4, a5, hh, h =>
          have a4' := a4.1
          simp only [List.length_cons] at a4'
          have hV2 := a4.2
          simp only [List.length_cons] at hV2
          have k101 : (FI 121 101 - (1 : Int32)).toInt = (R.length : Int) + 1 := by
            rw [i_sub a4' (by first | decide | (simp; done) | (simp [ms_0]; done) : ((1 : Int32)).toInt = 1) (by omega) (by omega)]
            omega
          have k102 : ((FI 121 101 - (1 : Int32)) - (1 : Int32)).toInt = (R.length : Int) := by
            rw [i_sub k101 (by first | decide | (simp; done) | (simp [ms_0]; done) : ((1 : Int32)).toInt = 1) (by omega) (by omega)]
            omega
          have n101 : (FI 121 101 - (1 : Int32)).toInt.toNat = R.length + 1 := by omega
          have n102 : ((FI 121 101 - (1 : Int32)) - (1 : Int32)).toInt.toNat = R.length := by omega
          rw [n101, n102] at h
          generalize hF : (h_up (h_up FI 121 90 (FI 121 90 - (1 : Int32))) 121 101 (FI 121 101 - (1 : Int32))) = F1 at h
          have f1 : ∀ c k, ¬ (c = 121 ∧ (k = 90 ∨ k = 93 ∨ k = 101 ∨ k = 104)) → F1 c k = FI c k := fun c k hn => by rw [← hF, h_up_x (by omega), h_up_x (by omega)]
          have f90 : (F1 121 90).toInt = (S.length : Int) := by rw [← hF, h_up_x (by first | decide | (simp; done) | (simp [ms_0]; done)), h_up_eq]; exact k90
          have f101 : F1 121 101 = FI 121 101 - (1 : Int32) := by rw [← hF, h_up_eq]
          have f93 : F1 121 93 = FI 121 93 := by rw [← hF, h_up_x (by first | decide | (simp; done) | (simp [ms_0]; done)), h_up_x (by first | decide | (simp; done) | (simp [ms_0]; done))]
          have h101 : (F1 121 101).toInt = (R.length : Int) + 1 := by rw [f101]; exact k101
          have f174 : F1 174 S.length = FI 174 S.length := f1 174 _ (by omega)
          -- the end of a turn
          have go : ∀ (L1 : Nat → Nat → Int64) (q2 : mq_Q), mq_el wl so (y :: x :: R, m) = some q2 → mh (h_up F1 121 104 (F1 174 S.length)) L1 T t S q2 → RX12_meansReducedAll_66 (GX12_meansReducedAll_5 g) n sl SH F1 L1 FR u st → mq_all ((-3, e2, wl, so) :: S) (y :: x :: R, m) = none ∨ ∃ S2 q2 F2 L2, mq_all ((-3, e2, wl, so) :: S) (y :: x :: R, m) = some (S2, q2) ∧ st = (n, sl, SH, F2, L2, FR) ∧ mh F2 L2 T t S2 q2 := by
            intro L1 q2 hu hh1 h1
            obtain ⟨-, v1, n1, sl1, SH1, FI1, FL1, FR1, hr, h1⟩ := h1
            rw [show (F1 121 90).toInt.toNat = S.length by omega] at hr
            have ea : mq_all ((-3, e2, wl, so) :: S) (y :: x :: R, m) = mq_all S q2 := by
              rw [mq_all, if_neg (by first | decide | (simp; done) | (simp [ms_0]; done)), if_pos rfl]
              show (match mq_el wl so (y :: x :: R, m) with
                | none => none
                | some q2 => mq_all S q2) = _
              rw [hu]
            rw [ea, mq_all_rd]
            rcases mo_red (b := 1) (by first | decide | (simp; done) | (simp [ms_0]; done)) (by first | decide | (simp; done) | (simp [ms_0]; done)) hh1 hr with hn | ⟨S3, q3, F3, L3, r1, r2, r3⟩
            · rw [hn]
              exact Or.inl rfl
            · rw [r1]
              cases r2
              have ht3 := mq_rd_top S q2 (S3, q3) r1
              refine ih S3 q3 _ _ r3 ?_ h1
              rcases ht3 with ht3 | ht3
              · exact ht3
              · (try dsimp only at ht3)
                rw [ht3]
                show (-11 : Int) < 1
                decide
          match m, a6, hent, hh, go with
          | .inl ee, a6, hent, hh, go =>
            have hv : ∀ L1 : Nat → Nat → Int64, (∀ i, i < R.length → L1 173 i = FL 173 i) → mh (h_up F1 121 104 (F1 174 S.length)) L1 T t S (none :: R, .inl ee) := fun L1 hL => mh_b (x2 := none) (m2 := .inl ee) hh (fun c k hn => by rw [h_up_x (by omega)]; exact f1 c k hn) (by rw [h_up_x (by first | decide | (simp; done) | (simp [ms_0]; done))]; exact f90) (by rw [h_up_x (by first | decide | (simp; done) | (simp [ms_0]; done))]; exact h101) (fun w hw => by cases hw) hL mm_inl ⟨by rw [h_up_x (by first | decide | (simp; done) | (simp [ms_0]; done)), f93]; exact a6.1, a6.2⟩
            rcases h with ⟨-, -, -, h⟩ | ⟨-, h⟩
            · exact go _ _ rfl (hv _ (fun i hi => h_up_ne (by omega))) h
            · exact go _ _ rfl (hv _ (fun i hi => rfl)) h
          | .inr b, a6, hent, hh, go =>
            obtain ⟨w1, w2⟩ := hent b rfl
            have hmm : mm (h_up F1 121 104 (F1 174 S.length)) (.inr wl) := ⟨by rw [h_up_x (by first | decide | (simp; done) | (simp [ms_0]; done)), f93]; exact a6.1, by rw [h_up_eq, f174]; exact w1⟩
            have hv : ∀ (L1 : Nat → Nat → Int64), (∀ v, (if wl = true then (if so = true then x else y) else none) = some v → L1 173 R.length = v) → (∀ i, i < R.length → L1 173 i = FL 173 i) → mh (h_up F1 121 104 (F1 174 S.length)) L1 T t S ((if wl = true then (if so = true then x else y) else none) :: R, .inr wl) := fun L1 hx hL => mh_b (m2 := .inr wl) hh (fun c k hn => by rw [h_up_x (by omega)]; exact f1 c k hn) (by rw [h_up_x (by first | decide | (simp; done) | (simp [ms_0]; done))]; exact f90) (by rw [h_up_x (by first | decide | (simp; done) | (simp [ms_0]; done))]; exact h101) hx hL (fun b2 _ => ⟨b, rfl⟩) hmm
            rcases h with ⟨q0, -, -, h⟩ | ⟨q0, h⟩
            · refine go _ _ rfl (hv _ (fun v hv => ?_) (fun i hi => h_up_ne (by omega))) h
              rw [h_up_eq]
              cases wl with
              | false => rw [if_neg (by first | decide | (simp; done) | (simp [ms_0]; done))] at hv; cases hv
              | true =>
                have := w2 rfl
                (try dsimp only at this)
                rw [this, bi_0] at q0
                subst q0
                rw [if_pos rfl, if_neg (by first | decide | (simp; done) | (simp [ms_0]; done))] at hv
                exact a5.1 v hv
            · refine go _ _ rfl (hv _ (fun v hv => ?_) (fun i hi => rfl)) h
              cases wl with
              | false => rw [if_neg (by first | decide | (simp; done) | (simp [ms_0]; done))] at hv; cases hv
              | true =>
                have := w2 rfl
                (try dsimp only at this)
                rw [this, bi_0] at q0
                cases so with
                | false => exact absurd rfl q0
                | true =>
                  rw [if_pos rfl, if_pos rfl] at hv
                  exact a5.2.1 v hv
    · rw [mh_top hh, c3] at ht
      exact Or.inr ⟨S, q, FI, FL, mq_all_stop hS1 ht, e, hh⟩
theorem mo_all (hh : mh FI FL T t S q) (h : RX12_meansReducedAll n sl SH FI FL FR u st) : mq_all S q = none ∨ ∃ S2 q2 F2 L2, mq_all S q = some (S2, q2) ∧ st = (n, sl, SH, F2, L2, FR) ∧ mh F2 L2 T t S2 q2 := by
  obtain ⟨v1, n1, sl1, SH1, FI1, FL1, FR1, hr, g, h⟩ := h
  rw [mq_all_rd]
  rcases mo_red (b := 1) (by first | decide | (simp; done) | (simp [ms_0]; done)) (by first | decide | (simp; done) | (simp [ms_0]; done)) hh hr with hn | ⟨S3, q3, F3, L3, r1, r2, r3⟩
  · rw [hn]
    exact Or.inl rfl
  · rw [r1]
    cases r2
    have ht3 := mq_rd_top S q (S3, q3) r1
    refine mo_5 g S3 q3 _ _ r3 ?_ h
    rcases ht3 with ht3 | ht3
    · exact ht3
    · (try dsimp only at ht3)
      rw [ht3]
      show (-11 : Int) < 1
      decide
theorem mo_finished (hS : h_S n SH) (hE : rE FI FL SH E) (hh : mh FI FL T t S q) (h : RX12_meansFinished n sl SH FI FL FR u st) : mq_fin E S q = none ∨ ∃ S2 q2 F2 L2, mq_fin E S q = some (S2, q2) ∧ st = (n, sl, SH, F2, L2, FR) ∧ mh F2 L2 T t S2 q2 := by
  obtain ⟨g, h⟩ := h
  exact mo_fin hS g S q FI FL hh hE h
/-- a sign between two -/
theorem mo_bin {a1 a2 : Int32} {c b : Int} {v : Int32} (hS : h_S n SH) (hT : T ≤ 1001) (ht : t + 1 ≤ T) (h1 : a1.toInt = c) (h2 : a2.toInt = b) (hb : 1 ≤ b) (hb7 : b ≤ 7) (hh : mh FI FL T t S q) (h : RX12_meansBinary a1 a2 n sl SH FI FL FR v st) : mq_rd b S q = none ∨ ∃ S2 q2 F2 L2, mq_rd b S q = some (S2, q2) ∧ v = 1 ∧ st = (n, sl, SH, F2, L2, FR) ∧ mh F2 L2 T (t + 1) ((b, c, false, false) :: S2) q2 := by
  obtain ⟨v1, n1, sl1, SH1, FI1, FL1, FR1, hr, h⟩ := h
  rcases mo_red h2 hb hh hr with hn | ⟨S3, q3, F3, L3, r1, r2, r3⟩
  · exact Or.inl hn
  · cases r2
    obtain ⟨v2, n2, sl2, SH2, FI2, FL2, FR2, hl, e1, e⟩ := h
    obtain ⟨F4, r4, r5⟩ := mo_later (w1 := false) (w2 := false) hS r3 (by omega) (by omega) (by omega) hl
    cases r4
    rw [h1, h2] at r5
    exact Or.inr ⟨S3, q3, _, _, r1, e1, e, mh_t r5 (mh_n r5 hT) ht⟩
end MR
end
section
/-! THE REFERENCE'S MEANINGS: an operand, an operator, an expression. -/
theorem mk_out {L : List (Nat × Nat)} {A : List Nat} {c k : Nat} (h1 : L.all (fun e => decide (e.1 = 121 ∧ ((29 ≤ e.2 ∧ e.2 ≤ 44) ∨ (90 ≤ e.2 ∧ e.2 ≤ 93) ∨ e.2 = 101 ∨ e.2 = 104))) = true) (h2 : A.all (fun a => decide ((127 ≤ a ∧ a ≤ 142) ∨ a = 165 ∨ a = 166 ∨ (173 ≤ a ∧ a ≤ 175))) = true) (h : (c < 121 ∨ (121 < c ∧ c < 127) ∨ (142 < c ∧ c < 165) ∨ (166 < c ∧ c < 173) ∨ 175 < c) ∨ (c = 121 ∧ (k < 29 ∨ (44 < k ∧ k < 90) ∨ (93 < k ∧ k < 101) ∨ (101 < k ∧ k < 104) ∨ 104 < k))) : k_in L A c k = false := by
  cases hq : k_in L A c k with
  | false => rfl
  | true =>
    exfalso
    unfold k_in at hq
    rw [Bool.or_eq_true] at hq
    rcases hq with q | q
    · have q := List.contains_iff_mem.mp q
      have := of_decide_eq_true (List.all_eq_true.mp h1 (c, k) q)
      (try dsimp only at this)
      omega
    · have q := List.contains_iff_mem.mp q
      have := of_decide_eq_true (List.all_eq_true.mp h2 c q)
      omega
def mk_m (m : k_M) : Bool := m.1.all (fun e => decide (e.1 = 121 ∧ ((29 ≤ e.2 ∧ e.2 ≤ 44) ∨ (90 ≤ e.2 ∧ e.2 ≤ 93) ∨ e.2 = 101 ∨ e.2 = 104))) && m.2.1.all (fun a => decide ((127 ≤ a ∧ a ≤ 142) ∨ a = 165 ∨ a = 166 ∨ (173 ≤ a ∧ a ≤ 175))) && m.2.2.1.all (fun e => decide (e.1 = 121 ∧ ((29 ≤ e.2 ∧ e.2 ≤ 44) ∨ (90 ≤ e.2 ∧ e.2 ≤ 93) ∨ e.2 = 101 ∨ e.2 = 104))) && m.2.2.2.all (fun a => decide ((127 ≤ a ∧ a ≤ 142) ∨ a = 165 ∨ a = 166 ∨ (173 ≤ a ∧ a ≤ 175)))
/-- two states: what stands to the right stays -/
theorem st_c {n n2 sl sl2 : Nat} {SH S2 : Nat → Nat × Nat} {FI F2 : Nat → Nat → Int32} {FL L2 : Nat → Nat → Int64} {FR R2 : Nat → Nat → Option Nat} (h : ((n2, sl2, S2, F2, L2, R2) : hS) = (n, sl, SH, FI, FL, FR)) : n = n2 ∧ sl = sl2 ∧ SH = S2 ∧ FI = F2 ∧ FL = L2 ∧ FR = R2 := by
  cases h
  exact ⟨rfl, rfl, rfl, rfl, rfl, rfl⟩
section MO
variable {n sl : Nat} {SH : Nat → Nat × Nat} {FI F2 F3 : Nat → Nat → Int32} {FL L2 L3 : Nat → Nat → Int64} {FR : Nat → Nat → Option Nat} {st : hS} {E : ms_E} {fb : xX} {u : Unit} {K W : Nat → Int} {T t : Nat} {S : List mq_E} {q : mq_Q} {m m2 : Int ⊕ Bool} {V R : List (Option Int64)}
theorem mk_kq {m : k_M} (h : kq m (n, sl, SH, FI, FL, FR) st) (m1 : mk_m m = true) : ∃ F2 L2, st = (n, sl, SH, F2, L2, FR) ∧ mk FI FL F2 L2 := by
  obtain ⟨n2, sl2, S2, F2, L2, R2⟩ := st
  obtain ⟨h1, h2, h3, h4, h5, h6, -⟩ := h
  (try dsimp only at h1 h2 h3 h4 h5 h6)
  subst h1; subst h2; subst h3; subst h4
  unfold mk_m at m1
  rw [Bool.and_eq_true, Bool.and_eq_true, Bool.and_eq_true] at m1
  obtain ⟨⟨⟨a1, a2⟩, a3⟩, a4⟩ := m1
  exact ⟨F2, L2, rfl, fun c hc => ⟨funext fun k => h5 c k (mk_out a1 a2 (Or.inl hc)), funext fun k => h6 c k (mk_out a3 a4 (Or.inl hc))⟩, fun k hk => ⟨h5 121 k (mk_out a1 a2 (Or.inr ⟨rfl, hk⟩)), h6 121 k (mk_out a3 a4 (Or.inr ⟨rfl, hk⟩))⟩⟩
theorem mk_st {m : k_M} (h : kq m (n, sl, SH, FI, FL, FR) (n, sl, SH, F2, L2, FR)) (m1 : mk_m m = true) : mk FI FL F2 L2 := by
  obtain ⟨F3, L3, e, h3⟩ := mk_kq h m1
  cases e
  exact h3
theorem mt_mk (h : mtk K W T FI FL) (g : mk FI FL F2 L2) : mtk K W T F2 L2 := fun i hi => by
  rw [(g.1 152 (by omega)).1, (g.1 153 (by omega)).2]
  exact h i hi
theorem mh_xr (h : mh FI FL T t S q) (x : xr FI FL F2 L2) : mh F2 L2 T t S q := by
  obtain ⟨h1, h2, h3, h4, h5, h6⟩ := h
  refine ⟨by rw [(x.2 92 (by omega)).1]; exact h1, by rw [(x.2 90 (by omega)).1]; exact h2, lv_me h3 (fun r i hr _ => by rw [(x.1 r (by omega)).1]) mm_id, by rw [(x.2 101 (by omega)).1]; exact h4, lv_mz h5 (fun i _ => by rw [(x.1 173 (by omega)).2]), ?_⟩
  unfold mm at h6 ⊢
  rw [(x.2 93 (by omega)).1, (x.2 104 (by omega)).1]
  exact h6
theorem rE_xr (h : rE FI FL SH E) (g : xr FI FL F2 L2) : rE F2 L2 SH E := rE_fr h (g.1 123 (by omega)).1 (g.1 124 (by omega)).1 (g.1 125 (by omega)).1 (fun k hk => (g.2 k (Or.inl hk)).1) (fun k hk => (g.2 k (Or.inl hk)).2) (g.1 122 (by omega)).2
/-- FRAME's base for means: known, and its faults are some -/
def xfq (E : ms_E) (fb : xX) : Prop := x_fb E fb ∧ ∀ e, fb = .inl e → e ≠ 0
theorem mo_bases (hS : h_S n SH) (hE : rE FI FL SH E) (hf : xfq E fb) (hh : mh FI FL T t S (V, .inr true)) (h : RX12_bases n sl SH FI FL FR u st) : ∃ F1 F2 L2, st = (n, sl, SH, F2, L2, FR) ∧ mh F1 L2 T t S (V, .inr true) ∧ rE F2 L2 SH E ∧ (∀ c k, ¬ (c = 121 ∧ k = 93) → F2 c k = F1 c k) ∧ (match fb with
    | .inl e => (F2 121 93).toInt = e ∧ e ≠ 0
    | .inr v => L2 121 39 = v ∧ F2 121 93 = F1 121 93) := by
  obtain ⟨hx, hne⟩ := hf
  obtain ⟨f1, f2, f3⟩ := hE.2.2.2.1
  rcases h with ⟨h0, -, e⟩ | ⟨h0, h⟩
  · rw [f1, show ((-1 : Int32)).toInt = -1 by first | decide | (simp; done) | (simp [ms_0]; done)] at h0
    have efb := hx.1 h0
    subst efb
    refine ⟨FI, _, _, e, hh, rE_mk hE (mk_f mk_rf (by omega)), fun c k hn => h_up_x hn, ?_⟩
    show (h_up FI 121 93 (11 : Int32) 121 93).toInt = 11 ∧ (11 : Int) ≠ 0
    exact ⟨by rw [h_up_eq]; (first | decide | (simp; done) | (simp [ms_0]; done)), by first | decide | (simp; done) | (simp [ms_0]; done)⟩
  · rw [f1, show ((-1 : Int32)).toInt = -1 by first | decide | (simp; done) | (simp [ms_0]; done)] at h0
    obtain ⟨u0, n0, sl0, SH0, FI0, FL0, FR0, ⟨-, eb⟩, -, v3, n3, sl3, SH3, FI3, FL3, FR3, hx3, -, e⟩ := h
    cases eb
    have k0 : mk FI FL (h_up (h_up (h_up (h_up (h_up FI 121 30 (1000 : Int32)) 121 31 ((0 : Int32))) 121 32 ((0 : Int32))) 121 29 ((0 : Int32))) 121 33 ((-1 : Int32))) FL := mk_f (mk_f (mk_f (mk_f (mk_f mk_rf (by omega)) (by omega)) (by omega)) (by omega)) (by omega)
    have g5 : (h_up (h_up (h_up (h_up (h_up FI 121 30 (1000 : Int32)) 121 31 ((0 : Int32))) 121 32 ((0 : Int32))) 121 29 ((0 : Int32))) 121 33 ((-1 : Int32))) 121 5 = FI 121 5 := (k0.2 5 (by omega)).1
    have g125 : (h_up (h_up (h_up (h_up (h_up FI 121 30 (1000 : Int32)) 121 31 ((0 : Int32))) 121 32 ((0 : Int32))) 121 29 ((0 : Int32))) 121 33 ((-1 : Int32))) 125 = FI 125 := (k0.1 125 (by omega)).1
    have g30 : ((h_up (h_up (h_up (h_up (h_up FI 121 30 (1000 : Int32)) 121 31 ((0 : Int32))) 121 32 ((0 : Int32))) 121 29 ((0 : Int32))) 121 33 ((-1 : Int32))) 121 30).toInt = ((1000 : Nat) : Int) := by
      rw [h_up_x (by first | decide | (simp; done) | (simp [ms_0]; done)), h_up_x (by first | decide | (simp; done) | (simp [ms_0]; done)), h_up_x (by first | decide | (simp; done) | (simp [ms_0]; done)), h_up_x (by first | decide | (simp; done) | (simp [ms_0]; done)), h_up_eq]
      decide
    have g29 : ((h_up (h_up (h_up (h_up (h_up FI 121 30 (1000 : Int32)) 121 31 ((0 : Int32))) 121 32 ((0 : Int32))) 121 29 ((0 : Int32))) 121 33 ((-1 : Int32))) 121 29).toInt = 0 := by
      rw [h_up_x (by first | decide | (simp; done) | (simp [ms_0]; done)), h_up_eq]
      decide
    have hh0 : mh (h_up (h_up (h_up (h_up (h_up FI 121 30 (1000 : Int32)) 121 31 ((0 : Int32))) 121 32 ((0 : Int32))) 121 29 ((0 : Int32))) 121 33 ((-1 : Int32))) FL T t S (V, .inr true) := mh_f (mh_f (mh_f (mh_f (mh_f hh (by first | decide | (simp; done) | (simp [ms_0]; done))) (by first | decide | (simp; done) | (simp [ms_0]; done))) (by first | decide | (simp; done) | (simp [ms_0]; done))) (by first | decide | (simp; done) | (simp [ms_0]; done))) (by first | decide | (simp; done) | (simp [ms_0]; done))
    have hE0 := rE_mk hE k0
    rw [g5, g125] at hx3
    generalize h_up (h_up (h_up (h_up (h_up FI 121 30 (1000 : Int32)) 121 31 ((0 : Int32))) 121 32 ((0 : Int32))) 121 29 ((0 : Int32))) 121 33 ((-1 : Int32)) = FB at hx3 k0 g5 g125 g30 g29 hh0 hE0
    have hk15 : (ms_fr E).toNat < 16 := by omega
    obtain ⟨l1, l2, l3⟩ := hE0.2.2.1 _ hk15
    rw [g125] at l1
    have e5 : (FI 121 5).toInt.toNat = (ms_fr E).toNat := by omega
    rw [e5] at hx3
    have a2 : ((600 : Int32) * FI 121 5).toInt = ((600 * (ms_fr E).toNat : Nat) : Int) := by
      rw [i_mul (by first | decide | (simp; done) | (simp [ms_0]; done) : ((600 : Int32)).toInt = 600) f1 (by omega) (by omega)]
      omega
    have a3 : ((600 : Int32) * FI 121 5 + FI 125 (ms_fr E).toNat).toInt = ((600 * (ms_fr E).toNat + (ms_ex E (ms_fr E).toNat).length : Nat) : Int) := by
      rw [i_add a2 l1 (by omega) (by omega)]
      omega
    obtain ⟨qq, r1, F4, L4, r2, r3, -, -, -, -, -, -, -, r4⟩ := r_exec1 l3 l2 a2 a3 hE0 g30 (by first | decide | (simp; done) | (simp [ms_0]; done)) g29 hx3
    cases r2
    have efb : fb = x_en E qq := hx.2 h0 qq r1
    rw [← efb] at r4
    refine ⟨_, _, _, e, mh_xr hh0 r3, ?_, fun c k hn => h_up_x hn, ?_⟩
    · exact rE_mk (rE_xr hE0 r3) (mk_f mk_rf (by omega))
    · match fb, r4, hne with
      | .inl e9, r4, hne =>
        have r4 : v3.toInt = e9 := r4
        exact ⟨by rw [h_up_eq]; exact r4, hne e9 rfl⟩
      | .inr v9, r4, hne =>
        have r4 : v3.toInt = 0 ∧ FL3 121 39 = v9 := r4
        refine ⟨r4.2, ?_⟩
        rw [h_up_eq]
        exact i_eqv (by rw [r4.1]; exact (mh_xr hh0 r3).2.2.2.2.2.1.symm)
/-- what stands ahead of one -/
theorem mo_55 {v : Int32} (hS : h_S n SH) (hT : T ≤ 1001) (ht : t + 1 ≤ T) (hg : tk_rg K W) (htk : mtk K W T FI FL) (hu : lc_uy (K t) (W t) = true) (hh : mh FI FL T t S q) (h : RX12_meansOperand_55 (FI 152 t) (FL 153 t) n sl SH FI FL FR v st) : ∃ F2, st = (n, sl, SH, F2, FL, FR) ∧ mh F2 FL T (t + 1) ((9, mq_c (K t) (W t), false, false) :: S) q ∧ v = 0 := by
  obtain ⟨k1, k2⟩ := htk t (by omega)
  have hu2 : K t = 4 ∨ (K t = 5 ∧ (W t = 45 ∨ W t = 126)) ∨ (K t = 2 ∧ W t = 7) := of_decide_eq_true hu
  have c9 : ((9 : Int32)).toInt = 9 := by first | decide | (simp; done) | (simp [ms_0]; done)
  have fin : ∀ {c : Int32} {v1 : Unit} {n1 sl1 : Nat} {SH1 : Nat → Nat × Nat} {FI1 : Nat → Nat → Int32} {FL1 : Nat → Nat → Int64} {FR1 : Nat → Nat → Option Nat}, c.toInt = mq_c (K t) (W t) → (c.toInt = 31 ∨ c.toInt = 32 ∨ c.toInt = 155 ∨ (257 ≤ c.toInt ∧ c.toInt ≤ 264)) → RX12_later c (9 : Int32) n sl SH FI FL FR v1 (n1, sl1, SH1, FI1, FL1, FR1) → v = 0 → st = (n1, sl1, SH1, h_up FI1 121 92 (FI1 121 92 + (1 : Int32)), FL1, FR1) → ∃ F2, st = (n, sl, SH, F2, FL, FR) ∧ mh F2 FL T (t + 1) ((9, mq_c (K t) (W t), false, false) :: S) q ∧ v = 0 := by
    intro c v1 n1 sl1 SH1 FI1 FL1 FR1 e1 e2 hl e3 e4
    obtain ⟨F4, r4, r5⟩ := mo_later (w1 := false) (w2 := false) hS hh (by first | decide | (simp; done) | (simp [ms_0]; done)) (by first | decide | (simp; done) | (simp [ms_0]; done)) (fun _ => e2) hl
    cases r4
    rw [e1, c9] at r5
    exact ⟨_, e4, mh_t r5 (mh_n r5 hT) ht, e3⟩
  unfold mq_c at fin ⊢
  unfold RX12_meansOperand_55 at h
  rw [k1, show ((4 : Int32)).toInt = 4 by first | decide | (simp; done) | (simp [ms_0]; done)] at h
  rcases h with ⟨h4, h⟩ | ⟨h4, h⟩
  · have hr := (hg t).2 h4
    have e : ((256 : Int32) + (FL 153 t).toInt32).toInt = 256 + W t := i_add (by first | decide | (simp; done) | (simp [ms_0]; done) : ((256 : Int32)).toInt = 256) (l_2i k2 (by omega) (by omega)) (by omega) (by omega)
    obtain ⟨v1, n1, sl1, SH1, FI1, FL1, FR1, hl, e1, e2⟩ := h
    rw [if_pos h4] at fin ⊢
    exact fin e (by omega) hl e1 e2
  try rw [k1] at h
  rw [show ((2 : Int32)).toInt = 2 by first | decide | (simp; done) | (simp [ms_0]; done)] at h
  rw [if_neg h4] at fin ⊢
  rcases h with ⟨h2, h⟩ | ⟨h2, h⟩
  · obtain ⟨v1, n1, sl1, SH1, FI1, FL1, FR1, hl, e1, e2⟩ := h
    rw [if_pos h2] at fin ⊢
    exact fin (by first | decide | (simp; done) | (simp [ms_0]; done)) (by first | decide | (simp; done) | (simp [ms_0]; done)) hl e1 e2
  rw [k2, show ((45 : Int64)).toInt = 45 by first | decide | (simp; done) | (simp [ms_0]; done)] at h
  rw [if_neg h2] at fin ⊢
  rcases h with ⟨h5, h⟩ | ⟨h5, h⟩
  · obtain ⟨v1, n1, sl1, SH1, FI1, FL1, FR1, hl, e1, e2⟩ := h
    rw [if_pos h5] at fin ⊢
    exact fin (by first | decide | (simp; done) | (simp [ms_0]; done)) (by first | decide | (simp; done) | (simp [ms_0]; done)) hl e1 e2
  · obtain ⟨v1, n1, sl1, SH1, FI1, FL1, FR1, hl, e1, e2⟩ := h
    rw [if_neg h5] at fin ⊢
    exact fin (by first | decide | (simp; done) | (simp [ms_0]; done)) (by first | decide | (simp; done) | (simp [ms_0]; done)) hl e1 e2
theorem lc_at_i {t t1 : Nat} {c : List Int} (h : lc_at K W false t = some (t1, c)) : K t = 3 ∨ (K t = 2 ∧ W t = 5) ∨ (K t = 2 ∧ W t = 6) ∨ (K t = 5 ∧ W t = 37 ∧ K (t + 1) = 3 ∧ W (t + 1) ≤ 31) ∨ (K t = 2 ∧ W t = 4) := by
  unfold lc_at at h
  by_cases h3 : K t = 3
  · exact Or.inl h3
  rw [if_neg h3] at h
  by_cases h5 : K t = 2 ∧ W t = 5
  · exact Or.inr (Or.inl h5)
  rw [if_neg h5] at h
  by_cases h6 : K t = 2 ∧ W t = 6
  · exact Or.inr (Or.inr (Or.inl h6))
  rw [if_neg h6] at h
  cases hb : lc_bs K W t with
  | none => rw [hb] at h; cases h
  | some p =>
    unfold lc_bs at hb
    by_cases h7 : K t = 5 ∧ W t = 37
    · rw [if_pos h7] at hb
      by_cases h8 : K (t + 1) = 3 ∧ W (t + 1) ≤ 31
      · exact Or.inr (Or.inr (Or.inr (Or.inl ⟨h7.1, h7.2, h8.1, h8.2⟩)))
      · rw [if_neg h8] at hb; cases hb
    · rw [if_neg h7] at hb
      by_cases h9 : K t = 2 ∧ W t = 4
      · exact Or.inr (Or.inr (Or.inr (Or.inr h9)))
      · rw [if_neg h9] at hb; cases hb
end MO
end
section
/-! THE REFERENCE'S MEANINGS: an operand, an operator, an expression (its walk). -/
section MP
variable {n sl : Nat} {SH : Nat → Nat × Nat} {FI F2 F3 : Nat → Nat → Int32} {FL L2 L3 : Nat → Nat → Int64} {FR : Nat → Nat → Option Nat} {st : hS} {E : ms_E} {fb : xX} {u : Unit} {K W : Nat → Int} {T t : Nat} {S : List mq_E} {q : mq_Q} {m m2 : Int ⊕ Bool} {V R : List (Option Int64)}
/-- what a value's push is told of the fault's cell -/
def mx (m : Int ⊕ Bool) (x : xX) (y : Int64) (F1 F0 : Nat → Nat → Int32) : Prop := match m with
  | .inr true => (match x with
    | .inl e => (F1 121 93).toInt = e ∧ e ≠ 0
    | .inr v => y = v ∧ F1 121 93 = F0 121 93)
  | _ => F1 121 93 = F0 121 93
theorem mo_value2 {x : xX} {y : Int64} {F1 : Nat → Nat → Int32} (hS : h_S n SH) (hh : mh FI FL T t S q) (e1 : ∀ c k, ¬ (c = 121 ∧ k = 93) → F1 c k = FI c k) (hx : mx q.2 x y F1 FI) (h : RX12_value y n sl SH F1 FL FR u st) : ∃ F2 L2, st = (n, sl, SH, F2, L2, FR) ∧ mh F2 L2 T t S (mq_ps x q) := by
  obtain ⟨V, m⟩ := q
  match m, x, hh, hx with
  | .inl e0, x, hh, hx => exact mo_value (x := x) hS hh e1 hx h
  | .inr false, x, hh, hx => exact mo_value (x := x) hS hh e1 hx h
  | .inr true, .inl e, hh, hx => exact mo_value (x := .inl e) hS hh e1 hx h
  | .inr true, .inr v, hh, hx => exact mo_value (x := .inr v) hS hh e1 hx h
theorem mo_bases2 (hS : h_S n SH) (hE : rE FI FL SH E) (hf : xfq E fb) (hh : mh FI FL T t S (V, .inr true)) (h : RX12_bases n sl SH FI FL FR u st) : ∃ F1 F2 L2, st = (n, sl, SH, F2, L2, FR) ∧ mh F1 L2 T t S (V, .inr true) ∧ rE F2 L2 SH E ∧ (∀ c k, ¬ (c = 121 ∧ k = 93) → F2 c k = F1 c k) ∧ mx (.inr true) fb (L2 121 39) F2 F1 := by
  cases fb with
  | inl e =>
    obtain ⟨F1, F2, L2, a1, a2, a3, a4, a5⟩ := mo_bases hS hE hf hh h
    exact ⟨F1, F2, L2, a1, a2, a3, a4, a5⟩
  | inr v =>
    obtain ⟨F1, F2, L2, a1, a2, a3, a4, a5⟩ := mo_bases hS hE hf hh h
    exact ⟨F1, F2, L2, a1, a2, a3, a4, a5⟩
/-- a value, and what stands ahead of it -/
theorem mo_vf2 {x : xX} {y : Int64} {F0 F1 : Nat → Nat → Int32} {L0 : Nat → Nat → Int64} {v1 v2 : Unit} {n1 sl1 n2 sl2 : Nat} {S1 S2 : Nat → Nat × Nat} {I1 I2 : Nat → Nat → Int32} {J1 J2 : Nat → Nat → Int64} {R1 R2 : Nat → Nat → Option Nat} (hS : h_S n SH) (hh : mh F0 L0 T t S q) (hE : rE F1 L0 SH E) (e1 : ∀ c k, ¬ (c = 121 ∧ k = 93) → F1 c k = F0 c k) (hx : mx q.2 x y F1 F0) (h : RX12_value y n sl SH F1 L0 FR v1 (n1, sl1, S1, I1, J1, R1)) (h2 : RX12_meansFinished n1 sl1 S1 I1 J1 R1 v2 (n2, sl2, S2, I2, J2, R2)) (e2 : st = (n2, sl2, S2, I2, J2, R2)) : mq_fin E S (mq_ps x q) = none ∨ ∃ S2 q2 F2 L2, mq_fin E S (mq_ps x q) = some (S2, q2) ∧ st = (n, sl, SH, F2, L2, FR) ∧ mh F2 L2 T t S2 q2 := by
  obtain ⟨F2, L2, r1, r2⟩ := mo_value2 (x := x) hS hh e1 hx h
  cases r1
  have hE2 := rE_mk hE (mk_st (kX12_value h) (by first | decide | (simp; done) | (simp [ms_0]; done)))
  rw [e2]
  exact mo_finished hS hE2 r2 h2
theorem mo_opd {v : Int32} (hS : h_S n SH) (hK : K T = 0) (hT : T ≤ 1001) (hg : tk_rg K W) (htk : mtk K W T FI FL) (hE : rE FI FL SH E) (hf : xfq E fb) (hh : mh FI FL T t S q) (h : RX12_meansOperand n sl SH FI FL FR v st) : mq_opd K W E fb t S q = none ∨ ∃ t1 a S2 q2 F2 L2, mq_opd K W E fb t S q = some (t1, a, S2, q2) ∧ st = (n, sl, SH, F2, L2, FR) ∧ mh F2 L2 T t1 S2 q2 ∧ (v.toInt = 0 ↔ a = true) := by
  obtain ⟨-, -, h⟩ := h
  have a1 := hh.1
  have et : (FI 121 92).toInt.toNat = t := by omega
  rw [et] at h
  obtain ⟨k1, k2⟩ := htk t a1.2
  have c4 : ((4 : Int32)).toInt = 4 := by first | decide | (simp; done) | (simp [ms_0]; done)
  have c5 : ((5 : Int32)).toInt = 5 := by first | decide | (simp; done) | (simp [ms_0]; done)
  have c45 : ((45 : Int64)).toInt = 45 := by first | decide | (simp; done) | (simp [ms_0]; done)
  have c126 : ((126 : Int64)).toInt = 126 := by first | decide | (simp; done) | (simp [ms_0]; done)
  -- what stands ahead
  have un : lc_uy (K t) (W t) = true → RX12_meansOperand_55 (FI 152 t) (FL 153 t) n sl SH FI FL FR v st → mq_opd K W E fb t S q = none ∨ ∃ t1 a S2 q2 F2 L2, mq_opd K W E fb t S q = some (t1, a, S2, q2) ∧ st = (n, sl, SH, F2, L2, FR) ∧ mh F2 L2 T t1 S2 q2 ∧ (v.toInt = 0 ↔ a = true) := by
    intro hu h
    have hk : K t ≠ 0 := fun e => by rw [e, lc_uy_k0] at hu; cases hu
    obtain ⟨F2, r1, r2, r3⟩ := mo_55 hS hT (lt_T hK a1.2 hk) hg htk hu hh h
    refine Or.inr ⟨t + 1, true, _, q, F2, FL, by unfold mq_opd; rw [if_pos hu], r1, r2, ?_⟩
    rw [r3]
    exact ⟨fun _ => rfl, fun _ => by first | decide | (simp; done) | (simp [ms_0]; done)⟩
  -- all else
  have re : ¬ (K t = 4 ∨ (K t = 5 ∧ (W t = 45 ∨ W t = 126))) → RX12_meansOperand_46 (FI 152 t) (FL 153 t) n sl SH FI FL FR v st → mq_opd K W E fb t S q = none ∨ ∃ t1 a S2 q2 F2 L2, mq_opd K W E fb t S q = some (t1, a, S2, q2) ∧ st = (n, sl, SH, F2, L2, FR) ∧ mh F2 L2 T t1 S2 q2 ∧ (v.toInt = 0 ↔ a = true) := by
    intro hnu h
    have ekw : (fX12_keepsWord (7 : Int32) SH FI FL FR).toInt = 0 ↔ ¬ (K t = 2 ∧ W t = 7) := by
      unfold fX12_keepsWord
      rw [et, k1, k2, show ((2 : Int32)).toInt = 2 by first | decide | (simp; done) | (simp [ms_0]; done), show (((7 : Int32)).toInt64).toInt = 7 by first | decide | (simp; done) | (simp [ms_0]; done)]
      by_cases g2 : K t = 2
      · rw [if_pos g2]
        by_cases g7 : W t = 7
        · rw [if_pos g7]
          exact ⟨fun e => absurd e (by first | decide | (simp; done) | (simp [ms_0]; done)), fun e => absurd ⟨g2, g7⟩ e⟩
        · rw [if_neg g7]
          exact ⟨fun _ e => g7 e.2, fun _ => by first | decide | (simp; done) | (simp [ms_0]; done)⟩
      · rw [if_neg g2]
        exact ⟨fun _ e => g2 e.1, fun _ => by first | decide | (simp; done) | (simp [ms_0]; done)⟩
    rcases h with ⟨hkw, h⟩ | ⟨hkw, h⟩
    · have hn7 := ekw.mp hkw
      have hu : ¬ lc_uy (K t) (W t) = true := fun e => by
        have e2 : K t = 4 ∨ (K t = 5 ∧ (W t = 45 ∨ W t = 126)) ∨ (K t = 2 ∧ W t = 7) := of_decide_eq_true e
        omega
      -- an atom
      have atom : ¬ (K t = 5 ∧ W t = 40) → RX12_meansOperand_144 (FI 152 t) (FL 153 t) n sl SH (h_up FI 121 92 (FI 121 92 + (1 : Int32))) FL FR v st → mq_opd K W E fb t S q = none ∨ ∃ t1 a S2 q2 F2 L2, mq_opd K W E fb t S q = some (t1, a, S2, q2) ∧ st = (n, sl, SH, F2, L2, FR) ∧ mh F2 L2 T t1 S2 q2 ∧ (v.toInt = 0 ↔ a = true) := by
        intro hp h
        by_cases hl : lc_at K W false t = none
        · exact Or.inl (by unfold mq_opd; rw [if_neg hu, if_neg hp, if_pos hl])
        cases hla : lc_at K W false t with
        | none => exact absurd hla hl
        | some pr =>
          obtain ⟨t1, c⟩ := pr
          have gl := lc_at_lt hK a1.2 hla
          have gi := lc_at_i hla
          have ht1 : t + 1 ≤ T := by omega
          have hh1 : mh (h_up FI 121 92 (FI 121 92 + (1 : Int32))) FL T (t + 1) S q := mh_t hh (mh_n hh hT) ht1
          have hE1 : rE (h_up FI 121 92 (FI 121 92 + (1 : Int32))) FL SH E := rE_mk hE (mk_f mk_rf (by omega))
          have htk1 : mtk K W T (h_up FI 121 92 (FI 121 92 + (1 : Int32))) FL := mt_mk htk (mk_f mk_rf (by omega))
          have e92 : ((h_up FI 121 92 (FI 121 92 + (1 : Int32))) 121 92).toInt.toNat = t + 1 := by have := hh1.1; omega
          generalize h_up FI 121 92 (FI 121 92 + (1 : Int32)) = FA at h hh1 hE1 htk1 e92
          -- the end
          have fin : ∀ {x : xX} {t2 : Nat} {F9 : Nat → Nat → Int32} {L9 : Nat → Nat → Int64}, mq_at K W E fb t = (t2, x) → v = 1 → (mq_fin E S (mq_ps x q) = none ∨ ∃ S2 q2 F2 L2, mq_fin E S (mq_ps x q) = some (S2, q2) ∧ st = (n, sl, SH, F2, L2, FR) ∧ mh F2 L2 T t2 S2 q2) → mq_opd K W E fb t S q = none ∨ ∃ t1 a S2 q2 F2 L2, mq_opd K W E fb t S q = some (t1, a, S2, q2) ∧ st = (n, sl, SH, F2, L2, FR) ∧ mh F2 L2 T t1 S2 q2 ∧ (v.toInt = 0 ↔ a = true) := by
            intro x t2 F9 L9 em ev hc
            have eo : mq_opd K W E fb t S q = match mq_fin E S (mq_ps x q) with
                | none => none
                | some r => some (t2, false, r) := by
              unfold mq_opd
              rw [if_neg hu, if_neg hp, if_neg hl, em]
              (try rfl)
            rw [eo]
            rcases hc with hc | ⟨S2, q2, F2, L2, r1, r2, r3⟩
            · rw [hc]
              exact Or.inl rfl
            · rw [r1]
              refine Or.inr ⟨t2, false, S2, q2, F2, L2, rfl, r2, r3, ?_⟩
              rw [ev]
              exact ⟨fun e => absurd e (by first | decide | (simp; done) | (simp [ms_0]; done)), fun e => by cases e⟩
          have same : ∀ c k, ¬ (c = 121 ∧ k = 93) → FA c k = FA c k := fun _ _ _ => rfl
          have c3 : ((3 : Int32)).toInt = 3 := by first | decide | (simp; done) | (simp [ms_0]; done)
          have noth : ∀ {x : xX} {y : Int64}, (q.2 = .inr true → x = .inr y) → mx q.2 x y FA FA := by
            intro x y hx
            obtain ⟨V, m⟩ := q
            match m, hx with
            | .inr true, hx =>
              rw [hx rfl]
              exact (show y = y ∧ FA 121 93 = FA 121 93 from ⟨rfl, rfl⟩)
            | .inr false, _ => exact (show FA 121 93 = FA 121 93 from rfl)
            | .inl e, _ => exact (show FA 121 93 = FA 121 93 from rfl)
          have flt : ∀ {x : xX} {y : Int64} {w : Int32} {e : Int}, q.2 = .inr true → x = .inl e → w.toInt = e → e ≠ 0 → mx q.2 x y (h_up FA 121 93 w) FA := by
            intro x y w e hm hx hw he
            rw [hm, hx]
            exact (show ((h_up FA 121 93 w) 121 93).toInt = e ∧ e ≠ 0 from ⟨by rw [h_up_eq]; exact hw, he⟩)
          have hmm : mm FA q.2 := hh1.2.2.2.2.2
          have doe : (fX12_does SH FA FL FR).toInt = 0 ↔ q.2 ≠ .inr true := mh_does hmm
          unfold RX12_meansOperand_144 at h
          rw [k1, c3] at h
          rcases h with ⟨h3, h⟩ | ⟨h3, h⟩
          · -- a number
            obtain ⟨v1, n1, sl1, SH1, FI1, FL1, FR1, hv, v2, n2, sl2, SH2, FI2, FL2, FR2, h2, e1, e2⟩ := h
            have em : mq_at K W E fb t = (t + 1, .inr (FL 153 t)) := by
              unfold mq_at
              rw [if_pos h3, ← k2, l_oi]
            exact fin (F9 := FA) (L9 := FL) em e1 (mo_vf2 hS hh1 hE1 same (noth (fun _ => rfl)) hv h2 e2)
          rw [c5] at h
          rcases h with ⟨h5, h⟩ | ⟨h5, h⟩
          · -- % r
            have g37 : W t = 37 ∧ K (t + 1) = 3 ∧ W (t + 1) ≤ 31 := by omega
            obtain ⟨-, -, v1, n1, sl1, SH1, FI1, FL1, FR1, hv, v2, n2, sl2, SH2, FI2, FL2, FR2, h2, e1, e2⟩ := h
            rw [e92] at hv
            have hr := (hg (t + 1)).1 g37.2.1
            have kw := (htk1 (t + 1) ht1).2
            have ki : ((FL 153 (t + 1)).toInt32).toInt = W (t + 1) := l_2i kw (by omega) (by omega)
            have ht2 : t + 2 ≤ T := lt_T hK ht1 (by omega)
            rw [ki, hE1.1 _ (by omega)] at hv
            have em : mq_at K W E fb t = (t + 2, .inr (ms_rg E (W (t + 1)).toNat)) := by
              unfold mq_at
              rw [if_neg h3, if_pos h5]
            obtain ⟨F2, L2, r1, r2⟩ := mo_value2 (x := .inr (ms_rg E (W (t + 1)).toNat)) hS hh1 same (noth (fun _ => rfl)) hv
            cases r1
            have hE2 := rE_mk hE1 (mk_st (kX12_value hv) (by first | decide | (simp; done) | (simp [ms_0]; done)))
            refine fin (F9 := FA) (L9 := FL) em e1 ?_
            rw [e2]
            exact mo_finished hS (rE_mk hE2 (mk_f mk_rf (by omega))) (mh_t r2 (mh_n r2 hT) ht2) h2
          have hk2 : K t = 2 := by omega
          rw [k2, show ((5 : Int64)).toInt = 5 by first | decide | (simp; done) | (simp [ms_0]; done)] at h
          rcases h with ⟨h6, h⟩ | ⟨h6, h⟩
          · -- cfa
            have em : mq_at K W E fb t = (t + 1, x_cfa E) := by
              unfold mq_at
              rw [if_neg h3, if_neg h5, if_pos h6]
            obtain ⟨f1, f2, f3⟩ := hE1.2.2.2.2.1
            have cm : ((-1 : Int32)).toInt = -1 := by first | decide | (simp; done) | (simp [ms_0]; done)
            have val : ¬ ms_cr E = -1 → FL 122 (FA 121 6).toInt.toNat + FL 121 7 = ms_rg E (ms_cr E).toNat + ms_co E := fun hc => by
              rw [f1, hE1.1 _ (by omega), hE1.2.2.2.2.2.1]
            -- 223
            have s223 : ∀ F1 : Nat → Nat → Int32, rE F1 FL SH E → (∀ c k, ¬ (c = 121 ∧ k = 93) → F1 c k = FA c k) → (∀ y, (ms_cr E = -1 → y = 0) → (¬ ms_cr E = -1 → y = ms_rg E (ms_cr E).toNat + ms_co E) → mx q.2 (x_cfa E) y F1 FA) → RX12_meansOperand_223 n sl SH F1 FL FR v st → mq_opd K W E fb t S q = none ∨ ∃ t1 a S2 q2 F2 L2, mq_opd K W E fb t S q = some (t1, a, S2, q2) ∧ st = (n, sl, SH, F2, L2, FR) ∧ mh F2 L2 T t1 S2 q2 ∧ (v.toInt = 0 ↔ a = true) := by
              intro F1 hEF e1 hx h
              have e6 : F1 121 6 = FA 121 6 := e1 121 6 (by first | decide | (simp; done) | (simp [ms_0]; done))
              rcases h with ⟨g, h⟩ | ⟨g, h⟩
              · rw [e6, f1, cm] at g
                obtain ⟨v1, n1, sl1, SH1, FI1, FL1, FR1, hv, v2, n2, sl2, SH2, FI2, FL2, FR2, h2, e3, e4⟩ := h
                exact fin (F9 := FA) (L9 := FL) em e3 (mo_vf2 hS hh1 hEF e1 (hx _ (fun _ => rfl) (fun e => absurd g e)) hv h2 e4)
              · rw [e6, f1, cm] at g
                obtain ⟨-, v1, n1, sl1, SH1, FI1, FL1, FR1, hv, v2, n2, sl2, SH2, FI2, FL2, FR2, h2, e3, e4⟩ := h
                rw [e6] at hv
                exact fin (F9 := FA) (L9 := FL) em e3 (mo_vf2 hS hh1 hEF e1 (hx _ (fun e => absurd e g) (fun _ => val g)) hv h2 e4)
            rcases h with ⟨d, h⟩ | ⟨d, h⟩
            · have d := doe.mp d
              exact s223 FA hE1 same (fun y _ _ => noth (fun e => absurd e d)) h
            · have d : q.2 = .inr true := Classical.byContradiction (fun e => d (doe.mpr e))
              rcases h with ⟨g, h⟩ | ⟨g, h⟩
              · rw [f1, cm] at g
                refine s223 _ (rE_mk hE1 (mk_f mk_rf (by omega))) (fun c k hn => h_up_x hn) (fun y _ _ => flt (e := 11) d ?_ (by first | decide | (simp; done) | (simp [ms_0]; done)) (by first | decide | (simp; done) | (simp [ms_0]; done))) h
                unfold x_cfa
                rw [if_pos g]
              · rw [f1, cm] at g
                refine s223 FA hE1 same (fun y _ hy => noth (fun _ => ?_)) h
                unfold x_cfa
                rw [if_neg g, hy g]
          rw [show ((6 : Int64)).toInt = 6 by first | decide | (simp; done) | (simp [ms_0]; done)] at h
          rcases h with ⟨h7, h⟩ | ⟨h7, h⟩
          · -- obj
            have em : mq_at K W E fb t = (t + 1, x_obj E) := by
              unfold mq_at
              rw [if_neg h3, if_neg h5, if_neg h6, if_pos h7]
            rcases h with ⟨d, h⟩ | ⟨d, h⟩
            · have d := doe.mp d
              obtain ⟨v1, n1, sl1, SH1, FI1, FL1, FR1, hv, v2, n2, sl2, SH2, FI2, FL2, FR2, h2, e3, e4⟩ := h
              exact fin (F9 := FA) (L9 := FL) em e3 (mo_vf2 hS hh1 hE1 same (noth (fun e => absurd e d)) hv h2 e4)
            · have d : q.2 = .inr true := Classical.byContradiction (fun e => d (doe.mpr e))
              rcases hE1.2.2.2.2.2.2.1 with ⟨o1, o2⟩ | ⟨o1, o2⟩
              · obtain ⟨v1, n1, sl1, SH1, FI1, FL1, FR1, hv, v2, n2, sl2, SH2, FI2, FL2, FR2, h2, e3, e4⟩ := P_p h o1
                refine fin (F9 := FA) (L9 := FL) em e3 (mo_vf2 hS hh1 (rE_mk hE1 (mk_f mk_rf (by omega))) (fun c k hn => h_up_x hn) (flt (e := 11) d ?_ (by first | decide | (simp; done) | (simp [ms_0]; done)) (by first | decide | (simp; done) | (simp [ms_0]; done))) hv h2 e4)
                unfold x_obj
                rw [o2]
              · obtain ⟨v1, n1, sl1, SH1, FI1, FL1, FR1, hv, v2, n2, sl2, SH2, FI2, FL2, FR2, h2, e3, e4⟩ := P_n h o1
                refine fin (F9 := FA) (L9 := FL) em e3 (mo_vf2 hS hh1 hE1 same (noth (fun _ => ?_)) hv h2 e4)
                unfold x_obj
                rw [o2]
          · -- fb
            have em : mq_at K W E fb t = (t + 1, fb) := by
              unfold mq_at
              rw [if_neg h3, if_neg h5, if_neg h6, if_neg h7]
            rcases h with ⟨d, h⟩ | ⟨d, h⟩
            · have d := doe.mp d
              obtain ⟨v1, n1, sl1, SH1, FI1, FL1, FR1, hv, v2, n2, sl2, SH2, FI2, FL2, FR2, h2, e3, e4⟩ := h
              exact fin (F9 := FA) (L9 := FL) em e3 (mo_vf2 hS hh1 hE1 same (noth (fun e => absurd e d)) hv h2 e4)
            · have d : q.2 = .inr true := Classical.byContradiction (fun e => d (doe.mpr e))
              obtain ⟨v0, n0, sl0, SH0, FI0, FL0, FR0, hb, v1, n1, sl1, SH1, FI1, FL1, FR1, hv, v2, n2, sl2, SH2, FI2, FL2, FR2, h2, e3, e4⟩ := h
              have hq : q = (q.1, .inr true) := by rw [← d]
              rw [hq] at hh1
              obtain ⟨F5, F6, L6, b1, b2, b3, b4, b5⟩ := mo_bases2 hS hE1 hf hh1 hb
              cases b1
              rw [← hq] at b2
              refine fin (F9 := FA) (L9 := FL) em e3 (mo_vf2 hS b2 b3 b4 ?_ hv h2 e4)
              rw [d]
              exact b5
      rw [k1, c5] at h
      rcases h with ⟨h5, h⟩ | ⟨h5, h⟩
      · rw [k2, show ((40 : Int64)).toInt = 40 by first | decide | (simp; done) | (simp [ms_0]; done)] at h
        rcases h with ⟨h40, h⟩ | ⟨h40, h⟩
        · obtain ⟨v1, n1, sl1, SH1, FI1, FL1, FR1, hl, e1, e2⟩ := h
          have ht1 : t + 1 ≤ T := lt_T hK a1.2 (by omega)
          obtain ⟨F4, r4, r5⟩ := mo_later (w1 := false) (w2 := false) hS (mh_t hh (mh_n hh hT) ht1) (by first | decide | (simp; done) | (simp [ms_0]; done)) (by first | decide | (simp; done) | (simp [ms_0]; done)) (fun e => absurd e (by first | decide | (simp; done) | (simp [ms_0]; done))) hl
          cases r4
          rw [show ((-1 : Int32)).toInt = -1 by first | decide | (simp; done) | (simp [ms_0]; done), show ((0 : Int32)).toInt = 0 by first | decide | (simp; done) | (simp [ms_0]; done)] at r5
          refine Or.inr ⟨t + 1, true, _, q, _, _, by unfold mq_opd; rw [if_neg hu, if_pos ⟨h5, h40⟩], e2, r5, ?_⟩
          rw [e1]
          exact ⟨fun _ => rfl, fun _ => by first | decide | (simp; done) | (simp [ms_0]; done)⟩
        · exact atom (fun e => h40 e.2) h
      · exact atom (fun e => h5 e.1) h
    · have h7 : K t = 2 ∧ W t = 7 := Classical.byContradiction (fun e => hkw (ekw.mpr e))
      exact un (decide_eq_true (Or.inr (Or.inr h7))) h
  rw [k1, c4] at h
  rcases h with ⟨h4, h⟩ | ⟨h4, h⟩
  · exact un (decide_eq_true (Or.inl h4)) h
  rw [c5] at h
  rcases h with ⟨h5, h⟩ | ⟨h5, h⟩
  · rw [k2, c45] at h
    rcases h with ⟨h45, h⟩ | ⟨h45, h⟩
    · exact un (decide_eq_true (Or.inr (Or.inl ⟨h5, Or.inl h45⟩))) h
    rw [c126] at h
    rcases h with ⟨h126, h⟩ | ⟨h126, h⟩
    · exact un (decide_eq_true (Or.inr (Or.inl ⟨h5, Or.inr h126⟩))) h
    · exact re (by omega) h
  · exact re (by omega) h
end MP
end
section
/-! THE REFERENCE'S MEANINGS: operators, whole expressions. -/
section MS
variable {n sl : Nat} {SH : Nat → Nat × Nat} {FI F2 F3 : Nat → Nat → Int32} {FL L2 L3 : Nat → Nat → Int64} {FR : Nat → Nat → Option Nat} {st : hS} {E : ms_E} {fb : xX} {u : Unit} {K W : Nat → Int} {T t : Nat} {S : List mq_E} {q : mq_Q} {m m2 : Int ⊕ Bool} {V R : List (Option Int64)}
/-- what an operator has done -/
def mo_c (K W : Nat → Int) (E : ms_E) (n sl : Nat) (SH : Nat → Nat × Nat) (FR : Nat → Nat → Option Nat) (T t : Nat) (S : List mq_E) (q : mq_Q) (v : Int32) (st : hS) : Prop := mq_opr K W E t S q = none ∨ (∃ t1 a S2 q2 F2 L2, mq_opr K W E t S q = some (.inl (t1, a, S2, q2)) ∧ st = (n, sl, SH, F2, L2, FR) ∧ mh F2 L2 T t1 S2 q2 ∧ v = 1 ∧ ((F2 121 91).toInt = 0 ↔ a = true)) ∨ (∃ q2 S2 F2 L2, mq_opr K W E t S q = some (.inr (t, q2)) ∧ st = (n, sl, SH, F2, L2, FR) ∧ v = 0 ∧ mh F2 L2 T t S2 q2)
theorem mo_sgn {a : Int32} {A : Int} (ha : a.toInt = A) (et : (FI 121 92).toInt.toNat = t) (k1 : (FI 152 t).toInt = K t) (k2 : (FL 153 t).toInt = W t) : (fX12_keepsSign a SH FI FL FR).toInt = 0 ↔ ¬ (K t = 5 ∧ W t = A) := by
  unfold fX12_keepsSign
  rw [et, k1, k2, show ((5 : Int32)).toInt = 5 by first | decide | (simp; done) | (simp [ms_0]; done), i_2l ha]
  by_cases g2 : K t = 5
  · rw [if_pos g2]
    by_cases g7 : W t = A
    · rw [if_pos g7]
      exact ⟨fun e => absurd e (by first | decide | (simp; done) | (simp [ms_0]; done)), fun e => absurd ⟨g2, g7⟩ e⟩
    · rw [if_neg g7]
      exact ⟨fun _ e => g7 e.2, fun _ => by first | decide | (simp; done) | (simp [ms_0]; done)⟩
  · rw [if_neg g2]
    exact ⟨fun _ e => g2 e.1, fun _ => by first | decide | (simp; done) | (simp [ms_0]; done)⟩
/-- a sign between two -/
theorem mo_cb {a1 a2 v v1 : Int32} {n1 sl1 : Nat} {SH1 : Nat → Nat × Nat} {FI1 : Nat → Nat → Int32} {FL1 : Nat → Nat → Int64} {FR1 : Nat → Nat → Option Nat} {b : Int} (hS : h_S n SH) (hK : K T = 0) (hT : T ≤ 1001) (h91 : (FI 121 91).toInt = 0) (hh : mh FI FL T t S q) (hb : au_bn (K t) (W t) = b) (hb0 : b ≠ 0) (h1 : a1.toInt = lc_op (K t) (W t)) (h2 : a2.toInt = b) (h : RX12_meansBinary a1 a2 n sl SH FI FL FR v1 (n1, sl1, SH1, FI1, FL1, FR1)) (e1 : v = v1) (e2 : st = (n1, sl1, SH1, FI1, FL1, FR1)) : mo_c K W E n sl SH FR T t S q v st := by
  have hr := au_bn_rg (K t) (W t)
  have hk : K t ≠ 0 := fun e => by rw [e, au_bn_k0] at hb; exact hb0 hb.symm
  have eo : mq_opr K W E t S q = match mq_rd b S q with
      | none => none
      | some r => some (.inl (t + 1, true, (b, lc_op (K t) (W t), false, false) :: r.1, r.2)) := by
    unfold mq_opr
    rw [if_neg (by rw [hb]; exact hb0), hb]
    first | rfl | (cases mq_rd b S q <;> rfl)
  unfold mo_c
  rw [eo]
  have f91 : FI1 121 91 = FI 121 91 := kq_fld (c := 121) (k := 91) (kX12_meansBinary h) (by first | decide | (simp; done) | (simp [ms_0]; done))
  rcases mo_bin hS hT (lt_T hK hh.1.2 hk) h1 h2 (by omega) (by omega) hh h with hn | ⟨S2, q2, F2, L2, r1, r2, r3, r4⟩
  · rw [hn]
    exact Or.inl rfl
  · rw [r1]
    first | (obtain ⟨zz1, zz2, zz3, zz4, zz5, zz6⟩ := st_c r3; (try subst zz1); (try subst zz2); (try subst zz3); (try subst zz4); (try subst zz5); (try subst zz6)) | cases r3
    exact Or.inr (Or.inl ⟨t + 1, true, _, q2, F2, L2, rfl, e2, r4, e1.trans r2, ⟨fun _ => rfl, fun _ => by rw [f91]; exact h91⟩⟩)
/-- a question -/
theorem mo_ask {x : Option Int64} {b : Bool} {F9 : Nat → Nat → Int32} (hh : mh FI FL T t S (x :: R, m)) (ht : t + 1 ≤ T) (f92 : (F9 121 92).toInt = ((t + 1 : Nat) : Int)) (f90 : (F9 121 90).toInt = (S.length : Int) + 1) (hl : S.length < 256) (f101 : (F9 121 101).toInt = (R.length : Int)) (f93 : F9 121 93 = FI 121 93) (f166 : (F9 166 S.length).toInt = -2) (f165 : (F9 165 S.length).toInt = 0) (f174 : F9 174 S.length = vp_nar .boolean (FI 121 104)) (f175 : F9 175 S.length = bi b) (f104 : F9 121 104 = 0 ∨ F9 121 104 = 1) (hs : b = false ↔ (FL 173 R.length).toInt = 0) (h104 : (F9 121 104).toInt = 0 ↔ ((FI 121 104).toInt = 0 ∨ (FL 173 R.length).toInt = 0)) (fr : ∀ r i, (r = 165 ∨ r = 166 ∨ r = 174 ∨ r = 175) → i < S.length → F9 r i = FI r i) : mq_as (x :: R, m) = none ∨ ∃ q2 wl so, mq_as (x :: R, m) = some (q2, wl, so) ∧ mh F9 FL T (t + 1) ((-2, 0, wl, so) :: S) q2 := by
  obtain ⟨a1, a2, a3, a4, a5, a6⟩ := hh
  have hV : (x :: R).length ≤ 512 := a4.2
  simp only [List.length_cons] at hV
  have gen : ∀ (m2 : Int ⊕ Bool) (wl so : Bool), (∀ b2, m2 = .inr b2 → ∃ b3, m = .inr b3) → (∀ b2, m2 = .inr b2 → F9 174 S.length = bi wl ∧ (wl = true → F9 175 S.length = bi so)) → mm F9 m2 → mh F9 FL T (t + 1) ((-2, 0, wl, so) :: S) (R, m2) := by
    intro m2 wl so hm he hmm
    exact ⟨⟨f92, ht⟩, ⟨by rw [f90]; simp only [List.length_cons]; omega, by simp only [List.length_cons]; omega⟩, ⟨⟨f166, f165, fun e => absurd (show (-2 : Int) = 9 from e) (by first | decide | (simp; done) | (simp [ms_0]; done)), fun _ b2 hb2 => he b2 hb2⟩, lv_me a3 fr hm⟩, ⟨f101, by show R.length ≤ 512; omega⟩, a5.2, hmm⟩
  match m, a6, gen with
  | .inl e, a6, gen =>
    refine Or.inr ⟨(R, .inl e), false, false, rfl, gen _ _ _ mm_inl (fun b2 h2 => by cases h2) ⟨by rw [f93]; exact a6.1, a6.2⟩⟩
  | .inr false, a6, gen =>
    have l0 : FI 121 104 = bi false := a6.2
    have z : F9 121 104 = bi false := by
      rcases f104 with f | f
      · exact f
      · have := h104.mpr (Or.inl (by rw [l0]; (first | decide | (simp; done) | (simp [ms_0]; done))))
        rw [f] at this
        exact absurd this (by first | decide | (simp; done) | (simp [ms_0]; done))
    refine Or.inr ⟨(R, .inr false), false, false, rfl, gen _ _ _ (fun b2 _ => ⟨false, rfl⟩) (fun b2 _ => ⟨by rw [f174, l0]; exact bi_n, fun e => by cases e⟩) ⟨by rw [f93]; exact a6.1, z⟩⟩
  | .inr true, a6, gen =>
    cases x with
    | none => exact Or.inl rfl
    | some v =>
      have l0 : FI 121 104 = bi true := a6.2
      have ev : FL 173 R.length = v := a5.1 v rfl
      rw [ev] at hs h104
      have hb : b = decide (v.toInt ≠ 0) := by
        by_cases hv : v.toInt = 0
        · rw [hs.mpr hv, decide_eq_false (fun e => e hv)]
        · rw [decide_eq_true hv]
          cases b with
          | true => rfl
          | false => exact absurd (hs.mp rfl) hv
      have z : F9 121 104 = bi (decide (v.toInt ≠ 0)) := by
        by_cases hv : v.toInt = 0
        · rw [decide_eq_false (fun e => e hv)]
          rcases f104 with f | f
          · exact f
          · have := h104.mpr (Or.inr hv)
            rw [f] at this
            exact absurd this (by first | decide | (simp; done) | (simp [ms_0]; done))
        · rw [decide_eq_true hv]
          rcases f104 with f | f
          · exfalso
            have := h104.mp (by rw [f]; (first | decide | (simp; done) | (simp [ms_0]; done)))
            rcases this with h | h
            · rw [l0] at h
              exact absurd h (by first | decide | (simp; done) | (simp [ms_0]; done))
            · exact hv h
          · exact f
      exact Or.inr ⟨(R, .inr (decide (v.toInt ≠ 0))), true, decide (v.toInt ≠ 0), rfl, gen _ _ _ (fun b2 _ => ⟨true, rfl⟩) (fun b2 _ => ⟨by rw [f174, l0]; exact bi_n, fun _ => by rw [f175, hb]⟩) ⟨by rw [f93]; exact a6.1, z⟩⟩
theorem mo_opr {v : Int32} (hS : h_S n SH) (hK : K T = 0) (hT : T ≤ 1001) (htk : mtk K W T FI FL) (hE : rE FI FL SH E) (h91 : (FI 121 91).toInt = 0) (hh : mh FI FL T t S q) (h : RX12_meansOperator n sl SH FI FL FR v st) : mo_c K W E n sl SH FR T t S q v st := by
  obtain ⟨-, -, h⟩ := h
  have a1 := hh.1
  have et : (FI 121 92).toInt.toNat = t := by omega
  rw [et] at h
  obtain ⟨k1, k2⟩ := htk t a1.2
  have cm : ((-1 : Int32)).toInt = -1 := by first | decide | (simp; done) | (simp [ms_0]; done)
  have c5 : ((5 : Int32)).toInt = 5 := by first | decide | (simp; done) | (simp [ms_0]; done)
  have w := lc_op_ok (K t) (W t)
  have hr := au_bn_rg (K t) (W t)
  -- a sum
  have s64 : K t = 5 → (W t = 43 ∨ W t = 45) → RX12_meansOperator_64 (FL 153 t) n sl SH FI FL FR v st → mo_c K W E n sl SH FR T t S q v st := by
    intro h5 hw h
    have hb := au_bn_6.mpr ⟨h5, hw⟩
    unfold RX12_meansOperator_64 at h
    rw [k2, show ((43 : Int64)).toInt = 43 by first | decide | (simp; done) | (simp [ms_0]; done)] at h
    rcases h with ⟨g, h⟩ | ⟨g, h⟩
    · obtain ⟨v1, n1, sl1, SH1, FI1, FL1, FR1, hc, e1, e2⟩ := h
      refine mo_cb hS hK hT h91 hh hb (by first | decide | (simp; done) | (simp [ms_0]; done)) ?_ (by first | decide | (simp; done) | (simp [ms_0]; done)) hc e1 e2
      unfold lc_op
      rw [if_neg (by omega), if_neg (by omega), if_pos g]
      decide
    · obtain ⟨v1, n1, sl1, SH1, FI1, FL1, FR1, hc, e1, e2⟩ := h
      refine mo_cb hS hK hT h91 hh hb (by first | decide | (simp; done) | (simp [ms_0]; done)) ?_ (by first | decide | (simp; done) | (simp [ms_0]; done)) hc e1 e2
      unfold lc_op
      rw [if_neg (by omega), if_neg (by omega), if_neg g, if_pos (by omega)]
      decide
  -- the rest
  have s86 : au_bn (K t) (W t) ≠ 7 → au_bn (K t) (W t) ≠ 6 → RX12_meansOperator_86 (FI 152 t) (FL 153 t) n sl SH FI FL FR v st → mo_c K W E n sl SH FR T t S q v st := by
    intro n7 n6 h
    rcases h with ⟨g5, h⟩ | ⟨g5, h⟩
    · rw [tk_shf, k1, k2, cm] at g5
      have n5 : au_bn (K t) (W t) ≠ 5 := fun e => by rw [if_pos e] at g5; omega
      rcases h with ⟨g4, h⟩ | ⟨g4, h⟩
      · rw [tk_cmp, k1, k2, cm] at g4
        have n4 : au_bn (K t) (W t) ≠ 4 := fun e => by rw [if_pos e] at g4; omega
        rcases h with ⟨g3, h⟩ | ⟨g3, h⟩
        · rw [mo_sgn (A := 38) (by first | decide | (simp; done) | (simp [ms_0]; done)) et k1 k2] at g3
          have n3 : au_bn (K t) (W t) ≠ 3 := fun e => g3 (au_bn_3.mp e)
          rcases h with ⟨g2, h⟩ | ⟨g2, h⟩
          · rw [mo_sgn (A := 94) (by first | decide | (simp; done) | (simp [ms_0]; done)) et k1 k2] at g2
            have n2 : au_bn (K t) (W t) ≠ 2 := fun e => g2 (au_bn_2.mp e)
            rcases h with ⟨g1, h⟩ | ⟨g1, h⟩
            · rw [mo_sgn (A := 124) (by first | decide | (simp; done) | (simp [ms_0]; done)) et k1 k2] at g1
              have n1 : au_bn (K t) (W t) ≠ 1 := fun e => g1 (au_bn_1.mp e)
              have hb0 := au_bn_0 n7 n6 n5 n4 n3 n2 n1
              rcases h with ⟨g0, h⟩ | ⟨g0, h⟩
              · rw [mo_sgn (A := 63) (by first | decide | (simp; done) | (simp [ms_0]; done)) et k1 k2] at g0
                -- an end
                obtain ⟨v12, n12, sl12, SH12, FI12, FL12, FR12, ha, h⟩ := h
                have eo : mq_opr K W E t S q = match mq_all S q with
                    | none => none
                    | some r => mq_end K W E t r := by
                  unfold mq_opr
                  rw [if_pos hb0, if_neg g0]
                  first | rfl | (cases mq_all S q <;> rfl)
                unfold mo_c
                rw [eo]
                have ka := kX12_meansReducedAll ha
                have f91 : FI12 121 91 = FI 121 91 := kq_fld (c := 121) (k := 91) ka (by first | decide | (simp; done) | (simp [ms_0]; done))
                rcases mo_all hh ha with hn | ⟨S2, q2, F2, L2, r1, r2, r3⟩
                · rw [hn]
                  exact Or.inl rfl
                · rw [r1]
                  first | (obtain ⟨zz1, zz2, zz3, zz4, zz5, zz6⟩ := st_c r2; (try subst zz1); (try subst zz2); (try subst zz3); (try subst zz4); (try subst zz5); (try subst zz6)) | cases r2
                  have mk2 : mk FI FL F2 L2 := mk_st ka (by first | decide | (simp; done) | (simp [ms_0]; done))
                  have htk2 := mt_mk htk mk2
                  have hE2 := rE_mk hE mk2
                  obtain ⟨k3, k4⟩ := htk2 t a1.2
                  have et2 : (F2 121 92).toInt.toNat = t := by have := r3.1; omega
                  have htop := mh_top (SH := SH) (FR := FR) r3
                  -- no end of the walk but by a bracket
                  have s383 : ¬ (K t = 5 ∧ W t = 58 ∧ mq_top S2 = -2) → RX12_meansOperator_383 n sl SH F2 L2 FR v st → mq_end K W E t (S2, q2) = none ∨ (∃ t1 a S3 q3 F3 L3, mq_end K W E t (S2, q2) = some (.inl (t1, a, S3, q3)) ∧ st = (n, sl, SH, F3, L3, FR) ∧ mh F3 L3 T t1 S3 q3 ∧ v = 1 ∧ ((F3 121 91).toInt = 0 ↔ a = true)) ∨ (∃ q3 S3 F3 L3, mq_end K W E t (S2, q2) = some (.inr (t, q3)) ∧ st = (n, sl, SH, F3, L3, FR) ∧ v = 0 ∧ mh F3 L3 T t S3 q3) := by
                    intro hn58 h
                    have stop : ¬ (K t = 5 ∧ W t = 41 ∧ mq_top S2 = -1) → mq_end K W E t (S2, q2) = some (.inr (t, q2)) := by
                      intro hn41
                      cases S2 with
                      | nil => rfl
                      | cons e S3 =>
                        show (if K t = 5 ∧ W t = 58 ∧ e.1 = -2 then _ else if K t = 5 ∧ W t = 41 ∧ e.1 = -1 then _ else some (Sum.inr (t, q2))) = _
                        rw [if_neg (show ¬ (K t = 5 ∧ W t = 58 ∧ e.1 = -2) from hn58), if_neg (show ¬ (K t = 5 ∧ W t = 41 ∧ e.1 = -1) from hn41)]
                    rcases h with ⟨g41, e1, e2⟩ | ⟨g41, h⟩
                    · rw [mo_sgn (A := 41) (by first | decide | (simp; done) | (simp [ms_0]; done)) et2 k3 k4] at g41
                      exact Or.inr (Or.inr ⟨q2, S2, F2, L2, stop (fun e => g41 ⟨e.1, e.2.1⟩), e2, e1, r3⟩)
                    · have g41 : K t = 5 ∧ W t = 41 := Classical.byContradiction (fun e => g41 ((mo_sgn (A := 41) (by first | decide | (simp; done) | (simp [ms_0]; done)) et2 k3 k4).mpr e))
                      rw [htop, cm] at h
                      rcases h with ⟨g, h⟩ | ⟨g, e1, e2⟩
                      · cases S2 with
                        | nil => exact absurd (show (-11 : Int) = -1 from g) (by first | decide | (simp; done) | (simp [ms_0]; done))
                        | cons e S3 =>
                          have g : e.1 = -1 := g
                          have ht1 : t + 1 ≤ T := lt_T hK a1.2 (by omega)
                          obtain ⟨v6, n6, sl6, SH6, FI6, FL6, FR6, hc, e1, e2⟩ := h
                          obtain ⟨b1, b2, b3, b4, b5, b6⟩ := id r3
                          have b2' := b2.1
                          simp only [List.length_cons] at b2'
                          have b2s := b2.2
                          simp only [List.length_cons] at b2s
                          have h90 : mh (h_up F2 121 90 (F2 121 90 - (1 : Int32))) L2 T t S3 q2 := by
                            refine ⟨⟨by rw [h_up_x (by first | decide | (simp; done) | (simp [ms_0]; done))]; exact b1.1, b1.2⟩, ⟨?_, by omega⟩, lv_me b3.2 (fun r i hr _ => by rw [h_up_nc (by omega)]) mm_id, by rw [h_up_x (by first | decide | (simp; done) | (simp [ms_0]; done))]; exact b4, b5, ?_⟩
                            · rw [h_up_eq, i_sub b2' (by first | decide | (simp; done) | (simp [ms_0]; done) : ((1 : Int32)).toInt = 1) (by omega) (by omega)]
                              omega
                            · unfold mm at b6 ⊢
                              rw [h_up_x (by first | decide | (simp; done) | (simp [ms_0]; done)), h_up_x (by first | decide | (simp; done) | (simp [ms_0]; done))]
                              exact b6
                          have h92 := mh_t (x := F2 121 92 + (1 : Int32)) h90 (mh_n r3 hT) ht1
                          have hE3 : rE (h_up (h_up F2 121 90 (F2 121 90 - (1 : Int32))) 121 92 (F2 121 92 + (1 : Int32))) L2 SH E := rE_mk hE2 (mk_f (mk_f mk_rf (by omega)) (by omega))
                          have ee : mq_end K W E t (e :: S3, q2) = match mq_fin E S3 q2 with
                              | none => none
                              | some r2 => some (.inl (t + 1, false, r2)) := by
                            show (if K t = 5 ∧ W t = 58 ∧ e.1 = -2 then _ else if K t = 5 ∧ W t = 41 ∧ e.1 = -1 then (match mq_fin E S3 q2 with
                              | none => none
                              | some r2 => some (Sum.inl (t + 1, false, r2))) else _) = _
                            rw [if_neg (show ¬ (K t = 5 ∧ W t = 58 ∧ e.1 = -2) from hn58), if_pos ⟨g41.1, g41.2, g⟩]
                          rw [ee]
                          rcases mo_finished hS hE3 h92 hc with hn | ⟨S4, q4, F4, L4, s1, s2, s3⟩
                          · rw [hn]
                            exact Or.inl rfl
                          · rw [s1]
                            cases s2
                            refine Or.inr (Or.inl ⟨t + 1, false, S4, q4, _, _, rfl, e2, mh_f s3 (by first | decide | (simp; done) | (simp [ms_0]; done)), e1, ?_⟩)
                            rw [h_up_eq]
                            exact ⟨fun e => absurd e (by first | decide | (simp; done) | (simp [ms_0]; done)), fun e => by cases e⟩
                      · exact Or.inr (Or.inr ⟨q2, S2, F2, L2, stop (fun e => g e.2.2), e2, e1, r3⟩)
                  rcases h with ⟨g58, h⟩ | ⟨g58, h⟩
                  · rw [mo_sgn (A := 58) (by first | decide | (simp; done) | (simp [ms_0]; done)) et2 k3 k4] at g58
                    exact s383 (fun e => g58 ⟨e.1, e.2.1⟩) h
                  · have g58 : K t = 5 ∧ W t = 58 := Classical.byContradiction (fun e => g58 ((mo_sgn (A := 58) (by first | decide | (simp; done) | (simp [ms_0]; done)) et2 k3 k4).mpr e))
                    rw [htop, show ((-2 : Int32)).toInt = -2 by first | decide | (simp; done) | (simp [ms_0]; done)] at h
                    rcases h with ⟨g, h⟩ | ⟨g, h⟩
                    · cases S2 with
                      | nil => exact absurd (show (-11 : Int) = -2 from g) (by first | decide | (simp; done) | (simp [ms_0]; done))
                      | cons e S3 =>
                        obtain ⟨e1, e2, wl, so⟩ := e
                        have g : e1 = -2 := g
                        subst g
                        have ht1 : t + 1 ≤ T := lt_T hK a1.2 (by omega)
                        obtain ⟨b1, b2, b3, b4, b5, b6⟩ := id r3
                        have b2' := b2.1
                        simp only [List.length_cons] at b2'
                        have b2s := b2.2
                        simp only [List.length_cons] at b2s
                        have k90 : (F2 121 90 - (1 : Int32)).toInt = (S3.length : Int) := by
                          rw [i_sub b2' (by first | decide | (simp; done) | (simp [ms_0]; done) : ((1 : Int32)).toInt = 1) (by omega) (by omega)]
                          omega
                        obtain ⟨-, -, h⟩ := h
                        rw [show (F2 121 90 - (1 : Int32)).toInt.toNat = S3.length by omega] at h
                        have hent := b3.1.2.2.2 (Or.inl rfl)
                        have hc0 := b3.1.2.1
                        have ee : mq_end K W E t ((-2, e2, wl, so) :: S3, q2) = some (.inl (t + 1, true, (-3, e2, wl, so) :: S3, mq_co wl so q2)) := by
                          show (if K t = 5 ∧ W t = 58 ∧ (-2 : Int) = -2 then _ else _) = _
                          rw [if_pos ⟨g58.1, g58.2, rfl⟩]
                        (try dsimp only)
                        rw [ee]
                        -- the end of all of them: x is the new live
                        have fin : ∀ x : Int32, (∀ b, q2.2 = .inr b → x = bi (wl && !so)) → v = 1 → st = (n, sl, SH, h_up (h_up (h_up F2 166 S3.length (-3 : Int32)) 121 104 x) 121 92 (F2 121 92 + (1 : Int32)), L2, FR) → (some (Sum.inl (t + 1, true, (-3, e2, wl, so) :: S3, mq_co wl so q2)) : Option (mq_S ⊕ (Nat × mq_Q))) = none ∨ (∃ t1 a S4 q4 F4 L4, (some (Sum.inl (t + 1, true, (-3, e2, wl, so) :: S3, mq_co wl so q2)) : Option (mq_S ⊕ (Nat × mq_Q))) = some (.inl (t1, a, S4, q4)) ∧ st = (n, sl, SH, F4, L4, FR) ∧ mh F4 L4 T t1 S4 q4 ∧ v = 1 ∧ ((F4 121 91).toInt = 0 ↔ a = true)) ∨ (∃ q4 S4 F4 L4, (some (Sum.inl (t + 1, true, (-3, e2, wl, so) :: S3, mq_co wl so q2)) : Option (mq_S ⊕ (Nat × mq_Q))) = some (.inr (t, q4)) ∧ st = (n, sl, SH, F4, L4, FR) ∧ v = 0 ∧ mh F4 L4 T t S4 q4) := by
                          intro x hx ev es
                          have h91' : (h_up (h_up (h_up F2 166 S3.length (-3 : Int32)) 121 104 x) 121 92 (F2 121 92 + (1 : Int32))) 121 91 = FI 121 91 := by rw [h_up_x (by first | decide | (simp; done) | (simp [ms_0]; done)), h_up_x (by first | decide | (simp; done) | (simp [ms_0]; done)), h_up_x (by first | decide | (simp; done) | (simp [ms_0]; done))]; exact f91
                          refine Or.inr (Or.inl ⟨t + 1, true, (-3, e2, wl, so) :: S3, mq_co wl so q2, _, L2, rfl, es, ?_, ev, ⟨fun _ => rfl, fun _ => by rw [h91']; exact h91⟩⟩)
                          have ent : ∀ (m2 : Int ⊕ Bool), (∀ b, m2 = .inr b → ∃ b2, q2.2 = .inr b2) → me (h_up (h_up (h_up F2 166 S3.length (-3 : Int32)) 121 104 x) 121 92 (F2 121 92 + (1 : Int32))) m2 S3.length (-3, e2, wl, so) := by
                            intro m2 hm2
                            refine ⟨?_, ?_, fun e => absurd (show (-3 : Int) = 9 from e) (by first | decide | (simp; done) | (simp [ms_0]; done)), fun _ b hb => ?_⟩
                            · rw [h_up_x (by first | decide | (simp; done) | (simp [ms_0]; done)), h_up_x (by first | decide | (simp; done) | (simp [ms_0]; done)), h_up_eq]
                              show ((-3 : Int32)).toInt = -3
                              decide
                            · rw [h_up_x (by first | decide | (simp; done) | (simp [ms_0]; done)), h_up_x (by first | decide | (simp; done) | (simp [ms_0]; done)), h_up_x (by first | decide | (simp; done) | (simp [ms_0]; done))]
                              exact hc0
                            · obtain ⟨b2, hb2⟩ := hm2 b hb
                              rw [h_up_x (by first | decide | (simp; done) | (simp [ms_0]; done)), h_up_x (by first | decide | (simp; done) | (simp [ms_0]; done)), h_up_x (by first | decide | (simp; done) | (simp [ms_0]; done)), h_up_x (by first | decide | (simp; done) | (simp [ms_0]; done)), h_up_x (by first | decide | (simp; done) | (simp [ms_0]; done)), h_up_x (by first | decide | (simp; done) | (simp [ms_0]; done))]
                              exact hent b2 hb2
                          have rest : ∀ (m2 : Int ⊕ Bool), (∀ b, m2 = .inr b → ∃ b2, q2.2 = .inr b2) → mm (h_up (h_up (h_up F2 166 S3.length (-3 : Int32)) 121 104 x) 121 92 (F2 121 92 + (1 : Int32))) m2 → mh (h_up (h_up (h_up F2 166 S3.length (-3 : Int32)) 121 104 x) 121 92 (F2 121 92 + (1 : Int32))) L2 T (t + 1) ((-3, e2, wl, so) :: S3) (q2.1, m2) := by
                            intro m2 hm2 hmm
                            exact ⟨⟨by rw [h_up_eq]; exact mh_n r3 hT, ht1⟩, ⟨by rw [h_up_x (by first | decide | (simp; done) | (simp [ms_0]; done)), h_up_x (by first | decide | (simp; done) | (simp [ms_0]; done)), h_up_x (by first | decide | (simp; done) | (simp [ms_0]; done))]; exact b2.1, b2.2⟩, ⟨ent m2 hm2, lv_me b3.2 (fun r i hr hi => by rw [h_up_x (by omega), h_up_x (by omega), h_up_x (by omega)]) hm2⟩, by rw [h_up_x (by first | decide | (simp; done) | (simp [ms_0]; done)), h_up_x (by first | decide | (simp; done) | (simp [ms_0]; done)), h_up_x (by first | decide | (simp; done) | (simp [ms_0]; done))]; exact b4, b5, hmm⟩
                          obtain ⟨V2, m2⟩ := q2
                          match m2, b6, hx, rest with
                          | .inl e9, b6, hx, rest => exact rest (.inl e9) mm_inl ⟨by rw [h_up_x (by first | decide | (simp; done) | (simp [ms_0]; done)), h_up_x (by first | decide | (simp; done) | (simp [ms_0]; done)), h_up_x (by first | decide | (simp; done) | (simp [ms_0]; done))]; exact b6.1, b6.2⟩
                          | .inr b9, b6, hx, rest => exact rest (.inr (wl && !so)) (fun b _ => ⟨b9, rfl⟩) ⟨by rw [h_up_x (by first | decide | (simp; done) | (simp [ms_0]; done)), h_up_x (by first | decide | (simp; done) | (simp [ms_0]; done)), h_up_x (by first | decide | (simp; done) | (simp [ms_0]; done))]; exact b6.1, by rw [h_up_x (by first | decide | (simp; done) | (simp [ms_0]; done)), h_up_eq]; exact hx b9 rfl⟩
                        rcases h with ⟨w1, e1, e2⟩ | ⟨w1, -, h⟩
                        · refine fin 0 (fun b hb => ?_) e1 e2
                          have := (hent b hb).1
                          (try dsimp only at this)
                          rw [this, bi_0] at w1
                          rw [w1]
                          rfl
                        · rcases h with ⟨w2, e1, e2⟩ | ⟨w2, e1, e2⟩
                          · refine fin 1 (fun b hb => ?_) e1 e2
                            obtain ⟨u1, u2⟩ := hent b hb
                            (try dsimp only at u1 u2)
                            rw [u1, bi_0] at w1
                            cases wl with
                            | false => exact absurd rfl w1
                            | true =>
                              rw [u2 rfl, bi_0] at w2
                              rw [w2]
                              rfl
                          · refine fin 0 (fun b hb => ?_) e1 e2
                            obtain ⟨u1, u2⟩ := hent b hb
                            (try dsimp only at u1 u2)
                            rw [u1, bi_0] at w1
                            cases wl with
                            | false => exact absurd rfl w1
                            | true =>
                              rw [u2 rfl, bi_0] at w2
                              cases so with
                              | false => exact absurd rfl w2
                              | true => rfl
                    · exact s383 (fun e => g e.2.2) h
              · have g0 : K t = 5 ∧ W t = 63 := Classical.byContradiction (fun e => g0 ((mo_sgn (A := 63) (by first | decide | (simp; done) | (simp [ms_0]; done)) et k1 k2).mpr e))
                -- a question
                obtain ⟨v25, n25, sl25, SH25, FI25, FL25, FR25, hd, v27, n27, sl27, SH27, FI27, FL27, FR27, hl, h⟩ := h
                have ht1 : t + 1 ≤ T := lt_T hK a1.2 (by omega)
                have kd := kX12_meansReduced hd
                have f91 : FI25 121 91 = FI 121 91 := kq_fld (c := 121) (k := 91) kd (by first | decide | (simp; done) | (simp [ms_0]; done))
                rcases mo_red (b := 1) (by first | decide | (simp; done) | (simp [ms_0]; done)) (by first | decide | (simp; done) | (simp [ms_0]; done)) hh hd with hn | ⟨S2, q2, F2, L2, r1, r2, r3⟩
                · refine Or.inl ?_
                  unfold mq_opr
                  rw [if_pos hb0, if_pos g0, hn]
                · first | (obtain ⟨zz1, zz2, zz3, zz4, zz5, zz6⟩ := st_c r2; (try subst zz1); (try subst zz2); (try subst zz3); (try subst zz4); (try subst zz5); (try subst zz6)) | cases r2
                  have eo : mq_opr K W E t S q = match mq_as q2 with
                      | none => none
                      | some a => some (.inl (t + 1, true, (-2, 0, a.2.1, a.2.2) :: S2, a.1)) := by
                    unfold mq_opr
                    rw [if_pos hb0, if_pos g0, r1]
                    (try rfl)
                  unfold mo_c
                  rw [eo]
                  obtain ⟨V, m⟩ := q2
                  cases V with
                  | nil => exact Or.inl rfl
                  | cons x R =>
                    obtain ⟨b1, b2, b3, b4, b5, b6⟩ := id r3
                    have b4' := b4.1
                    simp only [List.length_cons] at b4'
                    have b4s := b4.2
                    simp only [List.length_cons] at b4s
                    have k101 : (F2 121 101 - (1 : Int32)).toInt = (R.length : Int) := by
                      rw [i_sub b4' (by first | decide | (simp; done) | (simp [ms_0]; done) : ((1 : Int32)).toInt = 1) (by omega) (by omega)]
                      omega
                    obtain ⟨p1, -, -, el⟩ := hl
                    have hz : (SH 165).2 = 256 := by rw [s165 hS]
                    unfold p_in at p1
                    have e90 : (h_up F2 121 101 (F2 121 101 - (1 : Int32))) 121 90 = F2 121 90 := h_up_x (by first | decide | (simp; done) | (simp [ms_0]; done))
                    rw [hz, e90] at p1
                    have hl2 : S2.length < 256 := by omega
                    rw [e90, show (F2 121 90).toInt.toNat = S2.length by omega] at el
                    (obtain ⟨zz1, zz2, zz3, zz4, zz5, zz6⟩ := st_c el; (try subst zz1); (try subst zz2); (try subst zz3); (try subst zz4); (try subst zz5); (try subst zz6))
                    have k91 : (F2 121 90 + (1 : Int32)).toInt = (S2.length : Int) + 1 := by
                      rw [i_add b2.1 (by first | decide | (simp; done) | (simp [ms_0]; done) : ((1 : Int32)).toInt = 1) (by omega) (by omega)]
                    have k90 : ((F2 121 90 + (1 : Int32)) - (1 : Int32)).toInt = (S2.length : Int) := by
                      rw [i_sub k91 (by first | decide | (simp; done) | (simp [ms_0]; done) : ((1 : Int32)).toInt = 1) (by omega) (by omega)]
                      omega
                    generalize hF : (h_up (h_up (h_up (h_up F2 121 101 (F2 121 101 - (1 : Int32))) 165 S2.length ((0 : Int32))) 166 S2.length ((-2 : Int32))) 121 90 (F2 121 90 + (1 : Int32))) = F7 at h
                    have f90 : F7 121 90 = F2 121 90 + (1 : Int32) := by rw [← hF, h_up_eq]
                    have f101 : F7 121 101 = F2 121 101 - (1 : Int32) := by rw [← hF, h_up_x (by first | decide | (simp; done) | (simp [ms_0]; done)), h_up_x (by first | decide | (simp; done) | (simp [ms_0]; done)), h_up_x (by first | decide | (simp; done) | (simp [ms_0]; done)), h_up_eq]
                    have f121 : ∀ k, k ≠ 90 → k ≠ 101 → F7 121 k = F2 121 k := fun k h1 h2 => by rw [← hF, h_up_x (by omega), h_up_x (by omega), h_up_x (by omega), h_up_x (by omega)]
                    have f165 : F7 165 S2.length = 0 := by rw [← hF, h_up_x (by first | decide | (simp; done) | (simp [ms_0]; done)), h_up_x (by first | decide | (simp; done) | (simp [ms_0]; done)), h_up_eq]
                    have f166 : F7 166 S2.length = -2 := by rw [← hF, h_up_x (by first | decide | (simp; done) | (simp [ms_0]; done)), h_up_eq]
                    have frw : ∀ r i, (r = 165 ∨ r = 166 ∨ r = 174 ∨ r = 175) → i < S2.length → F7 r i = F2 r i := fun r i hr hi => by rw [← hF, h_up_x (by omega), h_up_x (by omega), h_up_x (by omega), h_up_x (by omega)]
                    obtain ⟨-, -, h⟩ := h
                    rw [f90, f101, show ((F2 121 90 + (1 : Int32)) - (1 : Int32)).toInt.toNat = S2.length by omega, show (F2 121 101 - (1 : Int32)).toInt.toNat = R.length by omega, show ((0 : Int64)).toInt = 0 by first | decide | (simp; done) | (simp [ms_0]; done), f121 104 (by first | decide | (simp; done) | (simp [ms_0]; done)) (by first | decide | (simp; done) | (simp [ms_0]; done))] at h
                    -- 256
                    have s256 : ∀ (s : Int32) (b : Bool), vp_nar .boolean s = bi b → (b = false ↔ (L2 173 R.length).toInt = 0) → RX12_meansOperator_256 s ((F2 121 90 + (1 : Int32)) - (1 : Int32)) n sl SH (h_up F7 174 S2.length (vp_nar .boolean (F2 121 104))) L2 FR v st → (match mq_as (x :: R, m) with
                        | none => none
                        | some a => some (Sum.inl (t + 1, true, (-2, 0, a.2.1, a.2.2) :: S2, a.1))) = (none : Option (mq_S ⊕ (Nat × mq_Q))) ∨ (∃ t1 a S4 q4 F4 L4, (match mq_as (x :: R, m) with
                        | none => none
                        | some a => some (Sum.inl (t + 1, true, (-2, 0, a.2.1, a.2.2) :: S2, a.1))) = some (Sum.inl (t1, a, S4, q4) : mq_S ⊕ (Nat × mq_Q)) ∧ st = (n, sl, SH, F4, L4, FR) ∧ mh F4 L4 T t1 S4 q4 ∧ v = 1 ∧ ((F4 121 91).toInt = 0 ↔ a = true)) ∨ (∃ q4 S4 F4 L4, (match mq_as (x :: R, m) with
                        | none => none
                        | some a => some (Sum.inl (t + 1, true, (-2, 0, a.2.1, a.2.2) :: S2, a.1))) = some (Sum.inr (t, q4) : mq_S ⊕ (Nat × mq_Q)) ∧ st = (n, sl, SH, F4, L4, FR) ∧ v = 0 ∧ mh F4 L4 T t S4 q4) := by
                      intro s b hsb hbz h
                      obtain ⟨-, h⟩ := h
                      rw [show ((F2 121 90 + (1 : Int32)) - (1 : Int32)).toInt.toNat = S2.length by omega] at h
                      have g104 : (h_up F7 174 S2.length (vp_nar .boolean (F2 121 104))) 121 104 = F2 121 104 := by rw [h_up_x (by first | decide | (simp; done) | (simp [ms_0]; done))]; exact f121 104 (by first | decide | (simp; done) | (simp [ms_0]; done)) (by first | decide | (simp; done) | (simp [ms_0]; done))
                      have g101 : (h_up F7 174 S2.length (vp_nar .boolean (F2 121 104))) 121 101 = F2 121 101 - (1 : Int32) := by rw [h_up_x (by first | decide | (simp; done) | (simp [ms_0]; done))]; exact f101
                      have g92 : (h_up F7 174 S2.length (vp_nar .boolean (F2 121 104))) 121 92 = F2 121 92 := by rw [h_up_x (by first | decide | (simp; done) | (simp [ms_0]; done))]; exact f121 92 (by first | decide | (simp; done) | (simp [ms_0]; done)) (by first | decide | (simp; done) | (simp [ms_0]; done))
                      rw [g104, g101, g92, show (F2 121 101 - (1 : Int32)).toInt.toNat = R.length by omega, hsb, show ((0 : Int64)).toInt = 0 by first | decide | (simp; done) | (simp [ms_0]; done)] at h
                      have fin : ∀ y : Int32, (y = 0 ∨ y = 1) → (y.toInt = 0 ↔ ((F2 121 104).toInt = 0 ∨ (L2 173 R.length).toInt = 0)) → v = 1 → st = (n, sl, SH, h_up (h_up (h_up (h_up F7 174 S2.length (vp_nar .boolean (F2 121 104))) 175 S2.length (bi b)) 121 104 y) 121 92 (F2 121 92 + (1 : Int32)), L2, FR) → (match mq_as (x :: R, m) with
                        | none => none
                        | some a => some (Sum.inl (t + 1, true, (-2, 0, a.2.1, a.2.2) :: S2, a.1))) = (none : Option (mq_S ⊕ (Nat × mq_Q))) ∨ (∃ t1 a S4 q4 F4 L4, (match mq_as (x :: R, m) with
                        | none => none
                        | some a => some (Sum.inl (t + 1, true, (-2, 0, a.2.1, a.2.2) :: S2, a.1))) = some (Sum.inl (t1, a, S4, q4) : mq_S ⊕ (Nat × mq_Q)) ∧ st = (n, sl, SH, F4, L4, FR) ∧ mh F4 L4 T t1 S4 q4 ∧ v = 1 ∧ ((F4 121 91).toInt = 0 ↔ a = true)) ∨ (∃ q4 S4 F4 L4, (match mq_as (x :: R, m) with
                        | none => none
                        | some a => some (Sum.inl (t + 1, true, (-2, 0, a.2.1, a.2.2) :: S2, a.1))) = some (Sum.inr (t, q4) : mq_S ⊕ (Nat × mq_Q)) ∧ st = (n, sl, SH, F4, L4, FR) ∧ v = 0 ∧ mh F4 L4 T t S4 q4) := by
                        intro y hy hyz ev es
                        generalize hG : h_up (h_up (h_up (h_up F7 174 S2.length (vp_nar .boolean (F2 121 104))) 175 S2.length (bi b)) 121 104 y) 121 92 (F2 121 92 + (1 : Int32)) = F9 at es
                        have o121 : ∀ k, k ≠ 90 → k ≠ 92 → k ≠ 101 → k ≠ 104 → F9 121 k = F2 121 k := fun k h1 h2 h3 h4 => by rw [← hG, h_up_x (by omega), h_up_x (by omega), h_up_x (by omega), h_up_x (by omega)]; exact f121 k h1 h3
                        have o104 : F9 121 104 = y := by rw [← hG, h_up_x (by first | decide | (simp; done) | (simp [ms_0]; done)), h_up_eq]
                        rcases mo_ask (F9 := F9) (b := b) r3 ht1 (by rw [← hG, h_up_eq]; exact mh_n r3 hT) (by rw [← hG, h_up_x (by first | decide | (simp; done) | (simp [ms_0]; done)), h_up_x (by first | decide | (simp; done) | (simp [ms_0]; done)), h_up_x (by first | decide | (simp; done) | (simp [ms_0]; done)), h_up_x (by first | decide | (simp; done) | (simp [ms_0]; done)), f90]; exact k91) hl2 (by rw [← hG, h_up_x (by first | decide | (simp; done) | (simp [ms_0]; done)), h_up_x (by first | decide | (simp; done) | (simp [ms_0]; done)), h_up_x (by first | decide | (simp; done) | (simp [ms_0]; done)), h_up_x (by first | decide | (simp; done) | (simp [ms_0]; done)), f101]; exact k101) (o121 93 (by first | decide | (simp; done) | (simp [ms_0]; done)) (by first | decide | (simp; done) | (simp [ms_0]; done)) (by first | decide | (simp; done) | (simp [ms_0]; done)) (by first | decide | (simp; done) | (simp [ms_0]; done))) (by rw [← hG, h_up_x (by first | decide | (simp; done) | (simp [ms_0]; done)), h_up_x (by first | decide | (simp; done) | (simp [ms_0]; done)), h_up_x (by first | decide | (simp; done) | (simp [ms_0]; done)), h_up_x (by first | decide | (simp; done) | (simp [ms_0]; done)), f166]; (first | decide | (simp; done) | (simp [ms_0]; done))) (by rw [← hG, h_up_x (by first | decide | (simp; done) | (simp [ms_0]; done)), h_up_x (by first | decide | (simp; done) | (simp [ms_0]; done)), h_up_x (by first | decide | (simp; done) | (simp [ms_0]; done)), h_up_x (by first | decide | (simp; done) | (simp [ms_0]; done)), f165]; (first | decide | (simp; done) | (simp [ms_0]; done))) (by rw [← hG, h_up_x (by first | decide | (simp; done) | (simp [ms_0]; done)), h_up_x (by first | decide | (simp; done) | (simp [ms_0]; done)), h_up_x (by first | decide | (simp; done) | (simp [ms_0]; done)), h_up_eq]) (by rw [← hG, h_up_x (by first | decide | (simp; done) | (simp [ms_0]; done)), h_up_x (by first | decide | (simp; done) | (simp [ms_0]; done)), h_up_eq]) (by rw [o104]; exact hy) hbz (by rw [o104]; exact hyz) (fun r i hr hi => by rw [← hG, h_up_x (by omega), h_up_x (by omega), h_up_x (by omega), h_up_x (by omega)]; exact frw r i hr hi) with hn | ⟨q4, wl, so, z1, z2⟩
                        · rw [hn]
                          exact Or.inl rfl
                        · rw [z1]
                          exact Or.inr (Or.inl ⟨t + 1, true, _, q4, F9, L2, rfl, es, z2, ev, ⟨fun _ => rfl, fun _ => by rw [o121 91 (by first | decide | (simp; done) | (simp [ms_0]; done)) (by first | decide | (simp; done) | (simp [ms_0]; done)) (by first | decide | (simp; done) | (simp [ms_0]; done)) (by first | decide | (simp; done) | (simp [ms_0]; done)), f91]; exact h91⟩⟩)
                      rcases h with ⟨w1, e1, e2⟩ | ⟨w1, -, h⟩
                      · exact fin 0 (Or.inl rfl) ⟨fun _ => Or.inl w1, fun _ => by first | decide | (simp; done) | (simp [ms_0]; done)⟩ e1 e2
                      · rcases h with ⟨w2, e1, e2⟩ | ⟨w2, e1, e2⟩
                        · exact fin 0 (Or.inl rfl) ⟨fun _ => Or.inr w2, fun _ => by first | decide | (simp; done) | (simp [ms_0]; done)⟩ e1 e2
                        · exact fin 1 (Or.inr rfl) ⟨fun e => absurd e (by first | decide | (simp; done) | (simp [ms_0]; done)), fun e => e.elim (fun e => absurd e w1) (fun e => absurd e w2)⟩ e1 e2
                    rcases h with ⟨w0, h⟩ | ⟨w0, h⟩
                    · exact s256 0 false (by first | decide | (simp; done) | (simp [ms_0]; done)) ⟨fun _ => w0, fun _ => rfl⟩ h
                    · exact s256 1 true (by first | decide | (simp; done) | (simp [ms_0]; done)) ⟨fun e => (by cases e), fun e => absurd e w0⟩ h
            · have g1 : K t = 5 ∧ W t = 124 := Classical.byContradiction (fun e => g1 ((mo_sgn (A := 124) (by first | decide | (simp; done) | (simp [ms_0]; done)) et k1 k2).mpr e))
              obtain ⟨v1, n1, sl1, SH1, FI1, FL1, FR1, hc, e1, e2⟩ := h
              exact mo_cb hS hK hT h91 hh (au_bn_1.mpr g1) (by first | decide | (simp; done) | (simp [ms_0]; done)) (by rw [g1.1, g1.2]; (first | decide | (simp; done) | (simp [ms_0]; done))) (by first | decide | (simp; done) | (simp [ms_0]; done)) hc e1 e2
          · have g2 : K t = 5 ∧ W t = 94 := Classical.byContradiction (fun e => g2 ((mo_sgn (A := 94) (by first | decide | (simp; done) | (simp [ms_0]; done)) et k1 k2).mpr e))
            obtain ⟨v1, n1, sl1, SH1, FI1, FL1, FR1, hc, e1, e2⟩ := h
            exact mo_cb hS hK hT h91 hh (au_bn_2.mpr g2) (by first | decide | (simp; done) | (simp [ms_0]; done)) (by rw [g2.1, g2.2]; (first | decide | (simp; done) | (simp [ms_0]; done))) (by first | decide | (simp; done) | (simp [ms_0]; done)) hc e1 e2
        · have g3 : K t = 5 ∧ W t = 38 := Classical.byContradiction (fun e => g3 ((mo_sgn (A := 38) (by first | decide | (simp; done) | (simp [ms_0]; done)) et k1 k2).mpr e))
          obtain ⟨v1, n1, sl1, SH1, FI1, FL1, FR1, hc, e1, e2⟩ := h
          exact mo_cb hS hK hT h91 hh (au_bn_3.mpr g3) (by first | decide | (simp; done) | (simp [ms_0]; done)) (by rw [g3.1, g3.2]; (first | decide | (simp; done) | (simp [ms_0]; done))) (by first | decide | (simp; done) | (simp [ms_0]; done)) hc e1 e2
      · have e4 := tk_cmp (SH := SH) (FI := FI) (FL := FL) (FR := FR) (k := FI 152 t) (w := FL 153 t)
        rw [k1, k2] at e4
        rw [e4, cm] at g4
        have h4 : au_bn (K t) (W t) = 4 := Classical.byContradiction (fun e => g4 (if_neg e))
        rw [if_pos h4] at e4
        obtain ⟨v1, n1, sl1, SH1, FI1, FL1, FR1, hc, e1, e2⟩ := h
        exact mo_cb hS hK hT h91 hh h4 (by first | decide | (simp; done) | (simp [ms_0]; done)) e4 (by first | decide | (simp; done) | (simp [ms_0]; done)) hc e1 e2
    · have e5 := tk_shf (SH := SH) (FI := FI) (FL := FL) (FR := FR) (k := FI 152 t) (w := FL 153 t)
      rw [k1, k2] at e5
      rw [e5, cm] at g5
      have h5 : au_bn (K t) (W t) = 5 := Classical.byContradiction (fun e => g5 (if_neg e))
      rw [if_pos h5] at e5
      obtain ⟨v1, n1, sl1, SH1, FI1, FL1, FR1, hc, e1, e2⟩ := h
      exact mo_cb hS hK hT h91 hh h5 (by first | decide | (simp; done) | (simp [ms_0]; done)) e5 (by first | decide | (simp; done) | (simp [ms_0]; done)) hc e1 e2
  have e7 := tk_mul (SH := SH) (FI := FI) (FL := FL) (FR := FR) (k := FI 152 t) (w := FL 153 t)
  rw [k1, k2] at e7
  rcases h with ⟨g7, h⟩ | ⟨g7, h⟩
  · rw [e7, cm] at g7
    have n7 : au_bn (K t) (W t) ≠ 7 := fun e => by rw [if_pos e] at g7; omega
    rw [k1, c5] at h
    rcases h with ⟨h5, h⟩ | ⟨h5, h⟩
    · rw [k2, show ((43 : Int64)).toInt = 43 by first | decide | (simp; done) | (simp [ms_0]; done)] at h
      rcases h with ⟨h43, h⟩ | ⟨h43, h⟩
      · exact s64 h5 (Or.inl h43) h
      rw [show ((45 : Int64)).toInt = 45 by first | decide | (simp; done) | (simp [ms_0]; done)] at h
      rcases h with ⟨h45, h⟩ | ⟨h45, h⟩
      · exact s64 h5 (Or.inr h45) h
      · exact s86 n7 (fun e => (au_bn_6.mp e).2.elim h43 h45) h
    · exact s86 n7 (fun e => h5 (au_bn_6.mp e).1) h
  · rw [e7, cm] at g7
    have h7 : au_bn (K t) (W t) = 7 := Classical.byContradiction (fun e => g7 (if_neg e))
    rw [if_pos h7] at e7
    obtain ⟨v1, n1, sl1, SH1, FI1, FL1, FR1, hc, e1, e2⟩ := h
    exact mo_cb hS hK hT h91 hh h7 (by first | decide | (simp; done) | (simp [ms_0]; done)) e7 (by first | decide | (simp; done) | (simp [ms_0]; done)) hc e1 e2
end MS
end
section
/-! THE REFERENCE'S MEANINGS: whole expressions. -/
section MU
variable {n sl : Nat} {SH : Nat → Nat × Nat} {FR : Nat → Nat → Option Nat} {st : hS} {E : ms_E} {fb : xX} {K W : Nat → Int} {T : Nat} {v : Int64}
/-- what an expression's walk has left -/
def mo_e (n sl : Nat) (SH : Nat → Nat × Nat) (FR : Nat → Nat → Option Nat) (T : Nat) (v : Int64) (st : hS) (r : Option (Nat × mq_Q)) : Prop := r = none ∨ ∃ t1 q1 S1 F2 L2, r = some (t1, q1) ∧ st = (n, sl, SH, F2, L2, FR) ∧ mh F2 L2 T t1 S1 q1 ∧ v = L2 173 0
theorem mo_19 (hS : h_S n SH) (hK : K T = 0) (hT : T ≤ 1001) (hg : tk_rg K W) (hf : xfq E fb) {a1 : Int32} : ∀ (g : Nat) (l2 l3 : Int32) (a : Bool) (t : Nat) (S : List mq_E) (q : mq_Q) (FI : Nat → Nat → Int32) (FL : Nat → Nat → Int64), (l2.toInt = 0 ↔ a = false) → ¬ l3.toInt = 0 → mtk K W T FI FL → rE FI FL SH E → mh FI FL T t S q → GX12_choice_19 a1 g l2 l3 n sl SH FI FL FR v st → ∃ k r, mq_run K W E fb k (t, a, S, q) = some r ∧ mo_e n sl SH FR T v st r := by
  intro g
  induction g with
  | zero => intro l2 l3 a t S q FI FL _ _ _ _ _ h; exact h.elim
  | succ g ih =>
    intro l2 l3 a t S q FI FL hl2 hl3 htk hE hh h
    have h := P_n h hl3
    rcases h with ⟨h0, h⟩ | ⟨h0, h⟩
    · -- an operator
      have ha := hl2.mp h0
      subst ha
      obtain ⟨v3, n3, sl3, SH3, FI3, FL3, FR3, hc, h⟩ := h
      have hh1 : mh (h_up FI 121 91 (0 : Int32)) FL T t S q := mh_f hh (by first | decide | (simp; done) | (simp [ms_0]; done))
      have k1 : mk FI FL (h_up FI 121 91 (0 : Int32)) FL := mk_f mk_rf (by omega)
      rcases mo_opr hS hK hT (mt_mk htk k1) (rE_mk hE k1) (by rw [h_up_eq]; (first | decide | (simp; done) | (simp [ms_0]; done))) hh1 hc with hn | ⟨t1, b, S2, q2, F2, L2, r1, r2, r3, r4, r5⟩ | ⟨q2, S2, F2, L2, r1, r2, r3, r4⟩
      · exact ⟨1, none, by rw [mq_run, hn], Or.inl rfl⟩
      · first | (obtain ⟨zz1, zz2, zz3, zz4, zz5, zz6⟩ := st_c r2; (try subst zz1); (try subst zz2); (try subst zz3); (try subst zz4); (try subst zz5); (try subst zz6)) | cases r2
        have k2 : mk FI FL F2 L2 := mk_tr k1 (mk_st (kX12_meansOperator hc) (by first | decide | (simp; done) | (simp [ms_0]; done)))
        have go : ∀ l : Int32, (l.toInt = 0 ↔ b = false) → GX12_choice_19 a1 g l v3 n sl SH F2 L2 FR v st → ∃ k r, mq_run K W E fb k (t, false, S, q) = some r ∧ mo_e n sl SH FR T v st r := by
          intro l hl h
          obtain ⟨k, r, e1, e2⟩ := ih l v3 b t1 S2 q2 F2 L2 hl (by rw [r4]; (first | decide | (simp; done) | (simp [ms_0]; done))) (mt_mk htk k2) (rE_mk hE k2) r3 h
          exact ⟨k + 1, r, by rw [mq_run, r1]; exact e1, e2⟩
        rcases h with ⟨g0, h⟩ | ⟨g0, h⟩
        · have hb := r5.mp g0
          exact go 1 ⟨fun e => absurd e (by first | decide | (simp; done) | (simp [ms_0]; done)), fun e => by rw [hb] at e; cases e⟩ h
        · have hb : b = false := by
            cases b with
            | false => rfl
            | true => exact absurd (r5.mpr rfl) g0
          exact go 0 ⟨fun _ => hb, fun _ => by first | decide | (simp; done) | (simp [ms_0]; done)⟩ h
      · first | (obtain ⟨zz1, zz2, zz3, zz4, zz5, zz6⟩ := st_c r2; (try subst zz1); (try subst zz2); (try subst zz3); (try subst zz4); (try subst zz5); (try subst zz6)) | cases r2
        have fin : ∀ l : Int32, GX12_choice_19 a1 g l v3 n sl SH F2 L2 FR v st → ∃ k r, mq_run K W E fb k (t, false, S, q) = some r ∧ mo_e n sl SH FR T v st r := by
          intro l h
          cases g with
          | zero => exact h.elim
          | succ g =>
            have h := P_p h (by rw [r3]; (first | decide | (simp; done) | (simp [ms_0]; done)))
            obtain ⟨-, e1, e2⟩ := h
            exact ⟨1, some (t, q2), by rw [mq_run, r1], Or.inr ⟨t, q2, S2, F2, L2, rfl, e2, r4, e1⟩⟩
        rcases h with ⟨g0, h⟩ | ⟨g0, h⟩
        · exact fin _ h
        · exact fin _ h
    · -- an operand
      have ha : a = true := by
        cases a with
        | true => rfl
        | false => exact absurd (hl2.mpr rfl) h0
      subst ha
      obtain ⟨v3, n3, sl3, SH3, FI3, FL3, FR3, hc, h⟩ := h
      rcases mo_opd hS hK hT hg htk hE hf hh hc with hn | ⟨t1, b, S2, q2, F2, L2, r1, r2, r3, r4⟩
      · exact ⟨1, none, by rw [mq_run, hn], Or.inl rfl⟩
      · first | (obtain ⟨zz1, zz2, zz3, zz4, zz5, zz6⟩ := st_c r2; (try subst zz1); (try subst zz2); (try subst zz3); (try subst zz4); (try subst zz5); (try subst zz6)) | cases r2
        have k2 : mk FI FL F2 L2 := mk_st (kX12_meansOperand hc) (by first | decide | (simp; done) | (simp [ms_0]; done))
        have go : ∀ l : Int32, (l.toInt = 0 ↔ b = false) → GX12_choice_19 a1 g l l3 n sl SH F2 L2 FR v st → ∃ k r, mq_run K W E fb k (t, true, S, q) = some r ∧ mo_e n sl SH FR T v st r := by
          intro l hl h
          obtain ⟨k, r, e1, e2⟩ := ih l l3 b t1 S2 q2 F2 L2 hl hl3 (mt_mk htk k2) (rE_mk hE k2) r3 h
          exact ⟨k + 1, r, by rw [mq_run, r1]; exact e1, e2⟩
        rcases h with ⟨g0, h⟩ | ⟨g0, h⟩
        · have hb := r4.mp g0
          exact go 1 ⟨fun e => absurd e (by first | decide | (simp; done) | (simp [ms_0]; done)), fun e => by rw [hb] at e; cases e⟩ h
        · have hb : b = false := by
            cases b with
            | false => rfl
            | true => exact absurd (r4.mpr rfl) g0
          exact go 0 ⟨fun _ => hb, fun _ => by first | decide | (simp; done) | (simp [ms_0]; done)⟩ h
/-- an expression: at its end, its value, or a fault -/
theorem mo_choice {a1 : Int32} {on : Bool} {FI : Nat → Nat → Int32} {FL : Nat → Nat → Int64} {f t t1 : Nat} {o : Int} {c : List Int} (hS : h_S n SH) (hK : K T = 0) (hT : T ≤ 1001) (hg : tk_rg K W) (hf : xfq E fb) (htk : mtk K W T FI FL) (hE : rE FI FL SH E) (h92 : (FI 121 92).toInt = t) (ht : t ≤ T) (ha : a1 = bi on) (hl : lc_ps K W f 0 o t = some (t1, c)) (hc : c.length ≤ 60000) (hn : au_bn (K t1) (W t1) = 0) (h : RX12_choice a1 n sl SH FI FL FR v st) : t < t1 ∧ t1 ≤ T ∧ lxx c ∧ ∃ x, ce E fb c x ∧ ∃ F2 L2, st = (n, sl, SH, F2, L2, FR) ∧ mk FI FL F2 L2 ∧ (F2 121 92).toInt = t1 ∧ (¬ (on = true ∧ (FI 121 93).toInt = 0) → F2 121 93 = FI 121 93) ∧ (on = true → (FI 121 93).toInt = 0 → match x with
    | .inl e => (F2 121 93).toInt = e ∧ e ≠ 0
    | .inr y => v = y ∧ (F2 121 93).toInt = 0) := by
  obtain ⟨F9, L9, e9, k9⟩ := mk_kq (kX12_choice h) (by first | decide | (simp; done) | (simp [ms_0]; done))
  obtain ⟨g, h⟩ := h
  have k0 : mk FI FL (h_up (h_up (h_up FI 121 90 ((0 : Int32))) 121 101 ((0 : Int32))) 121 104 a1) FL := mk_f (mk_f (mk_f mk_rf (by omega)) (by omega)) (by omega)
  -- the state at the beginning
  have hst : ∃ m : Int ⊕ Bool, mm (h_up (h_up (h_up FI 121 90 ((0 : Int32))) 121 101 ((0 : Int32))) 121 104 a1) m ∧ ((FI 121 93).toInt = 0 → m = .inr on) ∧ ((FI 121 93).toInt ≠ 0 → m = .inl (FI 121 93).toInt) := by
    have e93 : (h_up (h_up (h_up FI 121 90 ((0 : Int32))) 121 101 ((0 : Int32))) 121 104 a1) 121 93 = FI 121 93 := by rw [h_up_x (by first | decide | (simp; done) | (simp [ms_0]; done)), h_up_x (by first | decide | (simp; done) | (simp [ms_0]; done)), h_up_x (by first | decide | (simp; done) | (simp [ms_0]; done))]
    by_cases h0 : (FI 121 93).toInt = 0
    · exact ⟨.inr on, ⟨by rw [e93]; exact h0, by rw [h_up_eq]; exact ha⟩, fun _ => rfl, fun e => absurd h0 e⟩
    · exact ⟨.inl (FI 121 93).toInt, ⟨by rw [e93], h0⟩, fun e => absurd e h0, fun _ => rfl⟩
  obtain ⟨m, m1, m2, m3⟩ := hst
  have hh : mh (h_up (h_up (h_up FI 121 90 ((0 : Int32))) 121 101 ((0 : Int32))) 121 104 a1) FL T t [] ([], m) := by
    refine ⟨⟨by rw [h_up_x (by first | decide | (simp; done) | (simp [ms_0]; done)), h_up_x (by first | decide | (simp; done) | (simp [ms_0]; done)), h_up_x (by first | decide | (simp; done) | (simp [ms_0]; done))]; exact h92, ht⟩, ⟨?_, by first | decide | (simp; done) | (simp [ms_0]; done)⟩, trivial, ⟨?_, by first | decide | (simp; done) | (simp [ms_0]; done)⟩, trivial, m1⟩
    · rw [h_up_x (by first | decide | (simp; done) | (simp [ms_0]; done)), h_up_x (by first | decide | (simp; done) | (simp [ms_0]; done)), h_up_eq]; (first | decide | (simp; done) | (simp [ms_0]; done))
    · rw [h_up_x (by first | decide | (simp; done) | (simp [ms_0]; done)), h_up_eq]; (first | decide | (simp; done) | (simp [ms_0]; done))
  obtain ⟨k, r, r1, r2⟩ := mo_19 hS hK hT hg hf g 1 1 true t [] ([], m) _ FL ⟨fun e => absurd e (by first | decide | (simp; done) | (simp [ms_0]; done)), fun e => by cases e⟩ (by first | decide | (simp; done) | (simp [ms_0]; done)) (mt_mk htk k0) (rE_mk hE k0) hh h
  obtain ⟨g1, g2, g3, x, g4, k5, g5⟩ := mv_choice (E := E) (fb := fb) (m := m) hg hK ht hl hc hn
  have er := mq_run_u r1 g5
  refine ⟨g1, g2, g3, x, g4, F9, L9, e9, k9, ?_⟩
  rcases r2 with r2 | ⟨t2, q2, S2, F2, L2, r2, r3, r4, r5⟩
  · rw [r2] at er
    cases er
  · rw [r2] at er
    cases er
    rw [e9] at r3
    cases r3
    obtain ⟨b1, b2, b3, b4, b5, b6⟩ := r4
    refine ⟨b1.1, fun hne => ?_, fun hon h0 => ?_⟩
    · by_cases h0 : (FI 121 93).toInt = 0
      · have hm := m2 h0
        have hof : on = false := by
          cases on with
          | false => rfl
          | true => exact absurd ⟨rfl, h0⟩ hne
        subst hm
        subst hof
        have b6 : (F9 121 93).toInt = 0 ∧ _ := b6
        exact i_eqv (by rw [b6.1, h0])
      · have hm := m3 h0
        subst hm
        have b6 : (F9 121 93).toInt = (FI 121 93).toInt ∧ _ := b6
        exact i_eqv b6.1
    · have hm := m2 h0
      subst hm
      subst hon
      match x, b5, b6 with
      | .inl e, b5, b6 => exact b6
      | .inr y, b5, b6 =>
        have b5 : mz L9 0 (some y) ∧ _ := b5
        exact ⟨r5.trans (b5.1 y rfl), b6.1⟩
end MU
end
section
/-! WHAT PLACES AND LOCATIONS MEAN, by their bytes alone. -/
def xh (k : Int) (v : xX) : Int ⊕ ms_H := match v with
  | .inl e => .inl e
  | .inr x => .inr (k, x, [])
/-- a place: its bytes, its kind, what it means -/
def mp (E : ms_E) (fb : xX) (c : List Int) (k : Int) (H : Int ⊕ ms_H) : Prop :=
  (k = 1 ∧ lxx c ∧ ∃ v, ce E fb c v ∧ H = xh 1 v) ∨
  (k = 2 ∧ ∃ r : Int, 0 ≤ r ∧ r ≤ 31 ∧ c = [80 + r] ∧ H = .inr (2, Int64.ofInt r, [])) ∨
  (k = 3 ∧ ∃ a v, lxx a ∧ ce E fb a v ∧ c = a ++ [159] ∧ H = xh 3 v) ∨
  (k = 4 ∧ ∃ bs : List Int, bs.length ≤ 64 ∧ c = 158 :: (bs.length : Int) :: bs ∧ H = .inr (4, Int64.ofInt bs.length, bs.map Int32.ofInt)) ∨
  (k = 0 ∧ c = [] ∧ H = .inr ms_0)
def lr_e (R : List Int) : Prop := R = [] ∨ ∃ R2, R = 147 :: R2
theorem ldx_R {R : List Int} (h : lr_e R) (g : Nat) (k : Int) : ldx (g + 1) k R = some (k, R) := by
  rcases h with h | ⟨R2, h⟩
  · rw [h, ldx]
  · rw [h, ldx, if_pos rfl]
section MPX
variable {E : ms_E} {fb : xX} {c c2 R R2 : List Int} {k k2 : Int} {H H2 : Int ⊕ ms_H}
theorem mp_ld (h : mp E fb c k H) (hR : lr_e R) : ∃ j, ∀ g, ldx (g + j + 1) 0 (c ++ R) = some (k, R) := by
  rcases h with ⟨h1, h2, -⟩ | ⟨h1, r, h2, h3, h4, -⟩ | ⟨h1, a, v, h2, -, h3, -⟩ | ⟨h1, bs, h2, h3, -⟩ | ⟨h1, h2, -⟩
  · obtain ⟨j, e⟩ := h2.2 R 0
    refine ⟨j, fun g => ?_⟩
    rw [show g + j + 1 = (g + 1) + j by omega, e, ldx_R hR, h1]
  · refine ⟨1, fun g => ?_⟩
    rw [h4, h1]
    show ldx (g + 1 + 1) 0 ((80 + r) :: R) = _
    rw [ldx, if_neg (by omega), if_neg (by omega), if_pos (by omega), ldx_R hR]
  · obtain ⟨j, e⟩ := h2.2 (159 :: R) 0
    refine ⟨j + 1, fun g => ?_⟩
    rw [h3, List.append_assoc]
    show ldx (g + (j + 1) + 1) 0 (a ++ (159 :: R)) = _
    rw [show g + (j + 1) + 1 = (g + 1 + 1) + j by omega, e, ldx, if_neg (by first | decide | (simp; done) | (simp [ms_0]; done)), if_pos rfl, ldx_R hR, h1]
  · refine ⟨1, fun g => ?_⟩
    rw [h3, h1]
    show ldx (g + 1 + 1) 0 (158 :: ((bs.length : Int) :: (bs ++ R))) = _
    rw [ldx, if_neg (by first | decide | (simp; done) | (simp [ms_0]; done)), if_neg (by first | decide | (simp; done) | (simp [ms_0]; done)), if_neg (by first | decide | (simp; done) | (simp [ms_0]; done)), if_pos rfl]
    show ldx (g + 1) 4 ((bs ++ R).drop ((bs.length : Int)).toNat) = _
    rw [show ((bs.length : Int)).toNat = bs.length by omega, List.drop_left, ldx_R hR]
  · refine ⟨0, fun g => ?_⟩
    rw [h2, h1]
    exact ldx_R hR g 0
theorem mp_u (h : mp E fb c k H) (h2 : mp E fb c2 k2 H2) (hR : lr_e R) (hR2 : lr_e R2) (e : c ++ R = c2 ++ R2) : c = c2 ∧ R = R2 ∧ k = k2 ∧ H = H2 := by
  obtain ⟨j, a⟩ := mp_ld h hR
  obtain ⟨j2, b⟩ := mp_ld h2 hR2
  have a := a j2
  have b := b j
  rw [e, show j2 + j + 1 = j + j2 + 1 by omega, b] at a
  have a := Option.some.inj a
  have ek : k2 = k := congrArg Prod.fst a
  have eR : R2 = R := congrArg Prod.snd a
  subst ek
  subst eR
  have ec : c = c2 := List.append_cancel_right e
  subst ec
  refine ⟨rfl, rfl, rfl, ?_⟩
  rcases h with ⟨h1, -, v, h3, h4⟩ | ⟨h1, r, -, -, h3, h4⟩ | ⟨h1, a, v, -, h3, h4, h5⟩ | ⟨h1, bs, -, h3, h4⟩ | ⟨h1, -, h4⟩
  all_goals (rcases h2 with ⟨g1, -, w, g3, g4⟩ | ⟨g1, r2, -, -, g3, g4⟩ | ⟨g1, a2, w, -, g3, g4, g5⟩ | ⟨g1, bs2, -, g3, g4⟩ | ⟨g1, -, g4⟩)
  all_goals try (exfalso; omega)
  · rw [h4, g4, ce_u h3 g3]
  · rw [h3] at g3
    have := (List.cons.inj g3).1
    rw [h4, g4, show r = r2 by omega]
  · rw [h4] at g4
    have := List.append_cancel_right g4
    subst this
    rw [h5, g5, ce_u h3 g3]
  · rw [h3] at g3
    have := (List.cons.inj (List.cons.inj g3).2).2
    subst this
    rw [h4, g4]
  · rw [h4, g4]
end MPX
/-- a part: its place's bytes, its kind, its width, what it means -/
abbrev mZ := List Int × Int × Int × (Int ⊕ ms_H)
def mz_fl : List mZ → List Int
  | [] => []
  | z :: r => z.1 ++ 147 :: (lc_u 9 z.2.2.1 ++ mz_fl r)
def mz_ok (E : ms_E) (fb : xX) (Z : List mZ) : Prop := ∀ z, z ∈ Z → mp E fb z.1 z.2.1 z.2.2.2 ∧ 0 ≤ z.2.2.1 ∧ z.2.2.1 ≤ 64
def mz_rs : List mZ → List ms_P → Int ⊕ ms_Q
  | [], A => .inr (true, A)
  | z :: r, A => match z.2.2.2 with
    | .inl e => .inl e
    | .inr h => mz_rs r ((h, 8 * z.2.2.1, 0) :: A)
def mz_1 (H : Int ⊕ ms_H) : Int ⊕ ms_Q := match H with
  | .inl e => .inl e
  | .inr h => .inr (false, [(h, 0, 0)])
/-- a location: its bytes, what it means -/
def mloc (E : ms_E) (fb : xX) (c : List Int) (r : Int ⊕ ms_Q) : Prop := (∃ k H, mp E fb c k H ∧ r = mz_1 H) ∨ (∃ Z, Z ≠ [] ∧ Z.length ≤ 8 ∧ mz_ok E fb Z ∧ c = mz_fl Z ∧ r = mz_rs Z [])
theorem mz_lr {Z : List mZ} : lr_e (mz_fl Z) ∨ ∃ z r, Z = z :: r := by
  cases Z with
  | nil => exact Or.inl (Or.inl rfl)
  | cons z r => exact Or.inr ⟨z, r, rfl⟩
theorem mz_u {E : ms_E} {fb : xX} : ∀ (Z Y : List mZ), mz_ok E fb Z → mz_ok E fb Y → mz_fl Z = mz_fl Y → ∀ A, mz_rs Z A = mz_rs Y A
  | [], [], _, _, _, _ => rfl
  | [], y :: r, _, _, e, _ => by
    exfalso
    have e : [] = y.1 ++ 147 :: (lc_u 9 y.2.2.1 ++ mz_fl r) := e
    have := congrArg List.length e
    rw [List.length_append, List.length_cons] at this
    simp at this
  | z :: r, [], _, _, e, _ => by
    exfalso
    have e : z.1 ++ 147 :: (lc_u 9 z.2.2.1 ++ mz_fl r) = [] := e
    have := congrArg List.length e
    rw [List.length_append, List.length_cons] at this
    simp at this
  | z :: r, y :: s, hz, hy, e, A => by
    have e : z.1 ++ 147 :: (lc_u 9 z.2.2.1 ++ mz_fl r) = y.1 ++ 147 :: (lc_u 9 y.2.2.1 ++ mz_fl s) := e
    obtain ⟨z1, z2, z3⟩ := hz z (List.mem_cons_self)
    obtain ⟨y1, y2, y3⟩ := hy y (List.mem_cons_self)
    obtain ⟨u1, u2, u3, u4⟩ := mp_u z1 y1 (Or.inr ⟨_, rfl⟩) (Or.inr ⟨_, rfl⟩) e
    have u5 := (List.cons.inj u2).2
    have x1 := xu_9 (p := z.2.2.1) ⟨z2, by omega⟩ (mz_fl r)
    have x2 := xu_9 (p := y.2.2.1) ⟨y2, by omega⟩ (mz_fl s)
    rw [u5, x2] at x1
    have w1 : y.2.2.1 = z.2.2.1 := (Prod.mk.inj x1).1
    have w2 : mz_fl s = mz_fl r := (Prod.mk.inj x1).2
    have ih := mz_u r s (fun q hq => hz q (List.mem_cons_of_mem _ hq)) (fun q hq => hy q (List.mem_cons_of_mem _ hq)) w2.symm
    show (match z.2.2.2 with
      | .inl e => Sum.inl e
      | .inr h => mz_rs r ((h, 8 * z.2.2.1, 0) :: A)) = (match y.2.2.2 with
      | .inl e => Sum.inl e
      | .inr h => mz_rs s ((h, 8 * y.2.2.1, 0) :: A))
    rw [u4, w1]
    cases y.2.2.2 with
    | inl e => rfl
    | inr h => exact ih _
theorem mloc_u {E : ms_E} {fb : xX} {c : List Int} {r r2 : Int ⊕ ms_Q} (h : mloc E fb c r) (h2 : mloc E fb c r2) : r = r2 := by
  have no : ∀ {k : Int} {H : Int ⊕ ms_H} {Z : List mZ}, mp E fb c k H → Z ≠ [] → mz_ok E fb Z → c = mz_fl Z → False := by
    intro k H Z h1 hZ hk e
    cases Z with
    | nil => exact hZ rfl
    | cons z r =>
      have e2 : c ++ [] = z.1 ++ 147 :: (lc_u 9 z.2.2.1 ++ mz_fl r) := by rw [List.append_nil]; exact e
      have := (mp_u h1 (hk z (List.mem_cons_self)).1 (Or.inl rfl) (Or.inr ⟨_, rfl⟩) e2).2.1
      cases this
  rcases h with ⟨k, H, h1, e⟩ | ⟨Z, h0, -, h1, h3, e⟩
  · rcases h2 with ⟨k2, H2, g1, e2⟩ | ⟨Z, g0, -, g1, g3, e2⟩
    · rw [e, e2, (mp_u (R := []) (R2 := []) h1 g1 (Or.inl rfl) (Or.inl rfl) rfl).2.2.2]
    · exact (no h1 g0 g1 g3).elim
  · rcases h2 with ⟨k2, H2, g1, e2⟩ | ⟨Y, g0, -, g1, g3, e2⟩
    · exact (no g1 h0 h1 h3).elim
    · rw [e, e2]
      exact mz_u Z Y h1 g1 (by rw [← h3, g3]) []
/-- rows: those for pc -/
def ms_lt (a b : Int64) : Bool := decide ((a + (-9223372036854775808 : Int64)).toInt < (b + (-9223372036854775808 : Int64)).toInt)
def mrow (pc : Int64) (q : r_Q) : Bool := !(ms_lt pc (Int64.ofInt q.1)) && ms_lt pc (Int64.ofInt q.2.1)
def mrws (E : ms_E) (fb : xX) (pc : Int64) : List r_Q → Int ⊕ ms_Q → Prop
  | [], r => r = .inr (false, [(ms_0, 0, 0)])
  | q :: Q, r => (mrow pc q = true ∧ mloc E fb q.2.2 r) ∨ (¬ mrow pc q = true ∧ mrws E fb pc Q r)
/-- a variable: its rows, its bytes, what it means for pc -/
def mvar (E : ms_E) (fb : xX) (pc : Int64) (m : Nat) (C : List Int) (r : Int ⊕ ms_Q) : Prop := (m = 0 ∧ mloc E fb C r) ∨ (∃ Q : List r_Q, m = Q.length ∧ 1 ≤ m ∧ C = rw_fl Q ++ (lc_by 0 8 ++ lc_by 0 8) ∧ (∀ q, q ∈ Q → 0 ≤ q.1 ∧ q.1 ≤ 9223372036854775807 ∧ 0 ≤ q.2.1 ∧ q.2.1 ≤ 9223372036854775807 ∧ q.2.2.length ≤ 60000) ∧ mrws E fb pc Q r)
theorem mrws_u {E : ms_E} {fb : xX} {pc : Int64} : ∀ (Q : List r_Q) (r r2 : Int ⊕ ms_Q), mrws E fb pc Q r → mrws E fb pc Q r2 → r = r2 := by
  intro Q
  induction Q with
  | nil =>
    intro r r2 h h2
    have h : r = .inr (false, [(ms_0, 0, 0)]) := h
    have h2 : r2 = .inr (false, [(ms_0, 0, 0)]) := h2
    rw [h, h2]
  | cons q Q ih =>
    intro r r2 h h2
    rcases h with ⟨hq, h⟩ | ⟨hq, h⟩
    · rcases h2 with ⟨-, h2⟩ | ⟨hq2, -⟩
      · exact mloc_u h h2
      · exact absurd hq hq2
    · rcases h2 with ⟨hq2, -⟩ | ⟨-, h2⟩
      · exact absurd hq2 hq
      · exact ih r r2 h h2
theorem rw_fl_u : ∀ (Q P : List r_Q) (X Y : List Int), Q.length = P.length → (∀ q, q ∈ Q → 0 ≤ q.1 ∧ q.1 ≤ 9223372036854775807 ∧ 0 ≤ q.2.1 ∧ q.2.1 ≤ 9223372036854775807 ∧ q.2.2.length ≤ 60000) → (∀ q, q ∈ P → 0 ≤ q.1 ∧ q.1 ≤ 9223372036854775807 ∧ 0 ≤ q.2.1 ∧ q.2.1 ≤ 9223372036854775807 ∧ q.2.2.length ≤ 60000) → rw_fl Q ++ X = rw_fl P ++ Y → Q = P
  | [], [], _, _, _, _, _, _ => rfl
  | [], p :: P, _, _, h, _, _, _ => by simp at h
  | q :: Q, [], _, _, h, _, _, _ => by simp at h
  | q :: Q, p :: P, X, Y, h, hq, hp, e => by
    have e8 : (256 : Int) ^ 8 = 18446744073709551616 := by first | decide | (simp; done) | (simp [ms_0]; done)
    have e2 : (256 : Int) ^ 2 = 65536 := by first | decide | (simp; done) | (simp [ms_0]; done)
    obtain ⟨q1, q2, q3, q4, q5⟩ := hq q (List.mem_cons_self)
    obtain ⟨p1, p2, p3, p4, p5⟩ := hp p (List.mem_cons_self)
    rw [rw_fl_c, rw_fl_c] at e
    simp only [List.append_assoc] at e
    have a1 := xb_by (lc_by q.2.1 8 ++ (lc_by (q.2.2.length : Int) 2 ++ (q.2.2 ++ (rw_fl Q ++ X)))) 8 q.1 q1 (by rw [e8]; omega)
    have a2 := xb_by (lc_by p.2.1 8 ++ (lc_by (p.2.2.length : Int) 2 ++ (p.2.2 ++ (rw_fl P ++ Y)))) 8 p.1 p1 (by rw [e8]; omega)
    rw [e, a2] at a1
    have w1 : p.1 = q.1 := (Prod.mk.inj a1).1
    have w2 := (Prod.mk.inj a1).2
    (try dsimp only at w2)
    have b1 := xb_by (lc_by (q.2.2.length : Int) 2 ++ (q.2.2 ++ (rw_fl Q ++ X))) 8 q.2.1 q3 (by rw [e8]; omega)
    have b2 := xb_by (lc_by (p.2.2.length : Int) 2 ++ (p.2.2 ++ (rw_fl P ++ Y))) 8 p.2.1 p3 (by rw [e8]; omega)
    rw [← w2, b2] at b1
    have w3 : p.2.1 = q.2.1 := (Prod.mk.inj b1).1
    have w4 := (Prod.mk.inj b1).2
    (try dsimp only at w4)
    have c1 := xb_by (q.2.2 ++ (rw_fl Q ++ X)) 2 (q.2.2.length : Int) (by omega) (by rw [e2]; omega)
    have c2 := xb_by (p.2.2 ++ (rw_fl P ++ Y)) 2 (p.2.2.length : Int) (by omega) (by rw [e2]; omega)
    rw [← w4, c2] at c1
    have w5 : (p.2.2.length : Int) = (q.2.2.length : Int) := (Prod.mk.inj c1).1
    have w6 := (Prod.mk.inj c1).2
    (try dsimp only at w6)
    have w7 := List.append_inj w6 (by omega)
    have ih := rw_fl_u Q P X Y (by simp only [List.length_cons] at h; omega) (fun z hz => hq z (List.mem_cons_of_mem _ hz)) (fun z hz => hp z (List.mem_cons_of_mem _ hz)) w7.2.symm
    have : q = p := by
      obtain ⟨x1, x2, x3⟩ := q
      obtain ⟨y1, y2, y3⟩ := p
      (try dsimp only at w1 w3 w7)
      rw [w1, w3, w7.1]
    rw [this, ih]
theorem mvar_u {E : ms_E} {fb : xX} {pc : Int64} {m : Nat} {C : List Int} {r r2 : Int ⊕ ms_Q} (h : mvar E fb pc m C r) (h2 : mvar E fb pc m C r2) : r = r2 := by
  rcases h with ⟨h0, h1⟩ | ⟨Q, h0, h1, h3, h4, h5⟩
  · rcases h2 with ⟨-, g1⟩ | ⟨P, g0, g1, -⟩
    · exact mloc_u h1 g1
    · exfalso; omega
  · rcases h2 with ⟨g0, -⟩ | ⟨P, g0, g1, g3, g4, g5⟩
    · exfalso; omega
    · have e := rw_fl_u Q P _ _ (by omega) h4 g4 (by rw [← h3, g3])
      subst e
      exact mrws_u Q r r2 h5 g5
end
