/-! THE REFERENCE'S MEANINGS: its cells, step by step. -/
def bi (b : Bool) : Int32 := if b = true then 1 else 0
theorem bi_0 {b : Bool} : (bi b).toInt = 0 ↔ b = false := by
  cases b with
  | false => exact ⟨fun _ => rfl, fun _ => by first | decide | (simp; done) | (simp [ms_0]; done)⟩
  | true => exact ⟨fun e => absurd e (by first | decide | (simp; done) | (simp [ms_0]; done)), fun e => by cases e⟩
theorem bi_n {b : Bool} : vp_nar .boolean (bi b) = bi b := by
  cases b with
  | false => decide
  | true => decide
def mm (FI : Nat → Nat → Int32) (m : Int ⊕ Bool) : Prop := match m with
  | .inl e => (FI 121 93).toInt = e ∧ e ≠ 0
  | .inr b => (FI 121 93).toInt = 0 ∧ FI 121 104 = bi b
def me (FI : Nat → Nat → Int32) (m : Int ⊕ Bool) (i : Nat) (e : mq_E) : Prop := (FI 166 i).toInt = e.1 ∧ (FI 165 i).toInt = e.2.1 ∧ (e.1 = 9 → e.2.1 = 31 ∨ e.2.1 = 32 ∨ e.2.1 = 155 ∨ (257 ≤ e.2.1 ∧ e.2.1 ≤ 264)) ∧ ((e.1 = -2 ∨ e.1 = -3) → ∀ b, m = .inr b → FI 174 i = bi e.2.2.1 ∧ (e.2.2.1 = true → FI 175 i = bi e.2.2.2))
def mz (FL : Nat → Nat → Int64) (i : Nat) (x : Option Int64) : Prop := ∀ v, x = some v → FL 173 i = v
def mh (FI : Nat → Nat → Int32) (FL : Nat → Nat → Int64) (T t : Nat) (S : List mq_E) (q : mq_Q) : Prop := ((FI 121 92).toInt = t ∧ t ≤ T) ∧ ((FI 121 90).toInt = S.length ∧ S.length ≤ 256) ∧ lv (fun i e => me FI q.2 i e) S ∧ ((FI 121 101).toInt = q.1.length ∧ q.1.length ≤ 512) ∧ lv (fun i x => mz FL i x) q.1 ∧ mm FI q.2
/-- the kept tokens -/
def mtk (K W : Nat → Int) (T : Nat) (FI : Nat → Nat → Int32) (FL : Nat → Nat → Int64) : Prop := ∀ i, i ≤ T → (FI 152 i).toInt = K i ∧ (FL 153 i).toInt = W i
section MH
variable {n sl : Nat} {SH : Nat → Nat × Nat} {FI F2 F3 : Nat → Nat → Int32} {FL L2 L3 : Nat → Nat → Int64} {FR : Nat → Nat → Option Nat} {st : hS} {E : ms_E} {fb : xX} {u : Unit} {K W : Nat → Int} {T t : Nat} {S : List mq_E} {q : mq_Q} {m m2 : Int ⊕ Bool} {V R : List (Option Int64)}
theorem me_fr {i : Nat} {e : mq_E} (h : me FI m i e) (e1 : F2 166 i = FI 166 i) (e2 : F2 165 i = FI 165 i) (e3 : F2 174 i = FI 174 i) (e4 : F2 175 i = FI 175 i) (hm : ∀ b, m2 = .inr b → ∃ b2, m = .inr b2) : me F2 m2 i e := by
  obtain ⟨h1, h2, h3, h4⟩ := h
  refine ⟨by rw [e1]; exact h1, by rw [e2]; exact h2, h3, fun h5 b hb => ?_⟩
  obtain ⟨b2, hb2⟩ := hm b hb
  rw [e3, e4]
  exact h4 h5 b2 hb2
theorem lv_me (h : lv (fun i e => me FI m i e) S) (e : ∀ r i, (r = 165 ∨ r = 166 ∨ r = 174 ∨ r = 175) → i < S.length → F2 r i = FI r i) (hm : ∀ b, m2 = .inr b → ∃ b2, m = .inr b2) : lv (fun i e => me F2 m2 i e) S := lv_mono (fun i _ hi _ hx => me_fr hx (e 166 i (by omega) hi) (e 165 i (by omega) hi) (e 174 i (by omega) hi) (e 175 i (by omega) hi) hm) h
theorem lv_mz (h : lv (fun i x => mz FL i x) V) (e : ∀ i, i < V.length → L2 173 i = FL 173 i) : lv (fun i x => mz L2 i x) V := lv_mono (fun i _ hi _ hx v hv => by rw [e i hi]; exact hx v hv) h
theorem mm_same (b : Bool) (h : ∃ b2, m = .inr b2) : ∃ b2, m = .inr b2 := h
theorem mm_id : ∀ b, m = .inr b → ∃ b2, m = .inr b2 := fun b h => ⟨b, h⟩
theorem mm_inl {e : Int} : ∀ b, (.inl e : Int ⊕ Bool) = .inr b → ∃ b2, m = .inr b2 := fun b h => by cases h
/-- fields aside -/
theorem mh_f {k : Nat} {x : Int32} (h : mh FI FL T t S q) (hk : k ≠ 90 ∧ k ≠ 92 ∧ k ≠ 93 ∧ k ≠ 101 ∧ k ≠ 104) : mh (h_up FI 121 k x) FL T t S q := by
  obtain ⟨h1, h2, h3, h4, h5, h6⟩ := h
  refine ⟨by rw [h_up_x (by omega)]; exact h1, by rw [h_up_x (by omega)]; exact h2, lv_me h3 (fun r i hr _ => by rw [h_up_nc (by omega)]) mm_id, by rw [h_up_x (by omega)]; exact h4, h5, ?_⟩
  unfold mm at h6 ⊢
  rw [h_up_x (by omega), h_up_x (by omega)]
  exact h6
theorem mh_t {x : Int32} {t2 : Nat} (h : mh FI FL T t S q) (hx : x.toInt = t2) (h2 : t2 ≤ T) : mh (h_up FI 121 92 x) FL T t2 S q := by
  obtain ⟨h1, h3, h4, h5, h6, h7⟩ := h
  refine ⟨⟨by rw [h_up_eq]; exact hx, h2⟩, by rw [h_up_x (by first | decide | (simp; done) | (simp [ms_0]; done))]; exact h3, lv_me h4 (fun r i hr _ => by rw [h_up_nc (by omega)]) mm_id, by rw [h_up_x (by first | decide | (simp; done) | (simp [ms_0]; done))]; exact h5, h6, ?_⟩
  unfold mm at h7 ⊢
  rw [h_up_x (by first | decide | (simp; done) | (simp [ms_0]; done)), h_up_x (by first | decide | (simp; done) | (simp [ms_0]; done))]
  exact h7
theorem mh_n (h : mh FI FL T t S q) (hT : T ≤ 1001) : (FI 121 92 + (1 : Int32)).toInt = ((t + 1 : Nat) : Int) := by
  have h1 := h.1
  rw [i_add h1.1 (by first | decide | (simp; done) | (simp [ms_0]; done) : ((1 : Int32)).toInt = 1) (by omega) (by omega)]
  omega
theorem mh_top (h : mh FI FL T t S q) : (fX12_tops SH FI FL FR).toInt = mq_top S := by
  obtain ⟨-, h2, h3, -⟩ := h
  unfold fX12_tops
  cases S with
  | nil =>
    rw [if_pos (show (FI 121 90).toInt = 0 from h2.1)]
    show ((-11 : Int32)).toInt = -11
    decide
  | cons e S =>
    have h4 := h2.1
    simp only [List.length_cons] at h4
    have h5 := h2.2
    simp only [List.length_cons] at h5
    have k : (FI 121 90 - (1 : Int32)).toInt = (S.length : Int) := by
      rw [i_sub h4 (by first | decide | (simp; done) | (simp [ms_0]; done) : ((1 : Int32)).toInt = 1) (by omega) (by omega)]
      omega
    rw [if_neg (by omega), show (FI 121 90 - (1 : Int32)).toInt.toNat = S.length by omega]
    exact h3.1.1
theorem mh_does (h : mm FI q.2) : (fX12_does SH FI FL FR).toInt = 0 ↔ q.2 ≠ .inr true := by
  unfold fX12_does
  obtain ⟨V, m⟩ := q
  match m, h with
  | .inl e, h =>
    have h : (FI 121 93).toInt = e ∧ e ≠ 0 := h
    refine ⟨fun _ e => (by cases e), fun _ => ?_⟩
    split
    · decide
    · rw [if_neg (by rw [h.1]; exact h.2)]
      decide
  | .inr false, h =>
    have h : (FI 121 93).toInt = 0 ∧ FI 121 104 = bi false := h
    refine ⟨fun _ e => (by cases e), fun _ => ?_⟩
    rw [if_pos (by rw [h.2]; (first | decide | (simp; done) | (simp [ms_0]; done)))]
    decide
  | .inr true, h =>
    have h : (FI 121 93).toInt = 0 ∧ FI 121 104 = bi true := h
    rw [if_neg (by rw [h.2]; (first | decide | (simp; done) | (simp [ms_0]; done))), if_pos h.1]
    exact ⟨fun e => absurd e (by first | decide | (simp; done) | (simp [ms_0]; done)), fun e => absurd rfl e⟩
/-- an operator comes to those that wait -/
theorem mo_later {c b : Int32} {w1 w2 : Bool} (hS : h_S n SH) (hh : mh FI FL T t S q) (h2 : b.toInt ≠ -2) (h3 : b.toInt ≠ -3) (h9 : b.toInt = 9 → c.toInt = 31 ∨ c.toInt = 32 ∨ c.toInt = 155 ∨ (257 ≤ c.toInt ∧ c.toInt ≤ 264)) (h : RX12_later c b n sl SH FI FL FR u st) : ∃ F2, st = (n, sl, SH, F2, FL, FR) ∧ mh F2 FL T t ((b.toInt, c.toInt, w1, w2) :: S) q := by
  obtain ⟨p1, p2, -, e⟩ := h
  obtain ⟨a1, a2, a3, a4, a5, a6⟩ := hh
  have hz : (SH 165).2 = 256 := by rw [s165 hS]
  unfold p_in at p1
  rw [hz] at p1
  rw [show (FI 121 90).toInt.toNat = S.length by omega] at e
  refine ⟨_, e, ⟨by rw [h_up_x (by first | decide | (simp; done) | (simp [ms_0]; done)), h_up_x (by first | decide | (simp; done) | (simp [ms_0]; done)), h_up_x (by first | decide | (simp; done) | (simp [ms_0]; done))]; exact a1.1, a1.2⟩, ⟨?_, by simp only [List.length_cons]; omega⟩, ⟨⟨?_, ?_, h9, fun e9 => ?_⟩, lv_me a3 (fun r i hr hi => ?_) mm_id⟩, by rw [h_up_x (by first | decide | (simp; done) | (simp [ms_0]; done)), h_up_x (by first | decide | (simp; done) | (simp [ms_0]; done)), h_up_x (by first | decide | (simp; done) | (simp [ms_0]; done))]; exact a4, a5, ?_⟩
  · rw [h_up_eq, i_add a2.1 (by first | decide | (simp; done) | (simp [ms_0]; done) : ((1 : Int32)).toInt = 1) (by omega) (by omega)]
    simp only [List.length_cons]
    omega
  · rw [h_up_nc (by first | decide | (simp; done) | (simp [ms_0]; done)), h_up_eq]
  · rw [h_up_nc (by first | decide | (simp; done) | (simp [ms_0]; done)), h_up_nc (by first | decide | (simp; done) | (simp [ms_0]; done)), h_up_eq]
  · exfalso
    have e9 : b.toInt = -2 ∨ b.toInt = -3 := e9
    omega
  · rw [h_up_nc (by omega), h_up_x (by omega), h_up_x (by omega)]
  · unfold mm at a6 ⊢
    rw [h_up_x (by first | decide | (simp; done) | (simp [ms_0]; done)), h_up_x (by first | decide | (simp; done) | (simp [ms_0]; done)), h_up_x (by first | decide | (simp; done) | (simp [ms_0]; done)), h_up_x (by first | decide | (simp; done) | (simp [ms_0]; done)), h_up_x (by first | decide | (simp; done) | (simp [ms_0]; done)), h_up_x (by first | decide | (simp; done) | (simp [ms_0]; done))]
    exact a6
/-- a value comes behind the others -/
theorem mo_value {x : xX} {y : Int64} {F1 : Nat → Nat → Int32} (hS : h_S n SH) (hh : mh FI FL T t S q) (e1 : ∀ c k, ¬ (c = 121 ∧ k = 93) → F1 c k = FI c k) (hx : match q.2 with
    | .inr true => (match x with
      | .inl e => (F1 121 93).toInt = e ∧ e ≠ 0
      | .inr v => y = v ∧ F1 121 93 = FI 121 93)
    | .inr false => F1 121 93 = FI 121 93
    | .inl _ => F1 121 93 = FI 121 93) (h : RX12_value y n sl SH F1 FL FR u st) : ∃ F2 L2, st = (n, sl, SH, F2, L2, FR) ∧ mh F2 L2 T t S (mq_ps x q) := by
  obtain ⟨p1, -, e⟩ := h
  obtain ⟨a1, a2, a3, a4, a5, a6⟩ := hh
  obtain ⟨V, m⟩ := q
  (try dsimp only at a3 a4 a5 a6 hx)
  have hz : (SH 173).2 = 512 := by rw [s173 hS]
  have e101 : F1 121 101 = FI 121 101 := e1 121 101 (by first | decide | (simp; done) | (simp [ms_0]; done))
  unfold p_in at p1
  rw [hz, e101] at p1
  rw [e101, show (FI 121 101).toInt.toNat = V.length by omega] at e
  have fin : ∀ (x2 : Option Int64) (m2 : Int ⊕ Bool), (∀ v, x2 = some v → y = v) → (∀ b, m2 = .inr b → ∃ b2, m = .inr b2) → mm (h_up F1 121 101 (FI 121 101 + (1 : Int32))) m2 → ∃ F2 L2, st = (n, sl, SH, F2, L2, FR) ∧ mh F2 L2 T t S (x2 :: V, m2) := by
    intro x2 m2 hx2 hm2 hmm
    refine ⟨_, _, e, ⟨by rw [h_up_x (by first | decide | (simp; done) | (simp [ms_0]; done)), e1 121 92 (by first | decide | (simp; done) | (simp [ms_0]; done))]; exact a1.1, a1.2⟩, ⟨by rw [h_up_x (by first | decide | (simp; done) | (simp [ms_0]; done)), e1 121 90 (by first | decide | (simp; done) | (simp [ms_0]; done))]; exact a2.1, a2.2⟩, lv_me a3 (fun r i hr hi => by rw [h_up_nc (by omega), e1 r i (by omega)]) hm2, ⟨?_, by simp only [List.length_cons]; omega⟩, ⟨fun v hv => ?_, lv_mz a5 (fun i hi => h_up_ne (by omega))⟩, hmm⟩
    · rw [h_up_eq, i_add a4.1 (by first | decide | (simp; done) | (simp [ms_0]; done) : ((1 : Int32)).toInt = 1) (by omega) (by omega)]
      simp only [List.length_cons]
      omega
    · rw [h_up_eq]
      exact hx2 v hv
  have e104 : (h_up F1 121 101 (FI 121 101 + (1 : Int32))) 121 104 = FI 121 104 := by rw [h_up_x (by first | decide | (simp; done) | (simp [ms_0]; done)), e1 121 104 (by first | decide | (simp; done) | (simp [ms_0]; done))]
  have e93 : (h_up F1 121 101 (FI 121 101 + (1 : Int32))) 121 93 = F1 121 93 := h_up_x (by first | decide | (simp; done) | (simp [ms_0]; done))
  match m, x, a6, hx, fin with
  | .inr true, .inl e, a6, hx, fin => exact fin none (.inl e) (fun v hv => by cases hv) mm_inl ⟨by rw [e93]; exact hx.1, hx.2⟩
  | .inr true, .inr v, a6, hx, fin => exact fin (some v) (.inr true) (fun w hw => by rw [← Option.some.inj hw]; exact hx.1) (fun b _ => ⟨true, rfl⟩) ⟨by rw [e93, hx.2]; exact a6.1, by rw [e104]; exact a6.2⟩
  | .inr false, x, a6, hx, fin => exact fin none (.inr false) (fun v hv => by cases hv) (fun b _ => ⟨false, rfl⟩) ⟨by rw [e93, hx]; exact a6.1, by rw [e104]; exact a6.2⟩
  | .inl e, x, a6, hx, fin => exact fin none (.inl e) (fun v hv => by cases hv) mm_inl ⟨by rw [e93, hx]; exact a6.1, a6.2⟩
/-- one that waited goes, the value at the end changes -/
theorem mh_u {e : mq_E} {x x2 : Option Int64} {F1 : Nat → Nat → Int32} {L1 : Nat → Nat → Int64} (hh : mh FI FL T t (e :: S) (x :: R, m)) (e1 : ∀ c k, ¬ (c = 121 ∧ (k = 90 ∨ k = 93)) → F1 c k = FI c k) (e90 : (F1 121 90).toInt = S.length) (hx : ∀ v, x2 = some v → L1 173 R.length = v) (hL : ∀ i, i ≠ R.length → L1 173 i = FL 173 i) (hm : ∀ b, m2 = .inr b → ∃ b2, m = .inr b2) (hmm : mm F1 m2) : mh F1 L1 T t S (x2 :: R, m2) := by
  obtain ⟨a1, a2, a3, a4, a5, a6⟩ := hh
  have h5 := a2.2
  simp only [List.length_cons] at h5
  exact ⟨⟨by rw [e1 121 92 (by first | decide | (simp; done) | (simp [ms_0]; done))]; exact a1.1, a1.2⟩, ⟨e90, by omega⟩, lv_me a3.2 (fun r i hr _ => e1 r i (by omega)) hm, ⟨by rw [e1 121 101 (by first | decide | (simp; done) | (simp [ms_0]; done))]; exact a4.1, a4.2⟩, ⟨hx, lv_mz a5.2 (fun i hi => hL i (by omega))⟩, hmm⟩
theorem mo_fin (hS : h_S n SH) : ∀ (g : Nat) (S : List mq_E) (q : mq_Q) (FI : Nat → Nat → Int32) (FL : Nat → Nat → Int64), mh FI FL T t S q → rE FI FL SH E → GX12_meansFinished_0 g n sl SH FI FL FR u st → mq_fin E S q = none ∨ ∃ S2 q2 F2 L2, mq_fin E S q = some (S2, q2) ∧ st = (n, sl, SH, F2, L2, FR) ∧ mh F2 L2 T t S2 q2 := by
  have c9 : ((9 : Int32)).toInt = 9 := by first | decide | (simp; done) | (simp [ms_0]; done)
  have c31 : ((31 : Int32)).toInt = 31 := by first | decide | (simp; done) | (simp [ms_0]; done)
  have c32 : ((32 : Int32)).toInt = 32 := by first | decide | (simp; done) | (simp [ms_0]; done)
  have c155 : ((155 : Int32)).toInt = 155 := by first | decide | (simp; done) | (simp [ms_0]; done)
  intro g
  induction g with
  | zero => intro S q FI FL _ _ h; exact h.elim
  | succ g ih =>
    intro S q FI FL hh hE h
    rcases h with ⟨ht, h⟩ | ⟨ht, -, e⟩
    · rw [mh_top hh, c9] at ht
      cases S with
      | nil => exact absurd ht (by first | decide | (simp; done) | (simp [ms_0]; done))
      | cons e S =>
        have ht : e.1 = 9 := ht
        obtain ⟨V, m⟩ := q
        obtain ⟨a1, a2, a3, a4, a5, a6⟩ := id hh
        (try dsimp only at a3 a4 a5 a6)
        have a2' := a2.1
        simp only [List.length_cons] at a2'
        have hS2 := a2.2
        simp only [List.length_cons] at hS2
        have k90 : (FI 121 90 - (1 : Int32)).toInt = (S.length : Int) := by
          rw [i_sub a2' (by first | decide | (simp; done) | (simp [ms_0]; done) : ((1 : Int32)).toInt = 1) (by omega) (by omega)]
          omega
        obtain ⟨-, p1, h⟩ := h
        cases V with
        | nil =>
          exfalso
          unfold p_in at p1
          rw [i_sub a4.1 (by first | decide | (simp; done) | (simp [ms_0]; done) : ((1 : Int32)).toInt = 1) (by simp) (by simp)] at p1
          have := p1.1
          simp at this
        | cons x R =>
          have a4' := a4.1
          simp only [List.length_cons] at a4'
          have hV2 := a4.2
          simp only [List.length_cons] at hV2
          have k101 : (FI 121 101 - (1 : Int32)).toInt = (R.length : Int) := by
            rw [i_sub a4' (by first | decide | (simp; done) | (simp [ms_0]; done) : ((1 : Int32)).toInt = 1) (by omega) (by omega)]
            omega
          rw [show (FI 121 90 - (1 : Int32)).toInt.toNat = S.length by omega, show (FI 121 101 - (1 : Int32)).toInt.toNat = R.length by omega] at h
          have hcode := a3.1.2.1
          rw [hcode, c31, c32, c155] at h
          have hcd := a3.1.2.2.1 ht
          have hmx := a5.1
          have e90 : ∀ x : Int32, x.toInt = (S.length : Int) → (h_up FI 121 90 x 121 90).toInt = (S.length : Int) := fun x hx => by rw [h_up_eq]; exact hx
          -- the end of a turn
          have go : ∀ (F1 : Nat → Nat → Int32) (L1 : Nat → Nat → Int64) (q2 : mq_Q), mq_u E e.2.1 (x :: R, m) = some q2 → mh F1 L1 T t S q2 → rE F1 L1 SH E → GX12_meansFinished_0 g n sl SH F1 L1 FR u st → mq_fin E (e :: S) (x :: R, m) = none ∨ ∃ S2 q2 F2 L2, mq_fin E (e :: S) (x :: R, m) = some (S2, q2) ∧ st = (n, sl, SH, F2, L2, FR) ∧ mh F2 L2 T t S2 q2 := by
            intro F1 L1 q2 hu hh1 hE1 h1
            rw [mq_fin, if_pos ht, hu]
            exact ih S q2 F1 L1 hh1 hE1 h1
          have g1 : ∀ c k, ¬ (c = 121 ∧ (k = 90 ∨ k = 93)) → (h_up FI 121 90 (FI 121 90 - (1 : Int32))) c k = FI c k := fun c k hn => h_up_x (by omega)
          have g2 : ∀ w c k, ¬ (c = 121 ∧ (k = 90 ∨ k = 93)) → (h_up (h_up FI 121 90 (FI 121 90 - (1 : Int32))) 121 93 w) c k = FI c k := fun w c k hn => by rw [h_up_x (by omega), h_up_x (by omega)]
          have m1 : mm (h_up FI 121 90 (FI 121 90 - (1 : Int32))) m := by
            unfold mm at a6 ⊢
            rw [h_up_x (by first | decide | (simp; done) | (simp [ms_0]; done)), h_up_x (by first | decide | (simp; done) | (simp [ms_0]; done))]
            exact a6
          have E1 : ∀ y, rE (h_up FI 121 90 (FI 121 90 - (1 : Int32))) (h_up FL 173 R.length y) SH E := fun y => rE_mk hE (mk_l (mk_f mk_rf (Or.inl rfl)))
          have E0 : rE (h_up FI 121 90 (FI 121 90 - (1 : Int32))) FL SH E := rE_mk hE (mk_f mk_rf (Or.inl rfl))
          have E2 : ∀ w y, rE (h_up (h_up FI 121 90 (FI 121 90 - (1 : Int32))) 121 93 w) (h_up FL 173 R.length y) SH E := fun w y => rE_mk hE (mk_l (mk_f (mk_f mk_rf (Or.inl rfl)) (by omega)))
          by_cases hd : m = .inr true
          · subst hd
            cases x with
            | none =>
              left
              rw [mq_fin, if_pos ht]
              rfl
            | some v =>
              have ev : FL 173 R.length = v := hmx v rfl
              rw [ev] at h
              have hu : mq_u E e.2.1 (some v :: R, .inr true) = some (mq_ps (mq_1 E e.2.1 (.inr v)) (R, .inr true)) := rfl
              have dz : ∀ F1 : Nat → Nat → Int32, F1 121 104 = FI 121 104 → F1 121 93 = FI 121 93 → ¬ (fX12_does SH F1 FL FR).toInt = 0 := fun F1 q1 q2 q3 => ((mh_does (q := (R, .inr true)) (show mm F1 (.inr true) from ⟨by rw [q2]; exact a6.1, by rw [q1]; exact a6.2⟩)).mp q3) rfl
              have dn := dz (h_up FI 121 90 (FI 121 90 - (1 : Int32))) (h_up_x (by first | decide | (simp; done) | (simp [ms_0]; done))) (h_up_x (by first | decide | (simp; done) | (simp [ms_0]; done)))
              have plain : ∀ y : Int64, mq_1 E e.2.1 (.inr v) = .inr y → mh (h_up FI 121 90 (FI 121 90 - (1 : Int32))) (h_up FL 173 R.length y) T t S (mq_ps (mq_1 E e.2.1 (.inr v)) (R, .inr true)) := by
                intro y hy
                rw [hy]
                exact mh_u (x2 := some y) (m2 := .inr true) hh g1 (e90 _ k90) (fun w hw => by rw [h_up_eq]; exact Option.some.inj hw) (fun i hi => h_up_ne hi) mm_id m1
              have fault : ∀ (y : Int64) (w : Int32) (f : Int), w.toInt = f → f ≠ 0 → mq_1 E e.2.1 (.inr v) = .inl f → mh (h_up (h_up FI 121 90 (FI 121 90 - (1 : Int32))) 121 93 w) (h_up FL 173 R.length y) T t S (mq_ps (mq_1 E e.2.1 (.inr v)) (R, .inr true)) := by
                intro y w f hw hf hy
                rw [hy]
                exact mh_u (x2 := none) (m2 := .inl f) hh (g2 w) (by rw [h_up_x (by first | decide | (simp; done) | (simp [ms_0]; done))]; exact e90 _ k90) (fun w hw => by cases hw) (fun i hi => h_up_ne hi) mm_inl ⟨by rw [h_up_eq]; exact hw, hf⟩
              rcases h with ⟨q1, -, h⟩ | ⟨q1, h⟩
              · exact go _ _ _ hu (plain _ (by unfold mq_1; rw [if_pos (by omega), q1]; rfl)) (E1 _) h
              rcases h with ⟨q2, -, h⟩ | ⟨q2, h⟩
              · exact go _ _ _ hu (plain _ (by unfold mq_1; rw [if_pos (by omega), q2]; rfl)) (E1 _) h
              rcases h with ⟨q3, h⟩ | ⟨q3, h⟩
              · have h := P_n h dn
                rcases hE.2.2.2.2.2.2.2 with ⟨t1, t2⟩ | ⟨t1, t2⟩
                · obtain ⟨-, h⟩ := P_p h t1
                  have e101 : (h_up (h_up FI 121 90 (FI 121 90 - (1 : Int32))) 121 93 (11 : Int32)) 121 101 = FI 121 101 := by rw [h_up_x (by first | decide | (simp; done) | (simp [ms_0]; done)), h_up_x (by first | decide | (simp; done) | (simp [ms_0]; done))]
                  rw [e101, show (FI 121 101 - (1 : Int32)).toInt.toNat = R.length by omega] at h
                  refine go _ _ _ hu (fault _ _ 11 (by first | decide | (simp; done) | (simp [ms_0]; done)) (by first | decide | (simp; done) | (simp [ms_0]; done)) ?_) (E2 _ _) h
                  unfold mq_1
                  rw [if_pos (by omega), q3]
                  unfold xe1
                  dsimp only
                  rw [if_neg (show ¬ (155 : Int) = 6 by decide), if_neg (show ¬ (155 : Int) = 148 by decide), if_pos rfl, t2]
                · obtain ⟨-, h⟩ := P_n h t1
                  have e101 : (h_up FI 121 90 (FI 121 90 - (1 : Int32))) 121 101 = FI 121 101 := h_up_x (by first | decide | (simp; done) | (simp [ms_0]; done))
                  rw [e101, show (FI 121 101 - (1 : Int32)).toInt.toNat = R.length by omega] at h
                  refine go _ _ _ hu (plain _ ?_) (E1 _) h
                  unfold mq_1
                  rw [if_pos (by omega), q3]
                  unfold xe1
                  dsimp only
                  rw [if_neg (show ¬ (155 : Int) = 6 by decide), if_neg (show ¬ (155 : Int) = 148 by decide), if_pos rfl, t2]
              · have h := P_n h dn
                have hw : 257 ≤ e.2.1 ∧ e.2.1 ≤ 264 := by omega
                have kc : (FI 165 S.length - (256 : Int32)).toInt = e.2.1 - 256 := by
                  rw [i_sub hcode (by first | decide | (simp; done) | (simp [ms_0]; done) : ((256 : Int32)).toInt = 256) (by omega) (by omega)]
                have kl : ((FI 165 S.length - (256 : Int32)).toInt64).toInt = e.2.1 - 256 := i_2l kc
                have e1 : mq_1 E e.2.1 (.inr v) = if v.toInt < 0 ∨ 4096 - (e.2.1 - 256) < v.toInt then .inl 5 else .inr (ms_rd E v.toInt.toNat (e.2.1 - 256).toNat) := by
                  unfold mq_1
                  rw [if_neg (by omega)]
                  rfl
                have is : (fX12_isThere v ((FI 165 S.length - (256 : Int32)).toInt64) SH (h_up FI 121 90 (FI 121 90 - (1 : Int32))) FL FR).toInt = 0 ↔ (v.toInt < 0 ∨ 4096 - (e.2.1 - 256) < v.toInt) := by
                  have k1 : ((4096 : Int64) - (FI 165 S.length - (256 : Int32)).toInt64).toInt = 4096 - (e.2.1 - 256) := l_sub (by first | decide | (simp; done) | (simp [ms_0]; done) : ((4096 : Int64)).toInt = 4096) kl (by omega) (by omega)
                  unfold fX12_isThere
                  rw [k1, show ((0 : Int64)).toInt = 0 by first | decide | (simp; done) | (simp [ms_0]; done)]
                  by_cases v0 : v.toInt < 0
                  · rw [if_pos v0]
                    exact ⟨fun _ => Or.inl v0, fun _ => by first | decide | (simp; done) | (simp [ms_0]; done)⟩
                  · rw [if_neg v0]
                    by_cases v1 : 4096 - (e.2.1 - 256) < v.toInt
                    · rw [if_pos v1]
                      exact ⟨fun _ => Or.inr v1, fun _ => by first | decide | (simp; done) | (simp [ms_0]; done)⟩
                    · rw [if_neg v1]
                      exact ⟨fun e => absurd e (by first | decide | (simp; done) | (simp [ms_0]; done)), fun e => by omega⟩
                rcases h with ⟨q4, h⟩ | ⟨q4, h⟩
                · obtain ⟨-, h⟩ := P_p h q4
                  have e101 : (h_up (h_up FI 121 90 (FI 121 90 - (1 : Int32))) 121 93 (5 : Int32)) 121 101 = FI 121 101 := by rw [h_up_x (by first | decide | (simp; done) | (simp [ms_0]; done)), h_up_x (by first | decide | (simp; done) | (simp [ms_0]; done))]
                  rw [e101, show (FI 121 101 - (1 : Int32)).toInt.toNat = R.length by omega] at h
                  exact go _ _ _ hu (fault _ _ 5 (by first | decide | (simp; done) | (simp [ms_0]; done)) (by first | decide | (simp; done) | (simp [ms_0]; done)) (by rw [e1, if_pos (is.mp q4)])) (E2 _ _) h
                · have q5 : ¬ (v.toInt < 0 ∨ 4096 - (e.2.1 - 256) < v.toInt) := fun e => q4 (is.mpr e)
                  have h := P_n h q4
                  obtain ⟨v5, n5, sl5, SH5, FI5, FL5, FR5, hr, -, h⟩ := h
                  obtain ⟨ev5, e5⟩ := ra_read (k := (e.2.1 - 256).toNat) E0 (by rw [kc]; omega) (by omega) (by omega) (by omega) hr
                  cases e5
                  rw [ev5] at h
                  have e101 : (h_up FI 121 90 (FI 121 90 - (1 : Int32))) 121 101 = FI 121 101 := h_up_x (by first | decide | (simp; done) | (simp [ms_0]; done))
                  rw [e101, show (FI 121 101 - (1 : Int32)).toInt.toNat = R.length by omega] at h
                  exact go _ _ _ hu (plain _ (by rw [e1, if_neg q5])) (E1 _) h
          · have hu : mq_u E e.2.1 (x :: R, m) = some (none :: R, m) := by
              match m, hd with
              | .inr true, hd => exact absurd rfl hd
              | .inr false, _ => rfl
              | .inl e, _ => rfl
            have dy : (fX12_does SH (h_up FI 121 90 (FI 121 90 - (1 : Int32))) FL FR).toInt = 0 := (mh_does (q := (R, m)) m1).mpr hd
            have hv : ∀ y, mh (h_up FI 121 90 (FI 121 90 - (1 : Int32))) (h_up FL 173 R.length y) T t S (none :: R, m) := fun y => mh_u (x2 := none) (m2 := m) hh g1 (e90 _ k90) (fun w hw => by cases hw) (fun i hi => h_up_ne hi) mm_id m1
            rcases h with ⟨q1, -, h⟩ | ⟨q1, h⟩
            · exact go _ _ _ hu (hv _) (E1 _) h
            rcases h with ⟨q2, -, h⟩ | ⟨q2, h⟩
            · exact go _ _ _ hu (hv _) (E1 _) h
            rcases h with ⟨q3, h⟩ | ⟨q3, h⟩
            · obtain ⟨-, h⟩ := P_p h dy
              have e101 : (h_up FI 121 90 (FI 121 90 - (1 : Int32))) 121 101 = FI 121 101 := h_up_x (by first | decide | (simp; done) | (simp [ms_0]; done))
              rw [e101, show (FI 121 101 - (1 : Int32)).toInt.toNat = R.length by omega] at h
              exact go _ _ _ hu (hv _) (E1 _) h
            · have h := P_p h dy
              refine go _ _ _ hu (mh_u (x2 := none) (m2 := m) hh g1 (e90 _ k90) (fun w hw => by cases hw) (fun i hi => rfl) mm_id m1) E0 h
    · rw [mh_top hh, c9] at ht
      exact Or.inr ⟨S, q, FI, FL, mq_fin_stop ht, e, hh⟩
end MH
