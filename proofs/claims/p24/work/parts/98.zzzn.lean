/-! THE REFERENCE'S fetch, store. -/
theorem l_lit {n : Nat} (h : n < 9223372036854775808) : (Int64.ofNat n).toInt = n := by
  have e : Int64.ofNat n = Int64.ofInt (n : Int) := rfl
  rw [e, Int64.toInt_ofInt, l_bm (by omega) (by omega)]
theorem l_ofn {x : Int64} {k : Nat} (h : x.toInt = k) (hk : k < 9223372036854775808) : x = Int64.ofNat k := Int64.toInt_inj.mp (by rw [h, l_lit hk])
theorem q_d8 {x : Int64} {k : Nat} (h : x.toInt = k) (hk : k < 100000) : x / (8 : Int64) = Int64.ofNat (k / 8) ∧ ((x - x / (8 : Int64) * (8 : Int64)).toInt32) &&& (31 : Int32) = Int32.ofNat (k % 8) := by
  have h1 := l_div h (by first | decide | (simp; done) | (simp [ms_0]; done) : ((8 : Int64)).toInt = 8) (by omega) (by first | decide | (simp; done) | (simp [ms_0]; done))
  have h2 := l_rem h (by first | decide | (simp; done) | (simp [ms_0]; done) : ((8 : Int64)).toInt = 8) (by omega) (by first | decide | (simp; done) | (simp [ms_0]; done))
  refine ⟨l_ofn (by rw [h1]; omega) (by omega), ?_⟩
  have h3 : ((x - x / (8 : Int64) * (8 : Int64)).toInt32) = Int32.ofNat (k % 8) := i_of (l_2i (by rw [h2]; omega) (by omega) (by omega)) (by omega)
  rw [h3]
  exact sh_7 _ (Nat.mod_lt _ (by first | decide | (simp; done) | (simp [ms_0]; done)))
theorem q_i8 {x : Int32} {k : Nat} (h : x.toInt = k) (hk : k < 100000) : (x / (8 : Int32)).toInt = ((k / 8 : Nat) : Int) ∧ ((x - x / (8 : Int32) * (8 : Int32)) &&& (31 : Int32)) = Int32.ofNat (k % 8) ∧ (x - x / (8 : Int32) * (8 : Int32)) = Int32.ofNat (k % 8) := by
  have h1 := i_div h (by first | decide | (simp; done) | (simp [ms_0]; done) : ((8 : Int32)).toInt = 8) (by omega) (by first | decide | (simp; done) | (simp [ms_0]; done))
  have h2 := i_rem h (by first | decide | (simp; done) | (simp [ms_0]; done) : ((8 : Int32)).toInt = 8) (by omega) (by first | decide | (simp; done) | (simp [ms_0]; done))
  have h3 : (x - x / (8 : Int32) * (8 : Int32)) = Int32.ofNat (k % 8) := i_of (by rw [h2]; omega) (by omega)
  refine ⟨by rw [h1]; omega, ?_, h3⟩
  rw [h3]
  exact sh_7 _ (Nat.mod_lt _ (by first | decide | (simp; done) | (simp [ms_0]; done)))
theorem q_63 {x : Int64} {k : Nat} (h : x.toInt = k) (hk : k < 64) : ((x.toInt32).toInt64 &&& (63 : Int64)) = Int64.ofNat k := by
  have h1 : (x.toInt32).toInt64 = Int64.ofNat k := l_ofn (i_2l (l_2i h (by omega) (by omega))) (by omega)
  rw [h1]
  exact sh_63 k hk
def bt_v (b : Option Int32) : Int32 := match b with
  | none => -1
  | some x => x
section RFE
variable {n sl : Nat} {SH : Nat → Nat × Nat} {FI F2 : Nat → Nat → Int32} {FL L2 : Nat → Nat → Int64} {FR : Nat → Nat → Option Nat} {st : hS} {E : ms_E} {v : Int32}
theorem r_bit {j i : Nat} {p : ms_P} {a1 : Int32} {a2 : Int64} (hE : rE FI FL SH E) (h1 : a1.toInt = j) (hj : j < 16) (hp : rp FI FL j p) (h2 : a2.toInt = i) (hi : i ≤ 10000) : fX12_bit a1 a2 SH FI FL FR = bt_v (ms_bq E p.1 i) := by
  obtain ⟨p1, p2, p3, p4, p5, p6, p7, p8⟩ := hp
  obtain ⟨d1, d2⟩ := q_d8 h2 (by omega)
  unfold fX12_bit ms_bq
  rw [show a1.toInt.toNat = j by omega, p1, p2, d2, d1, h2]
  simp only [show ((1 : Int32)).toInt = 1 by first | decide | (simp; done) | (simp [ms_0]; done), show ((2 : Int32)).toInt = 2 by first | decide | (simp; done) | (simp [ms_0]; done), show ((3 : Int32)).toInt = 3 by first | decide | (simp; done) | (simp [ms_0]; done), show ((4 : Int32)).toInt = 4 by first | decide | (simp; done) | (simp [ms_0]; done), show ((0 : Int64)).toInt = 0 by first | decide | (simp; done) | (simp [ms_0]; done), show ((4095 : Int64)).toInt = 4095 by first | decide | (simp; done) | (simp [ms_0]; done), show ((63 : Int64)).toInt = 63 by first | decide | (simp; done) | (simp [ms_0]; done)]
  by_cases k1 : p.1.1 = 1
  · rw [if_pos k1, if_pos k1]
    by_cases g1 : (p.1.2.1 + Int64.ofNat (i / 8)).toInt < 0
    · rw [if_pos g1, if_pos (Or.inl g1)]; rfl
    rw [if_neg g1]
    by_cases g2 : 4095 < (p.1.2.1 + Int64.ofNat (i / 8)).toInt
    · rw [if_pos g2, if_pos (Or.inr g2)]; rfl
    · rw [if_neg g2, if_neg (fun e => e.elim g1 g2), l_2i (A := (p.1.2.1 + Int64.ofNat (i / 8)).toInt) rfl (by omega) (by omega), hE.2.1 _ (by omega)]
      rfl
  rw [if_neg k1, if_neg k1]
  by_cases k2 : p.1.1 = 2
  · repeat rw [if_pos k2]
    by_cases g : 63 < i
    · rw [if_pos (by omega : (63 : Int) < (i : Int)), if_pos g]; (try rfl)
    · have hr : 0 ≤ p.1.2.1.toInt ∧ p.1.2.1.toInt ≤ 31 := by
        rcases p5 with q | q | q | q | q
        · exfalso; have := q.1; omega
        · exfalso; have := q.1; omega
        · exact q.2.2
        · exfalso; have := q.1; omega
        · exfalso; have := q.1; omega
      rw [if_neg (by omega : ¬ (63 : Int) < (i : Int)), if_neg g, q_63 h2 (by omega), l_2i (A := p.1.2.1.toInt) rfl (by omega) (by omega), hE.1 _ (by omega)]
      rfl
  repeat rw [if_neg k2]
  by_cases k3 : p.1.1 = 3
  · repeat rw [if_pos k3]
    by_cases g : 63 < i
    · rw [if_pos (by omega : (63 : Int) < (i : Int)), if_pos g]; (try rfl)
    · rw [if_neg (by omega : ¬ (63 : Int) < (i : Int)), if_neg g, q_63 h2 (by omega)]
      (try rfl)
  repeat rw [if_neg k3]
  by_cases k4 : p.1.1 = 4
  · repeat rw [if_pos k4]
    have hl : p.1.2.1.toInt = p.1.2.2.length := by
      rcases p5 with q | q | q | q | q
      · exfalso; have := q.1; omega
      · exfalso; have := q.1; omega
      · exfalso; have := q.1; omega
      · exfalso; have := q.1; omega
      · exact q.2
    rw [l_lit (by omega), hl]
    by_cases g : (((i / 8 : Nat) : Int)) < p.1.2.2.length
    · rw [if_pos g]
      obtain ⟨b, hb⟩ := lx_i (L := p.1.2.2) (i := i / 8) (by omega)
      have ei : (((600 : Int32) * a1) + (Int64.ofNat (i / 8)).toInt32).toInt = ((600 * j + i / 8 : Nat) : Int) := by
        rw [i_add (i_mul (by first | decide | (simp; done) | (simp [ms_0]; done) : ((600 : Int32)).toInt = 600) h1 (by omega) (by omega)) (l_2i (l_lit (by omega)) (by omega) (by omega)) (by omega) (by omega)]
        omega
      rw [show (((600 : Int32) * a1) + (Int64.ofNat (i / 8)).toInt32).toInt.toNat = 600 * j + i / 8 by omega, hb, (p8 _ _ hb).1]
      rfl
    · rw [if_neg g, List.getElem?_eq_none (by omega)]
      rfl
  · repeat rw [if_neg k4]
    (try rfl)
/-- parts from the j-th on, the j-th from bit i on -/
def pl_r (B : ms_P → Nat) (L : List ms_P) (j i : Nat) : List (ms_P × Nat) := match L[j]? with
  | none => []
  | some p => pl_1 p (B p - i) i ++ pl_f B (L.drop (j + 1))
theorem pl_f_r {B : ms_P → Nat} {L : List ms_P} {j : Nat} : pl_f B (L.drop j) = pl_r B L j 0 := by
  unfold pl_r
  cases h : L[j]? with
  | none =>
    have : L.length ≤ j := by
      rcases Nat.lt_or_ge j L.length with h9 | h9
      · rw [List.getElem?_eq_getElem h9] at h; cases h
      · exact h9
    rw [List.drop_eq_nil_of_le this]
    rfl
  | some p =>
    obtain ⟨hl, e⟩ := List.getElem?_eq_some_iff.mp h
    rw [List.drop_eq_getElem_cons hl, e]
    rfl
theorem rp_at {Q : ms_Q} {j : Nat} {p : ms_P} (h : rr FI FL Q) (hp : Q.2.reverse[j]? = some p) : rp FI FL j p ∧ j < Q.2.length := by
  have hl : j < Q.2.length := by
    have := (List.getElem?_eq_some_iff.mp hp).1
    rw [List.length_reverse] at this
    exact this
  rw [List.getElem?_reverse hl] at hp
  have := lv_get h.2.2.2.2 hp
  rw [show Q.2.length - 1 - (Q.2.length - 1 - j) = j by omega] at this
  exact ⟨this, hl⟩
/-- where the next bit is -/
theorem r_goes {Q : ms_Q} {N : Nat} : ∀ (g j i : Nat) (FI : Nat → Nat → Int32), rr FI FL Q → (FI 121 58).toInt = j → (FI 121 59).toInt = i → i < 100000 → (Q.1 = false → i < N ∧ j = 0) → GX12_goes_0 g n sl SH FI FL FR v st → ∃ (j2 i2 : Nat) (F2 : Nat → Nat → Int32), st = (n, sl, SH, F2, FL, FR) ∧ (∀ c, c ≠ 121 → F2 c = FI c) ∧ (∀ k, k ≠ 58 → k ≠ 59 → F2 121 k = FI 121 k) ∧ (F2 121 58).toInt = j2 ∧ (F2 121 59).toInt = i2 ∧ i2 < 100000 ∧ pl_r (pl_B Q.1 N) Q.2.reverse j i = pl_r (pl_B Q.1 N) Q.2.reverse j2 i2 ∧ (v.toInt = 0 ↔ pl_r (pl_B Q.1 N) Q.2.reverse j2 i2 = []) ∧ (¬ v.toInt = 0 → j2 < Q.2.length ∧ ∃ p, Q.2.reverse[j2]? = some p ∧ i2 < pl_B Q.1 N p) ∧ (Q.1 = false → j2 = j ∧ i2 = i) := by
  intro g
  induction g with
  | zero => intro j i FI _ _ _ _ _ h; exact h.elim
  | succ g ih =>
    intro j i FI hr hj hi hi2 hns h
    have hlen := hr.1
    have h47 := hr.2.1
    -- at its end
    have fin : (∀ p, Q.2.reverse[j]? = some p → i < pl_B Q.1 N p) → RX12_goes_52 n sl SH FI FL FR v st → ∃ (j2 i2 : Nat) (F2 : Nat → Nat → Int32), st = (n, sl, SH, F2, FL, FR) ∧ (∀ c, c ≠ 121 → F2 c = FI c) ∧ (∀ k, k ≠ 58 → k ≠ 59 → F2 121 k = FI 121 k) ∧ (F2 121 58).toInt = j2 ∧ (F2 121 59).toInt = i2 ∧ i2 < 100000 ∧ pl_r (pl_B Q.1 N) Q.2.reverse j i = pl_r (pl_B Q.1 N) Q.2.reverse j2 i2 ∧ (v.toInt = 0 ↔ pl_r (pl_B Q.1 N) Q.2.reverse j2 i2 = []) ∧ (¬ v.toInt = 0 → j2 < Q.2.length ∧ ∃ p, Q.2.reverse[j2]? = some p ∧ i2 < pl_B Q.1 N p) ∧ (Q.1 = false → j2 = j ∧ i2 = i) := by
      intro hB h
      unfold RX12_goes_52 at h
      rw [hj, hlen] at h
      rcases h with ⟨h0, e1, e⟩ | ⟨h0, e1, e⟩
      · obtain ⟨p, hp⟩ := lx_i (L := Q.2.reverse) (i := j) (by rw [List.length_reverse]; omega)
        have hb := hB p hp
        refine ⟨j, i, FI, e, fun _ _ => rfl, fun _ _ _ => rfl, hj, hi, hi2, rfl, ⟨fun e0 => ?_, fun e0 => ?_⟩, fun _ => ⟨by omega, p, hp, hb⟩, fun _ => ⟨rfl, rfl⟩⟩
        · rw [e1] at e0
          exact absurd e0 (by first | decide | (simp; done) | (simp [ms_0]; done))
        · exfalso
          unfold pl_r at e0
          rw [hp] at e0
          have e0 : pl_1 p (pl_B Q.1 N p - i) i ++ pl_f (pl_B Q.1 N) (Q.2.reverse.drop (j + 1)) = [] := e0
          rw [show pl_B Q.1 N p - i = (pl_B Q.1 N p - i - 1) + 1 by omega, pl_1] at e0
          cases e0
      · have hnone : Q.2.reverse[j]? = none := List.getElem?_eq_none (by rw [List.length_reverse]; omega)
        refine ⟨j, i, FI, e, fun _ _ => rfl, fun _ _ _ => rfl, hj, hi, hi2, rfl, ⟨fun _ => ?_, fun _ => by rw [e1]; (first | decide | (simp; done) | (simp [ms_0]; done))⟩, fun e0 => absurd (by rw [e1]; (first | decide | (simp; done) | (simp [ms_0]; done))) e0, fun _ => ⟨rfl, rfl⟩⟩
        unfold pl_r
        rw [hnone]
    rcases h with ⟨h0, h⟩ | ⟨h0, h⟩
    · have hf := h47.mp h0
      refine fin (fun p hp => ?_) h
      unfold pl_B
      rw [hf, if_neg (by first | decide | (simp; done) | (simp [ms_0]; done))]
      exact (hns hf).1
    · have ht : Q.1 = true := by
        cases e : Q.1 with
        | true => rfl
        | false => exact absurd (h47.mpr e) h0
      rw [hj, hlen] at h
      rcases h with ⟨h1, -, h⟩ | ⟨h1, h⟩
      · obtain ⟨p, hp⟩ := lx_i (L := Q.2.reverse) (i := j) (by rw [List.length_reverse]; omega)
        obtain ⟨hpp, hjl⟩ := rp_at hr hp
        have hw := hpp.2.2.1
        have hw2 := hpp.2.2.2.2.2.1
        rw [show (j : Int).toNat = j by omega, hi, hw] at h
        have eB : pl_B Q.1 N p = p.2.1.toNat := by unfold pl_B; rw [ht, if_pos rfl]
        rcases h with ⟨h2, h⟩ | ⟨h2, h⟩
        · refine fin (fun p2 hp2 => ?_) h
          rw [hp] at hp2
          rw [← Option.some.inj hp2, eB]
          omega
        · have nj : (FI 121 58 + (1 : Int32)).toInt = ((j + 1 : Nat) : Int) := by
            have := hr.2.2.1.2
            rw [i_add hj (by first | decide | (simp; done) | (simp [ms_0]; done) : ((1 : Int32)).toInt = 1) (by omega) (by omega)]
            omega
          obtain ⟨j2, i2, F2, s1, s2, s3, s4, s5, s6, s7, s8, s9, s10⟩ := ih (j + 1) 0 (h_up (h_up FI 121 58 (FI 121 58 + (1 : Int32))) 121 59 ((0 : Int32))) (rr_fr hr (fun c hc => by rw [h_up_nc (by omega), h_up_nc (by omega)]) rfl (by rw [h_up_x (by first | decide | (simp; done) | (simp [ms_0]; done)), h_up_x (by first | decide | (simp; done) | (simp [ms_0]; done))]) (by rw [h_up_x (by first | decide | (simp; done) | (simp [ms_0]; done)), h_up_x (by first | decide | (simp; done) | (simp [ms_0]; done))])) (by rw [h_up_x (by first | decide | (simp; done) | (simp [ms_0]; done)), h_up_eq]; exact nj) (by rw [h_up_eq]; (first | decide | (simp; done) | (simp [ms_0]; done))) (by first | decide | (simp; done) | (simp [ms_0]; done)) (fun e => by rw [ht] at e; cases e) h
          refine ⟨j2, i2, F2, s1, fun c hc => by rw [s2 c hc, h_up_nc hc, h_up_nc hc], fun k k1 k2 => by rw [s3 k k1 k2, h_up_ne k2, h_up_ne k1], s4, s5, s6, ?_, s8, s9, fun e => by rw [ht] at e; cases e⟩
          rw [← s7]
          have ez : pl_B Q.1 N p - i = 0 := by rw [eB]; omega
          show pl_r (pl_B Q.1 N) Q.2.reverse j i = _
          rw [← pl_f_r]
          unfold pl_r
          rw [hp]
          show pl_1 p (pl_B Q.1 N p - i) i ++ pl_f (pl_B Q.1 N) (Q.2.reverse.drop (j + 1)) = _
          rw [ez]
          rfl
      · refine fin (fun p hp => ?_) h
        exfalso
        have := (List.getElem?_eq_some_iff.mp hp).1
        rw [List.length_reverse] at this
        omega
end RFE
